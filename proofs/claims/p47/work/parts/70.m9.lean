/-! ===== the reference's speech and regions ===== -/
def WV (S : SS) : Prop := (sQ S 30).length ≤ 5 ∧ WQ (sQ S 30) ∧ WQ (sQ S 35) ∧ (sL S 33 0).length ≤ 80 ∧ (sL S 39 0).length ≤ 80 ∧ (sI S 38 0 = -1 ∨ sI S 38 0 = 0 ∨ sI S 38 0 = 1 ∨ sI S 38 0 = 2) ∧ (sI S 38 0 ≠ -1 → ∃ p, p < (sL S 39 0).length ∧ sI S 41 0 = nI p)
theorem up2_self {α : Type} (f : Nat → Nat → α) (a k : Nat) : up2 f a k (f a k) = f := by
  funext b j
  rw [up2_g]
  split
  · rename_i h; rw [h.1, h.2]
  · rfl
theorem wSI_self (S : SS) (k i : Nat) : wSI S k i (sI S k i) = S := by
  show (up2 S.1 k i (S.1 k i), S.2) = S
  rw [up2_self]
theorem wSI_same {S : SS} {k i : Nat} {v : Int32} (h : sI S k i = v) : wSI S k i v = S := by rw [← h]; exact wSI_self S k i
section MV
variable {S : SS} {m : mm}
theorem RM.news (hM : RM S m) : RQ m 30 31 32 (sQ S 30) := hM.2.2.2.2.2.2.2.1
theorem RM.alerts (hM : RM S m) : RQ m 35 36 37 (sQ S 35) := hM.2.2.2.2.2.2.2.2.1
theorem RM.draft (hM : RM S m) : TxA m 18 19 12 0 (sL S 18 0) := hM.2.2.2.2.1
theorem RM.ans (hM : RM S m) : TxA m 33 34 100 0 (sL S 33 0) := hM.2.2.2.2.2.1
theorem RM.spo (hM : RM S m) : TxA m 39 40 100 0 (sL S 39 0) := hM.2.2.2.2.2.2.1
/-- one more is counted among the dropped -/
theorem m_drop (hM : RM S m) : mPI 44 ((m 44 0) + (1 : Int32)) m = some (up2 m 44 0 (m 44 0 + 1)) ∧ RM (drop1 S) (up2 m 44 0 (m 44 0 + 1)) := by
  refine ⟨rfl, ?_⟩
  rw [hM.p 44 rfl]
  exact hM.wI0 rfl
theorem m_hshA (hM : RM S m) (h8 : (sL S 33 0).length ≤ 80) : ∃ m', (Option.bind (α := Int32) (if (m 34 0) ≤ 0 then (some (0 : Int32)) else some (1 : Int32)) fun q1 => mPI 44 ((m 44 0) + q1) m) = some m' ∧ RM (hshA S) m' ∧ Sm [44] m m' := by
  have ha := hM.ans.1
  unfold hshA
  by_cases e : (sL S 33 0).length = 0
  · rw [e] at ha
    rw [ha, if_pos (show nI 0 ≤ 0 by decide), if_pos e, sb, Int32.add_zero]
    refine ⟨_, rfl, ?_, Sm.up (by decide)⟩
    rw [up2_self]; exact hM
  · rw [ha, if_neg (nI_nle (by omega) (by omega)), if_neg e, sb]
    exact ⟨_, rfl, (m_drop hM).2, Sm.up (by decide)⟩
theorem m_hshS (hM : RM S m) : ∃ m', (if (m 38 0) = (1 : Int32) then ((mPI 38 (-1 : Int32) m).bind fun m6 => (mPI 44 ((m6 44 0) + (1 : Int32)) m6).bind fun m7 => some m7) else if (m 38 0) = 0 then ((mPI 38 (-1 : Int32) m).bind fun m8 => (mPI 44 ((m8 44 0) + (1 : Int32)) m8).bind fun m9 => some m9) else some m) = some m' ∧ RM (hshS S) m' ∧ Sm [38, 44] m m' := by
  have h1 : RM (wSI S 38 0 (-1)) (up2 m 38 0 (-1)) := hM.wI0 rfl
  have h2 := (m_drop h1).2
  unfold hshS
  rw [hM.p 38 rfl]
  by_cases e1 : sI S 38 0 = 1
  · rw [if_pos e1, if_pos (Or.inr e1)]
    exact ⟨_, rfl, h2, (Sm.up (by decide)).tr (Sm.up (by decide))⟩
  · rw [if_neg e1]
    by_cases e0 : sI S 38 0 = 0
    · rw [if_pos e0, if_pos (Or.inl e0)]
      exact ⟨_, rfl, h2, (Sm.up (by decide)).tr (Sm.up (by decide))⟩
    · rw [if_neg e0, if_neg (fun z => z.elim e0 e1)]
      exact ⟨m, rfl, hM, Sm.rf⟩
theorem wst_le (l : List Int32) (p : Nat) : ∀ k, wst l p k ≤ k
  | 0 => Nat.le_refl _
  | k + 1 => by
    have := wst_le l p k
    unfold wst
    split <;> omega
theorem TxA_nil {m : mm} {f fl w i : Nat} : TxA (up2 m fl i 0) f fl w i [] := ⟨by rw [up_s]; rfl, Sl_nil⟩
end MV

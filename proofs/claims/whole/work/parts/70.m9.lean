/-! ===== the reference's speech and regions ===== -/
def WV (S : SS) : Prop := (sQ S 30).length ≤ 5 ∧ WQ (sQ S 30) ∧ WQ (sQ S 35) ∧ (sL S 33 0).length ≤ 80 ∧ (sL S 39 0).length ≤ 80 ∧ (sI S 38 0 = -1 ∨ sI S 38 0 = 0 ∨ sI S 38 0 = 1 ∨ sI S 38 0 = 2) ∧ (sI S 38 0 ≠ -1 → ∃ p, p < (sL S 39 0).length ∧ sI S 41 0 = nI p)
theorem up2_self {α : Type} (f : Nat → Nat → α) (a k : Nat) : up2 f a k (f a k) = f := by
  funext b j
  rw [up2_g]
  split
  · rename_i h; rw [h.1, h.2]
  · rfl
theorem wSI_self (S : SS) (k i : Nat) : wSI S k i (sI S k i) = S := by
  show (up2 S.1 k i (S.1 k i), S.2) = S
  rw [up2_self]
theorem wSI_same {S : SS} {k i : Nat} {v : Int32} (h : sI S k i = v) : wSI S k i v = S := by rw [← h]; exact wSI_self S k i
section MV
variable {S : SS} {m : mm}
theorem RM.news (hM : RM S m) : RQ m 30 31 32 (sQ S 30) := hM.2.2.2.2.2.2.2.1
theorem RM.alerts (hM : RM S m) : RQ m 35 36 37 (sQ S 35) := hM.2.2.2.2.2.2.2.2.1
theorem RM.draft (hM : RM S m) : TxA m 18 19 12 0 (sL S 18 0) := hM.2.2.2.2.1
theorem RM.ans (hM : RM S m) : TxA m 33 34 100 0 (sL S 33 0) := hM.2.2.2.2.2.1
theorem RM.spo (hM : RM S m) : TxA m 39 40 100 0 (sL S 39 0) := hM.2.2.2.2.2.2.1
/-- one more is counted among the dropped -/
theorem m_drop (hM : RM S m) : mPI 44 ((m 44 0) + (1 : Int32)) m = some (up2 m 44 0 (m 44 0 + 1)) ∧ RM (drop1 S) (up2 m 44 0 (m 44 0 + 1)) := by
  refine ⟨rfl, ?_⟩
  rw [hM.p 44 rfl]
  exact hM.wI0 rfl
theorem m_cNews {t : List Int32} (hM : RM S m) (hV : WV S) (hT : Tx m t) (h0 : 0 < t.length) (h8 : t.length ≤ 80) : ∃ m', fX11_comeNews m = some ((), m') ∧ RM (cNews S t) m' := by
  obtain ⟨q5, qw, -⟩ := hV
  obtain ⟨m1, a1, b1, s1⟩ := m_push30 hM.news hT h8 (by omega) qw
  have hM1 := hM.w30 (s1.mono (by decide)) b1
  have pre : fX11_comeNews m = if (m1 32 0) = (6 : Int32) then (oM (fX11_takeNews m1) fun _ m6 => (mPI 44 ((m6 44 0) + (1 : Int32)) m6).bind fun m7 => some (((), m7))) else some (((), m1)) := by
    have : fX11_comeNews m = (oM (fX11_copy 28 (0 : Int32) 30 ((100 : Int32) * (m 32 0)) (m 29 0) m) fun _ m2 => (mS 31 (m2 32 0) (m2 29 0) m2).bind fun m3 => mPI 32 ((m3 32 0) + (1 : Int32)) m3).bind fun m4 => if (m4 32 0) = (6 : Int32) then (oM (fX11_takeNews m4) fun _ m6 => (mPI 44 ((m6 44 0) + (1 : Int32)) m6).bind fun m7 => some (((), m7))) else some (((), m4)) := by
      simp only [fX11_comeNews, oM, Option.bind_assoc]
    rw [this, a1, sb]
  rw [pre, b1.1, List.length_append, List.length_singleton]
  unfold cNews
  by_cases e : (sQ S 30).length = 5
  · rw [e, if_pos (show nI (5 + 1) = 6 from rfl), if_pos rfl]
    obtain ⟨m2, a2, b2, s2⟩ := m_pop30 (q := sQ S 30 ++ [t]) b1 (qw.app h0 h8) (by rw [List.length_append, List.length_singleton]; omega) (by rw [List.length_append, List.length_singleton]; omega)
    have hM2 := hM.w30 ((s1.tr s2).mono (by decide)) b2
    obtain ⟨d1, d2⟩ := m_drop hM2
    exact ⟨_, by rw [a2, oMs, d1, sb], d2⟩
  · rw [if_neg (fun z => e (by have := (nI_eq (a := (sQ S 30).length + 1) (b := 6) (by omega) (by omega)).mp z; omega)), if_neg e]
    exact ⟨m1, rfl, hM1⟩
theorem m_hshA (hM : RM S m) (h8 : (sL S 33 0).length ≤ 80) : ∃ m', (Option.bind (α := Int32) (if (m 34 0) ≤ 0 then (some (0 : Int32)) else some (1 : Int32)) fun q1 => mPI 44 ((m 44 0) + q1) m) = some m' ∧ RM (hshA S) m' ∧ Sm [44] m m' := by
  have ha := hM.ans.1
  unfold hshA
  by_cases e : (sL S 33 0).length = 0
  · rw [e] at ha
    rw [ha, if_pos (show nI 0 ≤ 0 by decide), if_pos e, sb, Int32.add_zero]
    refine ⟨_, rfl, ?_, Sm.up (by decide)⟩
    rw [up2_self]; exact hM
  · rw [ha, if_neg (nI_nle (by omega) (by omega)), if_neg e, sb]
    exact ⟨_, rfl, (m_drop hM).2, Sm.up (by decide)⟩
theorem m_hshS (hM : RM S m) : ∃ m', (if (m 38 0) = (1 : Int32) then ((mPI 38 (-1 : Int32) m).bind fun m6 => (mPI 44 ((m6 44 0) + (1 : Int32)) m6).bind fun m7 => some m7) else if (m 38 0) = 0 then ((mPI 38 (-1 : Int32) m).bind fun m8 => (mPI 44 ((m8 44 0) + (1 : Int32)) m8).bind fun m9 => some m9) else some m) = some m' ∧ RM (hshS S) m' ∧ Sm [38, 44] m m' := by
  have h1 : RM (wSI S 38 0 (-1)) (up2 m 38 0 (-1)) := hM.wI0 rfl
  have h2 := (m_drop h1).2
  unfold hshS
  rw [hM.p 38 rfl]
  by_cases e1 : sI S 38 0 = 1
  · rw [if_pos e1, if_pos (Or.inr e1)]
    exact ⟨_, rfl, h2, (Sm.up (by decide)).tr (Sm.up (by decide))⟩
  · rw [if_neg e1]
    by_cases e0 : sI S 38 0 = 0
    · rw [if_pos e0, if_pos (Or.inl e0)]
      exact ⟨_, rfl, h2, (Sm.up (by decide)).tr (Sm.up (by decide))⟩
    · rw [if_neg e0, if_neg (fun z => z.elim e0 e1)]
      exact ⟨m, rfl, hM, Sm.rf⟩
theorem m_cAns {t : List Int32} (hM : RM S m) (h8 : (sL S 33 0).length ≤ 80) (hT : Tx m t) (ht : t.length ≤ 100) : ∃ m', fX11_comeAnswer m = some ((), m') ∧ RM (cAns S t) m' := by
  unfold cAns
  by_cases e : t.length = 0
  · rw [if_pos e]
    refine ⟨m, ?_, hM⟩
    unfold fX11_comeAnswer
    rw [hT.1, e, if_pos (show nI 0 = 0 from nI_0)]
  · obtain ⟨m1, a1, b1, s1⟩ := m_hshA hM h8
    obtain ⟨m2, a2, b2, s2⟩ := m_hshS b1
    have hT2 : Tx m2 t := (hT.sm s1 (by decide) (by decide)).sm s2 (by decide) (by decide)
    obtain ⟨m3, c1, c2, c3, c4⟩ := m_copyT (m := m2) (a := 28) (o := 0) (b := 33) (p := 0) (l := t) rfl rfl (show 0 + t.length ≤ 100 by omega) (show 0 + t.length ≤ 100 by omega) (Or.inl (by decide)) (by have := hT2.2; rw [Nat.mul_zero] at this; exact this)
    have pre : fX11_comeAnswer m = (Option.bind (α := Int32) (if (m 34 0) ≤ 0 then (some (0 : Int32)) else some (1 : Int32)) fun q1 => mPI 44 ((m 44 0) + q1) m).bind fun m3 => Option.bind (α := mm) (if (m3 38 0) = (1 : Int32) then ((mPI 38 (-1 : Int32) m3).bind fun m6 => (mPI 44 ((m6 44 0) + (1 : Int32)) m6).bind fun m7 => some m7) else if (m3 38 0) = 0 then ((mPI 38 (-1 : Int32) m3).bind fun m8 => (mPI 44 ((m8 44 0) + (1 : Int32)) m8).bind fun m9 => some m9) else some m3) fun q4 => oM (fX11_copy 28 (0 : Int32) 33 (0 : Int32) (q4 29 0) q4) fun _ m11 => (mPI 34 (m11 29 0) m11).bind fun m12 => some (((), m12)) := by
      unfold fX11_comeAnswer
      rw [hT.1, if_neg (nI_ne0 (by omega) (by omega)), Option.bind_assoc]
    rw [pre, a1, sb, a2, sb, hT2.1, show (0 : Int32) = nI 0 from rfl, c1, oMs, c4.at 29 (by decide), hT2.1, mPIs, sb, if_neg e]
    refine ⟨_, rfl, b2.w33 ((c4.mono (by decide)).tr (Sm.up (by decide))) ⟨up_s _ _ _ _, ?_⟩⟩
    rw [up_f _ _ _ (by decide)]
    exact c2
theorem wst_le (l : List Int32) (p : Nat) : ∀ k, wst l p k ≤ k
  | 0 => Nat.le_refl _
  | k + 1 => by
    have := wst_le l p k
    unfold wst
    split <;> omega
theorem m_wst {l : List Int32} {p : Nat} (hS : Sl (m 39) 0 l) (hp : p < l.length) (h8 : l.length ≤ 80) (h41 : m 41 0 = nI p) : ∀ k, k ≤ p → ∀ fu, k < fu → itr (fX11_comeAlert_B84 m) fu (nI k) = some (nI (wst l p k)) := by
  intro k
  have hr : ∀ j, j < l.length → mL 39 (nI j) m = some (ge l j) := fun j hj => by
    rw [mL_ok rfl (show j < 100 by omega)]
    have := hS j hj
    rw [Nat.zero_add] at this
    rw [this]
  induction k with
  | zero =>
    intro _ fu hf
    obtain ⟨fu, rfl⟩ : ∃ g, fu = g + 1 := ⟨fu - 1, by omega⟩
    rw [itr_end (b := nI 0)]
    · rfl
    · unfold fX11_comeAlert_B84
      rw [h41, hr p hp, sb]
      split
      · rfl
      · rw [if_pos (show nI 0 ≤ 0 by decide)]
  | succ k ih =>
    intro hk fu hf
    obtain ⟨fu, rfl⟩ : ∃ g, fu = g + 1 := ⟨fu - 1, by omega⟩
    have hF : fX11_comeAlert_B84 m (nI (k + 1)) = if ge l p = 32 ∨ ge l k = 32 then some (.inr (nI (k + 1))) else some (.inl (nI k)) := by
      unfold fX11_comeAlert_B84
      rw [h41, hr p hp, sb, if_neg (nI_nle (by omega) (by omega)), nI_dec, show (1 : Int32) = nI 1 from rfl, nI_sub (by omega), Nat.add_sub_cancel, hr k (by omega), sb]
      by_cases e1 : ge l p = 32
      · rw [if_pos e1, if_pos (Or.inl e1)]
      · rw [if_neg e1]
        by_cases e2 : ge l k = 32
        · rw [if_pos e2, if_pos (Or.inr e2)]
        · rw [if_neg e2, if_neg (fun z => z.elim e1 e2)]
    unfold wst
    by_cases e : ge l p = 32 ∨ ge l k = 32
    · rw [if_pos e] at hF ⊢
      rw [itr_end hF]
    · rw [if_neg e] at hF ⊢
      rw [itr_step hF]
      exact ih (by omega) fu (by omega)
theorem m_cAl {t : List Int32} (hM : RM S m) (hV : WV S) (h21 : (sQ S 35).length ≤ 22) (hT : Tx m t) (ht : t.length ≤ 80) : ∃ m', fX11_comeAlert m = some ((), m') ∧ RM (cAl S t) m' := by
  obtain ⟨-, -, qw, -, v8, v38, v41⟩ := hV
  obtain ⟨m1, a1, b1, s1⟩ := m_push35 hM.alerts hT ht (by omega) qw
  have hM1 := hM.w35 (s1.mono (by decide)) b1
  have pre : fX11_comeAlert m = if (m1 38 0) = 0 then ((mPI 38 (-1 : Int32) m1).bind fun m11 => (mPI 44 ((m11 44 0) + (1 : Int32)) m11).bind fun m12 => some (((), m12))) else if (m1 38 0) = (1 : Int32) then (Option.bind (α := Int32) (itr (fX11_comeAlert_B84 m1) FU (m1 41 0)) fun q5 => (mPI 34 ((m1 40 0) - q5) m1).bind fun m6 => oM (fX11_copy 39 q5 33 (0 : Int32) (m6 34 0) m6) fun _ m8 => (mPI 38 (-1 : Int32) m8).bind fun m9 => some (((), m9))) else some (((), m1)) := by
    have : fX11_comeAlert m = (oM (fX11_copy 28 (0 : Int32) 35 ((100 : Int32) * (m 37 0)) (m 29 0) m) fun _ m2 => (mS 36 (m2 37 0) (m2 29 0) m2).bind fun m3 => mPI 37 ((m3 37 0) + (1 : Int32)) m3).bind fun m4 => if (m4 38 0) = 0 then ((mPI 38 (-1 : Int32) m4).bind fun m11 => (mPI 44 ((m11 44 0) + (1 : Int32)) m11).bind fun m12 => some (((), m12))) else if (m4 38 0) = (1 : Int32) then (Option.bind (α := Int32) (itr (fX11_comeAlert_B84 m4) FU (m4 41 0)) fun q5 => (mPI 34 ((m4 40 0) - q5) m4).bind fun m6 => oM (fX11_copy 39 q5 33 (0 : Int32) (m6 34 0) m6) fun _ m8 => (mPI 38 (-1 : Int32) m8).bind fun m9 => some (((), m9))) else some (((), m4)) := by
      simp only [fX11_comeAlert, oM, Option.bind_assoc]
    rw [this, a1, sb]
  have e38 : sI (wSQ S 35 (sQ S 35 ++ [t])) 38 0 = sI S 38 0 := rfl
  have e39 : sL (wSQ S 35 (sQ S 35 ++ [t])) 39 0 = sL S 39 0 := rfl
  rw [pre, hM1.p 38 rfl, e38]
  unfold cAl cAl1
  rw [e38]
  by_cases e0 : sI S 38 0 = 0
  · rw [if_pos e0, if_pos e0]
    exact ⟨_, rfl, (m_drop (hM1.wI0 (k := 38) (i := 0) (v := -1) rfl)).2⟩
  · rw [if_neg e0, if_neg e0]
    by_cases e1 : sI S 38 0 = 1
    · obtain ⟨p, p1, p2⟩ := v41 (by rw [e1]; decide)
      have hsp := hM1.spo
      rw [e39] at hsp
      have h41 : m1 41 0 = nI p := by rw [hM1.p 41 rfl]; exact p2
      have hspk : spk (wSQ S 35 (sQ S 35 ++ [t])) = p := by
        show (sI S 41 0).toNatClampNeg = p
        rw [p2, nI_clamp (by omega)]
      have hw := wst_le (sL S 39 0) p p
      have hwl := m_wst (m := m1) (by have := hsp.2; rw [Nat.mul_zero] at this; exact this) p1 v8 h41 p (Nat.le_refl _) FU (FU_lt (by omega))
      have hdl : ((sL S 39 0).drop (wst (sL S 39 0) p p)).length = (sL S 39 0).length - wst (sL S 39 0) p p := List.length_drop
      obtain ⟨m3, c1, c2, c3, c4⟩ := m_copyT (m := up2 m1 34 0 (nI ((sL S 39 0).length - wst (sL S 39 0) p p))) (a := 39) (o := wst (sL S 39 0) p p) (b := 33) (p := 0) (l := (sL S 39 0).drop (wst (sL S 39 0) p p)) rfl rfl (show _ ≤ 100 by omega) (show _ ≤ 100 by omega) (Or.inl (by decide)) (by
        rw [up_f _ _ _ (by decide)]
        have := Sl_drop (n := wst (sL S 39 0) p p) hsp.2
        rw [Nat.mul_zero, Nat.zero_add] at this
        exact this)
      rw [if_pos e1, if_pos e1, h41, hwl, sb, hsp.1, nI_sub (by omega), mPIs, sb, up_s, ← hdl, show (0 : Int32) = nI 0 from rfl]
      rw [← hdl] at c1 c4
      rw [c1, oMs, mPIs, sb, hspk, e39]
      refine ⟨_, rfl, RM.wI0 ?_ rfl⟩
      refine hM1.w33 ((Sm.up (by decide)).tr (c4.mono (by decide))) ⟨?_, c2⟩
      rw [c4.at 34 (by decide)]
      exact up_s _ _ _ _
    · rw [if_neg e1, if_neg e1]
      exact ⟨m1, rfl, hM1⟩
theorem m_hush (hM : RM S m) (h5 : (sQ S 30).length ≤ 5) (h8 : (sL S 33 0).length ≤ 80) (h38 : sI S 38 0 = -1 ∨ sI S 38 0 = 0 ∨ sI S 38 0 = 1 ∨ sI S 38 0 = 2) : ∃ m', fX11_hush m = some ((), m') ∧ RM (hush S) m' := by
  have ha := hM.ans.1
  have hn := hM.news.1
  have q1 : (if (m 34 0) ≤ 0 then (some (0 : Int32)) else some (1 : Int32)) = some (if (sL S 33 0).length = 0 then 0 else 1) := by
    rw [ha]
    by_cases e : (sL S 33 0).length = 0
    · rw [e]; rfl
    · rw [if_neg (nI_nle (by omega) (by omega)), if_neg e]
  have q3 : (if (m 38 0) = 0 then (some (1 : Int32)) else if (m 38 0) = (1 : Int32) then (some (1 : Int32)) else some (0 : Int32)) = some (if sI S 38 0 = 0 ∨ sI S 38 0 = 1 then 1 else 0) := by
    rw [hM.p 38 rfl]
    by_cases e0 : sI S 38 0 = 0
    · rw [if_pos e0, if_pos (Or.inl e0)]
    · rw [if_neg e0]
      by_cases e1 : sI S 38 0 = 1
      · rw [if_pos e1, if_pos (Or.inr e1)]
      · rw [if_neg e1, if_neg (fun z => z.elim e0 e1)]
  unfold hush
  unfold fX11_hush
  rw [q1, sb, q3, sb, hM.p 44 rfl, hn, mPIs, sb, mPIs, sb, mPIs, sb, up_f _ _ _ (show (38 : Nat) ≠ 34 by decide), up_f _ _ _ (show (38 : Nat) ≠ 32 by decide), up_f _ _ _ (show (38 : Nat) ≠ 44 by decide), hM.p 38 rfl]
  have hM1 : RM (wSI S 44 0 (sI S 44 0 + ((nI (sQ S 30).length + (if (sL S 33 0).length = 0 then 0 else 1)) + (if sI S 38 0 = 0 ∨ sI S 38 0 = 1 then 1 else 0)))) (up2 m 44 0 (sI S 44 0 + ((nI (sQ S 30).length + (if (sL S 33 0).length = 0 then 0 else 1)) + (if sI S 38 0 = 0 ∨ sI S 38 0 = 1 then 1 else 0)))) := hM.wI0 rfl
  have hM2 := hM1.w30 (q := []) (m' := up2 _ 32 0 0) (Sm.up (by decide)) ⟨by rw [up_s]; rfl, fun j hj => absurd hj (Nat.not_lt_zero j)⟩
  have hM3 := hM2.w33 (l := []) (m' := up2 _ 34 0 0) (Sm.up (by decide)) ⟨by rw [up_s]; rfl, Sl_nil⟩
  by_cases e2 : sI S 38 0 = 2
  · rw [if_pos e2, if_pos e2, mPIs, sb]
    exact ⟨_, rfl, hM3.wI0 rfl⟩
  · rw [if_neg e2, if_neg e2, mPIs, sb]
    exact ⟨_, rfl, hM3.wI0 rfl⟩
theorem m_say {w : Int64} {p : List Int32} (hM : RM S m) (h8 : (sL S 33 0).length ≤ 80) (hw : wdc w = p) (hp : (lg_cmp w 0 ≤ 0) ↔ p.length = 0) (hl : p.length ≤ 8) : ∃ m', fX11_say w m = some ((), m') ∧ RM (cAns S p) m' := by
  obtain ⟨m1, a1, b1, s1⟩ := m_word hw hp (Tx_0 m) (by decide)
  have e : pt [] p = p := by unfold pt sep; simp
  rw [e] at b1
  obtain ⟨m2, a2, b2⟩ := m_cAns (hM.tsc ((Sm.up (by decide)).tr s1)) h8 b1 (by omega)
  exact ⟨m2, by unfold fX11_say; rw [mPIs, sb, a1, oMs, a2, oMs], b2⟩
theorem m_canN (hM : RM S m) {r : Nat} (hr : r < 40) : fX11_canNews (nI r) m = some (bI (canN S r)) := by
  have h1 : mL 15 (nI r) m = some (sI S 15 r) := m_plain hM rfl rfl (show r < 40 from hr)
  unfold fX11_canNews canN
  rw [h1, sb, hM.p 46 rfl]
  by_cases e : sI S 15 r = -1
  · rw [if_pos e, decide_eq_true (Or.inl e)]; rfl
  · rw [if_neg e, sb]
    by_cases e2 : sI S 46 0 - sI S 15 r < 5
    · rw [if_pos e2, decide_eq_false (fun z => z.elim e (fun z => Int32.not_le.mpr e2 z))]; rfl
    · rw [if_neg e2, decide_eq_true (Or.inr (Int32.not_lt.mp e2))]; rfl
theorem TxA_nil {m : mm} {f fl w i : Nat} : TxA (up2 m fl i 0) f fl w i [] := ⟨by rw [up_s]; rfl, Sl_nil⟩
theorem m_swl (hM : RM S m) (hL : WL S) {r : Nat} (hr : r < 40) : ∃ m', fX11_swallow (nI r) m = some ((), m') ∧ RM (swl S r) m' ∧ Sm [45, 16] m m' := by
  have hk := hM.kept hr
  have h8 := (hL r).2.2
  unfold fX11_swallow swl
  rw [mL_ok rfl (show r < 40 from hr), hk.1, sb, hM.p 45 rfl]
  by_cases e : (sL S 17 r).length = 0
  · rw [e, if_pos (show nI 0 ≤ 0 by decide), if_pos rfl, sb, Int32.add_zero, mPIs, sb, mS_ok rfl (show r < 40 from hr), sb]
    refine ⟨_, rfl, ?_, (Sm.up (by decide)).tr (Sm.up (by decide))⟩
    have h16 : m 16 r = 0 := by rw [hk.1, e]; rfl
    have e1 : up2 m 45 0 (sI S 45 0) = m := by rw [← hM.p 45 rfl 0, up2_self]
    have e2 : up2 m 16 r 0 = m := by rw [← h16, up2_self]
    rw [e1, e2]; exact hM
  · rw [if_neg (nI_nle (by omega) (by omega)), if_neg e, sb, mPIs, sb, mS_ok rfl (show r < 40 from hr), sb]
    refine ⟨_, rfl, ?_, (Sm.up (by decide)).tr (Sm.up (by decide))⟩
    have hM1 : RM (wSI S 45 0 (sI S 45 0 + 1)) (up2 m 45 0 (sI S 45 0 + 1)) := hM.wI0 rfl
    refine hM1.w17 (m' := up2 _ 16 r 0) (Sm.up (by decide)) TxA_nil (fun j hj hne => ?_)
    obtain ⟨c1, c2⟩ := hM1.kept hj
    refine ⟨?_, ?_⟩
    · rw [up_n _ _ _ hne]; exact c1
    · rw [up_f _ _ _ (by decide)]; exact c2
theorem m_tel {t : List Int32} (hM : RM S m) (hV : WV S) (hL : WL S) (h21 : (sQ S 35).length ≤ 22) {r : Option Nat} (hr : ∀ i, r = some i → i < 40) (hT : Tx m t) (ht : t.length ≤ 80) : ∃ m', fX11_tell (rI r) m = some ((), m') ∧ RM (tel S r t) m' := by
  cases r with
  | none =>
    refine ⟨m, ?_, hM⟩
    unfold fX11_tell
    rw [if_pos (show rI none = -1 from rfl)]
  | some r =>
    have hr4 := hr r rfl
    have h14 : mL 14 (nI r) m = some (sI S 14 r) := m_plain hM rfl rfl (show r < 40 from hr4)
    unfold fX11_tell tel
    simp only []
    rw [if_neg (show ¬ rI (some r) = -1 from nI_m1 (by omega)), hT.1]
    by_cases e : t.length = 0
    · rw [if_pos (c := t.length = 0 ∨ sI S 14 r = 0) (Or.inl e), e, if_pos (show nI 0 = 0 from nI_0)]
      exact ⟨m, rfl, hM⟩
    · rw [if_neg (nI_ne0 (by omega) (by omega)), show rI (some r) = nI r from rfl, h14, sb]
      by_cases e0 : sI S 14 r = 0
      · rw [if_pos e0, if_pos (c := t.length = 0 ∨ sI S 14 r = 0) (Or.inr e0)]
        exact ⟨m, rfl, hM⟩
      · rw [if_neg e0, if_neg (c := t.length = 0 ∨ sI S 14 r = 0) (fun z => z.elim e e0), sb]
        by_cases e2 : sI S 14 r = 2
        · rw [if_pos e2, if_pos e2]
          obtain ⟨m1, a1, b1⟩ := m_cAl hM hV h21 hT ht
          exact ⟨m1, by rw [a1, oMs], b1⟩
        · rw [if_neg e2, if_neg e2, m_canN hM hr4, sb]
          cases hc : canN S r
          · rw [if_pos (by rfl), if_neg (by simp)]
            obtain ⟨m1, a1, b1, s1⟩ := m_swl hM hL hr4
            have hT1 : Tx m1 t := hT.sm s1 (by decide) (by decide)
            rw [a1, oMs, hT1.1, mS_ok rfl (show r < 40 from hr4), sb]
            have hT2 : Tx (up2 m1 16 r (nI t.length)) t := hT1.sm (Sm.up (ks := [16]) (by decide)) (by decide) (by decide)
            obtain ⟨m3, c1, c2, c3, c4⟩ := m_copyT (m := up2 m1 16 r (nI t.length)) (a := 28) (o := 0) (b := 17) (p := 100 * r) (l := t) rfl rfl (show 0 + t.length ≤ 100 by omega) (show 100 * r + t.length ≤ 4000 by omega) (Or.inl (by decide)) (by have := hT2.2; rw [Nat.mul_zero] at this; exact this)
            rw [hT2.1, show (0 : Int32) = nI 0 from rfl, show (100 : Int32) = nI 100 from rfl, nI_mul, c1, oMs]
            refine ⟨m3, rfl, b1.w17 ((Sm.up (by decide)).tr (c4.mono (by decide))) ⟨?_, c2⟩ (fun j hj hne => ?_)⟩
            · rw [c4.at 16 (by decide)]; exact up_s _ _ _ _
            · obtain ⟨d1, d2⟩ := b1.kept hj
              have hkj : (sL (swl S r) 17 j).length ≤ 80 := by
                unfold swl
                split
                · exact (hL j).2.2
                · rw [sL_L]
                  split
                  · simp
                  · exact (hL j).2.2
              refine ⟨?_, Sl_eq d2 (fun k hk => ?_)⟩
              · rw [c4.at 16 (by decide), up_n _ _ _ hne]; exact d1
              · rw [c3 _ (by omega), up_f _ _ _ (by decide)]
          · rw [if_neg (by decide), if_pos rfl, mS_ok rfl (show r < 40 from hr4), sb, hM.p 46 rfl]
            have hM1 : RM (wSI S 15 r (sI S 46 0)) (up2 m 15 r (sI S 46 0)) := hM.wI0 rfl
            have hT1 : Tx (up2 m 15 r (sI S 46 0)) t := hT.sm (Sm.up (ks := [15]) (by decide)) (by decide) (by decide)
            have hV1 : WV (wSI S 15 r (sI S 46 0)) := by
              obtain ⟨v1, v2, v3, v4, v5, v6, v7⟩ := hV
              have q : ∀ k i, k ≠ 15 → sI (wSI S 15 r (sI S 46 0)) k i = sI S k i := fun k i hk => by rw [sI_I, if_neg (fun z => hk z.1)]
              exact ⟨v1, v2, v3, v4, v5, by rw [q 38 0 (by decide)]; exact v6, by rw [q 38 0 (by decide), q 41 0 (by decide)]; exact v7⟩
            obtain ⟨m2, a2, b2⟩ := m_cNews hM1 hV1 hT1 (by omega) ht
            exact ⟨m2, by rw [a2, oMs], b2⟩
end MV

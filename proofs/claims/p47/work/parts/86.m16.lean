/-! ===== the reference's public calls: what is asked ===== -/
def z0 (S : SS) : SS := wSI S 48 0 0
/-- the call answers, throws and leaves the desk as r says (what was thrown stands in 48) -/
def MC (S : SS) (m : mm) (f : Option (Int32 × mm)) (r : SS → aS) : Prop := ∃ m', f = some ((r S).2.1, m') ∧ RM (wSI (r (z0 S)).2.2 48 0 (r S).1) m'
theorem wSI_two (S : SS) (k i : Nat) (v w : Int32) : wSI (wSI S k i v) k i w = wSI S k i w := by
  unfold wSI
  have : up2 (up2 S.1 k i v) k i w = up2 S.1 k i w := by
    funext a j
    rw [up2_g, up2_g, up2_g]
    by_cases q : a = k ∧ j = i
    · rw [if_pos q, if_pos q]
    · rw [if_neg q, if_neg q, if_neg q]
  rw [this]
theorem inb_le (x : Int32) {n : Nat} (h1 : 1 ≤ n) (hn : n < 2 ^ 31) : inb x n = decide ((0 : Int32) ≤ x ∧ x ≤ nI n - 1) := by
  obtain ⟨n, rfl⟩ : ∃ k, n = k + 1 := ⟨n - 1, by omega⟩
  rw [nI_pred]
  unfold inb
  have h0 : (0 : Int32).toInt = 0 := by decide
  rw [decide_eq_decide, Int32.le_iff_toInt_le, Int32.le_iff_toInt_le, nI_toInt (by omega), h0]
  omega
theorem inb_le0 (x : Int32) {n : Nat} (hn : n < 2 ^ 31) : inb x n = decide ((0 : Int32) ≤ x ∧ x ≤ nI n - 1) := by
  rcases Nat.eq_zero_or_pos n with q | q
  · subst q
    unfold inb
    have h0 : (0 : Int32).toInt = 0 := by decide
    have h1 : (nI 0 - 1 : Int32).toInt = -1 := by decide
    rw [decide_eq_decide, Int32.le_iff_toInt_le, Int32.le_iff_toInt_le, h0, h1]
    omega
  · exact inb_le x q hn
theorem inb_of {x : Int32} {n : Nat} (h : inb x n = true) (hn : n < 2 ^ 31) : ∃ i, i < n ∧ x = nI i := by
  have h1 := of_decide_eq_true h
  have h0 : (0 : Int32).toInt = 0 := by decide
  obtain ⟨j, h2, h3⟩ := nI_of (x := x) (fun z => by rw [Int32.lt_iff_toInt_lt, h0] at z; omega)
  subst h3
  rw [nI_toInt h2] at h1
  exact ⟨j, by omega, rfl⟩
theorem nth_nI {i : Nat} (h : i < 2 ^ 31) : nth (nI i) = i := nI_clamp h
theorem bF : bI false = 0 := rfl
section MQ
variable {S : SS} {m : mm}
theorem elt_th (h : PW S) {x : Int32} (e : elt S x = true) : ∃ i, x = nI i ∧ th S i := by
  have := h.2.1
  unfold elt at e
  rw [Bool.and_eq_true] at e
  obtain ⟨i, h1, rfl⟩ := inb_of e.1 (by omega)
  have h2 := of_decide_eq_true e.2
  rw [nI_clamp (by omega)] at h2
  exact ⟨i, rfl, h1, h2⟩
theorem RM.z (hM : RM S m) : RM (z0 S) (up2 m 48 0 0) := hM.wI0 rfl
theorem MC.thr {f : Option (Int32 × mm)} {r : SS → aS} {k : Int32} {X : SS} (hM : RM S m) (h1 : r S = tw k X) (h2 : (r (z0 S)).2.2 = z0 S) (hf : f = some (0, up2 m 48 0 k)) : MC S m f r := by
  refine ⟨_, by rw [h1]; exact hf, ?_⟩
  rw [h2, h1]
  show RM (wSI (wSI S 48 0 0) 48 0 k) _
  rw [wSI_two]
  exact hM.wI0 rfl
theorem MC.okr {f : Option (Int32 × mm)} {r : SS → aS} {a : Int32} {X S' : SS} (h1 : r S = rt a X) (h2 : (r (z0 S)).2.2 = S') (h48 : sI S' 48 0 = 0) (hf : ∃ m', f = some (a, m') ∧ RM S' m') : MC S m f r := by
  obtain ⟨m', g1, g2⟩ := hf
  refine ⟨m', by rw [h1]; exact g1, ?_⟩
  rw [h2, h1]
  show RM (wSI S' 48 0 0) m'
  rw [wSI_same h48]
  exact g2
theorem elt_z (S : SS) (x : Int32) : elt (z0 S) x = elt S x := rfl
theorem th.l40' (h : PW S) {i : Nat} (hi : th S i) : i < 40 := by have := hi.1; have := h.2.1; omega
theorem TxA.at {f fl w i k : Nat} {l : List Int32} (hT : TxA m f fl w i l) (hf : mk f = 20) (hb : w * i + l.length ≤ ml f) (hk : k < l.length) : mL f (nI w * nI i + nI k) m = some (ge l k) := by
  rw [nI_mul, nI_add, mL_ok hf (by omega), hT.2 k hk]
/-- what is asked of the desk as a whole -/
theorem MC.one {f : Option (Int32 × mm)} {g : SS → Int32} (hM : RM S m) (hf : ∀ m', RM (z0 S) m' → m' = up2 m 48 0 0 → ∃ m2, f = some (g S, m2) ∧ RM (z0 S) m2) : MC S m f (fun S => rt (g S) S) :=
  MC.okr (a := g S) (X := S) (S' := z0 S) rfl rfl rfl (hf _ hM.z rfl)
theorem m_pl (hM : RM S m) {k : Nat} (hk : plain k = true) (h48 : k ≠ 48) : MC S m ((mPI 48 (0 : Int32) m).bind fun m1 => some ((m1 k 0, m1))) (fun S => rt (sI S k 0) S) :=
  MC.one (g := fun S => sI S k 0) hM (fun m' hM' e => ⟨m', by rw [mPIs, sb, ← e, hM'.p k hk]; unfold z0; rw [sI_I, if_neg (fun z => h48 z.1)], hM'⟩)
end MQ

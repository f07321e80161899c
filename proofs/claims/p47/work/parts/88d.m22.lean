/-! ===== the reference's refuge and loss; what lies below ===== -/
def oI (o : Option Nat) : Int32 ⊕ Unit := match o with
  | some x => .inl (nI x)
  | none => .inr ()
section ML
variable {S : SS} {m : mm}
theorem fnd_c (S : SS) (x : Nat) (l : List Nat) : fnd S (x :: l) = if hid S x = false then some x else fnd S l := by
  unfold fnd
  rw [List.find?_cons]
  cases hid S x <;> rfl
theorem m_kid' (hM : RM S m) {p k : Nat} (h : WT S) (hp : th S p) (hk : k < (sK S p).length) : mL 4 ((10 : Int32) * nI p + nI k) m = some (nI (gn (sK S p) k)) ∧ mLZ 12 (nI (gn (sK S p) k)) m = some (sI S 12 (gn (sK S p) k)) :=
  ⟨m_kid hM (hp.l40 h) hk (h.kids hp).2.1, m_hid hM (((h.kids hp).2.2 _ (gn_mem hk)).1.l40 h)⟩
theorem hid_0 (S : SS) (x : Nat) : sI S 12 x = 0 ↔ hid S x = false := by
  unfold hid
  by_cases q : sI S 12 x = 0
  · simp [q]
  · simp [q]
theorem nI_sub1 (n : Nat) : nI n + (-1 : Int32) = nI n - 1 := by rw [Int32.sub_eq_add_neg]
theorem gon_m1 (S : SS) : gonA S (-1) = false := by unfold gonA; rfl
/-! what lies below -/
end ML

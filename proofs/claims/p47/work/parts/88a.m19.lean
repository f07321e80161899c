/-! ===== the reference's calls: setting, the draft, words ===== -/
section MS
variable {S : SS} {m : mm}
theorem MC.genT {Q : Option Int32} {G : mm → Option (Int32 × mm)} {r : SS → aS} {t : Int32} {X : SS} (hM : RM S m) (hQ : Q = some t) (ht : ¬ t ≤ 0) (h1 : r S = tw t X) (h2 : (r (z0 S)).2.2 = z0 S) : MC S m (Option.bind (α := Int32) Q fun q2 => (mPI 48 q2 m).bind fun m4 => if (m4 48 0) ≤ 0 then G m4 else some (((0 : Int32), m4))) r := by
  refine MC.thr (k := t) (X := X) hM h1 h2 ?_
  rw [hQ, sb, mPIs, sb, up_s, if_neg ht]
theorem MC.gen0 {Q : Option Int32} {G : mm → Option (Int32 × mm)} {r : SS → aS} {a : Int32} {X S' : SS} (hQ : Q = some 0) (h1 : r S = rt a X) (h2 : (r (z0 S)).2.2 = S') (h48 : sI S' 48 0 = 0) (hg : ∃ m2, G (up2 m 48 0 0) = some (a, m2) ∧ RM S' m2) : MC S m (Option.bind (α := Int32) Q fun q2 => (mPI 48 q2 m).bind fun m4 => if (m4 48 0) ≤ 0 then G m4 else some (((0 : Int32), m4))) r := by
  obtain ⟨m2, g1, g2⟩ := hg
  refine MC.okr (a := a) (X := X) (S' := S') h1 h2 h48 ⟨m2, ?_, g2⟩
  rw [hQ, sb, mPIs, sb, up_s, if_pos (by decide)]
  exact g1
theorem ne_false {b : Bool} (h : b = true) : ¬ b = false := by rw [h]; decide
theorem in_dec {v : Int32} {a b : Int32} (h : a ≤ v ∧ v ≤ b) : fX11_in v a b = some 1 := by rw [m_in, decide_eq_true h]; rfl
theorem in_dec0 {v : Int32} {a b : Int32} (h : ¬ (a ≤ v ∧ v ≤ b)) : fX11_in v a b = some 0 := by rw [m_in, decide_eq_false h]; rfl
end MS

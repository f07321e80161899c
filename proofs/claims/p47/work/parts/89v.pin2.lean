/-! ===== the class's pins go, and show ===== -/
section PV
variable {B : Nat} {E : Nat → Nat} {S : SS} {li : List Int32} {od : List Nat} {h h' : hp}
theorem p_left (x : RW B E S li od h) : ∃ h', fX3_goLeft (B + 80) h = some ((), h') ∧ RW B E (gLeft S) li od h' := by
  have e25 := x.fi (o := 80) (f := 2) (k := 25) (t := 2) (by decide) (by decide)
  unfold fX3_goLeft gLeft
  rw [e25, sb]
  by_cases q : sI S 25 0 ≤ 0
  · rw [if_pos q, if_pos q, Int32.sub_zero, wSI_self]
    exact ⟨h, rfl, x⟩
  · rw [if_neg q, if_neg q, sb, oPI_ok (x.1.t 80 3 (by decide)), sb]
    exact ⟨_, rfl, x.num (o := 80) (f := 2) (k := 25) (by decide) (Or.inl rfl) _⟩
theorem p_right (x : RW B E S (ln S) od h) (hL : WL S) : ∃ h', fX3_goRight (B + 80) h = some ((), h') ∧ RW B E (gRight S) (ln S) od h' := by
  have e25 := x.fi (o := 80) (f := 2) (k := 25) (t := 2) (by decide) (by decide)
  have eL := x.fp (o := 80) (f := 0) (q := 81) (t := 2) (by decide) (by decide)
  have c := x.2.2.2.2.2.2.2.2.2.1
  unfold fX3_goRight gRight
  rw [e25, sb, eL, sb, c.ob, sb, c_size c, sb]
  by_cases q : nI (ln S).length ≤ sI S 25 0 + 10
  · rw [if_pos q, if_pos q, Int32.add_zero, wSI_self]
    exact ⟨h, rfl, x⟩
  · rw [if_neg q, if_neg q, sb, oPI_ok (x.1.t 80 3 (by decide)), sb]
    exact ⟨_, rfl, x.num (o := 80) (f := 2) (k := 25) (by decide) (Or.inl rfl) _⟩
theorem p_cellOf (x : RW B E S li od h) (ho : WXo S) {b n j : Nat} {l : List Int32} (c : Cd h b n l) (hj : j ≤ 9) : fX3_cellOf (B + 80) (some b) (nI j) h = some (if nI l.length ≤ sI S 25 0 + nI j then 0 else ge l (nth (sI S 25 0 + nI j))) := by
  obtain ⟨q, q1, q2⟩ := ho
  have n6 := c.2.2.2.2.2.1
  have n5 := c.2.2.2.2.1
  have e25 := x.fi (o := 80) (f := 2) (k := 25) (t := 2) (by decide) (by decide)
  unfold fX3_cellOf
  rw [e25, sb, c.ob, sb, c_size c, sb, q2, nI_add]
  by_cases g : nI l.length ≤ nI (10 * q + j)
  · rw [if_pos g, if_pos g]
  · have g' : 10 * q + j < l.length := by
      rw [nI_leI (by omega) (by omega)] at g
      omega
    rw [if_neg g, if_neg g, sb, c_at c g', sb, nth_nI (by omega)]
end PV

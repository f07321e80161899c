/-! ===== the class's pins show ===== -/
section PC2
variable {B : Nat} {E : Nat → Nat} {S : SS} {od : List Nat} {h h' : hp}
theorem p_cell (x : RW B E S (ln S) od h) (ho : WXo S) {j : Nat} (hj : j ≤ 9) : fX3_cell (B + 80) (nI j) h = some (if nI (ln S).length ≤ sI S 25 0 + nI j then 0 else ge (ln S) (nth (sI S 25 0 + nI j))) := by
  have c := x.2.2.2.2.2.2.2.2.2.1
  unfold fX3_cell
  rw [x.fp (o := 80) (f := 0) (q := 81) (t := 2) (by decide) (by decide), sb, x.fo (o := 80) (t := 2) (by decide), sb, p_cellOf x ho c hj, sb]
theorem p_cellAnew (x : RW B E S (ln S) od h) (hW : WT S) (hL : WL S) (hK : WK S) (hC : WC S) (hT : WXt S) (ho : WXo S) {j : Nat} (hj : j ≤ 9) : ∃ h', fX5_cellAnew (B + 79) (nI j) h = some ((if nI (ln S).length ≤ sI S 25 0 + nI j then 0 else ge (ln S) (nth (sI S 25 0 + nI j))), h') ∧ RW B E S (ln S) od h' := by
  obtain ⟨l, c0⟩ := x.2.2.2.2.2.2.2.2.1.2.2
  obtain ⟨h1, a1, c1, g1⟩ := b_line x.es hW hL hK hC hT (x.out (b := B + 83) (by omega) (by omega)) c0
  have x1 := x.scr g1 c1 (Or.inr (Or.inr ⟨rfl, rfl⟩))
  refine ⟨h1, ?_, x1⟩
  unfold fX5_cellAnew fX3_cellAnew
  rw [x.fp (o := 79) (f := 2) (q := 80) (t := 4) (by decide) (by decide), sb, x.cu, sb, x.fp (o := 79) (f := 3) (q := 85) (t := 4) (by decide) (by decide), sb, x.fi (o := 85) (f := 0) (k := 22) (t := 7) (by decide) (by decide), sb, x.fo (o := 80) (t := 2) (by decide), sb, x.fp (o := 80) (f := 1) (q := 83) (t := 2) (by decide) (by decide), sb, a1, o2s, x1.fp (o := 80) (f := 1) (q := 83) (t := 2) (by decide) (by decide), sb, x1.fo (o := 80) (t := 2) (by decide), sb, p_cellOf x1 ho c1 hj, sb, o2s]
end PC2

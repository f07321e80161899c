/-! ===== the class's queues: the first text goes into another row ===== -/
theorem q_move {o r c n : Nat} {p : Nat → Nat} {q : List (List Int32)} {h : hp} (x : QU o r c n p q h) (f : QF o r n h) (ho : o < c) (ho1 : o + 1 ≠ c) (hr : r < c) (hor : o ≠ r) (hq : 0 < q.length) {b : Nat} {l : List Int32} (y : Cd h b 80 l) (hb : c + 2 * n ≤ b) : ∃ h' p', fX4_moveFirst o (some b) h = some ((), h') ∧ QU o r c n p' (q.drop 1) h' ∧ Cd h' b 80 (qn q 0) ∧ Ag [o, r, b, b + 1] h h' ∧ QF o r n h' := by
  have n3 := f.2.2.2
  obtain ⟨a1, a2, a3, a4, a5, a6⟩ := id x
  have c0 := a6 0 hq
  have p0 := (a3 0 (by omega)).1
  have l0 := c0.2.2.2.2.1
  obtain ⟨h1, e1, c1, g1⟩ := c_copy y c0 (by omega) l0
  have m1 : ∀ a ∈ [b, b + 1], a = b ∨ a = b + 1 := by
    intro a ha
    simp only [List.mem_cons, List.not_mem_nil, or_false] at ha
    exact ha
  have nn : ∀ a, a < c → a ∉ [b, b + 1] := fun a w z => by have := m1 a z; omega
  have x1 : QU o r c n p q h1 := x.ag g1 (fun a ha => by have := m1 a ha; omega)
  have f1 : QF o r n h1 := ⟨by rw [g1.T]; exact f.1, by rw [g1.R (nn o ho)]; exact f.2.1, by rw [g1.T]; exact f.2.2.1, f.2.2.2⟩
  obtain ⟨h2, p', e2, x2, g2, f2⟩ := q_drop x1 f1 (by omega) (Or.inl hr) hor hq
  have m2 : ∀ a ∈ [o, r], a = o ∨ a = r := by
    intro a ha
    simp only [List.mem_cons, List.not_mem_nil, or_false] at ha
    exact ha
  refine ⟨h2, p', ?_, x2, c1.ag g2 (fun z => by have := m2 _ z; omega) (fun z => by have := m2 _ z; omega), (g1.mono (fun a ha => by have := m1 a ha; simp only [List.mem_cons, List.not_mem_nil, or_false]; omega)).tr (g2.mono (fun a ha => by have := m2 a ha; simp only [List.mem_cons, List.not_mem_nil, or_false]; omega)), f2⟩
  unfold fX4_moveFirst
  rw [f.row, sb, f.len, sb, if_neg (nI_nle (by omega) (by omega)), sb, show (0 : Int32) = nI 0 from rfl, x.ld f (by omega), sb, sb, if_neg (by simp), y.ob, sb, e1, o2s, sb, f1.ob, sb, e2, o2s]

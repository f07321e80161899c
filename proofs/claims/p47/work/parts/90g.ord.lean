/-! ===== the class's order is asked ===== -/
theorem idx_ne {l : List Nat} {y j : Nat} (hj : j < l.idxOf y) (hl : j < l.length) : gn l j ≠ y := by
  intro q
  have := List.not_of_lt_findIdx (p := (· == y)) (xs := l) (i := j) (show _ < l.idxOf y by omega)
  rw [gn_of hl] at q
  simp [q] at this
theorem idx_gn {l : List Nat} {y : Nat} (hy : y ∈ l) : gn l (l.idxOf y) = y := by
  rw [gn_of (List.idxOf_lt_length_of_mem hy)]
  exact List.getElem_idxOf _
theorem take_gn {l : List Nat} {k : Nat} (h : k < l.length) : l.take (k + 1) = l.take k ++ [gn l k] := by
  rw [List.take_add_one, List.getElem?_eq_getElem h, gn_of h]
  rfl
section OD
variable {B : Nat} {E : Nat → Nat} {S : SS} {li : List Int32} {od : List Nat} {h h' : hp}
theorem RW.shw (x : RW B E S li od h) : oGI 6 5 (some (B + 1)) h = some (nI od.length) := hgI (x.1.t 1 7 (by decide)) x.2.2.2.2.2.1.1
theorem t_inO (x : RW B E S li od h) (h40 : od.length ≤ 40) {k : Nat} (hk : k < od.length) : fX7_inOrder (B + 1) (nI k) h = some (some (E (gn od k))) := by
  have e4 : oGR 6 4 (some (B + 1)) h = some (some (B + 11)) := x.fp (by decide) (by decide)
  unfold fX7_inOrder
  rw [if_neg (nI_pos (by omega)), x.shw, sb, if_neg (nI_ge hk (by omega)), e4, sb, hgL (x.1.a 11 22 40 (by decide)) (by decide), sb, if_neg (nI_ge (by omega) (by omega)), sb, hgA (x.1.a 11 22 40 (by decide)) (by omega) (by decide), sb, x.2.2.2.2.2.1.2 k hk]
theorem t_inON (x : RW B E S li od h) (h40 : od.length ≤ 40) {v : Int32} (hv : inb v od.length = false) : fX7_inOrder (B + 1) v h = some none := by
  unfold fX7_inOrder
  by_cases q : v < 0
  · rw [if_pos q]
  · obtain ⟨j, j1, rfl⟩ := nI_of q
    by_cases w : j < od.length
    · rw [inb_nI w (by omega)] at hv; cases hv
    · rw [if_neg q, x.shw, sb, if_pos (nI_le (by omega) j1)]
theorem t_plO (x : RW B E S li od h) (h40 : od.length ≤ 40) (hm : ∀ j ∈ od, j < made S) {y : Nat} (hy : y ∈ od) : fX7_placeInOrder (B + 1) (some (E y)) h = some (nI (od.idxOf y)) := by
  have hix := List.idxOf_lt_length_of_mem hy
  have key : ∃ q, itr (fX7_placeInOrder_B2 (B + 1) (some (E y)) h) FU (nI 0) = some q ∧ q = .inl (nI (od.idxOf y)) := by
    have pre : ∀ j, j ≤ od.idxOf y → fX7_placeInOrder_B2 (B + 1) (some (E y)) h (nI j) = (if some (E (gn od j)) = some (E y) then some (.inr (.inl (nI j))) else some (.inl (nI j + 1))) := fun j hj => by
      unfold fX7_placeInOrder_B2
      rw [x.shw, sb, if_neg (nI_ge (by omega) (by omega)), x.fo (o := 1) (t := 6) (by decide), sb, t_inO x h40 (by omega), sb]
    refine itr_for (R := fun (q : Int32 ⊕ Unit) => q = .inl (nI (od.idxOf y))) (fun j a => a = nI j ∧ j ≤ od.idxOf y) (od.idxOf y) (fun j a hj hX => ?_) (fun a hX => ?_) (FU_lt (by omega)) ⟨rfl, Nat.zero_le _⟩
    · obtain ⟨rfl, -⟩ := hX
      refine ⟨nI (j + 1), ?_, rfl, by omega⟩
      rw [pre j (by omega), if_neg, nI_1]
      intro z
      exact idx_ne hj (by omega) ((x.es.eq (hm _ (gn_mem (by omega))) (hm y hy)).mp z)
    · obtain ⟨rfl, -⟩ := hX
      exact ⟨_, by rw [pre _ (Nat.le_refl _), idx_gn hy, if_pos rfl], rfl⟩
  obtain ⟨q, k1, k2⟩ := key
  unfold fX7_placeInOrder
  rw [show (0 : Int32) = nI 0 from rfl, k1, k2, oRl]
theorem t_nextK (x : RW B E S li od h) (h40 : od.length ≤ 40) (hm : ∀ j ∈ od, j < made S) {y : Nat} (hy : y ∈ od) (k : Int32) : fX7_nextOfKind (B + 1) (some (E y)) k h = some (((od.drop (od.idxOf y + 1)).find? (fun j => decide (sI S 2 j = k))).map E) := by
  have hix := List.idxOf_lt_length_of_mem hy
  generalize hg : od.idxOf y = p at *
  have key : ∃ q, itr (fX7_nextOfKind_B8 (B + 1) k h) FU (nI (p + 1)) = some q ∧ q = (match (od.drop (p + 1)).find? (fun j => decide (sI S 2 j = k)) with
      | some j => Sum.inl (some (E j))
      | none => Sum.inr ()) := by
    refine itr_brk (R := fun (q : Option Nat ⊕ Unit) => q = (match (od.drop (p + 1)).find? (fun j => decide (sI S 2 j = k)) with
      | some j => Sum.inl (some (E j))
      | none => Sum.inr ())) (fun j a => a = nI (p + 1 + j) ∧ (od.drop (p + 1)).find? (fun j => decide (sI S 2 j = k)) = (od.drop (p + 1 + j)).find? (fun j => decide (sI S 2 j = k))) (od.length - (p + 1)) (fun j a hj hX => ?_) (fun a hX => ?_) (FU_lt (by omega)) ⟨rfl, rfl⟩
    · obtain ⟨rfl, h2⟩ := hX
      have hlt : p + 1 + j < od.length := by omega
      have hmk := hm _ (gn_mem hlt)
      have pre : fX7_nextOfKind_B8 (B + 1) k h (nI (p + 1 + j)) = (if sI S 2 (gn od (p + 1 + j)) = k then some (.inr (.inl (some (E (gn od (p + 1 + j)))))) else some (.inl (nI (p + 1 + j) + 1))) := by
        unfold fX7_nextOfKind_B8
        rw [x.shw, sb, if_neg (nI_ge hlt (by omega)), x.fo (o := 1) (t := 6) (by decide), sb, t_inO x h40 hlt, sb, if_neg (Option.some_ne_none _), x.es.kind hmk, sb]
      rw [drop_gn hlt, List.find?_cons] at h2
      by_cases q : sI S 2 (gn od (p + 1 + j)) = k
      · rw [decide_eq_true q] at h2
        exact Or.inr ⟨_, by rw [pre, if_pos q], by rw [h2]⟩
      · rw [decide_eq_false q] at h2
        exact Or.inl ⟨nI (p + 1 + (j + 1)), by rw [pre, if_neg q, nI_1]; rfl, rfl, h2⟩
    · obtain ⟨rfl, h2⟩ := hX
      rw [show p + 1 + (od.length - (p + 1)) = od.length by omega, List.drop_length, List.find?_nil] at h2
      refine ⟨_, ?_, rfl⟩
      unfold fX7_nextOfKind_B8
      rw [x.shw, sb, show p + 1 + (od.length - (p + 1)) = od.length by omega, if_pos (Int32.le_refl _), h2]
  obtain ⟨q, k1, k2⟩ := key
  unfold fX7_nextOfKind
  rw [x.fo (o := 1) (t := 6) (by decide), sb, t_plO x h40 hm hy, sb, hg, nI_1, k1, k2]
  cases (od.drop (p + 1)).find? (fun j => decide (sI S 2 j = k)) with
  | none => rfl
  | some j => rfl
theorem t_nextF (x : RW B E S li od h) (h40 : od.length ≤ 40) (hm : ∀ j ∈ od, j < made S) {y : Nat} (hy : y ∈ od) : fX7_nextForFocus (B + 1) (some (E y)) h = some (((od.drop (od.idxOf y + 1) ++ od.take (od.idxOf y + 1)).find? (fun j => canF (sI S 2 j))).map E) := by
  have hix := List.idxOf_lt_length_of_mem hy
  generalize hg : od.idxOf y = p at *
  have key : ∃ q, itr (fX7_nextForFocus_B11 (B + 1) (nI p) h) FU (none, nI 0) = some q ∧ q = (match (od.drop (p + 1)).find? (fun j => canF (sI S 2 j)) with
      | some j => Sum.inl (some (E j))
      | none => Sum.inr (((od.take (p + 1)).find? (fun j => canF (sI S 2 j))).map E)) := by
    refine itr_brk (R := fun (q : Option Nat ⊕ Option Nat) => q = (match (od.drop (p + 1)).find? (fun j => canF (sI S 2 j)) with
      | some j => Sum.inl (some (E j))
      | none => Sum.inr (((od.take (p + 1)).find? (fun j => canF (sI S 2 j))).map E))) (fun j a => a = (((od.take (min j (p + 1))).find? (fun j => canF (sI S 2 j))).map E, nI j) ∧ (p + 1 ≤ j → (od.drop (p + 1)).find? (fun j => canF (sI S 2 j)) = (od.drop j).find? (fun j => canF (sI S 2 j)))) od.length (fun j a hj hX => ?_) (fun a hX => ?_) (FU_lt (by omega)) ⟨by rw [Nat.zero_min]; rfl, fun z => absurd z (by omega)⟩
    · obtain ⟨rfl, h2⟩ := hX
      have hmk := hm _ (gn_mem hj)
      have pre : fX7_nextForFocus_B11 (B + 1) (nI p) h (((od.take (min j (p + 1))).find? (fun j => canF (sI S 2 j))).map E, nI j) = (if canF (sI S 2 (gn od j)) = true then (if nI j ≤ nI p then (if ((od.take (min j (p + 1))).find? (fun j => canF (sI S 2 j))).map E = none then some (.inl (some (E (gn od j)), nI j + 1)) else some (.inl (((od.take (min j (p + 1))).find? (fun j => canF (sI S 2 j))).map E, nI j + 1))) else some (.inr (.inl (some (E (gn od j)))))) else some (.inl (((od.take (min j (p + 1))).find? (fun j => canF (sI S 2 j))).map E, nI j + 1))) := by
        unfold fX7_nextForFocus_B11
        rw [x.shw, sb, if_neg (show ¬ nI od.length ≤ nI j from nI_ge hj (by omega)), x.fo (o := 1) (t := 6) (by decide), sb]
        show (fX7_inOrder (B + 1) (nI j) h).bind _ = _
        rw [t_inO x h40 hj, sb, if_neg (Option.some_ne_none _), x.es.ob hmk, sb, e_canF x.es hmk, sb, bI_i]
      by_cases q : canF (sI S 2 (gn od j)) = true
      · by_cases w : j ≤ p
        · refine Or.inl ⟨(((od.take (min (j + 1) (p + 1))).find? (fun j => canF (sI S 2 j))).map E, nI (j + 1)), ?_, rfl, fun z => ?_⟩
          · rw [pre, if_pos q, if_pos (nI_le w (by omega)), Nat.min_eq_left (show j ≤ p + 1 by omega), Nat.min_eq_left (show j + 1 ≤ p + 1 by omega), take_gn hj, List.find?_append, nI_1]
            cases hf : (od.take j).find? (fun j => canF (sI S 2 j)) with
            | none =>
              rw [show Option.map E none = none from rfl, if_pos rfl, List.find?_cons, q]
              rfl
            | some u =>
              rw [show Option.map E (some u) = some (E u) from rfl, if_neg (Option.some_ne_none _)]
              rfl
          · rw [show j + 1 = p + 1 by omega]
        · have h3 := h2 (by omega)
          rw [drop_gn hj, List.find?_cons, q] at h3
          refine Or.inr ⟨_, by rw [pre, if_pos q, if_neg (nI_ge (by omega) (by omega))], by rw [h3]⟩
      · have hb : canF (sI S 2 (gn od j)) = false := by
          cases hc : canF (sI S 2 (gn od j)) with
          | true => exact absurd hc q
          | false => rfl
        refine Or.inl ⟨(((od.take (min (j + 1) (p + 1))).find? (fun j => canF (sI S 2 j))).map E, nI (j + 1)), ?_, rfl, fun z => ?_⟩
        · rw [pre, if_neg q, nI_1]
          by_cases w : j ≤ p
          · rw [Nat.min_eq_left (show j ≤ p + 1 by omega), Nat.min_eq_left (show j + 1 ≤ p + 1 by omega), take_gn hj, List.find?_append, List.find?_cons, hb, List.find?_nil, Option.or_none]
          · rw [Nat.min_eq_right (show p + 1 ≤ j by omega), Nat.min_eq_right (show p + 1 ≤ j + 1 by omega)]
        · by_cases w : p + 1 ≤ j
          · rw [h2 w, drop_gn hj, List.find?_cons, hb]
          · rw [show j + 1 = p + 1 by omega]
    · obtain ⟨rfl, h2⟩ := hX
      have h3 := h2 (by omega)
      rw [List.drop_length, List.find?_nil] at h3
      refine ⟨_, ?_, rfl⟩
      unfold fX7_nextForFocus_B11
      rw [x.shw, sb, if_pos (show nI od.length ≤ nI od.length from Int32.le_refl _), h3, Nat.min_eq_right (show p + 1 ≤ od.length by omega)]
  obtain ⟨q, k1, k2⟩ := key
  unfold fX7_nextForFocus
  rw [x.fo (o := 1) (t := 6) (by decide), sb, t_plO x h40 hm hy, sb, hg, show (0 : Int32) = nI 0 from rfl, k1, k2, List.find?_append]
  cases (od.drop (p + 1)).find? (fun j => canF (sI S 2 j)) with
  | none => rfl
  | some j => rfl
end OD

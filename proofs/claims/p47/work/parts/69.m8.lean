/-! ===== the reference's copies and queues ===== -/
theorem qn_app {q : List (List Int32)} {t : List Int32} {j : Nat} (h : j < q.length) : qn (q ++ [t]) j = qn q j := by
  unfold qn
  rw [List.getD_eq_getElem?_getD, List.getD_eq_getElem?_getD, List.getElem?_append_left h]
theorem qn_last {q : List (List Int32)} {t : List Int32} : qn (q ++ [t]) q.length = t := by
  unfold qn
  rw [List.getD_eq_getElem?_getD, List.getElem?_append_right (Nat.le_refl _), Nat.sub_self]
  rfl
theorem qn_drop {q : List (List Int32)} {j : Nat} : qn (q.drop 1) j = qn q (j + 1) := by
  unfold qn
  rw [List.getD_eq_getElem?_getD, List.getD_eq_getElem?_getD, List.getElem?_drop, Nat.add_comm]
theorem qn_mem {q : List (List Int32)} {j : Nat} (h : j < q.length) : qn q j ∈ q := by
  unfold qn
  rw [List.getD_eq_getElem?_getD, List.getElem?_eq_getElem h]
  exact List.getElem_mem h
def WQ (q : List (List Int32)) : Prop := ∀ t ∈ q, 0 < t.length ∧ t.length ≤ 80
theorem WQ.n {q : List (List Int32)} (h : WQ q) {j : Nat} (hj : j < q.length) : 0 < (qn q j).length ∧ (qn q j).length ≤ 80 := h _ (qn_mem hj)
theorem WQ.app {q : List (List Int32)} {t : List Int32} (h : WQ q) (h1 : 0 < t.length) (h2 : t.length ≤ 80) : WQ (q ++ [t]) := fun s hs => by
  rcases List.mem_append.mp hs with a | a
  · exact h s a
  · rw [List.mem_singleton.mp a]; exact ⟨h1, h2⟩
theorem WQ.drop {q : List (List Int32)} (h : WQ q) : WQ (q.drop 1) := fun s hs => h s (List.mem_of_mem_drop hs)
theorem Tx.sm {m m' : mm} {t : List Int32} {ks : List Nat} (h : Tx m t) (hs : Sm ks m m') (h1 : decide (28 ∉ ks) = true) (h2 : decide (29 ∉ ks) = true) : Tx m' t := TxA.sm h (hs.at 28 h1) (hs.at 29 h2)

/-! the queue 30: one more, the first one taken -/
/-! the queue 35: one more, the first one taken -/

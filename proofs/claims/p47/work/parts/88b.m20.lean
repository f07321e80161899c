/-! ===== the reference's calls: words, adding ===== -/
section MA
variable {S : SS} {m : mm}
/-! adding -/
theorem gn_ins (l : List Nat) (pl x k : Nat) (hp : pl ≤ l.length) : gn (insA l pl x) k = if k < pl then gn l k else if k = pl then x else gn l (k - 1) := by
  unfold insA gn
  rw [List.getD_eq_getElem?_getD, List.getD_eq_getElem?_getD, List.getD_eq_getElem?_getD]
  have hl : (l.take pl).length = pl := by rw [List.length_take]; omega
  by_cases h1 : k < pl
  · rw [if_pos h1, List.getElem?_append_left (by omega), List.getElem?_take, if_pos h1]
  · rw [if_neg h1, List.getElem?_append_right (by omega), hl]
    by_cases h2 : k = pl
    · subst h2
      rw [if_pos rfl, Nat.sub_self]; rfl
    · rw [if_neg h2, show k - pl = (k - pl - 1) + 1 by omega, List.getElem?_cons_succ, List.getElem?_drop, show pl + (k - pl - 1) = k - 1 by omega]
theorem ins_len (l : List Nat) (pl x : Nat) (hp : pl ≤ l.length) : (insA l pl x).length = l.length + 1 := by
  unfold insA
  rw [List.length_append, List.length_cons, List.length_take, List.length_drop]
  omega
end MA

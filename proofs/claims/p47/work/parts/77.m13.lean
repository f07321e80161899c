/-! ===== the reference's commands and letters ===== -/
theorem find_map_cons {p : Nat → Bool} {f : Nat → Nat} {a : Nat} {l : List Nat} : ((a :: l).find? p).map f = if p a = true then some (f a) else (l.find? p).map f := by
  rw [List.find?_cons]
  cases p a <;> rfl
theorem drop_gn {l : List Nat} {n : Nat} (h : n < l.length) : l.drop n = gn l n :: l.drop (n + 1) := by
  rw [List.drop_eq_getElem_cons h, gn_of h]
section MQ2
variable {S : SS} {m : mm}
theorem fnd_mem {l : List Nat} {x : Nat} (h : fnd S l = some x) : x ∈ l := List.mem_of_find?_eq_some h
/-! up and down -/
theorem rwF_th (h : WT S) {t : Nat} (ht : th S t) {l : List Nat} (hl : ∀ j ∈ l, j ∈ sK S t) : ∀ x, rwF S l = some x → th S x := by
  intro x hx
  unfold rwF at hx
  obtain ⟨j, hj, e⟩ := Option.map_eq_some_iff.mp hx
  have h1 := List.find?_some hj
  have h2 := ((h.kids ht).2.2 j (hl j (List.mem_of_find?_eq_some hj))).1
  unfold rwB at h1
  simp only [Bool.and_eq_true, decide_eq_true_eq] at h1
  rw [← e]
  exact (h.kth h2 h1.2.1).1
/-! the next one for the focus -/
theorem m_canF (k : Int32) : fX11_canFocus k = some (bI (canF k)) := by
  unfold fX11_canFocus canF
  rw [m_in, sb, oBo_b, sb]
def rng (S : SS) : List Nat := (ord S).drop (cpl S + 1) ++ (ord S).take (cpl S + 1)
theorem rng_len (hl : cpl S < (ord S).length) : (rng S).length = (ord S).length := by
  unfold rng
  rw [List.length_append, List.length_drop, List.length_take]; omega
theorem rng_gn (hl : cpl S < (ord S).length) {j : Nat} (hj : j < (ord S).length) : gn (rng S) j = gn (ord S) ((cpl S + (j + 1)) % (ord S).length) := by
  unfold rng gn
  rw [List.getD_eq_getElem?_getD, List.getD_eq_getElem?_getD]
  by_cases e : cpl S + 1 + j < (ord S).length
  · rw [List.getElem?_append_left (by rw [List.length_drop]; omega), List.getElem?_drop, Nat.mod_eq_of_lt (by omega), show cpl S + 1 + j = cpl S + (j + 1) by omega]
  · rw [List.getElem?_append_right (by rw [List.length_drop]; omega), List.length_drop, List.getElem?_take, if_pos (by omega), Nat.mod_eq_sub_mod (by omega), Nat.mod_eq_of_lt (by omega)]
    congr 2; omega
end MQ2

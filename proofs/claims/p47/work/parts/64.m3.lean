/-! ===== the tree as it must be; words ===== -/
def th (S : SS) (i : Nat) : Prop := i < made S ∧ sI S 1 i ≠ 0
def WT (S : SS) : Prop := PW S ∧ th S 0 ∧ sI S 2 0 = 0 ∧ sI S 12 0 = 0 ∧ (∀ i, 0 < i → th S i → th S (dpar S i) ∧ i ∈ sK S (dpar S i)) ∧ ∀ i, th S i → (sK S i).Nodup ∧ (sK S i).length ≤ 10 ∧ ∀ j ∈ sK S i, th S j ∧ 0 < j ∧ dpar S j = i
/-- lengths of names, contents, kept texts -/
def WL (S : SS) : Prop := ∀ i, (sL S 6 i).length ≤ 12 ∧ (sL S 8 i).length ≤ 12 ∧ (sL S 17 i).length ≤ 80
theorem WT.pw {S : SS} (h : WT S) : PW S := h.1
theorem WT.m40 {S : SS} (h : WT S) : made S ≤ 40 := h.1.2.1
theorem th.lt {S : SS} {i : Nat} (h : th S i) : i < made S := h.1
theorem th.l40 {S : SS} {i : Nat} (h : th S i) (hW : WT S) : i < 40 := Nat.lt_of_lt_of_le h.1 hW.m40
theorem WT.up {S : SS} (h : WT S) {i : Nat} (h0 : 0 < i) (hi : th S i) : th S (dpar S i) ∧ i ∈ sK S (dpar S i) := h.2.2.2.2.1 i h0 hi
theorem WT.kids {S : SS} (h : WT S) {i : Nat} (hi : th S i) : (sK S i).Nodup ∧ (sK S i).length ≤ 10 ∧ ∀ j ∈ sK S i, th S j ∧ 0 < j ∧ dpar S j = i := h.2.2.2.2.2 i hi
theorem gn_idx {l : List Nat} {i : Nat} (h : i ∈ l) : gn l (l.idxOf i) = i := by
  have := List.idxOf_lt_length_of_mem h
  rw [gn_of this]
  exact List.getElem_idxOf this
theorem gn_lt_idx {i : Nat} : ∀ {l : List Nat} {j : Nat}, j < l.idxOf i → gn l j ≠ i
  | [], j, h => by simp at h
  | a :: l, j, h => by
    rw [List.idxOf_cons] at h
    by_cases e : a = i
    · subst e; simp at h
    · have e2 : (a == i) = false := by simp [e]
      rw [e2] at h
      simp only [cond_false] at h
      cases j with
      | zero => exact e
      | succ j => exact gn_lt_idx (l := l) (j := j) (by omega)
theorem gn_inj {l : List Nat} (h : l.Nodup) {a b : Nat} (ha : a < l.length) (hb : b < l.length) (e : gn l a = gn l b) : a = b := by
  rw [gn_of ha, gn_of hb] at e
  exact (List.getElem_inj h).mp e
theorem take_succ_gn {l : List Nat} {k : Nat} (h : k < l.length) : l.take (k + 1) = l.take k ++ [gn l k] := by
  rw [List.take_add_one, List.getElem?_eq_getElem h, gn_of h]
  rfl
theorem vis_s {S : SS} {l : List Nat} {k : Nat} (h : k < l.length) : vis S (l.take (k + 1)) = vis S (l.take k) + (if hid S (gn l k) = true then 0 else 1) := by
  unfold vis
  rw [take_succ_gn h, List.countP_append, List.countP_singleton]
  cases hid S (gn l k) <;> rfl
theorem vis_le (S : SS) (l : List Nat) : vis S l ≤ l.length := List.countP_le_length
section MW
variable {S : SS} {m : mm}
theorem RM.name (hM : RM S m) {i : Nat} (hi : i < 40) : TxA m 6 7 12 i (sL S 6 i) := hM.2.1 i hi
theorem RM.cont (hM : RM S m) {i : Nat} (hi : i < 40) : TxA m 8 9 12 i (sL S 8 i) := hM.2.2.1 i hi
theorem RM.kept (hM : RM S m) {i : Nat} (hi : i < 40) : TxA m 17 16 100 i (sL S 17 i) := hM.2.2.2.1 i hi
theorem RM.kds (hM : RM S m) {i : Nat} (hi : i < 40) : RKd m i (sK S i) := hM.2.2.2.2.2.2.2.2.2.1 i hi
theorem RM.tsc (hM : RM S m) {m' : mm} (h : Sm tsc m m') : RM S m' := hM.sm (h.mono (by decide))
theorem m_kid (hM : RM S m) {i k : Nat} (hi : i < 40) (hk : k < (sK S i).length) (h10 : (sK S i).length ≤ 10) : mL 4 ((10 : Int32) * nI i + nI k) m = some (nI (gn (sK S i) k)) := by
  rw [show (10 : Int32) = nI 10 from rfl, nI_mul, nI_add, mL_ok rfl (show 10 * i + k < 400 by omega), (hM.kds hi).2.1 k hk]
theorem m_kidn (hM : RM S m) {i : Nat} (hi : i < 40) : mL 5 (nI i) m = some (nI (sK S i).length) := by
  rw [mL_ok rfl (show i < 40 by omega), (hM.kds hi).1]
theorem m_hid (hM : RM S m) {i : Nat} (hi : i < 40) : mLZ 12 (nI i) m = some (sI S 12 i) := by
  rw [mLZ_ok rfl (show i < 40 by omega), hM.p 12 rfl]
theorem m_plain (hM : RM S m) {k i : Nat} (hp : plain k = true) (hk : mk k = 20) (hi : i < ml k) : mL k (nI i) m = some (sI S k i) := by
  rw [mL_ok hk hi, hM.p k hp]
theorem kw_len (x : Int32) : (kw x).length ≤ 6 := by
  unfold kw
  repeat' split
  all_goals decide
end MW

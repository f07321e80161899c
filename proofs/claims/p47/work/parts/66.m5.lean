/-! ===== the reference's line ===== -/
theorem m_in (x a b : Int32) : fX11_in x a b = some (bI (decide (a ≤ x ∧ x ≤ b))) := by
  unfold fX11_in bI
  by_cases h1 : x < a
  · rw [if_pos h1, if_neg]
    intro h2
    exact (Int32.not_le.mpr h1) (of_decide_eq_true h2).1
  · rw [if_neg h1]
    by_cases h3 : b < x
    · rw [if_pos h3, if_neg]
      intro h2
      exact (Int32.not_le.mpr h3) (of_decide_eq_true h2).2
    · rw [if_neg h3, if_pos (decide_eq_true ⟨Int32.not_lt.mp h1, Int32.not_lt.mp h3⟩)]
theorem oBo_b (b : Bool) : oBo (bI b) = some () := by
  unfold oBo
  rw [if_pos (bI_01 b)]
theorem bI_0 (b : Bool) : (bI b = 0) ↔ b = false := by cases b <;> simp [bI]
def lsc : List Nat := [52, 53]
def Lx (m : mm) (t : List Int32) : Prop := TxA m 52 53 100 0 t
def TL (F : mm → Option (Unit × mm)) (m : mm) (t : List Int32) : Prop := ∃ m', F m = some ((), m') ∧ Lx m' t ∧ Sm lsc m m'
theorem bk_le (l : List Int32) : ∀ k, bk l k ≤ k
  | 0 => Nat.le_refl _
  | k + 1 => by
    have := bk_le l k
    unfold bk
    split <;> omega
/-! what takeWhile takes -/
theorem fw_le (l : List Int32) : (fw l).length ≤ l.length := by
  unfold fw
  exact (List.takeWhile_prefix _).length_le
theorem fw_ge {l : List Int32} {j : Nat} (h : j < (fw l).length) : ge (fw l) j = ge l j := by
  have h2 := fw_le l
  obtain ⟨r, hr⟩ := List.takeWhile_prefix (l := l) isA
  have e : fw l ++ r = l := hr
  have h3 := ge_app (r := r) h
  rw [e] at h3
  exact h3.symm
theorem fw_all {l : List Int32} {j : Nat} (h : j < (fw l).length) : isA (ge l j) = true := by
  have h3 := ge_mem h
  rw [fw_ge h] at h3
  exact List.all_eq_true.mp (List.all_takeWhile (l := l) (p := isA)) _ h3
theorem fw_end : ∀ (l : List Int32), (fw l).length < l.length → isA (ge l (fw l).length) = false
  | [], h => by simp at h
  | a :: l, h => by
    by_cases e : isA a = true
    · have h1 : fw (a :: l) = a :: fw l := by unfold fw; rw [List.takeWhile_cons, if_pos e]
      rw [h1] at h ⊢
      exact fw_end l (by simpa using h)
    · have h1 : fw (a :: l) = [] := by unfold fw; rw [List.takeWhile_cons, if_neg e]
      rw [h1]
      show isA a = false
      simpa using e
/-! letters -/
theorem isS_nI {c : Int32} (h : isS c = true) : ∃ j, j < 26 ∧ c = nI (97 + j) ∧ c - 97 = nI j ∧ (c - 97).toNatClampNeg = j := by
  have h1 := of_decide_eq_true h
  obtain ⟨k, hk, rfl⟩ := nI_of (x := c) (fun z => by
    have h2 := Int32.lt_iff_toInt_lt.mp z
    have h3 := Int32.le_iff_toInt_le.mp h1.1
    have : (97 : Int32).toInt = 97 := by decide
    have : (0 : Int32).toInt = 0 := by decide
    omega)
  have h2 := (nI_leI (a := 97) (by decide) hk).mp h1.1
  have h3 := (nI_leI (b := 122) hk (by decide)).mp h1.2
  have e : nI k - 97 = nI (k - 97) := nI_sub (b := 97) h2
  exact ⟨k - 97, by omega, by congr 1; omega, e, by rw [e, nI_clamp (by omega)]⟩
theorem isG_nI {c : Int32} (h : isG c = true) : ∃ j, j < 26 ∧ c = nI (65 + j) ∧ c - 65 = nI j ∧ (c - 65).toNatClampNeg = j := by
  have h1 := of_decide_eq_true h
  obtain ⟨k, hk, rfl⟩ := nI_of (x := c) (fun z => by
    have h2 := Int32.lt_iff_toInt_lt.mp z
    have h3 := Int32.le_iff_toInt_le.mp h1.1
    have : (65 : Int32).toInt = 65 := by decide
    have : (0 : Int32).toInt = 0 := by decide
    omega)
  have h2 := (nI_leI (a := 65) (by decide) hk).mp h1.1
  have h3 := (nI_leI (b := 90) hk (by decide)).mp h1.2
  have e : nI k - 65 = nI (k - 65) := nI_sub (b := 65) h2
  exact ⟨k - 65, by omega, by congr 1; omega, e, by rw [e, nI_clamp (by omega)]⟩
theorem isD_nI {c : Int32} (h : isD c = true) : ∃ j, j < 10 ∧ c = nI (48 + j) := by
  have h1 := of_decide_eq_true h
  obtain ⟨k, hk, rfl⟩ := nI_of (x := c) (fun z => by
    have h2 := Int32.lt_iff_toInt_lt.mp z
    have h3 := Int32.le_iff_toInt_le.mp h1.1
    have : (48 : Int32).toInt = 48 := by decide
    have : (0 : Int32).toInt = 0 := by decide
    omega)
  have h2 := (nI_leI (a := 48) (by decide) hk).mp h1.1
  have h3 := (nI_leI (b := 57) hk (by decide)).mp h1.2
  exact ⟨k - 48, by omega, by congr 1; omega⟩
section ML
variable {S : SS} {m : mm}
end ML

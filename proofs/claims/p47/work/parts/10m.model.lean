/-! ===== the reference's cells as a store by its fields: a number by its field, an array by its field and index ===== -/
abbrev mm : Type := Nat → Nat → Int32
def mlL : List Nat := [0, 40, 40, 40, 400, 40, 480, 40, 480, 40, 40, 40, 40, 40, 40, 40, 40, 4000, 12, 0, 0, 0, 0, 0, 0, 0, 0, 0, 100, 0, 700, 7, 0, 100, 0, 2400, 24, 0, 0, 100, 0, 0, 100, 0, 0, 0, 0, 10, 0, 40, 0, 40, 100, 0]
def moL : List Nat := [0, 1, 2, 3, 4, 5, 6, 7, 8, 9, 10, 11, 12, 13, 14, 15, 16, 17, 18, 0, 0, 0, 0, 0, 0, 0, 0, 0, 19, 0, 20, 21, 0, 22, 0, 23, 24, 0, 0, 25, 0, 0, 26, 0, 0, 0, 0, 27, 0, 28, 0, 29, 30, 0]
def mfL : List Nat := [0, 1, 2, 3, 4, 5, 6, 7, 8, 9, 10, 11, 12, 13, 14, 15, 16, 17, 18, 28, 30, 31, 33, 35, 36, 39, 42, 47, 49, 51, 52]
/-- the length of an array by its field, 0 for a number; its cell behind the object's; the field of such a cell; int or boolean -/
def ml (k : Nat) : Nat := mlL.getD k 0
def mo (k : Nat) : Nat := moL.getD k 0
def mf (j : Nat) : Nat := mfL.getD j 0
def mk (k : Nat) : Nat := if k = 1 ∨ k = 10 ∨ k = 12 then 21 else 20
theorem ml_big {k : Nat} (hk : 54 ≤ k) : ml k = 0 := by
  unfold ml
  rw [List.getD_eq_getElem?_getD, List.getElem?_eq_none (by exact hk)]
  rfl
theorem mo_ok0 : ∀ k, k < 54 → ml k ≠ 0 → 1 ≤ mo k ∧ mo k ≤ 30 ∧ mf (mo k) = k := by decide +kernel
theorem mo_ok {k : Nat} (h : ml k ≠ 0) : 1 ≤ mo k ∧ mo k ≤ 30 ∧ mf (mo k) = k := mo_ok0 k (by
  rcases Nat.lt_or_ge k 54 with q | q
  · exact q
  · exact absurd (ml_big q) h) h
theorem mf_ok0 : ∀ j, j < 31 → 1 ≤ j → mo (mf j) = j ∧ ml (mf j) ≠ 0 := by decide +kernel
theorem mf_ok {j : Nat} (h1 : 1 ≤ j) (h2 : j ≤ 30) : mo (mf j) = j ∧ ml (mf j) ≠ 0 := mf_ok0 j (by omega) h1
/-- a heap with the store m at the cells from a0 on -/
def jn (a0 : Nat) (h : hp) (m : mm) : hp := (h.1, (fun a => if a = a0 then (11, 0) else if a0 < a ∧ a ≤ a0 + 30 then (mk (mf (a - a0)), ml (mf (a - a0))) else h.2.1 a), (fun a k => if a = a0 then (if ml k = 0 then m k 0 else 0) else if a0 < a ∧ a ≤ a0 + 30 then m (mf (a - a0)) k else h.2.2.1 a k), (fun a k => if a = a0 then (if ml k = 0 then none else some (a0 + mo k)) else if a0 < a ∧ a ≤ a0 + 30 then none else h.2.2.2.1 a k), h.2.2.2.2)
theorem jn_T0 (a0 : Nat) (h : hp) (m : mm) : hT (jn a0 h m) a0 = (11, 0) := if_pos rfl
theorem jn_I0 (a0 : Nat) (h : hp) (m : mm) {k : Nat} (hk : ml k = 0) : hI (jn a0 h m) a0 k = m k 0 := by
  show (if a0 = a0 then (if ml k = 0 then m k 0 else 0) else _) = _
  rw [if_pos rfl, if_pos hk]
theorem jn_R0 (a0 : Nat) (h : hp) (m : mm) {k : Nat} (hk : ml k ≠ 0) : hR (jn a0 h m) a0 k = some (a0 + mo k) := by
  show (if a0 = a0 then (if ml k = 0 then none else some (a0 + mo k)) else _) = _
  rw [if_pos rfl, if_neg hk]
theorem jn_TA (a0 : Nat) (h : hp) (m : mm) {k : Nat} (hk : ml k ≠ 0) : hT (jn a0 h m) (a0 + mo k) = (mk k, ml k) := by
  obtain ⟨h1, h2, h3⟩ := mo_ok hk
  show (if a0 + mo k = a0 then _ else if a0 < a0 + mo k ∧ a0 + mo k ≤ a0 + 30 then (mk (mf (a0 + mo k - a0)), ml (mf (a0 + mo k - a0))) else _) = _
  rw [if_neg (by omega), if_pos (by omega), Nat.add_sub_cancel_left, h3]
theorem jn_IA (a0 : Nat) (h : hp) (m : mm) {k : Nat} (i : Nat) (hk : ml k ≠ 0) : hI (jn a0 h m) (a0 + mo k) i = m k i := by
  obtain ⟨h1, h2, h3⟩ := mo_ok hk
  show (if a0 + mo k = a0 then _ else if a0 < a0 + mo k ∧ a0 + mo k ≤ a0 + 30 then m (mf (a0 + mo k - a0)) i else _) = _
  rw [if_neg (by omega), if_pos (by omega), Nat.add_sub_cancel_left, h3]
theorem jn_w0 (a0 : Nat) (h : hp) (m : mm) {k : Nat} (x : Int32) (hk : ml k = 0) : wI (jn a0 h m) a0 k x = jn a0 h (up2 m k 0 x) := by
  unfold wI jn
  refine congrArg (Prod.mk _) (congrArg (Prod.mk _) (congrArg (fun z => (z, _)) ?_))
  funext a j
  unfold up2
  by_cases ha : a = a0
  · subst ha
    simp only [if_true]
    by_cases hj : j = k
    · subst hj; simp only [if_true, if_pos hk]
    · simp only [if_neg hj]
  · simp only [if_neg ha]
    by_cases hb : a0 < a ∧ a ≤ a0 + 30
    · have h5 := mf_ok (j := a - a0) (by omega) (by omega)
      simp only [if_pos hb]
      rw [if_neg (fun e => h5.2 (by rw [e]; exact hk))]
    · simp only [if_neg hb]
theorem jn_wA (a0 : Nat) (h : hp) (m : mm) {k : Nat} (i : Nat) (x : Int32) (hk : ml k ≠ 0) : wI (jn a0 h m) (a0 + mo k) i x = jn a0 h (up2 m k i x) := by
  obtain ⟨h1, h2, h3⟩ := mo_ok hk
  unfold wI jn
  refine congrArg (Prod.mk _) (congrArg (Prod.mk _) (congrArg (fun z => (z, _)) ?_))
  funext a j
  unfold up2
  by_cases ha : a = a0
  · subst ha
    rw [if_neg (by omega)]
    simp only [if_true]
    by_cases hj : ml j = 0
    · simp only [if_pos hj]
      rw [if_neg (fun e => hk (by rw [← e]; exact hj))]
    · simp only [if_neg hj]
  · simp only [if_neg ha]
    by_cases hb : a0 < a ∧ a ≤ a0 + 30
    · have h5 := mf_ok (j := a - a0) (by omega) (by omega)
      simp only [if_pos hb]
      by_cases hc : a = a0 + mo k
      · subst hc
        rw [if_pos rfl, Nat.add_sub_cancel_left, h3, if_pos rfl]
      · rw [if_neg hc, if_neg (fun e => hc (by rw [← e, h5.1]; omega))]
    · rw [if_neg (by omega), if_neg hb, if_neg hb]
def mL (k : Nat) (i : Int32) (m : mm) : Option Int32 := if mk k = 20 ∧ inb i (ml k) = true then some (m k i.toNatClampNeg) else none
def mLZ (k : Nat) (i : Int32) (m : mm) : Option Int32 := if mk k = 21 ∧ inb i (ml k) = true then some (m k i.toNatClampNeg) else none
def mPI (k : Nat) (x : Int32) (m : mm) : Option mm := some (up2 m k 0 x)
def mPZ (k : Nat) (x : Int32) (m : mm) : Option mm := if x = 0 ∨ x = 1 then some (up2 m k 0 x) else none
def mS (k : Nat) (i x : Int32) (m : mm) : Option mm := if mk k = 20 ∧ inb i (ml k) = true then some (up2 m k i.toNatClampNeg x) else none
def mSZ (k : Nat) (i x : Int32) (m : mm) : Option mm := if mk k = 21 ∧ inb i (ml k) = true ∧ (x = 0 ∨ x = 1) then some (up2 m k i.toNatClampNeg x) else none
def oM {ρ β : Type} (o : Option (ρ × mm)) (f : ρ → mm → Option β) : Option β := o.bind fun p => f p.1 p.2
def pM {ρ : Type} (g : ρ → Option sv) (Q : hQ) (a0 : Nat) (h : hp) (p : ρ × mm) : Prop := Q (.inl (g p.1)) (jn a0 h p.2)
theorem inb_ml {i : Int32} {k : Nat} (h : inb i (ml k) = true) : ml k ≠ 0 := by
  intro e
  rw [e] at h
  have h2 := of_decide_eq_true h
  omega
def fX11_in (a0 : Int32) (a1 : Int32) (a2 : Int32) : Option Int32 :=
  if a0 < a1 then some 0 else if a2 < a0 then some 0 else some 1
def fX11_canFocus (a0 : Int32) : Option Int32 :=
  (fX11_in a0 2 4).bind fun x1 => (oBo x1).bind fun _ => some x1

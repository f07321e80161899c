/-! ===== an abstract heap, and a judgement gV over it: each row of the kit said once for every instruction ===== -/
/-! values: an int, a reference or null, a long -/
abbrev sv : Type := Int32 ⊕ (Option Nat ⊕ Int64)
abbrev si (x : Int32) : sv := .inl x
abbrev sr (r : Option Nat) : sv := .inr (.inl r)
abbrev sl (x : Int64) : sv := .inr (.inr x)
def tv : sv → Value
  | .inl x => .int x
  | .inr (.inl r) => va_rf r
  | .inr (.inr x) => .long x
def s2 : sv → Bool
  | .inr (.inr _) => true
  | _ => false
theorem rf_cat (r : Option Nat) : (va_rf r).category = 1 := by cases r <;> rfl
theorem tv_cat (x : sv) : (tv x).category = if s2 x = true then 2 else 1 := by
  rcases x with x | x | x
  · rfl
  · exact rf_cat x
  · rfl
theorem tv_cat2 (x : sv) : ((tv x).category = 2) = (s2 x = true) := by
  rw [tv_cat]; cases s2 x <;> simp
abbrev lc : Type := List (Option sv)
def asc : Nat → lc → List (Nat × Value)
  | _, [] => []
  | i, none :: l => asc (i + 1) l
  | i, some v :: l => (i, tv v) :: asc (i + 1) l
theorem asc_mem {q : Nat × Value} : ∀ (l : lc) (k : Nat), q ∈ asc k l ↔ ∃ (i : Nat) (v : sv), l[i]? = some (some v) ∧ q = (k + i, tv v) := by
  intro l
  induction l with
  | nil => intro k; simp [asc]
  | cons a l ih =>
    intro k
    cases a with
    | none =>
      rw [asc, ih]
      constructor
      · rintro ⟨i, v, h1, h2⟩
        exact ⟨i + 1, v, by simpa using h1, by rw [h2]; congr 1; omega⟩
      · rintro ⟨i, v, h1, h2⟩
        cases i with
        | zero => simp at h1
        | succ i => exact ⟨i, v, by simpa using h1, by rw [h2]; congr 1; omega⟩
    | some w =>
      rw [asc, List.mem_cons, ih]
      constructor
      · rintro (h | ⟨i, v, h1, h2⟩)
        · exact ⟨0, w, rfl, h⟩
        · exact ⟨i + 1, v, by simpa using h1, by rw [h2]; congr 1; omega⟩
      · rintro ⟨i, v, h1, h2⟩
        cases i with
        | zero =>
          have : w = v := by simpa using h1
          subst this
          exact Or.inl h2
        | succ i => exact Or.inr ⟨i, v, by simpa using h1, by rw [h2]; congr 1; omega⟩
def hasL (a : Array Slot) (n : Nat) (ls : lc) : Prop := lv_has a n (asc 0 ls)
theorem hasL_at {a : Array Slot} {n : Nat} {ls : lc} (h : hasL a n ls) {i : Nat} {v : sv} (hi : ls[i]? = some (some v)) : a[i]? = some (.val (tv v)) :=
  h.2.2 (i, tv v) ((asc_mem ls 0).mpr ⟨i, v, hi, by rw [Nat.zero_add]⟩)
theorem hasL_lt {a : Array Slot} {n : Nat} {ls : lc} (h : hasL a n ls) {i : Nat} {v : sv} (hi : ls[i]? = some (some v)) : i < n := by
  have h1 := lv_lt (hasL_at h hi)
  rw [h.1] at h1
  exact h1
theorem hasL_of {a : Array Slot} {n : Nat} {ls : lc} {l : List (Nat × Value)} (h : lv_has a n l) (hm : ∀ (i : Nat) (v : sv), ls[i]? = some (some v) → (i, tv v) ∈ l) : hasL a n ls := by
  refine ⟨h.1, h.2.1, fun q hq => ?_⟩
  obtain ⟨i, v, h1, h2⟩ := (asc_mem ls 0).mp hq
  rw [h2, Nat.zero_add]
  exact h.2.2 _ (hm i v h1)
theorem hasL_sub {a : Array Slot} {n : Nat} {ls ls' : lc} (h : hasL a n ls) (hm : ∀ (i : Nat) (v : sv), ls'[i]? = some (some v) → ls[i]? = some (some v)) : hasL a n ls' :=
  hasL_of h (fun i v hi => (asc_mem ls 0).mpr ⟨i, v, hm i v hi, by rw [Nat.zero_add]⟩)
/-- where a value of one slot is put: no long begins just ahead of it -/
def okS (ls : lc) : Nat → Bool
  | 0 => true
  | i + 1 => match ls[i]? with
    | some (some v) => !s2 v
    | _ => true
theorem okS_of {ls : lc} {i j : Nat} {v : sv} (h : okS ls i = true) (hj : j + 1 = i) (hv : ls[j]? = some (some v)) : s2 v = false := by
  subst hj
  have h' : (match ls[j]? with
    | some (some v) => !s2 v
    | _ => true) = true := h
  rw [hv] at h'
  simpa using h'
theorem set1 {a : Array Slot} {n : Nat} {ls : lc} {i : Nat} {v : sv} (ho : okS ls i = true) (h : lv_has a n ((i, tv v) :: (asc 0 ls).filter (fun q => !(q.1 == i) && !(q.1 + 1 == i && q.2.category == 2)))) : hasL a n (ls.set i (some v)) := by
  refine hasL_of h (fun j w hj => ?_)
  by_cases hij : i = j
  · subst hij
    rw [List.getElem?_set_self' ] at hj
    cases hq : ls[i]? with
    | none => rw [hq] at hj; simp at hj
    | some q =>
      rw [hq] at hj
      have : v = w := by simpa using hj
      subst this
      exact List.mem_cons_self
  · rw [List.getElem?_set_ne hij] at hj
    refine List.mem_cons_of_mem _ (List.mem_filter.mpr ⟨(asc_mem ls 0).mpr ⟨j, w, hj, by rw [Nat.zero_add]⟩, ?_⟩)
    have h1 : ¬ j = i := fun e => hij e.symm
    by_cases h2 : j + 1 = i
    · have h3 := okS_of ho h2 hj
      have h4 : ¬ (tv w).category = 2 := by rw [tv_cat2, h3]; simp
      simp [h1, h4]
    · simp [h1, h2]
theorem set2 {a : Array Slot} {n : Nat} {ls : lc} {i : Nat} {x : Int64} (ho : okS ls i = true) (h : lv_has a n ((i, tv (sl x)) :: (asc 0 ls).filter (fun q => !(q.1 == i) && (!(q.1 == i + 1) && !(q.1 + 1 == i && q.2.category == 2))))) : hasL a n ((ls.set i (some (sl x))).set (i + 1) none) := by
  refine hasL_of h (fun j w hj => ?_)
  by_cases hij1 : i + 1 = j
  · subst hij1
    rw [List.getElem?_set_self'] at hj
    cases hq : (ls.set i (some (sl x)))[i + 1]? with
    | none => rw [hq] at hj; simp at hj
    | some q => rw [hq] at hj; simp at hj
  · rw [List.getElem?_set_ne hij1] at hj
    by_cases hij : i = j
    · subst hij
      rw [List.getElem?_set_self'] at hj
      cases hq : ls[i]? with
      | none => rw [hq] at hj; simp at hj
      | some q =>
        rw [hq] at hj
        have : sl x = w := by simpa using hj
        subst this
        exact List.mem_cons_self
    · rw [List.getElem?_set_ne hij] at hj
      refine List.mem_cons_of_mem _ (List.mem_filter.mpr ⟨(asc_mem ls 0).mpr ⟨j, w, hj, by rw [Nat.zero_add]⟩, ?_⟩)
      have h1 : ¬ j = i := fun e => hij e.symm
      have h1' : ¬ j = i + 1 := fun e => hij1 e.symm
      by_cases h2 : j + 1 = i
      · have h3 := okS_of ho h2 hj
        have h4 : ¬ (tv w).category = 2 := by rw [tv_cat2, h3]; simp
        simp [h1, h1', h4]
      · simp [h1, h1', h2]
/-! the classes whose objects the heap holds, by their places; what a field is -/
abbrev hk_cls : List vw_C := [(RX1, TX1, 2), (RX2, TX2, 15), (RX3, TX3, 3), (RX4, TX4, 2), (RX5, TX5, 7), (RX6, TX6, 5), (RX7, TX7, 6), (RX8, TX8, 3), (RX9, TX9, 11), (RX10, TX10, 7), (RX10, TX10, 7)]
def hk_ty (ci : Nat) : Nat → FieldType := match ci with
  | 0 => tyX1 | 1 => tyX2 | 2 => tyX3 | 3 => tyX4 | 4 => tyX5 | 5 => tyX6 | 6 => tyX7 | 7 => tyX8 | 8 => tyX9 | _ => tyX10
def hk_N (ci : Nat) : Nat := match ci with
  | 0 => 2 | 1 => 15 | 2 => 3 | 3 => 2 | 4 => 7 | 5 => 5 | 6 => 6 | 7 => 3 | 8 => 11 | 9 => 7 | 10 => 7 | _ => 0
def ty_rf : FieldType → Bool
  | .object _ => true
  | .array _ => true
  | _ => false
def hk_rf (ci k : Nat) : Bool := ty_rf (hk_ty ci k)
/-- next cell; kind and length of a cell (0 none, 1 + ci an object, 20 int[], 21 boolean[], 22 Element[], 23 Codes[], 24 long[]); ints; references; longs -/
abbrev hp : Type := Nat × (Nat → Nat × Nat) × (Nat → Nat → Int32) × (Nat → Nat → Option Nat) × (Nat → Nat → Int64)
def hN (h : hp) : Nat := h.1
def hT (h : hp) (a : Nat) : Nat × Nat := h.2.1 a
def hI (h : hp) (a k : Nat) : Int32 := h.2.2.1 a k
def hR (h : hp) (a k : Nat) : Option Nat := h.2.2.2.1 a k
def hJ (h : hp) (a k : Nat) : Int64 := h.2.2.2.2 a k
def up2 {α : Type} (f : Nat → Nat → α) (a k : Nat) (v : α) : Nat → Nat → α := fun b j => if b = a then (if j = k then v else f b j) else f b j
def wI (h : hp) (a k : Nat) (v : Int32) : hp := (h.1, h.2.1, up2 h.2.2.1 a k v, h.2.2.2.1, h.2.2.2.2)
def wR (h : hp) (a k : Nat) (v : Option Nat) : hp := (h.1, h.2.1, h.2.2.1, up2 h.2.2.2.1 a k v, h.2.2.2.2)
def wJ (h : hp) (a k : Nat) (v : Int64) : hp := (h.1, h.2.1, h.2.2.1, h.2.2.2.1, up2 h.2.2.2.2 a k v)
/-- a new cell of a kind and a length at the next address, all its parts 0 or null -/
def wN (h : hp) (t : Nat × Nat) : hp := (h.1 + 1, (fun b => if b = h.1 then t else h.2.1 b), (fun b j => if b = h.1 then 0 else h.2.2.1 b j), (fun b j => if b = h.1 then none else h.2.2.2.1 b j), (fun b j => if b = h.1 then 0 else h.2.2.2.2 b j))
/-- later cells are somebody else's -/
def wS (h : hp) (n : Nat) : hp := (n, h.2)
def flds (h : hp) (ci a : Nat) : List Value := (List.range (hk_N ci)).map (fun k => if hk_rf ci k = true then va_rf (hR h a k) else .int (hI h a k))
def enc (cT : Nat → ClassId) (h : hp) (a : Nat) : va_E :=
  if (hT h a).1 = 20 then .inl (cT 20, (hT h a).2, .inl (hI h a))
  else if (hT h a).1 = 21 then .inl (cT 21, (hT h a).2, .inl (hI h a))
  else if (hT h a).1 = 22 then .inl (cT 22, (hT h a).2, .inr (.inr (.inr (.inr (hR h a)))))
  else if (hT h a).1 = 23 then .inl (cT 23, (hT h a).2, .inr (.inr (.inr (.inr (hR h a)))))
  else if (hT h a).1 = 24 then .inl (cT 24, (hT h a).2, .inr (.inl (hJ h a)))
  else .inr ((hT h a).1 - 1, flds h ((hT h a).1 - 1) a)
/-- what a whole run keeps: the launch, where classes and their fields lie, array classes, where the heap of the run begins, where texts and their bytes and the table of letters lie -/
abbrev gG : Type := Launch × va_G × (Nat → ClassId) × Nat × (Nat → Nat) × (Nat → Nat) × Nat × (Nat × Nat × (Nat → Int32))
def gl (G : gG) : Launch := G.1
def gD (G : gG) : va_G := G.2.1
def gc (G : gG) : Nat → ClassId := G.2.2.1
def gb (G : gG) : Nat := G.2.2.2.1
def ga (G : gG) : Nat → Nat := G.2.2.2.2.1
def gv (G : gG) : Nat → Nat := G.2.2.2.2.2.1
def gt (G : gG) : Nat := G.2.2.2.2.2.2.1
/-- the script: its cell, its length, its ints -/
def gxb (G : gG) : Nat := G.2.2.2.2.2.2.2.1
def gxL (G : gG) : Nat := G.2.2.2.2.2.2.2.2.1
def gxx (G : gG) : Nat → Int32 := G.2.2.2.2.2.2.2.2.2
def Rep (G : gG) (h : hp) (H : Heap) : Prop := H.size = hN h ∧ ∀ a : Nat, (hT h a).1 ≠ 0 → gb G ≤ a ∧ va_at (gD G) hk_cls (a, enc (gc G) h a) H
def gA (G : gG) : Nat → Prop := fun q => gb G ≤ q

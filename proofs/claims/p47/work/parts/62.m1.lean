/-! ===== the store bears the desk; chains of parents ===== -/
def TxA (m : mm) (f fl w i : Nat) (l : List Int32) : Prop := m fl i = nI l.length ∧ Sl (m f) (w * i) l
def plain (k : Nat) : Bool := decide (k ∈ [0, 1, 2, 3, 10, 11, 12, 13, 14, 15, 20, 21, 22, 23, 24, 25, 26, 27, 38, 41, 42, 43, 44, 45, 46, 48])
def qn (q : List (List Int32)) (j : Nat) : List Int32 := q.getD j []
def RQ (m : mm) (f fl c : Nat) (q : List (List Int32)) : Prop := m c 0 = nI q.length ∧ ∀ j, j < q.length → TxA m f fl 100 j (qn q j)
def RKd (m : mm) (i : Nat) (l : List Nat) : Prop := m 5 i = nI l.length ∧ (∀ k, k < l.length → m 4 (10 * i + k) = nI (gn l k)) ∧ l.length ≤ 10
def RM (S : SS) (m : mm) : Prop :=
  (∀ k, plain k = true → m k = S.1 k) ∧ (∀ i, i < 40 → TxA m 6 7 12 i (sL S 6 i)) ∧ (∀ i, i < 40 → TxA m 8 9 12 i (sL S 8 i)) ∧ (∀ i, i < 40 → TxA m 17 16 100 i (sL S 17 i)) ∧
  TxA m 18 19 12 0 (sL S 18 0) ∧ TxA m 33 34 100 0 (sL S 33 0) ∧ TxA m 39 40 100 0 (sL S 39 0) ∧ RQ m 30 31 32 (sQ S 30) ∧ RQ m 35 36 37 (sQ S 35) ∧ (∀ i, i < 40 → RKd m i (sK S i)) ∧ ∀ k, k < 10 → m 47 k = ptsN k
theorem RM.p {S : SS} {m : mm} (h : RM S m) (k : Nat) (hk : plain k = true) (i : Nat) : m k i = sI S k i := by
  rw [h.1 k hk]; rfl
theorem TxA.sm {m m' : mm} {f fl w i : Nat} {l : List Int32} (h : TxA m f fl w i l) (h1 : m' f = m f) (h2 : m' fl = m fl) : TxA m' f fl w i l := by
  unfold TxA at *
  rw [h1, h2]; exact h
theorem RQ.sm {m m' : mm} {f fl c : Nat} {q : List (List Int32)} (h : RQ m f fl c q) (h1 : m' f = m f) (h2 : m' fl = m fl) (h3 : m' c = m c) : RQ m' f fl c q := by
  refine ⟨by rw [h3]; exact h.1, fun j hj => (h.2 j hj).sm h1 h2⟩
theorem RKd.sm {m m' : mm} {i : Nat} {l : List Nat} (h : RKd m i l) (h1 : m' 4 = m 4) (h2 : m' 5 = m 5) : RKd m' i l := by
  unfold RKd at *
  rw [h1, h2]; exact h
/-- fields of no account: text, its length, order, its length, stack, line, its length -/
def scr : List Nat := [28, 29, 49, 50, 51, 52, 53]
theorem RM.sm {S : SS} {m m' : mm} (h : RM S m) (hs : Sm scr m m') : RM S m' := by
  obtain ⟨h1, h2, h3, h4, h5, h6, h7, h8, h9, h10, h11⟩ := h
  have e : ∀ k, decide (k ∉ scr) = true → m' k = m k := fun k hk => hs.at k hk
  refine ⟨fun k hk => ?_, fun i hi => (h2 i hi).sm (e 6 rfl) (e 7 rfl), fun i hi => (h3 i hi).sm (e 8 rfl) (e 9 rfl), fun i hi => (h4 i hi).sm (e 17 rfl) (e 16 rfl), h5.sm (e 18 rfl) (e 19 rfl), h6.sm (e 33 rfl) (e 34 rfl), h7.sm (e 39 rfl) (e 40 rfl), h8.sm (e 30 rfl) (e 31 rfl) (e 32 rfl), h9.sm (e 35 rfl) (e 36 rfl) (e 37 rfl), fun i hi => (h10 i hi).sm (e 4 rfl) (e 5 rfl), fun k hk => by rw [e 47 rfl]; exact h11 k hk⟩
  rw [← h1 k hk]
  refine hs k (fun hm => ?_)
  have : ∀ k, k ∈ scr → plain k = false := by decide
  rw [this k hm] at hk
  cases hk
/-! chains of parents -/
def PW (S : SS) : Prop := 1 ≤ made S ∧ made S ≤ 40 ∧ sI S 0 0 = nI (made S) ∧ sI S 3 0 = -1 ∧ ∀ i, 0 < i → i < made S → ∃ p, p < i ∧ sI S 3 i = nI p
theorem PW.par {S : SS} (h : PW S) {i : Nat} (h0 : 0 < i) (hi : i < made S) : dpar S i < i ∧ sI S 3 i = nI (dpar S i) := by
  obtain ⟨p, h1, h2⟩ := h.2.2.2.2 i h0 hi
  have := h.2.1
  unfold dpar
  rw [h2, nI_clamp (by omega)]
  exact ⟨h1, rfl⟩
theorem anc_f {S : SS} (h : PW S) : ∀ (i f f' : Nat), i < made S → i < f → i < f' → anc S f i = anc S f' i := by
  intro i
  induction i using Nat.strongRecOn with
  | _ i ih =>
    intro f f' hi hf hf'
    obtain ⟨f, rfl⟩ : ∃ g, f = g + 1 := ⟨f - 1, by omega⟩
    obtain ⟨f', rfl⟩ : ∃ g, f' = g + 1 := ⟨f' - 1, by omega⟩
    show i :: _ = i :: _
    congr 1
    by_cases h0 : i = 0
    · subst h0
      rw [if_pos h.2.2.2.1, if_pos h.2.2.2.1]
    · obtain ⟨h1, h2⟩ := h.par (by omega) hi
      have := h.2.1
      rw [if_neg (by rw [h2]; exact nI_m1 (by omega)), if_neg (by rw [h2]; exact nI_m1 (by omega))]
      exact ih _ h1 f f' (by omega) (by omega) (by omega)
theorem an_0 {S : SS} (h : PW S) : an S 0 = [0] := by
  show 0 :: (if sI S 3 0 = -1 then [] else _) = _
  rw [if_pos h.2.2.2.1]
theorem an_s {S : SS} (h : PW S) {i : Nat} (h0 : 0 < i) (hi : i < made S) : an S i = i :: an S (dpar S i) := by
  obtain ⟨h1, h2⟩ := h.par h0 hi
  have := h.2.1
  show i :: (if sI S 3 i = -1 then [] else anc S 39 (dpar S i)) = _
  rw [if_neg (by rw [h2]; exact nI_m1 (by omega))]
  exact congrArg (List.cons i) (anc_f h _ 39 40 (by omega) (by omega) (by omega))
theorem an_mem {S : SS} (h : PW S) : ∀ {i : Nat}, i < made S → ∀ j ∈ an S i, j ≤ i := by
  intro i
  induction i using Nat.strongRecOn with
  | _ i ih =>
    intro hi j hj
    by_cases h0 : i = 0
    · subst h0
      rw [an_0 h] at hj
      simp at hj
      omega
    · rw [an_s h (by omega) hi] at hj
      obtain ⟨h1, h2⟩ := h.par (by omega) hi
      rcases List.mem_cons.mp hj with e | hj
      · omega
      · have := ih _ h1 (by omega) j hj
        omega
/-- going up the parents: what is said of the screen's end and of each step holds -/
theorem an_ind {S : SS} (h : PW S) {X : Nat → Prop} (h0 : X 0) (hs : ∀ i, 0 < i → i < made S → X (dpar S i) → X i) : ∀ i, i < made S → X i := by
  intro i
  induction i using Nat.strongRecOn with
  | _ i ih =>
    intro hi
    by_cases e : i = 0
    · subst e; exact h0
    · obtain ⟨h1, h2⟩ := h.par (by omega) hi
      exact hs i (by omega) hi (ih _ h1 (by omega))
theorem shn_0 {S : SS} (h : PW S) : shn S 0 = !hid S 0 := by
  unfold shn; rw [an_0 h]; simp
theorem shn_s {S : SS} (h : PW S) {i : Nat} (h0 : 0 < i) (hi : i < made S) : shn S i = (!hid S i && shn S (dpar S i)) := by
  unfold shn; rw [an_s h h0 hi, List.all_cons]
theorem lvl_0 {S : SS} (h : PW S) : lvl S 0 = if sI S 13 0 = -1 then 1 else sI S 13 0 := by
  unfold lvl
  rw [an_0 h, List.find?_cons]
  by_cases e : sI S 13 0 = -1
  · rw [if_pos e, decide_eq_false (fun z => z e)]; rfl
  · rw [if_neg e, decide_eq_true e]; rfl
theorem lvl_s {S : SS} (h : PW S) {i : Nat} (h0 : 0 < i) (hi : i < made S) : lvl S i = if sI S 13 i = -1 then lvl S (dpar S i) else sI S 13 i := by
  unfold lvl
  rw [an_s h h0 hi, List.find?_cons]
  by_cases e : sI S 13 i = -1
  · rw [if_pos e, decide_eq_false (fun z => z e)]
  · rw [if_neg e, decide_eq_true e]; rfl
def rgnU (S : SS) (i : Nat) : Option Nat := (an S i).find? (fun j => decide (sI S 2 j = 7))
theorem rgn_0 {S : SS} (h : PW S) : rgn S 0 = none := by
  unfold rgn; rw [an_0 h]; rfl
theorem rgn_s {S : SS} (h : PW S) {i : Nat} (h0 : 0 < i) (hi : i < made S) : rgn S i = rgnU S (dpar S i) := by
  unfold rgn rgnU; rw [an_s h h0 hi, List.tail_cons]
theorem rgnU_0 {S : SS} (h : PW S) : rgnU S 0 = if sI S 2 0 = 7 then some 0 else none := by
  unfold rgnU
  rw [an_0 h, List.find?_cons]
  by_cases e : sI S 2 0 = 7
  · rw [if_pos e, decide_eq_true e]
  · rw [if_neg e, decide_eq_false e]; rfl
theorem rgnU_s {S : SS} (h : PW S) {i : Nat} (h0 : 0 < i) (hi : i < made S) : rgnU S i = if sI S 2 i = 7 then some i else rgnU S (dpar S i) := by
  unfold rgnU
  rw [an_s h h0 hi, List.find?_cons]
  by_cases e : sI S 2 i = 7
  · rw [if_pos e, decide_eq_true e]
  · rw [if_neg e, decide_eq_false e]
/-! the reference's loops over them -/
def rI (o : Option Nat) : Int32 := match o with
  | some i => nI i
  | none => -1
def bI (b : Bool) : Int32 := if b = true then 1 else 0
theorem bI_01 (b : Bool) : bI b = 0 ∨ bI b = 1 := by cases b <;> simp [bI]
section MC
variable {S : SS} {m : mm}
theorem RM.par0 (hM : RM S m) (h : PW S) : m 3 0 = -1 := by rw [hM.p 3 rfl]; exact h.2.2.2.1
end MC

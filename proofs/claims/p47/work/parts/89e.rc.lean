/-! ===== the class's cells bear the desk ===== -/
/-- what the class's fixed objects are (by their places behind the desk's), and what they point at for ever -/
def fxT : List (Nat × Nat) := [(0, 10), (1, 7), (12, 9), (13, 4), (27, 4), (76, 6), (79, 5), (80, 3), (85, 8)]
def fxA : List (Nat × Nat × Nat) := [(10, 22, 40), (11, 22, 40), (14, 23, 6), (28, 23, 21), (75, 20, 100)]
def fxP : List (Nat × Nat × Nat) := [(0, 0, 1), (0, 1, 12), (0, 2, 76), (0, 3, 79), (0, 4, 88), (1, 0, 2), (1, 1, 10), (1, 4, 11), (12, 0, 13), (12, 1, 27), (12, 2, 71), (12, 5, 73), (12, 8, 75), (13, 0, 14), (27, 0, 28), (76, 0, 1), (76, 1, 12), (76, 2, 77), (79, 0, 1), (79, 1, 12), (79, 2, 80), (79, 3, 85), (79, 4, 86), (80, 0, 81), (80, 1, 83)]
def FX (B : Nat) (h : hp) : Prop := (∀ p ∈ fxT, (hT h (B + p.1)).1 = p.2) ∧ (∀ p ∈ fxA, hT h (B + p.1) = p.2) ∧ ∀ p ∈ fxP, hR h (B + p.1) p.2.1 = some (B + p.2.2)
/-- numbers of fixed objects: place, field, the desk's field -/
def fxI : List (Nat × Nat × Nat) := [(0, 5, 26), (76, 3, 46), (76, 4, 45), (80, 2, 25), (85, 0, 22), (12, 7, 38), (12, 9, 43), (12, 10, 44)]
def FI (B : Nat) (S : SS) (h : hp) : Prop := (∀ p ∈ fxI, hI h (B + p.1) p.2.1 = sI S p.2.2 0) ∧ (sI S 22 0 ≠ 0 → hI h (B + 85) 1 = sI S 23 0 ∧ hI h (B + 85) 2 = sI S 24 0) ∧ (sI S 26 0 ≠ 0 → hI h B 6 = sI S 27 0) ∧ ∀ k, k < 100 → hI h (B + 75) k = sI S 42 k
/-- where the elements lie -/
def EA (B : Nat) (E : Nat → Nat) (n N : Nat) : Prop := E 0 = B + 2 ∧ B + 96 ≤ N ∧ (∀ i, 0 < i → i < n → B + 96 ≤ E i ∧ E i + 8 ≤ N) ∧ ∀ i j, i < j → 0 < i → j < n → E i + 8 ≤ E j
def capC (S : SS) (i : Nat) : Nat := if sI S 2 i = 4 then 12 else 0
def capK (S : SS) (i : Nat) : Nat := if sI S 2 i = 7 then 80 else 0
/-- the element i at e -/
def EI (S : SS) (i e : Nat) (h : hp) : Prop := hI h e 0 = nI i ∧ hI h e 1 = sI S 2 i ∧ hI h e 7 = sI S 12 i ∧ hI h e 8 = sI S 10 i ∧ hI h e 9 = sI S 11 i ∧ hI h e 10 = sI S 13 i ∧ (sI S 2 i = 7 → hI h e 11 = sI S 14 i) ∧ hI h e 4 = nI (sK S i).length ∧ (sI S 2 i = 7 → if sI S 15 i = -1 then hI h e 13 = 0 else hI h e 13 = 1 ∧ hI h e 14 = sI S 15 i)
def ER (S : SS) (E : Nat → Nat) (i e : Nat) (h : hp) : Prop := hR h e 2 = (if i = 0 then none else some (E (dpar S i))) ∧ hR h e 3 = some (e + 1) ∧ hR h e 5 = some (e + 2) ∧ hR h e 6 = some (e + 4) ∧ hR h e 12 = some (e + 6) ∧ ∀ k, k < (sK S i).length → hR h (e + 1) k = some (E (gn (sK S i) k))
def EL (S : SS) (E : Nat → Nat) (i : Nat) (h : hp) : Prop := (hT h (E i)).1 = 2 ∧ hT h (E i + 1) = (22, 10) ∧ EI S i (E i) h ∧ ER S E i (E i) h ∧ Cd h (E i + 2) 12 (sL S 6 i) ∧ Cd h (E i + 4) (capC S i) (sL S 8 i) ∧ Cd h (E i + 6) (capK S i) (sL S 17 i)
/-- the tree's rows -/
def TR (B : Nat) (S : SS) (E : Nat → Nat) (h : hp) : Prop := hI h (B + 1) 2 = nI (made S) ∧ hI h (B + 1) 3 = nI (nTh S) ∧ (∀ i, i < made S → hR h (B + 10) i = (if sI S 1 i = 0 then none else some (E i))) ∧ (∀ i, made S ≤ i → i < 40 → hR h (B + 10) i = none)
def TO (B : Nat) (l : List Nat) (E : Nat → Nat) (h : hp) : Prop := hI h (B + 1) 5 = nI l.length ∧ ∀ k, k < l.length → hR h (B + 11) k = some (E (gn l k))
/-- a queue: its object, its row (of n), its texts (from c on), in the order p -/
def QU (o r c n : Nat) (p : Nat → Nat) (q : List (List Int32)) (h : hp) : Prop := hI h o 1 = nI q.length ∧ q.length ≤ n ∧ (∀ j, j < n → p j < n ∧ hR h r j = some (c + 2 * p j)) ∧ (∀ i j, i < n → j < n → p i = p j → i = j) ∧ (∀ j, j < n → ∃ l, Cd h (c + 2 * p j) 80 l) ∧ ∀ j, j < q.length → Cd h (c + 2 * p j) 80 (qn q j)
/-- a text whose end from k on is told: it begins a word, or with a gap -/
def SX (l : List Int32) (k : Nat) (t : List Int32) : Prop := k ≤ l.length ∧ t = l.drop k ∧ (k = 0 ∨ ge l (k - 1) = 32 ∨ ge l k = 32)
def VO (B : Nat) (S : SS) (h : hp) : Prop :=
  (∃ p, QU (B + 13) (B + 14) (B + 15) 6 p (sQ S 30) h) ∧ (∃ p, QU (B + 27) (B + 28) (B + 29) 21 p (sQ S 35) h) ∧
  (∃ l k, Cd h (B + 71) 80 l ∧ (if (sL S 33 0).length = 0 then hI h (B + 12) 4 = 0 else hI h (B + 12) 4 = 1 ∧ hI h (B + 12) 3 = nI k ∧ SX l k (sL S 33 0))) ∧
  ∃ l k, Cd h (B + 73) 80 l ∧ (sI S 38 0 ≠ -1 → SX l k (sL S 39 0) ∧ hI h (B + 12) 6 = nI k + sI S 41 0 ∧ (sI S 38 0 ≠ 1 → k = 0))
theorem FX.t {B : Nat} {h : hp} (x : FX B h) (o t : Nat) (hm : (o, t) ∈ fxT) : (hT h (B + o)).1 = t := x.1 (o, t) hm
theorem FX.a {B : Nat} {h : hp} (x : FX B h) (o t n : Nat) (hm : (o, t, n) ∈ fxA) : hT h (B + o) = (t, n) := x.2.1 (o, t, n) hm
theorem FX.p {B : Nat} {h : hp} (x : FX B h) (o f q : Nat) (hm : (o, f, q) ∈ fxP) : hR h (B + o) f = some (B + q) := x.2.2 (o, f, q) hm
theorem FI.n {B : Nat} {S : SS} {h : hp} (x : FI B S h) (o f k : Nat) (hm : (o, f, k) ∈ fxI) : hI h (B + o) f = sI S k 0 := x.1 (o, f, k) hm
theorem hgR {h : hp} {a ci j : Nat} {r : Option Nat} (ht : (hT h a).1 = ci + 1) (hr : hR h a j = r) : oGR ci j (some a) h = some r := by
  show (if (hT h a).1 = ci + 1 then some (hR h a j) else none) = _
  rw [ht, if_pos rfl, hr]
theorem hgI {h : hp} {a ci j : Nat} {v : Int32} (ht : (hT h a).1 = ci + 1) (hr : hI h a j = v) : oGI ci j (some a) h = some v := by
  show (if (hT h a).1 = ci + 1 then some (hI h a j) else none) = _
  rw [ht, if_pos rfl, hr]
theorem hgO {h : hp} {a ci : Nat} (ht : (hT h a).1 = ci + 1) : oOb ci (some a) h = some a := by
  show (if (hT h a).1 = ci + 1 then some a else none) = _
  rw [if_pos ht]
theorem hgA {h : hp} {a kd n i : Nat} (ht : hT h a = (kd, n)) (hi : i < n) (hn : n < 2 ^ 31) : oAL kd (some a) (nI i) h = some (hR h a i) := by
  show (if (hT h a).1 = kd ∧ inb (nI i) (hT h a).2 = true then some (hR h a (nI i).toNatClampNeg) else none) = _
  rw [ht, if_pos ⟨rfl, inb_nI hi hn⟩, nI_clamp (by omega)]
theorem hgL {h : hp} {a kd n : Nat} (ht : hT h a = (kd, n)) (hk : 20 ≤ kd ∧ kd ≤ 24) : oLen (some a) h = some (nI n) := by
  show (if 20 ≤ (hT h a).1 ∧ (hT h a).1 ≤ 24 then some (nI (hT h a).2) else none) = _
  rw [ht, if_pos hk]

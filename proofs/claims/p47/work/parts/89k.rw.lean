/-! ===== the class's cells in the midst of a call: the line and the order may be those of before ===== -/
def RDp (B : Nat) (S : SS) (E : Nat → Nat) (h : hp) : Prop := hR h (B + 79) 5 = some (E (cur S)) ∧ hR h (B + 79) 6 = (if sI S 21 0 = -1 then none else some (E (nth (sI S 21 0))))
def ST (B : Nat) (h : hp) : Prop := (∃ l, Cd h (B + 77) 80 l) ∧ (∃ l, Cd h (B + 86) 80 l) ∧ ∃ l, Cd h (B + 83) 64 l
/-- what the law's arrays hold: ints and longs by the array's place (n, e, c, t, m, w) and index -/
abbrev LY : Type := (Nat → Nat → Int32) × (Nat → Nat → Int64)
def lT (j : Nat) : Nat × Nat := if j = 0 then (20, 7) else if j = 1 then (20, 60) else if j = 2 then (24, 10) else if j = 3 then (24, 20) else if j = 4 then (20, 10) else (20, 64)
def dJ (a b : Int32) : Int64 := Int64.ofBitVec (BitVec.ofNat 64 (a.toBitVec.toNat * 4294967296 + b.toBitVec.toNat))
def eH (x : Int64) : Int32 := Int32.ofBitVec (BitVec.ofNat 32 (x.toBitVec.toNat / 4294967296))
def eLo (x : Int64) : Int32 := Int32.ofBitVec (BitVec.ofNat 32 x.toBitVec.toNat)
theorem dJ_e (x : Int64) : dJ (eH x) (eLo x) = x := by
  apply Int64.toBitVec_inj.mp
  apply BitVec.eq_of_toNat_eq
  have h := x.toBitVec.isLt
  show (BitVec.ofNat 64 ((BitVec.ofNat 32 (x.toBitVec.toNat / 4294967296)).toNat * 4294967296 + (BitVec.ofNat 32 x.toBitVec.toNat).toNat)).toNat = x.toBitVec.toNat
  rw [BitVec.toNat_ofNat, BitVec.toNat_ofNat, BitVec.toNat_ofNat]
  omega
def lSt (S : SS) : LY := (fun j k => sI S (1000 + j) k, fun j k => dJ (sI S (1010 + j) k) (sI S (1020 + j) k))
def PD (B : Nat) (S : SS) (h : hp) : Prop := ∀ j, j < 6 → hT h (B + 90 + j) = lT j ∧ (∀ k, hI h (B + 90 + j) k = (lSt S).1 j k) ∧ ∀ k, hJ h (B + 90 + j) k = (lSt S).2 j k
theorem Sd.big {ki kl kq : List Nat} {S S' : SS} (h : Sd ki kl kq S S') (h1 : ki.all (fun k => decide (k < 1000)) = true) : ∀ k, 1000 ≤ k → sI S' k = sI S k := fun k hk => h.1 k (fun z => by
  have := of_decide_eq_true (List.all_eq_true.mp h1 k z)
  omega)
theorem PD.ag {B : Nat} {S S' : SS} {h h' : hp} {as : List Nat} (x : PD B S h) (y : Ag as h h') (ha : ∀ a ∈ as, a < B + 90 ∨ B + 96 ≤ a) (hs : ∀ k, 1000 ≤ k → sI S' k = sI S k) : PD B S' h' := by
  intro j hj
  have nn : B + 90 + j ∉ as := fun z => by have := ha _ z; omega
  have e1 : (lSt S').1 j = (lSt S).1 j := by
    show sI S' (1000 + j) = sI S (1000 + j)
    rw [hs _ (by omega)]
  have e2 : (lSt S').2 j = (lSt S).2 j := by
    funext k
    show dJ (sI S' (1010 + j) k) (sI S' (1020 + j) k) = dJ (sI S (1010 + j) k) (sI S (1020 + j) k)
    rw [hs _ (by omega), hs _ (by omega)]
  obtain ⟨x1, x2, x3⟩ := x j hj
  refine ⟨by rw [y.T]; exact x1, fun k => by rw [y.I nn, e1]; exact x2 k, fun k => ?_⟩
  rw [e2]
  have : hJ h' (B + 90 + j) k = hJ h (B + 90 + j) k := by unfold hJ; rw [y.2.2.1]
  rw [this]
  exact x3 k
def RW (B : Nat) (E : Nat → Nat) (S : SS) (li : List Int32) (od : List Nat) (h : hp) : Prop := FX B h ∧ EA B E (made S) (hN h) ∧ FI B S h ∧ (∀ i, i < made S → EL S E i h) ∧ TR B S E h ∧ TO B od E h ∧ VO B S h ∧ RDp B S E h ∧ ST B h ∧ Cd h (B + 81) 64 li ∧ Cd h (B + 88) 12 (sL S 18 0) ∧ PD B S h
def RC (B : Nat) (E : Nat → Nat) (S : SS) (h : hp) : Prop := RW B E S (ln S) (ord S) h
theorem FX.ag {B : Nat} {h h' : hp} {as : List Nat} (x : FX B h) (y : Ag as h h') (ha : ∀ a ∈ as, ∀ p ∈ fxP, a ≠ B + p.1) : FX B h' :=
  ⟨fun p hp => by rw [y.T]; exact x.1 p hp, fun p hp => by rw [y.T]; exact x.2.1 p hp, fun p hp => by rw [y.R (fun z => ha _ z p hp rfl)]; exact x.2.2 p hp⟩
theorem FI.ag {B : Nat} {S : SS} {h h' : hp} {as : List Nat} (x : FI B S h) (y : Ag as h h') (ha : ∀ a ∈ as, a ≠ B ∧ a ≠ B + 76 ∧ a ≠ B + 80 ∧ a ≠ B + 85 ∧ a ≠ B + 12 ∧ a ≠ B + 75) : FI B S h' := by
  have n0 : B ∉ as := fun z => (ha _ z).1 rfl
  have n85 : B + 85 ∉ as := fun z => (ha _ z).2.2.2.1 rfl
  have n75 : B + 75 ∉ as := fun z => (ha _ z).2.2.2.2.2 rfl
  obtain ⟨a1, a2, a3, a4⟩ := x
  refine ⟨fun p hp => ?_, fun z => by rw [y.I n85]; exact a2 z, fun z => by rw [y.I n0]; exact a3 z, fun k hk => by rw [y.I n75]; exact a4 k hk⟩
  have : B + p.1 ∉ as := by
    intro z
    have h1 := ha _ z
    have h2 : ∀ p ∈ fxI, p.1 = 0 ∨ p.1 = 76 ∨ p.1 = 80 ∨ p.1 = 85 ∨ p.1 = 12 := by decide
    rcases h2 p hp with e | e | e | e | e <;> rw [e] at h1 <;> omega
  rw [y.I this]
  exact a1 p hp
theorem QU.ag {o r c n : Nat} {p : Nat → Nat} {q : List (List Int32)} {h h' : hp} {as : List Nat} (x : QU o r c n p q h) (y : Ag as h h') (ha : ∀ a ∈ as, a ≠ o ∧ a ≠ r ∧ (a < c ∨ c + 2 * n ≤ a)) : QU o r c n p q h' := by
  obtain ⟨a1, a2, a3, a4, a5, a6⟩ := x
  have no : o ∉ as := fun z => (ha _ z).1 rfl
  have nr : r ∉ as := fun z => (ha _ z).2.1 rfl
  have nc : ∀ j, j < n → c + 2 * p j ∉ as ∧ c + 2 * p j + 1 ∉ as := fun j hj => by
    have := (a3 j hj).1
    exact ⟨fun z => by have := (ha _ z).2.2; omega, fun z => by have := (ha _ z).2.2; omega⟩
  refine ⟨by rw [y.I no]; exact a1, a2, fun j hj => by rw [y.R nr]; exact a3 j hj, a4, fun j hj => ?_, fun j hj => ?_⟩
  · obtain ⟨l, hl⟩ := a5 j hj
    exact ⟨l, hl.ag y (nc j hj).1 (nc j hj).2⟩
  · exact (a6 j hj).ag y (nc j (by omega)).1 (nc j (by omega)).2
theorem VO.ag {B : Nat} {S : SS} {h h' : hp} {as : List Nat} (x : VO B S h) (y : Ag as h h') (ha : ∀ a ∈ as, a < B + 12 ∨ B + 76 ≤ a) : VO B S h' := by
  obtain ⟨⟨p, a1⟩, ⟨p2, a2⟩, ⟨l, k, b1, b2⟩, ⟨l2, k2, c1, c2⟩⟩ := x
  have n12 : B + 12 ∉ as := fun z => by have := ha _ z; omega
  refine ⟨⟨p, a1.ag y (fun a z => by have := ha a z; omega)⟩, ⟨p2, a2.ag y (fun a z => by have := ha a z; omega)⟩, ⟨l, k, b1.ag y (fun z => by have := ha _ z; omega) (fun z => by have := ha _ z; omega), by rw [y.I n12]; exact b2⟩, ⟨l2, k2, c1.ag y (fun z => by have := ha _ z; omega) (fun z => by have := ha _ z; omega), by rw [y.I n12]; exact c2⟩⟩
theorem TR.ag {B : Nat} {S : SS} {E : Nat → Nat} {h h' : hp} {as : List Nat} (x : TR B S E h) (y : Ag as h h') (ha : ∀ a ∈ as, a ≠ B + 1 ∧ a ≠ B + 10) : TR B S E h' := by
  have n1 : B + 1 ∉ as := fun z => (ha _ z).1 rfl
  have n2 : B + 10 ∉ as := fun z => (ha _ z).2 rfl
  unfold TR at *
  rw [y.I n1, y.R n2]; exact x
theorem TO.ag {B : Nat} {od : List Nat} {E : Nat → Nat} {h h' : hp} {as : List Nat} (x : TO B od E h) (y : Ag as h h') (ha : ∀ a ∈ as, a ≠ B + 1 ∧ a ≠ B + 11) : TO B od E h' := by
  have n1 : B + 1 ∉ as := fun z => (ha _ z).1 rfl
  have n2 : B + 11 ∉ as := fun z => (ha _ z).2 rfl
  unfold TO at *
  rw [y.I n1, y.R n2]; exact x
theorem RDp.ag {B : Nat} {S : SS} {E : Nat → Nat} {h h' : hp} {as : List Nat} (x : RDp B S E h) (y : Ag as h h') (ha : B + 79 ∉ as) : RDp B S E h' := by
  unfold RDp at *
  rw [y.R ha]; exact x
theorem EA.far {B : Nat} {E : Nat → Nat} {n N : Nat} (x : EA B E n N) {i a : Nat} (hi : i < n) (ha : B + 10 ≤ a) (hb : a < B + 90) : a < E i ∨ E i + 8 ≤ a := by
  rcases Nat.eq_zero_or_pos i with z | z
  · subst z
    have := x.1
    omega
  · have := (x.2.2.1 i z hi).1
    omega
section RWs
variable {B : Nat} {E : Nat → Nat} {S : SS} {li : List Int32} {od : List Nat} {h h' : hp}
theorem RW.es (x : RW B E S li od h) : ES S E h := ⟨x.2.2.2.1, x.2.1.inj⟩
theorem RW.out (x : RW B E S li od h) {b : Nat} (h1 : B + 10 ≤ b) (h2 : b + 1 < B + 90) : Out E (made S) b := fun j hj => by
  have u1 := x.2.1.far hj (a := b) h1 (by omega)
  have u2 := x.2.1.far hj (a := b + 1) (by omega) (by omega)
  omega
/-- a text for scratch is written anew -/
theorem RW.scr (x : RW B E S li od h) {b n : Nat} {l : List Int32} (y : Ag [b, b + 1] h h') (c : Cd h' b n l) (hb : (b = B + 77 ∧ n = 80) ∨ (b = B + 86 ∧ n = 80) ∨ (b = B + 83 ∧ n = 64)) : RW B E S li od h' := by
  obtain ⟨a1, a2, a3, a4, a5, a6, a7, a8, ⟨s1, s2, s3⟩, a10, a11, a12⟩ := x
  have hm : ∀ a ∈ [b, b + 1], (a = B + 77 ∨ a = B + 78) ∨ (a = B + 86 ∨ a = B + 87) ∨ (a = B + 83 ∨ a = B + 84) := by
    intro a ha
    simp only [List.mem_cons, List.not_mem_nil, or_false] at ha
    omega
  have nn : ∀ a, a ≠ B + 77 → a ≠ B + 78 → a ≠ B + 86 → a ≠ B + 87 → a ≠ B + 83 → a ≠ B + 84 → a ∉ [b, b + 1] := fun a q1 q2 q3 q4 q5 q6 z => by have := hm a z; omega
  refine ⟨a1.ag y (fun a ha p hp => ?_), by rw [y.1]; exact a2, a3.ag y (fun a ha => by have := hm a ha; omega), fun i hi => (a4 i hi).ag y (fun a ha => by have := hm a ha; exact a2.far hi (by omega) (by omega)), a5.ag y (fun a ha => by have := hm a ha; omega), a6.ag y (fun a ha => by have := hm a ha; omega), a7.ag y (fun a ha => by have := hm a ha; omega), a8.ag y (nn _ (by omega) (by omega) (by omega) (by omega) (by omega) (by omega)), ⟨?_, ?_, ?_⟩, a10.ag y (nn _ (by omega) (by omega) (by omega) (by omega) (by omega) (by omega)) (nn _ (by omega) (by omega) (by omega) (by omega) (by omega) (by omega)), a11.ag y (nn _ (by omega) (by omega) (by omega) (by omega) (by omega) (by omega)) (nn _ (by omega) (by omega) (by omega) (by omega) (by omega) (by omega)), a12.ag y (fun a ha => by have := hm a ha; omega) (fun _ _ => rfl)⟩
  · have h1 := hm a ha
    have h2 : ∀ p ∈ fxP, p.1 = 0 ∨ p.1 = 1 ∨ p.1 = 12 ∨ p.1 = 13 ∨ p.1 = 27 ∨ p.1 = 76 ∨ p.1 = 79 ∨ p.1 = 80 := by decide
    have := h2 p hp
    omega
  · rcases hb with ⟨rfl, rfl⟩ | ⟨rfl, rfl⟩ | ⟨rfl, rfl⟩
    · exact ⟨l, c⟩
    · obtain ⟨l', w⟩ := s1
      exact ⟨l', w.ag y (by simp) (by simp)⟩
    · obtain ⟨l', w⟩ := s1
      exact ⟨l', w.ag y (by simp) (by simp)⟩
  · rcases hb with ⟨rfl, rfl⟩ | ⟨rfl, rfl⟩ | ⟨rfl, rfl⟩
    · obtain ⟨l', w⟩ := s2
      exact ⟨l', w.ag y (by simp) (by simp)⟩
    · exact ⟨l, c⟩
    · obtain ⟨l', w⟩ := s2
      exact ⟨l', w.ag y (by simp) (by simp)⟩
  · rcases hb with ⟨rfl, rfl⟩ | ⟨rfl, rfl⟩ | ⟨rfl, rfl⟩
    · obtain ⟨l', w⟩ := s3
      exact ⟨l', w.ag y (by simp) (by simp)⟩
    · obtain ⟨l', w⟩ := s3
      exact ⟨l', w.ag y (by simp) (by simp)⟩
    · exact ⟨l, c⟩
/-- the line is written anew -/
theorem RW.lin (x : RW B E S li od h) {l : List Int32} (y : Ag [B + 81, B + 81 + 1] h h') (c : Cd h' (B + 81) 64 l) : RW B E S l od h' := by
  obtain ⟨a1, a2, a3, a4, a5, a6, a7, a8, ⟨⟨l1, s1⟩, ⟨l2, s2⟩, ⟨l3, s3⟩⟩, a10, a11, a12⟩ := x
  have hm : ∀ a ∈ [B + 81, B + 81 + 1], a = B + 81 ∨ a = B + 82 := by
    intro a ha
    simp only [List.mem_cons, List.not_mem_nil, or_false] at ha
    omega
  have nn : ∀ a, a ≠ B + 81 → a ≠ B + 82 → a ∉ [B + 81, B + 81 + 1] := fun a q1 q2 z => by have := hm a z; omega
  refine ⟨a1.ag y (fun a ha p hp => ?_), by rw [y.1]; exact a2, a3.ag y (fun a ha => by have := hm a ha; omega), fun i hi => (a4 i hi).ag y (fun a ha => by have := hm a ha; exact a2.far hi (by omega) (by omega)), a5.ag y (fun a ha => by have := hm a ha; omega), a6.ag y (fun a ha => by have := hm a ha; omega), a7.ag y (fun a ha => by have := hm a ha; omega), a8.ag y (nn _ (by omega) (by omega)), ⟨⟨l1, s1.ag y (nn _ (by omega) (by omega)) (nn _ (by omega) (by omega))⟩, ⟨l2, s2.ag y (nn _ (by omega) (by omega)) (nn _ (by omega) (by omega))⟩, ⟨l3, s3.ag y (nn _ (by omega) (by omega)) (nn _ (by omega) (by omega))⟩⟩, c, a11.ag y (nn _ (by omega) (by omega)) (nn _ (by omega) (by omega)), a12.ag y (fun a ha => by have := hm a ha; omega) (fun _ _ => rfl)⟩
  have h1 := hm a ha
  have h2 : ∀ p ∈ fxP, p.1 = 0 ∨ p.1 = 1 ∨ p.1 = 12 ∨ p.1 = 13 ∨ p.1 = 27 ∨ p.1 = 76 ∨ p.1 = 79 ∨ p.1 = 80 := by decide
  have := h2 p hp
  omega
end RWs

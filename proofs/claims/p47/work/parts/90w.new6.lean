/-! ===== the first desk, with the reference's cells behind ===== -/
def wml (S : SS) (m : LY) : SS := ((fun k i => if k < 1000 then S.1 k i else if k < 1010 then m.1 (k - 1000) i else if k < 1020 then eH (m.2 (k - 1010) i) else eLo (m.2 (k - 1020) i)), S.2)
def Lo (S S' : SS) : Prop := (∀ k, k < 1000 → sI S' k = sI S k) ∧ sL S' = sL S ∧ sQ S' = sQ S ∧ sK S' = sK S
theorem wm_lo (S : SS) (m : LY) : Lo S (wml S m) := ⟨fun k hk => funext fun i => if_pos hk, rfl, rfl, rfl⟩
theorem wm_1 (S : SS) (m : LY) {j : Nat} (hj : j < 6) (k : Nat) : (lSt (wml S m)).1 j k = m.1 j k := by
  show (if 1000 + j < 1000 then _ else if 1000 + j < 1010 then m.1 (1000 + j - 1000) k else _) = _
  rw [if_neg (by omega), if_pos (by omega), Nat.add_sub_cancel_left]
theorem wm_2 (S : SS) (m : LY) {j : Nat} (hj : j < 6) (k : Nat) : (lSt (wml S m)).2 j k = m.2 j k := by
  have a1 : sI (wml S m) (1010 + j) k = eH (m.2 j k) := by
    show (if 1010 + j < 1000 then _ else if 1010 + j < 1010 then _ else if 1010 + j < 1020 then eH (m.2 (1010 + j - 1010) k) else _) = _
    rw [if_neg (by omega), if_neg (by omega), if_pos (by omega), Nat.add_sub_cancel_left]
  have a2 : sI (wml S m) (1020 + j) k = eLo (m.2 j k) := by
    show (if 1020 + j < 1000 then _ else if 1020 + j < 1010 then _ else if 1020 + j < 1020 then _ else eLo (m.2 (1020 + j - 1020) k)) = _
    rw [if_neg (by omega), if_neg (by omega), if_neg (by omega), Nat.add_sub_cancel_left]
  show dJ (sI (wml S m) (1010 + j) k) (sI (wml S m) (1020 + j) k) = _
  rw [a1, a2, dJ_e]
def RW0 (B : Nat) (E : Nat → Nat) (S : SS) (li : List Int32) (od : List Nat) (h : hp) : Prop := FX B h ∧ EA B E (made S) (hN h) ∧ FI B S h ∧ (∀ i, i < made S → EL S E i h) ∧ TR B S E h ∧ TO B od E h ∧ VO B S h ∧ RDp B S E h ∧ ST B h ∧ Cd h (B + 81) 64 li ∧ Cd h (B + 88) 12 (sL S 18 0)
section LO
variable {B : Nat} {E : Nat → Nat} {S S' : SS} {li : List Int32} {od : List Nat} {h h' : hp}
theorem RW.to0 (x : RW B E S li od h) : RW0 B E S li od h := by
  obtain ⟨a1, a2, a3, a4, a5, a6, a7, a8, a9, a10, a11, a12⟩ := x
  exact ⟨a1, a2, a3, a4, a5, a6, a7, a8, a9, a10, a11⟩
theorem RW0.lo (x : RW0 B E S li od h) (l : Lo S S') (hp' : PD B S' h) : RW B E S' li od h := by
  obtain ⟨a1, a2, a3, a4, a5, a6, a7, a8, a9, a10, a11⟩ := x
  obtain ⟨l1, l2, l3, l4⟩ := l
  have e : ∀ k, decide (k < 1000) = true → sI S' k = sI S k := fun k hk => l1 k (of_decide_eq_true hk)
  refine ⟨a1, by rw [made_cg (e 0 rfl)]; exact a2, ⟨fun p hp => ?_, fun z => ?_, fun z => ?_, fun k hk => ?_⟩, fun i hi => ?_, a5.sd (e 0 rfl) (e 1 rfl), a6, a7.sd (fun k hk => l1 k ?_) (fun k _ => by rw [l2]) (fun k _ => by rw [l3]), a8.sd (e 20 rfl) (e 21 rfl), a9, a10, by rw [l2]; exact a11, hp'⟩
  · have : ∀ p ∈ fxI, p.2.2 < 1000 := by decide
    rw [l1 _ (this p hp)]
    exact a3.1 p hp
  · rw [e 22 rfl] at z
    rw [e 23 rfl, e 24 rfl]
    exact a3.2.1 z
  · rw [e 26 rfl] at z
    rw [e 27 rfl]
    exact a3.2.2.1 z
  · rw [e 42 rfl]
    exact a3.2.2.2 k hk
  · rw [made_cg (e 0 rfl)] at hi
    refine (a4 i hi).sd (fun k hk => l1 k ?_) (fun k _ => by rw [l2]) l4
    simp only [List.mem_cons, List.not_mem_nil, or_false] at hk
    omega
  · simp only [List.mem_cons, List.not_mem_nil, or_false] at hk
    omega
theorem ord_00 : ord S00 = [0] := by decide +kernel
theorem fin_RW0 (x : Fin0 B h) (hN1 : B + 96 ≤ hN h) : RW0 B (fun _ => B + 2) S00 (ln S00) [0] h := by
  obtain ⟨x1, ⟨d0, d1, d2, d3, d4⟩, c81, c88⟩ := x
  have t := fun i h1 h2 h3 => (x1 i h1 h2 h3).1
  have n := fun i h1 h2 h3 => (x1 i h1 h2 h3).2.1
  have r := fun i h1 h2 h3 => (x1 i h1 h2 h3).2.2
  have cd : ∀ i n0, i + 1 < 88 → 0 < i → i + 1 < 81 ∨ 82 < i → n0 < 1000 → (kDg i = ((1, 0), [], [(0, some (.inl (i + 1)))]) ∧ (kDg (i + 1)).1 = (20, n0)) → Cd h (B + i) n0 [] := fun i n0 h1 h2 h3 h4 hd => cd_tab (t i (by omega) (by omega) (by omega)) (n i (by omega) (by omega) (by omega)) (r i (by omega) (by omega) (by omega) (by omega)) (t (i + 1) h1 (by omega) (by omega)) h4 hd
  have m1 : made S00 = 1 := made_00
  refine ⟨⟨fun p hp => ?_, fun p hp => ?_, fun p hp => ?_⟩, ?_, ⟨fun p hp => ?_, fun z => absurd (by decide +kernel) z, fun z => absurd (by decide +kernel) z, fun k hk => ?_⟩, fun i hi => ?_, ⟨?_, ?_, fun i hi => ?_, fun i h1 h2 => ?_⟩, ⟨?_, fun k hk => ?_⟩, ⟨⟨fun j => j, ?_, Nat.zero_le _, fun j hj => ⟨hj, ?_⟩, fun i j _ _ q => q, fun j hj => ⟨[], ?_⟩, fun j hj => absurd hj (Nat.not_lt_zero j)⟩, ⟨fun j => j, ?_, Nat.zero_le _, fun j hj => ⟨hj, ?_⟩, fun i j _ _ q => q, fun j hj => ⟨[], ?_⟩, fun j hj => absurd hj (Nat.not_lt_zero j)⟩, ⟨[], 0, cd 71 80 (by decide) (by decide) (by decide) (by decide) (by decide +kernel), ?_⟩, ⟨[], 0, cd 73 80 (by decide) (by decide) (by decide) (by decide) (by decide +kernel), fun z => absurd (by decide +kernel) z⟩⟩, ⟨?_, ?_⟩, ⟨⟨[], cd 77 80 (by decide) (by decide) (by decide) (by decide) (by decide +kernel)⟩, ⟨[], cd 86 80 (by decide) (by decide) (by decide) (by decide) (by decide +kernel)⟩, ⟨[], cd 83 64 (by decide) (by decide) (by decide) (by decide) (by decide +kernel)⟩⟩, c81, c88⟩
  · have : ∀ p ∈ fxT, p.1 < 88 ∧ p.1 ≠ 81 ∧ p.1 ≠ 82 ∧ (kDg p.1).1.1 = p.2 := by decide +kernel
    obtain ⟨u1, u2, u3, u4⟩ := this p hp
    rw [t _ u1 u2 u3, u4]
  · have : ∀ p ∈ fxA, p.1 < 88 ∧ p.1 ≠ 81 ∧ p.1 ≠ 82 ∧ (kDg p.1).1 = p.2 := by decide +kernel
    obtain ⟨u1, u2, u3, u4⟩ := this p hp
    rw [t _ u1 u2 u3, u4]
  · have h0 : ∀ p ∈ fxP, (p.1 = 0 → p = (0, 0, 1) ∨ p = (0, 1, 12) ∨ p = (0, 2, 76) ∨ p = (0, 3, 79) ∨ p = (0, 4, 88)) ∧ (p.1 ≠ 0 → p.1 < 88 ∧ p.1 ≠ 81 ∧ p.1 ≠ 82 ∧ lk (kDg p.1).2.2 p.2.1 = some (some (.inl p.2.2))) := by decide +kernel
    obtain ⟨u1, u2⟩ := h0 p hp
    by_cases q : p.1 = 0
    · rcases u1 q with e | e | e | e | e <;> rw [e]
      · exact d0
      · exact d1
      · exact d2
      · exact d3
      · exact d4
    · obtain ⟨w1, w2, w3, w4⟩ := u2 q
      rw [r _ w1 w2 w3 q]
      exact tR w4
  · rw [m1]
    exact ⟨rfl, hN1, fun i i0 i1 => by omega, fun i j hij i0 j1 => by omega⟩
  · have : ∀ p ∈ fxI, p.1 < 88 ∧ p.1 ≠ 81 ∧ p.1 ≠ 82 ∧ cIv (kDg p.1) p.2.1 = sI S00 p.2.2 0 := by decide +kernel
    obtain ⟨u1, u2, u3, u4⟩ := this p hp
    rw [n _ u1 u2 u3, u4]
  · rw [n 75 (by decide) (by decide) (by decide)]
    have : ∀ k, k < 100 → cIv (kDg 75) k = sI S00 42 k := by decide +kernel
    exact this k hk
  · rw [m1] at hi
    rw [show i = 0 by omega]
    exact el_tab rfl (fun i h1 h2 => ⟨t i (by omega) (by omega) (by omega), n i (by omega) (by omega) (by omega), r i (by omega) (by omega) (by omega) (by omega)⟩)
  · rw [n 1 (by decide) (by decide) (by decide)]; decide +kernel
  · rw [n 1 (by decide) (by decide) (by decide)]; decide +kernel
  · rw [m1] at hi
    rw [show i = 0 by omega, r 10 (by decide) (by decide) (by decide) (by decide), if_neg (by decide +kernel)]
    exact tR (by decide +kernel)
  · rw [m1] at h1
    rw [r 10 (by decide) (by decide) (by decide) (by decide)]
    have : ∀ i, i < 40 → 1 ≤ i → lk (kDg 10).2.2 i = none := by decide +kernel
    exact tN (Or.inl (this i h2 h1))
  · rw [n 1 (by decide) (by decide) (by decide)]; decide +kernel
  · have k0 : k = 0 := by simpa using hk
    rw [k0, r 11 (by decide) (by decide) (by decide) (by decide)]
    exact tR (by decide +kernel)
  · rw [n 13 (by decide) (by decide) (by decide)]; decide +kernel
  · rw [r 14 (by decide) (by decide) (by decide) (by decide)]
    have : ∀ j, j < 6 → lk (kDg 14).2.2 j = some (some (.inl (15 + 2 * j))) := by decide +kernel
    rw [tR (this j hj), Nat.add_assoc]
  · have w : ∀ j, j < 6 → ((kDg (15 + 2 * j)).1 = (1, 0) ∧ (kDg (15 + 2 * j)).2.1 = []) ∧ ((kDg (15 + 2 * j)).2.2 = [(0, some (.inl (15 + 2 * j + 1)))] ∧ (kDg (15 + 2 * j + 1)).1 = (20, 80)) := by decide +kernel
    have : ∀ j, j < 6 → kDg (15 + 2 * j) = ((1, 0), [], [(0, some (.inl (15 + 2 * j + 1)))]) ∧ (kDg (15 + 2 * j + 1)).1 = (20, 80) := fun j hj => ⟨Prod.ext (w j hj).1.1 (Prod.ext (w j hj).1.2 (w j hj).2.1), (w j hj).2.2⟩
    rw [Nat.add_assoc]
    exact cd (15 + 2 * j) 80 (by omega) (by omega) (by omega) (by decide) (this j hj)
  · rw [n 27 (by decide) (by decide) (by decide)]; decide +kernel
  · rw [r 28 (by decide) (by decide) (by decide) (by decide)]
    have : ∀ j, j < 21 → lk (kDg 28).2.2 j = some (some (.inl (29 + 2 * j))) := by decide +kernel
    rw [tR (this j hj), Nat.add_assoc]
  · have w : ∀ j, j < 21 → ((kDg (29 + 2 * j)).1 = (1, 0) ∧ (kDg (29 + 2 * j)).2.1 = []) ∧ ((kDg (29 + 2 * j)).2.2 = [(0, some (.inl (29 + 2 * j + 1)))] ∧ (kDg (29 + 2 * j + 1)).1 = (20, 80)) := by decide +kernel
    have : ∀ j, j < 21 → kDg (29 + 2 * j) = ((1, 0), [], [(0, some (.inl (29 + 2 * j + 1)))]) ∧ (kDg (29 + 2 * j + 1)).1 = (20, 80) := fun j hj => ⟨Prod.ext (w j hj).1.1 (Prod.ext (w j hj).1.2 (w j hj).2.1), (w j hj).2.2⟩
    rw [Nat.add_assoc]
    exact cd (29 + 2 * j) 80 (by omega) (by omega) (by omega) (by decide) (this j hj)
  · rw [if_pos (show (sL S00 33 0).length = 0 from rfl), n 12 (by decide) (by decide) (by decide)]; decide +kernel
  · rw [r 79 (by decide) (by decide) (by decide) (by decide)]
    exact tR (by decide +kernel)
  · rw [r 79 (by decide) (by decide) (by decide) (by decide), if_pos (by decide +kernel)]
    exact tN (by decide +kernel)
/-- the law's arrays hold m -/
def lw (B : Nat) (h : hp) (m : LY) : hp := (h.1, h.2.1, (fun a k => if B + 90 ≤ a ∧ a < B + 96 then m.1 (a - (B + 90)) k else h.2.2.1 a k), h.2.2.2.1, (fun a k => if B + 90 ≤ a ∧ a < B + 96 then m.2 (a - (B + 90)) k else h.2.2.2.2 a k))
theorem lw_N (B : Nat) (h : hp) (m : LY) : hN (lw B h m) = hN h := rfl
theorem lw_T (B : Nat) (h : hp) (m : LY) (a : Nat) : hT (lw B h m) a = hT h a := rfl
theorem lw_R (B : Nat) (h : hp) (m : LY) (a k : Nat) : hR (lw B h m) a k = hR h a k := rfl
theorem lw_I {B : Nat} (h : hp) (m : LY) {j : Nat} (hj : j < 6) (k : Nat) : hI (lw B h m) (B + 90 + j) k = m.1 j k := by
  show (if B + 90 ≤ B + 90 + j ∧ B + 90 + j < B + 96 then m.1 (B + 90 + j - (B + 90)) k else _) = _
  rw [if_pos (by omega), Nat.add_sub_cancel_left]
theorem lw_J {B : Nat} (h : hp) (m : LY) {j : Nat} (hj : j < 6) (k : Nat) : hJ (lw B h m) (B + 90 + j) k = m.2 j k := by
  show (if B + 90 ≤ B + 90 + j ∧ B + 90 + j < B + 96 then m.2 (B + 90 + j - (B + 90)) k else _) = _
  rw [if_pos (by omega), Nat.add_sub_cancel_left]
theorem lw_Io {B : Nat} (h : hp) (m : LY) {a : Nat} (ha : a < B + 90 ∨ B + 96 ≤ a) (k : Nat) : hI (lw B h m) a k = hI h a k := if_neg (by omega)
theorem lw_Jo {B : Nat} (h : hp) (m : LY) {a : Nat} (ha : a < B + 90 ∨ B + 96 ≤ a) (k : Nat) : hJ (lw B h m) a k = hJ h a k := if_neg (by omega)
/-- the law's heap behind the making of its arrays -/
def lN6 (g : hp) : hp := wN (wN (wN (wN (wN (wN g (20, 7)) (20, 60)) (24, 10)) (24, 20)) (20, 10)) (20, 64)
theorem lN6_far {g : hp} (hNg : hN g = B + 90) {a : Nat} (ha : a < B + 90) : hT (lN6 g) a = hT g a ∧ (∀ k, hI (lN6 g) a k = hI g a k) ∧ ∀ k, hR (lN6 g) a k = hR g a k := by
  have e1 : hN (wN g (20, 7)) = B + 91 := by show hN g + 1 = _; omega
  have e2 : hN (wN (wN g (20, 7)) (20, 60)) = B + 92 := by show hN (wN g (20, 7)) + 1 = _; omega
  have e3 : hN (wN (wN (wN g (20, 7)) (20, 60)) (24, 10)) = B + 93 := by show hN (wN (wN g (20, 7)) (20, 60)) + 1 = _; omega
  have e4 : hN (wN (wN (wN (wN g (20, 7)) (20, 60)) (24, 10)) (24, 20)) = B + 94 := by show hN (wN (wN (wN g (20, 7)) (20, 60)) (24, 10)) + 1 = _; omega
  have e5 : hN (wN (wN (wN (wN (wN g (20, 7)) (20, 60)) (24, 10)) (24, 20)) (20, 10)) = B + 95 := by show hN (wN (wN (wN (wN g (20, 7)) (20, 60)) (24, 10)) (24, 20)) + 1 = _; omega
  refine ⟨?_, fun k => ?_, fun k => ?_⟩
  · unfold lN6
    rw [wn_T, e5, if_neg (by omega), wn_T, e4, if_neg (by omega), wn_T, e3, if_neg (by omega), wn_T, e2, if_neg (by omega), wn_T, e1, if_neg (by omega), wn_T, hNg, if_neg (by omega)]
  · unfold lN6
    rw [wn_I, e5, if_neg (by omega), wn_I, e4, if_neg (by omega), wn_I, e3, if_neg (by omega), wn_I, e2, if_neg (by omega), wn_I, e1, if_neg (by omega), wn_I, hNg, if_neg (by omega)]
  · unfold lN6
    rw [wn_R, e5, if_neg (by omega), wn_R, e4, if_neg (by omega), wn_R, e3, if_neg (by omega), wn_R, e2, if_neg (by omega), wn_R, e1, if_neg (by omega), wn_R, hNg, if_neg (by omega)]
def m0y : LY := (fun _ _ => 0, fun _ _ => 0)
theorem lN6_at {g : hp} (hNg : hN g = B + 90) {j : Nat} (hj : j < 6) : hT (lN6 g) (B + 90 + j) = lT j ∧ (∀ k, hI (lN6 g) (B + 90 + j) k = 0) ∧ ∀ k, hJ (lN6 g) (B + 90 + j) k = 0 := by
  have e1 : hN (wN g (20, 7)) = B + 91 := by show hN g + 1 = _; omega
  have e2 : hN (wN (wN g (20, 7)) (20, 60)) = B + 92 := by show hN (wN g (20, 7)) + 1 = _; omega
  have e3 : hN (wN (wN (wN g (20, 7)) (20, 60)) (24, 10)) = B + 93 := by show hN (wN (wN g (20, 7)) (20, 60)) + 1 = _; omega
  have e4 : hN (wN (wN (wN (wN g (20, 7)) (20, 60)) (24, 10)) (24, 20)) = B + 94 := by show hN (wN (wN (wN g (20, 7)) (20, 60)) (24, 10)) + 1 = _; omega
  have e5 : hN (wN (wN (wN (wN (wN g (20, 7)) (20, 60)) (24, 10)) (24, 20)) (20, 10)) = B + 95 := by show hN (wN (wN (wN (wN g (20, 7)) (20, 60)) (24, 10)) (24, 20)) + 1 = _; omega
  have d : ∀ a : Nat, (B + 90 + j = a ∨ B + 90 + j ≠ a) := fun a => Classical.em _
  refine ⟨?_, fun k => ?_, fun k => ?_⟩
  · unfold lN6 lT
    rw [wn_T, e5, wn_T, e4, wn_T, e3, wn_T, e2, wn_T, e1, wn_T, hNg]
    rcases (show j = 0 ∨ j = 1 ∨ j = 2 ∨ j = 3 ∨ j = 4 ∨ j = 5 by omega) with rfl | rfl | rfl | rfl | rfl | rfl <;> simp
  · unfold lN6
    rw [wn_I, e5, wn_I, e4, wn_I, e3, wn_I, e2, wn_I, e1, wn_I, hNg]
    rcases (show j = 0 ∨ j = 1 ∨ j = 2 ∨ j = 3 ∨ j = 4 ∨ j = 5 by omega) with rfl | rfl | rfl | rfl | rfl | rfl <;> simp
  · unfold lN6
    rw [wn_J, e5, wn_J, e4, wn_J, e3, wn_J, e2, wn_J, e1, wn_J, hNg]
    rcases (show j = 0 ∨ j = 1 ∨ j = 2 ∨ j = 3 ∨ j = 4 ∨ j = 5 by omega) with rfl | rfl | rfl | rfl | rfl | rfl <;> simp
theorem law_new {g : hp} (x : Fin0 B g) (hNg : hN g = B + 90) : RC B (fun _ => B + 2) (wml S00 m0y) (lN6 g) ∧ hN (lN6 g) = B + 96 := by
  have far : ∀ a, a < B + 90 → hT (lN6 g) a = hT g a ∧ (∀ k, hI (lN6 g) a k = hI g a k) ∧ ∀ k, hR (lN6 g) a k = hR g a k := fun a ha => lN6_far hNg ha
  have hpd : PD B (wml S00 m0y) (lN6 g) := fun j hj => by
    obtain ⟨u1, u2, u3⟩ := lN6_at hNg hj
    exact ⟨u1, fun k => by rw [u2, wm_1 S00 m0y hj]; rfl, fun k => by rw [u3, wm_2 S00 m0y hj]; rfl⟩
  have hN2 : hN (lN6 g) = B + 96 := by
    show hN g + 1 + 1 + 1 + 1 + 1 + 1 = _
    omega
  generalize lN6 g = hL at *
  have fin : Fin0 B hL := by
    obtain ⟨x1, ⟨d0, d1, d2, d3, d4⟩, c81, c88⟩ := x
    have cdf : ∀ b n l, b + 1 < B + 90 → Cd g b n l → Cd hL b n l := fun b n l hb c => by
      obtain ⟨b1, b2, b3, b4, b5, b6, b7⟩ := c
      exact ⟨by rw [(far b (by omega)).1]; exact b1, by rw [(far b (by omega)).2.2]; exact b2, by rw [(far (b + 1) (by omega)).1]; exact b3, by rw [(far b (by omega)).2.1]; exact b4, b5, b6, Sl_eq b7 (fun k _ => (far (b + 1) (by omega)).2.1 _)⟩
    refine ⟨fun i h1 h2 h3 => ?_, ⟨by rw [(far B (by omega)).2.2]; exact d0, by rw [(far B (by omega)).2.2]; exact d1, by rw [(far B (by omega)).2.2]; exact d2, by rw [(far B (by omega)).2.2]; exact d3, by rw [(far B (by omega)).2.2]; exact d4⟩, cdf _ _ _ (by omega) c81, cdf _ _ _ (by omega) c88⟩
    obtain ⟨u1, u2, u3⟩ := x1 i h1 h2 h3
    exact ⟨by rw [(far (B + i) (by omega)).1]; exact u1, fun k => by rw [(far (B + i) (by omega)).2.1]; exact u2 k, fun q k => by rw [(far (B + i) (by omega)).2.2]; exact u3 q k⟩
  have lo := wm_lo S00 m0y
  have hln : ln (wml S00 m0y) = ln S00 := by
    have e : ∀ k, decide (k < 1000) = true → sI (wml S00 m0y) k = sI S00 k := fun k hk => lo.1 k (of_decide_eq_true hk)
    exact ln_cg (e 2 rfl) (e 3 rfl) (e 10 rfl) (e 13 rfl) (e 20 rfl) (e 22 rfl) rfl rfl
  have hod : ord (wml S00 m0y) = ord S00 := ord_cg (lo.1 12 (by decide)) rfl
  refine ⟨?_, hN2⟩
  unfold RC
  rw [hln, hod, ord_00]
  exact (fin_RW0 fin (by omega)).lo lo hpd
end LO

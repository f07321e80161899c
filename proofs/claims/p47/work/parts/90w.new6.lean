/-! ===== the first desk, with the reference's cells behind ===== -/
def wm (S : SS) (m : mm) : SS := ((fun k i => if k < 1000 then S.1 k i else m (k - 1000) i), S.2)
def Lo (S S' : SS) : Prop := (∀ k, k < 1000 → sI S' k = sI S k) ∧ sL S' = sL S ∧ sQ S' = sQ S ∧ sK S' = sK S
theorem wm_lo (S : SS) (m : mm) : Lo S (wm S m) := ⟨fun k hk => funext fun i => if_pos hk, rfl, rfl, rfl⟩
theorem wm_mSt (S : SS) (m : mm) : mSt (wm S m) = m := funext fun k => funext fun i => by
  show (if 1000 + k < 1000 then _ else m (1000 + k - 1000) i) = _
  rw [if_neg (by omega), Nat.add_sub_cancel_left]
def RW0 (B : Nat) (E : Nat → Nat) (S : SS) (li : List Int32) (od : List Nat) (h : hp) : Prop := FX B h ∧ EA B E (made S) (hN h) ∧ FI B S h ∧ (∀ i, i < made S → EL S E i h) ∧ TR B S E h ∧ TO B od E h ∧ VO B S h ∧ RDp B S E h ∧ ST B h ∧ Cd h (B + 81) 64 li ∧ Cd h (B + 88) 12 (sL S 18 0)
section LO
variable {B : Nat} {E : Nat → Nat} {S S' : SS} {li : List Int32} {od : List Nat} {h h' : hp}
theorem RW.to0 (x : RW B E S li od h) : RW0 B E S li od h := by
  obtain ⟨a1, a2, a3, a4, a5, a6, a7, a8, a9, a10, a11, a12⟩ := x
  exact ⟨a1, a2, a3, a4, a5, a6, a7, a8, a9, a10, a11⟩
theorem RW0.lo (x : RW0 B E S li od h) (l : Lo S S') (hp' : PD B S' h) : RW B E S' li od h := by
  obtain ⟨a1, a2, a3, a4, a5, a6, a7, a8, a9, a10, a11⟩ := x
  obtain ⟨l1, l2, l3, l4⟩ := l
  have e : ∀ k, decide (k < 1000) = true → sI S' k = sI S k := fun k hk => l1 k (of_decide_eq_true hk)
  refine ⟨a1, by rw [made_cg (e 0 rfl)]; exact a2, ⟨fun p hp => ?_, fun z => ?_, fun z => ?_, fun k hk => ?_⟩, fun i hi => ?_, a5.sd (e 0 rfl) (e 1 rfl), a6, a7.sd (fun k hk => l1 k ?_) (fun k _ => by rw [l2]) (fun k _ => by rw [l3]), a8.sd (e 20 rfl) (e 21 rfl), a9, a10, by rw [l2]; exact a11, hp'⟩
  · have : ∀ p ∈ fxI, p.2.2 < 1000 := by decide
    rw [l1 _ (this p hp)]
    exact a3.1 p hp
  · rw [e 22 rfl] at z
    rw [e 23 rfl, e 24 rfl]
    exact a3.2.1 z
  · rw [e 26 rfl] at z
    rw [e 27 rfl]
    exact a3.2.2.1 z
  · rw [e 42 rfl]
    exact a3.2.2.2 k hk
  · rw [made_cg (e 0 rfl)] at hi
    refine (a4 i hi).sd (fun k hk => l1 k ?_) (fun k _ => by rw [l2]) l4
    simp only [List.mem_cons, List.not_mem_nil, or_false] at hk
    omega
  · simp only [List.mem_cons, List.not_mem_nil, or_false] at hk
    omega
theorem ord_00 : ord S00 = [0] := by decide +kernel
theorem fin_RW0 (x : Fin0 B h) (hN1 : B + 122 ≤ hN h) : RW0 B (fun _ => B + 2) S00 (ln S00) [0] h := by
  obtain ⟨x1, ⟨d0, d1, d2, d3, d4⟩, c81, c88⟩ := x
  have t := fun i h1 h2 h3 => (x1 i h1 h2 h3).1
  have n := fun i h1 h2 h3 => (x1 i h1 h2 h3).2.1
  have r := fun i h1 h2 h3 => (x1 i h1 h2 h3).2.2
  have cd : ∀ i n0, i + 1 < 88 → 0 < i → i + 1 < 81 ∨ 82 < i → n0 < 1000 → (kDg i = ((1, 0), [], [(0, some (.inl (i + 1)))]) ∧ (kDg (i + 1)).1 = (20, n0)) → Cd h (B + i) n0 [] := fun i n0 h1 h2 h3 h4 hd => cd_tab (t i (by omega) (by omega) (by omega)) (n i (by omega) (by omega) (by omega)) (r i (by omega) (by omega) (by omega) (by omega)) (t (i + 1) h1 (by omega) (by omega)) h4 hd
  have m1 : made S00 = 1 := made_00
  refine ⟨⟨fun p hp => ?_, fun p hp => ?_, fun p hp => ?_⟩, ?_, ⟨fun p hp => ?_, fun z => absurd (by decide +kernel) z, fun z => absurd (by decide +kernel) z, fun k hk => ?_⟩, fun i hi => ?_, ⟨?_, ?_, fun i hi => ?_, fun i h1 h2 => ?_⟩, ⟨?_, fun k hk => ?_⟩, ⟨⟨fun j => j, ?_, Nat.zero_le _, fun j hj => ⟨hj, ?_⟩, fun i j _ _ q => q, fun j hj => ⟨[], ?_⟩, fun j hj => absurd hj (Nat.not_lt_zero j)⟩, ⟨fun j => j, ?_, Nat.zero_le _, fun j hj => ⟨hj, ?_⟩, fun i j _ _ q => q, fun j hj => ⟨[], ?_⟩, fun j hj => absurd hj (Nat.not_lt_zero j)⟩, ⟨[], 0, cd 71 80 (by decide) (by decide) (by decide) (by decide) (by decide +kernel), ?_⟩, ⟨[], 0, cd 73 80 (by decide) (by decide) (by decide) (by decide) (by decide +kernel), fun z => absurd (by decide +kernel) z⟩⟩, ⟨?_, ?_⟩, ⟨⟨[], cd 77 80 (by decide) (by decide) (by decide) (by decide) (by decide +kernel)⟩, ⟨[], cd 86 80 (by decide) (by decide) (by decide) (by decide) (by decide +kernel)⟩, ⟨[], cd 83 64 (by decide) (by decide) (by decide) (by decide) (by decide +kernel)⟩⟩, c81, c88⟩
  · have : ∀ p ∈ fxT, p.1 < 88 ∧ p.1 ≠ 81 ∧ p.1 ≠ 82 ∧ (kDg p.1).1.1 = p.2 := by decide +kernel
    obtain ⟨u1, u2, u3, u4⟩ := this p hp
    rw [t _ u1 u2 u3, u4]
  · have : ∀ p ∈ fxA, p.1 < 88 ∧ p.1 ≠ 81 ∧ p.1 ≠ 82 ∧ (kDg p.1).1 = p.2 := by decide +kernel
    obtain ⟨u1, u2, u3, u4⟩ := this p hp
    rw [t _ u1 u2 u3, u4]
  · have h0 : ∀ p ∈ fxP, (p.1 = 0 → p = (0, 0, 1) ∨ p = (0, 1, 12) ∨ p = (0, 2, 76) ∨ p = (0, 3, 79) ∨ p = (0, 4, 88)) ∧ (p.1 ≠ 0 → p.1 < 88 ∧ p.1 ≠ 81 ∧ p.1 ≠ 82 ∧ lk (kDg p.1).2.2 p.2.1 = some (some (.inl p.2.2))) := by decide +kernel
    obtain ⟨u1, u2⟩ := h0 p hp
    by_cases q : p.1 = 0
    · rcases u1 q with e | e | e | e | e <;> rw [e]
      · exact d0
      · exact d1
      · exact d2
      · exact d3
      · exact d4
    · obtain ⟨w1, w2, w3, w4⟩ := u2 q
      rw [r _ w1 w2 w3 q]
      exact tR w4
  · rw [m1]
    exact ⟨rfl, hN1, fun i i0 i1 => by omega, fun i j hij i0 j1 => by omega⟩
  · have : ∀ p ∈ fxI, p.1 < 88 ∧ p.1 ≠ 81 ∧ p.1 ≠ 82 ∧ cIv (kDg p.1) p.2.1 = sI S00 p.2.2 0 := by decide +kernel
    obtain ⟨u1, u2, u3, u4⟩ := this p hp
    rw [n _ u1 u2 u3, u4]
  · rw [n 75 (by decide) (by decide) (by decide)]
    have : ∀ k, k < 100 → cIv (kDg 75) k = sI S00 42 k := by decide +kernel
    exact this k hk
  · rw [m1] at hi
    rw [show i = 0 by omega]
    exact el_tab rfl (fun i h1 h2 => ⟨t i (by omega) (by omega) (by omega), n i (by omega) (by omega) (by omega), r i (by omega) (by omega) (by omega) (by omega)⟩)
  · rw [n 1 (by decide) (by decide) (by decide)]; decide +kernel
  · rw [n 1 (by decide) (by decide) (by decide)]; decide +kernel
  · rw [m1] at hi
    rw [show i = 0 by omega, r 10 (by decide) (by decide) (by decide) (by decide), if_neg (by decide +kernel)]
    exact tR (by decide +kernel)
  · rw [m1] at h1
    rw [r 10 (by decide) (by decide) (by decide) (by decide)]
    have : ∀ i, i < 40 → 1 ≤ i → lk (kDg 10).2.2 i = none := by decide +kernel
    exact tN (Or.inl (this i h2 h1))
  · rw [n 1 (by decide) (by decide) (by decide)]; decide +kernel
  · have k0 : k = 0 := by simpa using hk
    rw [k0, r 11 (by decide) (by decide) (by decide) (by decide)]
    exact tR (by decide +kernel)
  · rw [n 13 (by decide) (by decide) (by decide)]; decide +kernel
  · rw [r 14 (by decide) (by decide) (by decide) (by decide)]
    have : ∀ j, j < 6 → lk (kDg 14).2.2 j = some (some (.inl (15 + 2 * j))) := by decide +kernel
    rw [tR (this j hj), Nat.add_assoc]
  · have w : ∀ j, j < 6 → ((kDg (15 + 2 * j)).1 = (1, 0) ∧ (kDg (15 + 2 * j)).2.1 = []) ∧ ((kDg (15 + 2 * j)).2.2 = [(0, some (.inl (15 + 2 * j + 1)))] ∧ (kDg (15 + 2 * j + 1)).1 = (20, 80)) := by decide +kernel
    have : ∀ j, j < 6 → kDg (15 + 2 * j) = ((1, 0), [], [(0, some (.inl (15 + 2 * j + 1)))]) ∧ (kDg (15 + 2 * j + 1)).1 = (20, 80) := fun j hj => ⟨Prod.ext (w j hj).1.1 (Prod.ext (w j hj).1.2 (w j hj).2.1), (w j hj).2.2⟩
    rw [Nat.add_assoc]
    exact cd (15 + 2 * j) 80 (by omega) (by omega) (by omega) (by decide) (this j hj)
  · rw [n 27 (by decide) (by decide) (by decide)]; decide +kernel
  · rw [r 28 (by decide) (by decide) (by decide) (by decide)]
    have : ∀ j, j < 21 → lk (kDg 28).2.2 j = some (some (.inl (29 + 2 * j))) := by decide +kernel
    rw [tR (this j hj), Nat.add_assoc]
  · have w : ∀ j, j < 21 → ((kDg (29 + 2 * j)).1 = (1, 0) ∧ (kDg (29 + 2 * j)).2.1 = []) ∧ ((kDg (29 + 2 * j)).2.2 = [(0, some (.inl (29 + 2 * j + 1)))] ∧ (kDg (29 + 2 * j + 1)).1 = (20, 80)) := by decide +kernel
    have : ∀ j, j < 21 → kDg (29 + 2 * j) = ((1, 0), [], [(0, some (.inl (29 + 2 * j + 1)))]) ∧ (kDg (29 + 2 * j + 1)).1 = (20, 80) := fun j hj => ⟨Prod.ext (w j hj).1.1 (Prod.ext (w j hj).1.2 (w j hj).2.1), (w j hj).2.2⟩
    rw [Nat.add_assoc]
    exact cd (29 + 2 * j) 80 (by omega) (by omega) (by omega) (by decide) (this j hj)
  · rw [if_pos (show (sL S00 33 0).length = 0 from rfl), n 12 (by decide) (by decide) (by decide)]; decide +kernel
  · rw [r 79 (by decide) (by decide) (by decide) (by decide)]
    exact tR (by decide +kernel)
  · rw [r 79 (by decide) (by decide) (by decide) (by decide), if_pos (by decide +kernel)]
    exact tN (by decide +kernel)
theorem jn_jn (a0 : Nat) (g : hp) (m : mm) : jn a0 (jn a0 g m) m = jn a0 g m := by
  refine jn_of (fun a h1 h2 => ⟨?_, funext fun k => ?_, funext fun k => ?_⟩)
  · show (if a = a0 then _ else if a0 < a ∧ a ≤ a0 + 30 then _ else _) = _
    by_cases q : a = a0
    · rw [if_pos q, if_pos q]
    · rw [if_neg q, if_neg q, if_pos ⟨by omega, h2⟩]
  · show (if a = a0 then _ else if a0 < a ∧ a ≤ a0 + 30 then _ else _) = _
    by_cases q : a = a0
    · rw [if_pos q, if_pos q]
    · rw [if_neg q, if_neg q, if_pos ⟨by omega, h2⟩]
  · show (if a = a0 then _ else if a0 < a ∧ a ≤ a0 + 30 then _ else _) = _
    by_cases q : a = a0
    · rw [if_pos q, if_pos q]
    · rw [if_neg q, if_neg q, if_pos ⟨by omega, h2⟩]
/-- the law's heap at its loop's entry -/
theorem law_new {g : hp} (x : Fin0 B g) (hNg : hN g = B + 90) : RC B (fun _ => B + 2) (wm S00 m00) (wN (jn (B + 90) (jg (B + 90) g) m00) (24, 1)) ∧ hN (wN (jn (B + 90) (jg (B + 90) g) m00) (24, 1)) = B + 122 := by
  have hNM : hN (jn (B + 90) (jg (B + 90) g) m00) = B + 121 := by
    show B + 90 + 31 = _
    omega
  have far : ∀ a, a < B + 90 → hT (wN (jn (B + 90) (jg (B + 90) g) m00) (24, 1)) a = hT g a ∧ (∀ k, hI (wN (jn (B + 90) (jg (B + 90) g) m00) (24, 1)) a k = hI g a k) ∧ ∀ k, hR (wN (jn (B + 90) (jg (B + 90) g) m00) (24, 1)) a k = hR g a k := fun a ha => by
    refine ⟨?_, fun k => ?_, fun k => ?_⟩
    · rw [wn_T, hNM, if_neg (by omega)]
      show (if a = B + 90 then _ else if B + 90 < a ∧ a ≤ B + 90 + 30 then _ else _) = _
      rw [if_neg (by omega), if_neg (by omega)]; rfl
    · rw [wn_I, hNM, if_neg (by omega)]
      show (if a = B + 90 then _ else if B + 90 < a ∧ a ≤ B + 90 + 30 then _ else _) = _
      rw [if_neg (by omega), if_neg (by omega)]; rfl
    · rw [wn_R, hNM, if_neg (by omega)]
      show (if a = B + 90 then _ else if B + 90 < a ∧ a ≤ B + 90 + 30 then _ else _) = _
      rw [if_neg (by omega), if_neg (by omega)]; rfl
  have hpd : PD B (wm S00 m00) (wN (jn (B + 90) (jg (B + 90) g) m00) (24, 1)) := by
    refine ⟨?_, ?_⟩
    · rw [wm_mSt]
      refine jn_of (fun a h1 h2 => ?_)
      have := jn_at (jn_jn (B + 90) (jg (B + 90) g) m00) h1 h2
      refine ⟨?_, funext fun k => ?_, funext fun k => ?_⟩
      · rw [wn_T, hNM, if_neg (by omega)]
        exact this.1
      · rw [wn_I, hNM, if_neg (by omega)]
        exact congrFun this.2.1 k
      · rw [wn_R, hNM, if_neg (by omega)]
        exact congrFun this.2.2 k
    · rw [wn_T, hNM, if_pos rfl]
  have hN2 : hN (wN (jn (B + 90) (jg (B + 90) g) m00) (24, 1)) = B + 122 := by
    show hN (jn (B + 90) (jg (B + 90) g) m00) + 1 = _
    rw [hNM]
  generalize wN (jn (B + 90) (jg (B + 90) g) m00) (24, 1) = hL at *
  have fin : Fin0 B hL := by
    obtain ⟨x1, ⟨d0, d1, d2, d3, d4⟩, c81, c88⟩ := x
    have cdf : ∀ b n l, b + 1 < B + 90 → Cd g b n l → Cd hL b n l := fun b n l hb c => by
      obtain ⟨b1, b2, b3, b4, b5, b6, b7⟩ := c
      exact ⟨by rw [(far b (by omega)).1]; exact b1, by rw [(far b (by omega)).2.2]; exact b2, by rw [(far (b + 1) (by omega)).1]; exact b3, by rw [(far b (by omega)).2.1]; exact b4, b5, b6, Sl_eq b7 (fun k _ => (far (b + 1) (by omega)).2.1 _)⟩
    refine ⟨fun i h1 h2 h3 => ?_, ⟨by rw [(far B (by omega)).2.2]; exact d0, by rw [(far B (by omega)).2.2]; exact d1, by rw [(far B (by omega)).2.2]; exact d2, by rw [(far B (by omega)).2.2]; exact d3, by rw [(far B (by omega)).2.2]; exact d4⟩, cdf _ _ _ (by omega) c81, cdf _ _ _ (by omega) c88⟩
    obtain ⟨u1, u2, u3⟩ := x1 i h1 h2 h3
    exact ⟨by rw [(far (B + i) (by omega)).1]; exact u1, fun k => by rw [(far (B + i) (by omega)).2.1]; exact u2 k, fun q k => by rw [(far (B + i) (by omega)).2.2]; exact u3 q k⟩
  have lo := wm_lo S00 m00
  have hln : ln (wm S00 m00) = ln S00 := by
    have e : ∀ k, decide (k < 1000) = true → sI (wm S00 m00) k = sI S00 k := fun k hk => lo.1 k (of_decide_eq_true hk)
    exact ln_cg (e 2 rfl) (e 3 rfl) (e 10 rfl) (e 13 rfl) (e 20 rfl) (e 22 rfl) rfl rfl
  have hod : ord (wm S00 m00) = ord S00 := ord_cg (lo.1 12 (by decide)) rfl
  refine ⟨?_, hN2⟩
  unfold RC
  rw [hln, hod, ord_00]
  exact (fin_RW0 fin (by omega)).lo lo hpd
end LO

/-! ===== one element's cells change within the whole desk ===== -/
def eas (e : Nat) : List Nat := (List.range 8).map (fun k => e + k)
theorem mem_eas {e a : Nat} : a ∈ eas e ↔ e ≤ a ∧ a < e + 8 := by
  unfold eas
  rw [List.mem_map]
  constructor
  · rintro ⟨k, k1, rfl⟩
    have := List.mem_range.mp k1
    omega
  · rintro ⟨h1, h2⟩
    exact ⟨a - e, List.mem_range.mpr (by omega), by omega⟩
theorem Ag.toE {e : Nat} {as : List Nat} {h h' : hp} (x : Ag as h h') (ha : ∀ a ∈ as, e ≤ a ∧ a < e + 8) : Ag (eas e) h h' := x.mono (fun a z => mem_eas.mpr (ha a z))
/-- S' differs from S at the element i alone, in what it is like and keeps -/
def AtE (i : Nat) (S S' : SS) : Prop := (∀ k, k ∉ [10, 11, 12, 13, 14, 15] → sI S' k = sI S k) ∧ (∀ k j, j ≠ i → sI S' k j = sI S k j) ∧ (∀ k, k ∉ [6, 8, 17] → sL S' k = sL S k) ∧ (∀ k j, j ≠ i → sL S' k j = sL S k j) ∧ (∀ k, sQ S' k = sQ S k) ∧ ∀ j, j ≠ i → sK S' j = sK S j
theorem AtE.I {i k : Nat} {S : SS} {v : Int32} (hk : k ∈ [10, 11, 12, 13, 14, 15]) : AtE i S (wSI S k i v) := ⟨fun k' h' => up2_ne S.1 i v (fun e => h' (by rw [e]; exact hk)), fun k' j hj => by rw [sI_I, if_neg (fun z => hj z.2)], fun _ _ => rfl, fun _ _ _ => rfl, fun _ => rfl, fun _ _ => rfl⟩
theorem AtE.L {i k : Nat} {S : SS} {l : List Int32} (hk : k ∈ [6, 8, 17]) : AtE i S (wSL S k i l) := ⟨fun _ _ => rfl, fun _ _ _ => rfl, fun k' h' => up2_ne S.2.1 i l (fun e => h' (by rw [e]; exact hk)), fun k' j hj => by rw [sL_L, if_neg (fun z => hj z.2)], fun _ => rfl, fun _ _ => rfl⟩
theorem AtE.K {i : Nat} {S : SS} {l : List Nat} : AtE i S (wSK S i l) := ⟨fun _ _ => rfl, fun _ _ _ => rfl, fun _ _ => rfl, fun _ _ _ => rfl, fun _ => rfl, fun _ hj => if_neg hj⟩
theorem EA.mse {B : Nat} {E : Nat → Nat} {n N : Nat} (x : EA B E n N) {i a : Nat} (hi : i < n) (ha : a ∈ eas (E i)) : (B + 2 ≤ a ∧ a < B + 10) ∨ B + 96 ≤ a := by
  have := mem_eas.mp ha
  rcases Nat.eq_zero_or_pos i with z | z
  · subst z
    have := x.1
    omega
  · have := (x.2.2.1 i z hi).1
    omega
theorem EA.apart {B : Nat} {E : Nat → Nat} {n N : Nat} (x : EA B E n N) {i j a : Nat} (hi : i < n) (hj : j < n) (hne : j ≠ i) (ha : a ∈ eas (E i)) : a < E j ∨ E j + 8 ≤ a := by
  have h1 := mem_eas.mp ha
  obtain ⟨x1, x2, x3, x4⟩ := x
  rcases Nat.eq_zero_or_pos i with z | z
  · subst z
    have := (x3 j (by omega) hj).1
    omega
  · have h2 := (x3 i z hi).1
    rcases Nat.eq_zero_or_pos j with w | w
    · subst w
      omega
    · rcases Nat.lt_or_gt_of_ne hne with q | q
      · have := x4 j i q w hi
        omega
      · have := x4 i j q z hj
        omega
section RB
variable {B : Nat} {E : Nat → Nat} {S S' : SS} {li : List Int32} {od : List Nat} {h h' : hp}
theorem EL.sdj {i : Nat} (x : EL S E i h) (hi : ∀ k, sI S' k i = sI S k i) (hl : ∀ k, sL S' k i = sL S k i) (hK : sK S' i = sK S i) : EL S' E i h := by
  obtain ⟨a1, a2, a3, a4, a5, a6, a7⟩ := x
  have hd : dpar S' i = dpar S i := by unfold dpar; rw [hi 3]
  refine ⟨a1, a2, ?_, ?_, by rw [hl 6]; exact a5, ?_, ?_⟩
  · unfold EI at *
    rw [hi 2, hi 10, hi 11, hi 12, hi 13, hi 14, hi 15, hK]; exact a3
  · unfold ER at *
    rw [hd, hK]; exact a4
  · unfold capC at *
    rw [hi 2, hl 8]; exact a6
  · unfold capK at *
    rw [hi 2, hl 17]; exact a7
theorem RW.elm (x : RW B E S li od h) {i : Nat} (hi : i < made S) (y : Ag (eas (E i)) h h') (hs : AtE i S S') (el : EL S' E i h') : RW B E S' li od h' := by
  obtain ⟨a1, a2, a3, a4, a5, a6, a7, a8, ⟨⟨l1, s1⟩, ⟨l2, s2⟩, ⟨l3, s3⟩⟩, a10, a11, a12⟩ := x
  obtain ⟨c1, c2, c3, c4, c5, c6⟩ := hs
  have e : ∀ k, decide (k ∉ [10, 11, 12, 13, 14, 15]) = true → sI S' k = sI S k := fun k hk => c1 k (of_decide_eq_true hk)
  have el' : ∀ k, decide (k ∉ [6, 8, 17]) = true → sL S' k = sL S k := fun k hk => c3 k (of_decide_eq_true hk)
  have m : ∀ a ∈ eas (E i), (B + 2 ≤ a ∧ a < B + 10) ∨ B + 96 ≤ a := fun a ha => a2.mse hi ha
  have nn : ∀ a, (a < B + 2 ∨ (B + 10 ≤ a ∧ a < B + 90)) → a ∉ eas (E i) := fun a q z => by have := m a z; omega
  refine ⟨a1.ag y (fun a ha p hp => ?_), by rw [made_cg (e 0 rfl), y.1]; exact a2, ⟨fun p hp => ?_, fun z => ?_, fun z => ?_, fun k hk => ?_⟩, fun j hj => ?_, (a5.ag y (fun a ha => by have := m a ha; omega)).sd (e 0 rfl) (e 1 rfl), a6.ag y (fun a ha => by have := m a ha; omega), (a7.ag y (fun a ha => by have := m a ha; omega)).sd (fun k hk => c1 k ?_) (fun k hk => c3 k ?_) (fun k _ => c5 k), (a8.ag y (nn _ (by omega))).sd (e 20 rfl) (e 21 rfl), ⟨⟨l1, s1.ag y (nn _ (by omega)) (nn _ (by omega))⟩, ⟨l2, s2.ag y (nn _ (by omega)) (nn _ (by omega))⟩, ⟨l3, s3.ag y (nn _ (by omega)) (nn _ (by omega))⟩⟩, a10.ag y (nn _ (by omega)) (nn _ (by omega)), ?_, a12.ag y (fun a ha => by have := m a ha; omega) (fun k hk => c1 k (by simp only [List.mem_cons, List.not_mem_nil, or_false]; omega))⟩
  · have h1 := m a ha
    have h2 : ∀ p ∈ fxP, p.1 = 0 ∨ p.1 = 1 ∨ p.1 = 12 ∨ p.1 = 13 ∨ p.1 = 27 ∨ p.1 = 76 ∨ p.1 = 79 ∨ p.1 = 80 := by decide
    have := h2 p hp
    omega
  · have : ∀ p ∈ fxI, (p.1 < 2 ∨ (10 ≤ p.1 ∧ p.1 < 90)) ∧ p.2.2 ∉ [10, 11, 12, 13, 14, 15] := by decide
    obtain ⟨u1, u2⟩ := this p hp
    rw [y.I (nn _ (by omega)), c1 _ u2]
    exact a3.1 p hp
  · rw [e 22 rfl] at z
    rw [y.I (nn _ (by omega)), e 23 rfl, e 24 rfl]
    exact a3.2.1 z
  · rw [e 26 rfl] at z
    rw [y.I (nn _ (by omega)), e 27 rfl]
    exact a3.2.2.1 z
  · rw [y.I (nn _ (by omega)), e 42 rfl]
    exact a3.2.2.2 k hk
  · rw [made_cg (e 0 rfl)] at hj
    by_cases q : j = i
    · rw [q]; exact el
    · exact ((a4 j hj).ag y (fun a ha => a2.apart hi hj q ha)).sdj (fun k => c2 k j q) (fun k => c4 k j q) (c6 j q)
  · simp only [List.mem_cons, List.not_mem_nil, or_false] at hk ⊢
    omega
  · simp only [List.mem_cons, List.not_mem_nil, or_false] at hk ⊢
    omega
  · rw [el' 18 rfl]
    exact a11.ag y (nn _ (by omega)) (nn _ (by omega))
/-- what an element keeps is written anew -/
theorem EL.w17 {i : Nat} (x : EL S E i h) (y : Ag [E i + 6, E i + 6 + 1] h h') {l : List Int32} (c : Cd h' (E i + 6) (capK S i) l) : EL (wSL S 17 i l) E i h' := by
  obtain ⟨a1, a2, a3, a4, a5, a6, a7⟩ := x
  have m : ∀ a ∈ [E i + 6, E i + 6 + 1], a = E i + 6 ∨ a = E i + 7 := by
    intro a ha
    simp only [List.mem_cons, List.not_mem_nil, or_false] at ha
    omega
  have nn : ∀ a, a ≠ E i + 6 → a ≠ E i + 7 → a ∉ [E i + 6, E i + 6 + 1] := fun a q1 q2 z => by have := m a z; omega
  have n0 := nn (E i) (by omega) (by omega)
  have n1 := nn (E i + 1) (by omega) (by omega)
  refine ⟨by rw [y.T]; exact a1, by rw [y.T]; exact a2, ?_, ?_, ?_, ?_, ?_⟩
  · unfold EI at *
    rw [y.I n0]; exact a3
  · unfold ER at *
    rw [y.R n0, y.R n1]; exact a4
  · rw [sL_L, if_neg (fun z => absurd z.1 (by decide))]
    exact a5.ag y (nn _ (by omega) (by omega)) (nn _ (by omega) (by omega))
  · rw [sL_L, if_neg (fun z => absurd z.1 (by decide))]
    exact a6.ag y (nn _ (by omega) (by omega)) (nn _ (by omega) (by omega))
  · rw [sL_L, if_pos ⟨rfl, rfl⟩]
    exact c
theorem RW.w17 (x : RW B E S li od h) {i : Nat} (hi : i < made S) (y : Ag [E i + 6, E i + 6 + 1] h h') {l : List Int32} (c : Cd h' (E i + 6) (capK S i) l) : RW B E (wSL S 17 i l) li od h' := by
  refine x.elm hi (y.toE (fun a ha => ?_)) (AtE.L (by decide)) ((x.2.2.2.1 i hi).w17 y c)
  simp only [List.mem_cons, List.not_mem_nil, or_false] at ha
  omega
/-- an element's numbers -/
theorem EL.wn {i : Nat} (x : EL S E i h) (y : Ag [E i] h h') (hR : hR h' (E i) = hR h (E i)) {k : Nat} {v : Int32} (hk : k ∈ [10, 11, 12, 13, 14, 15]) (ei : EI (wSI S k i v) i (E i) h') : EL (wSI S k i v) E i h' := by
  obtain ⟨a1, a2, a3, a4, a5, a6, a7⟩ := x
  have nn : ∀ a, a ≠ E i → a ∉ [E i] := fun a q z => q (List.mem_singleton.mp z)
  have k3 : k ≠ 3 ∧ k ≠ 2 := by
    simp only [List.mem_cons, List.not_mem_nil, or_false] at hk
    omega
  have e2 : sI (wSI S k i v) 2 = sI S 2 := up2_ne S.1 i v (fun e => k3.2 e.symm)
  refine ⟨by rw [y.T]; exact a1, by rw [y.T]; exact a2, ei, ?_, a5.ag y (nn _ (by omega)) (nn _ (by omega)), ?_, ?_⟩
  · unfold ER at *
    rw [hR, y.R (nn _ (by omega)), dpar_cg (show sI (wSI S k i v) 3 = sI S 3 from up2_ne S.1 i v (fun e => k3.1 e.symm))]
    exact a4
  · unfold capC at *
    rw [e2]
    exact a6.ag y (nn _ (by omega)) (nn _ (by omega))
  · unfold capK at *
    rw [e2]
    exact a7.ag y (nn _ (by omega)) (nn _ (by omega))
/-- one number of an element: its field in the class, the desk's field -/
theorem RW.en (x : RW B E S li od h) {i : Nat} (hi : i < made S) {f k : Nat} (hf : (f, k) ∈ [(7, 12), (8, 10), (9, 11), (10, 13), (11, 14)]) (v : Int32) : RW B E (wSI S k i v) li od (wI h (E i) f v) := by
  have y : Ag [E i] h (wI h (E i) f v) := Ag.wI (List.mem_singleton.mpr rfl)
  have hk : k ∈ [10, 11, 12, 13, 14, 15] := by
    simp only [List.mem_cons, List.not_mem_nil, or_false, Prod.mk.injEq] at hf ⊢
    omega
  have hx := x.2.2.2.1 i hi
  refine x.elm hi (y.toE (fun a ha => by rw [List.mem_singleton.mp ha]; omega)) (AtE.I hk) (hx.wn y rfl hk ?_)
  obtain ⟨b1, b2, b3, b4, b5, b6, b7, b8, b9⟩ := hx.2.2.1
  have hK : sK (wSI S k i v) i = sK S i := rfl
  unfold EI
  rw [hK]
  simp only [List.mem_cons, List.not_mem_nil, or_false, Prod.mk.injEq] at hf
  rcases hf with ⟨rfl, rfl⟩ | ⟨rfl, rfl⟩ | ⟨rfl, rfl⟩ | ⟨rfl, rfl⟩ | ⟨rfl, rfl⟩
  · simp only [hI_s, hI_n h (E i) v (show (0:Nat) ≠ 7 by decide), hI_n h (E i) v (show (1:Nat) ≠ 7 by decide), hI_n h (E i) v (show (4:Nat) ≠ 7 by decide), hI_n h (E i) v (show (8:Nat) ≠ 7 by decide), hI_n h (E i) v (show (9:Nat) ≠ 7 by decide), hI_n h (E i) v (show (10:Nat) ≠ 7 by decide), hI_n h (E i) v (show (11:Nat) ≠ 7 by decide), hI_n h (E i) v (show (13:Nat) ≠ 7 by decide), hI_n h (E i) v (show (14:Nat) ≠ 7 by decide), sI_N (show (2:Nat) ≠ 12 by decide), sI_N (show (10:Nat) ≠ 12 by decide), sI_N (show (11:Nat) ≠ 12 by decide), sI_N (show (13:Nat) ≠ 12 by decide), sI_N (show (14:Nat) ≠ 12 by decide), sI_N (show (15:Nat) ≠ 12 by decide), sI_I S 12 i v 12 i, if_pos (show (12:Nat) = 12 ∧ i = i from ⟨rfl, rfl⟩)]
    exact ⟨b1, b2, (if_pos ⟨trivial, trivial⟩).symm, b4, b5, b6, b7, b8, b9⟩
  · simp only [hI_s, hI_n h (E i) v (show (0:Nat) ≠ 8 by decide), hI_n h (E i) v (show (1:Nat) ≠ 8 by decide), hI_n h (E i) v (show (4:Nat) ≠ 8 by decide), hI_n h (E i) v (show (7:Nat) ≠ 8 by decide), hI_n h (E i) v (show (9:Nat) ≠ 8 by decide), hI_n h (E i) v (show (10:Nat) ≠ 8 by decide), hI_n h (E i) v (show (11:Nat) ≠ 8 by decide), hI_n h (E i) v (show (13:Nat) ≠ 8 by decide), hI_n h (E i) v (show (14:Nat) ≠ 8 by decide), sI_N (show (2:Nat) ≠ 10 by decide), sI_N (show (12:Nat) ≠ 10 by decide), sI_N (show (11:Nat) ≠ 10 by decide), sI_N (show (13:Nat) ≠ 10 by decide), sI_N (show (14:Nat) ≠ 10 by decide), sI_N (show (15:Nat) ≠ 10 by decide), sI_I S 10 i v 10 i, if_pos (show (10:Nat) = 10 ∧ i = i from ⟨rfl, rfl⟩)]
    exact ⟨b1, b2, b3, (if_pos ⟨trivial, trivial⟩).symm, b5, b6, b7, b8, b9⟩
  · simp only [hI_s, hI_n h (E i) v (show (0:Nat) ≠ 9 by decide), hI_n h (E i) v (show (1:Nat) ≠ 9 by decide), hI_n h (E i) v (show (4:Nat) ≠ 9 by decide), hI_n h (E i) v (show (7:Nat) ≠ 9 by decide), hI_n h (E i) v (show (8:Nat) ≠ 9 by decide), hI_n h (E i) v (show (10:Nat) ≠ 9 by decide), hI_n h (E i) v (show (11:Nat) ≠ 9 by decide), hI_n h (E i) v (show (13:Nat) ≠ 9 by decide), hI_n h (E i) v (show (14:Nat) ≠ 9 by decide), sI_N (show (2:Nat) ≠ 11 by decide), sI_N (show (12:Nat) ≠ 11 by decide), sI_N (show (10:Nat) ≠ 11 by decide), sI_N (show (13:Nat) ≠ 11 by decide), sI_N (show (14:Nat) ≠ 11 by decide), sI_N (show (15:Nat) ≠ 11 by decide), sI_I S 11 i v 11 i, if_pos (show (11:Nat) = 11 ∧ i = i from ⟨rfl, rfl⟩)]
    exact ⟨b1, b2, b3, b4, (if_pos ⟨trivial, trivial⟩).symm, b6, b7, b8, b9⟩
  · simp only [hI_s, hI_n h (E i) v (show (0:Nat) ≠ 10 by decide), hI_n h (E i) v (show (1:Nat) ≠ 10 by decide), hI_n h (E i) v (show (4:Nat) ≠ 10 by decide), hI_n h (E i) v (show (7:Nat) ≠ 10 by decide), hI_n h (E i) v (show (8:Nat) ≠ 10 by decide), hI_n h (E i) v (show (9:Nat) ≠ 10 by decide), hI_n h (E i) v (show (11:Nat) ≠ 10 by decide), hI_n h (E i) v (show (13:Nat) ≠ 10 by decide), hI_n h (E i) v (show (14:Nat) ≠ 10 by decide), sI_N (show (2:Nat) ≠ 13 by decide), sI_N (show (12:Nat) ≠ 13 by decide), sI_N (show (10:Nat) ≠ 13 by decide), sI_N (show (11:Nat) ≠ 13 by decide), sI_N (show (14:Nat) ≠ 13 by decide), sI_N (show (15:Nat) ≠ 13 by decide), sI_I S 13 i v 13 i, if_pos (show (13:Nat) = 13 ∧ i = i from ⟨rfl, rfl⟩)]
    exact ⟨b1, b2, b3, b4, b5, (if_pos ⟨trivial, trivial⟩).symm, b7, b8, b9⟩
  · simp only [hI_s, hI_n h (E i) v (show (0:Nat) ≠ 11 by decide), hI_n h (E i) v (show (1:Nat) ≠ 11 by decide), hI_n h (E i) v (show (4:Nat) ≠ 11 by decide), hI_n h (E i) v (show (7:Nat) ≠ 11 by decide), hI_n h (E i) v (show (8:Nat) ≠ 11 by decide), hI_n h (E i) v (show (9:Nat) ≠ 11 by decide), hI_n h (E i) v (show (10:Nat) ≠ 11 by decide), hI_n h (E i) v (show (13:Nat) ≠ 11 by decide), hI_n h (E i) v (show (14:Nat) ≠ 11 by decide), sI_N (show (2:Nat) ≠ 14 by decide), sI_N (show (12:Nat) ≠ 14 by decide), sI_N (show (10:Nat) ≠ 14 by decide), sI_N (show (11:Nat) ≠ 14 by decide), sI_N (show (13:Nat) ≠ 14 by decide), sI_N (show (15:Nat) ≠ 14 by decide), sI_I S 14 i v 14 i, if_pos (show (14:Nat) = 14 ∧ i = i from ⟨rfl, rfl⟩)]
    exact ⟨b1, b2, b3, b4, b5, b6, fun _ => (if_pos ⟨trivial, trivial⟩).symm, b8, b9⟩
/-- an element has told news -/
theorem RW.told (x : RW B E S li od h) {i : Nat} (hi : i < made S) {v : Int32} (hv : v ≠ -1) : RW B E (wSI S 15 i v) li od (wI (wI h (E i) 13 1) (E i) 14 v) := by
  have y : Ag [E i] h (wI (wI h (E i) 13 1) (E i) 14 v) := (Ag.wI (List.mem_singleton.mpr rfl)).tr (Ag.wI (List.mem_singleton.mpr rfl))
  have hx := x.2.2.2.1 i hi
  refine x.elm hi (y.toE (fun a ha => by rw [List.mem_singleton.mp ha]; omega)) (AtE.I (by decide)) (hx.wn y rfl (by decide) ?_)
  obtain ⟨b1, b2, b3, b4, b5, b6, b7, b8, b9⟩ := hx.2.2.1
  have hK : sK (wSI S 15 i v) i = sK S i := rfl
  have hn : ∀ f, f ≠ 13 → f ≠ 14 → hI (wI (wI h (E i) 13 1) (E i) 14 v) (E i) f = hI h (E i) f := fun f q1 q2 => by rw [hI_n _ _ _ q2, hI_n _ _ _ q1]
  have hs : ∀ k, k ≠ 15 → sI (wSI S 15 i v) k i = sI S k i := fun k q => sI_N q
  unfold EI
  rw [hK, hn 0 (by decide) (by decide), hn 1 (by decide) (by decide), hn 7 (by decide) (by decide), hn 8 (by decide) (by decide), hn 9 (by decide) (by decide), hn 10 (by decide) (by decide), hn 11 (by decide) (by decide), hn 4 (by decide) (by decide), hs 2 (by decide), hs 12 (by decide), hs 10 (by decide), hs 11 (by decide), hs 13 (by decide), hs 14 (by decide), sI_I S 15 i v 15 i, if_pos (show (15:Nat) = 15 ∧ i = i from ⟨rfl, rfl⟩), if_neg hv, hI_n _ _ _ (show (13:Nat) ≠ 14 by decide), hI_s, hI_s]
  exact ⟨b1, b2, b3, b4, b5, b6, b7, b8, fun _ => ⟨rfl, rfl⟩⟩
end RB

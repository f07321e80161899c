/-! ===== the class's reader, typist, keys, draft: their cells within the whole desk ===== -/
section FR
variable {B : Nat} {E : Nat → Nat} {S S' : SS} {li : List Int32} {od : List Nat} {h h' : hp}
theorem ST.ag {as : List Nat} (x : ST B h) (y : Ag as h h') (ha : ∀ a ∈ as, a ≠ B + 77 ∧ a ≠ B + 78 ∧ a ≠ B + 86 ∧ a ≠ B + 87 ∧ a ≠ B + 83 ∧ a ≠ B + 84) : ST B h' := by
  obtain ⟨⟨l1, s1⟩, ⟨l2, s2⟩, ⟨l3, s3⟩⟩ := x
  exact ⟨⟨l1, s1.ag y (fun z => (ha _ z).1 rfl) (fun z => (ha _ z).2.1 rfl)⟩, ⟨l2, s2.ag y (fun z => (ha _ z).2.2.1 rfl) (fun z => (ha _ z).2.2.2.1 rfl)⟩, ⟨l3, s3.ag y (fun z => (ha _ z).2.2.2.2.1 rfl) (fun z => (ha _ z).2.2.2.2.2 rfl)⟩⟩
theorem fxP_in : ∀ p ∈ fxP, p.1 = 0 ∨ p.1 = 1 ∨ p.1 = 12 ∨ p.1 = 13 ∨ p.1 = 27 ∨ p.1 = 76 ∨ p.1 = 79 ∨ p.1 = 80 := by decide
theorem RW.rdr (x : RW B E S li od h) (y : Ag [B + 79] h h') (hR1 : ∀ f, f ≠ 5 → f ≠ 6 → hR h' (B + 79) f = hR h (B + 79) f) (hs : Sd [20, 21] [] [] S S') (r : RDp B S' E h') : RW B E S' li od h' := by
  obtain ⟨a1, a2, a3, a4, a5, a6, a7, a8, a9, a10, a11, a12⟩ := x
  have m : ∀ a ∈ [B + 79], a = B + 79 := fun a ha => List.mem_singleton.mp ha
  have nn : ∀ a, a ≠ B + 79 → a ∉ [B + 79] := fun a q z => q (m a z)
  refine ⟨⟨fun p hp => by rw [y.T]; exact a1.1 p hp, fun p hp => by rw [y.T]; exact a1.2.1 p hp, fun p hp => ?_⟩, by rw [made_cg (hs.i 0 rfl), y.1]; exact a2, ⟨fun p hp => ?_, fun z => ?_, fun z => ?_, fun k hk => ?_⟩, fun i hi => ?_, (a5.ag y (fun a ha => by have := m a ha; omega)).sd (hs.i 0 rfl) (hs.i 1 rfl), a6.ag y (fun a ha => by have := m a ha; omega), (a7.ag y (fun a ha => by have := m a ha; omega)).sd (fun k hk => hs.1 k ?_) (fun k _ => hs.2.1 k List.not_mem_nil) (fun k _ => hs.2.2.1 k List.not_mem_nil), r, a9.ag y (fun a ha => by have := m a ha; omega), a10.ag y (nn _ (by omega)) (nn _ (by omega)), ?_, a12.ag y (fun a ha => by have := m a ha; omega) (hs.big rfl)⟩
  · by_cases q : p.1 = 79
    · have : ∀ p ∈ fxP, p.1 = 79 → p.2.1 ≠ 5 ∧ p.2.1 ≠ 6 := by decide
      obtain ⟨u1, u2⟩ := this p hp q
      rw [q, hR1 _ u1 u2, ← q]
      exact a1.2.2 p hp
    · rw [y.R (nn _ (by omega))]
      exact a1.2.2 p hp
  · have : ∀ p ∈ fxI, p.1 ≠ 79 ∧ p.2.2 ∉ [20, 21] := by decide
    obtain ⟨u1, u2⟩ := this p hp
    rw [y.I (nn _ (by omega)), hs.1 _ u2]
    exact a3.1 p hp
  · rw [hs.i 22 rfl] at z
    rw [y.I (nn _ (by omega)), hs.i 23 rfl, hs.i 24 rfl]
    exact a3.2.1 z
  · rw [hs.i 26 rfl] at z
    rw [y.I (nn _ (by omega)), hs.i 27 rfl]
    exact a3.2.2.1 z
  · rw [y.I (nn _ (by omega)), hs.i 42 rfl]
    exact a3.2.2.2 k hk
  · rw [made_cg (hs.i 0 rfl)] at hi
    refine ((a4 i hi).ag y (fun a ha => by rw [m a ha]; exact a2.far hi (by omega) (by omega))).sd (fun k hk => hs.1 k ?_) (fun k _ => hs.2.1 k List.not_mem_nil) hs.2.2.2
    simp only [List.mem_cons, List.not_mem_nil, or_false] at hk ⊢
    omega
  · simp only [List.mem_cons, List.not_mem_nil, or_false] at hk ⊢
    omega
  · rw [hs.l 18 rfl]
    exact a11.ag y (nn _ (by omega)) (nn _ (by omega))
theorem RW.tpy (x : RW B E S li od h) (y : Ag [B + 85] h h') (hs : Sd [22, 23, 24] [] [] S S') (h0 : hI h' (B + 85) 0 = sI S' 22 0) (h12 : sI S' 22 0 ≠ 0 → hI h' (B + 85) 1 = sI S' 23 0 ∧ hI h' (B + 85) 2 = sI S' 24 0) : RW B E S' li od h' := by
  obtain ⟨a1, a2, a3, a4, a5, a6, a7, a8, a9, a10, a11, a12⟩ := x
  have m : ∀ a ∈ [B + 85], a = B + 85 := fun a ha => List.mem_singleton.mp ha
  have nn : ∀ a, a ≠ B + 85 → a ∉ [B + 85] := fun a q z => q (m a z)
  refine ⟨a1.ag y (fun a ha p hp => by have := m a ha; have := fxP_in p hp; omega), by rw [made_cg (hs.i 0 rfl), y.1]; exact a2, ⟨fun p hp => ?_, h12, fun z => ?_, fun k hk => ?_⟩, fun i hi => ?_, (a5.ag y (fun a ha => by have := m a ha; omega)).sd (hs.i 0 rfl) (hs.i 1 rfl), a6.ag y (fun a ha => by have := m a ha; omega), (a7.ag y (fun a ha => by have := m a ha; omega)).sd (fun k hk => hs.1 k ?_) (fun k _ => hs.2.1 k List.not_mem_nil) (fun k _ => hs.2.2.1 k List.not_mem_nil), (a8.ag y (nn _ (by omega))).sd (hs.i 20 rfl) (hs.i 21 rfl), a9.ag y (fun a ha => by have := m a ha; omega), a10.ag y (nn _ (by omega)) (nn _ (by omega)), ?_, a12.ag y (fun a ha => by have := m a ha; omega) (hs.big rfl)⟩
  · have : ∀ p ∈ fxI, (p.1 = 85 → p = (85, 0, 22)) ∧ (p.1 ≠ 85 → p.2.2 ∉ [22, 23, 24]) := by decide
    obtain ⟨u1, u2⟩ := this p hp
    by_cases q : p.1 = 85
    · rw [u1 q]; exact h0
    · rw [y.I (nn _ (by omega)), hs.1 _ (u2 q)]
      exact a3.1 p hp
  · rw [hs.i 26 rfl] at z
    rw [y.I (nn _ (by omega)), hs.i 27 rfl]
    exact a3.2.2.1 z
  · rw [y.I (nn _ (by omega)), hs.i 42 rfl]
    exact a3.2.2.2 k hk
  · rw [made_cg (hs.i 0 rfl)] at hi
    refine ((a4 i hi).ag y (fun a ha => by rw [m a ha]; exact a2.far hi (by omega) (by omega))).sd (fun k hk => hs.1 k ?_) (fun k _ => hs.2.1 k List.not_mem_nil) hs.2.2.2
    simp only [List.mem_cons, List.not_mem_nil, or_false] at hk ⊢
    omega
  · simp only [List.mem_cons, List.not_mem_nil, or_false] at hk ⊢
    omega
  · rw [hs.l 18 rfl]
    exact a11.ag y (nn _ (by omega)) (nn _ (by omega))
theorem RW.key (x : RW B E S li od h) (y : Ag [B] h h') (hR1 : hR h' B = hR h B) (hs : Sd [26, 27] [] [] S S') (h0 : hI h' B 5 = sI S' 26 0) (h12 : sI S' 26 0 ≠ 0 → hI h' B 6 = sI S' 27 0) : RW B E S' li od h' := by
  obtain ⟨a1, a2, a3, a4, a5, a6, a7, a8, a9, a10, a11, a12⟩ := x
  have m : ∀ a ∈ [B], a = B := fun a ha => List.mem_singleton.mp ha
  have nn : ∀ a, a ≠ B → a ∉ [B] := fun a q z => q (m a z)
  refine ⟨⟨fun p hp => by rw [y.T]; exact a1.1 p hp, fun p hp => by rw [y.T]; exact a1.2.1 p hp, fun p hp => ?_⟩, by rw [made_cg (hs.i 0 rfl), y.1]; exact a2, ⟨fun p hp => ?_, fun z => ?_, h12, fun k hk => ?_⟩, fun i hi => ?_, (a5.ag y (fun a ha => by have := m a ha; omega)).sd (hs.i 0 rfl) (hs.i 1 rfl), a6.ag y (fun a ha => by have := m a ha; omega), (a7.ag y (fun a ha => by have := m a ha; omega)).sd (fun k hk => hs.1 k ?_) (fun k _ => hs.2.1 k List.not_mem_nil) (fun k _ => hs.2.2.1 k List.not_mem_nil), (a8.ag y (nn _ (by omega))).sd (hs.i 20 rfl) (hs.i 21 rfl), a9.ag y (fun a ha => by have := m a ha; omega), a10.ag y (nn _ (by omega)) (nn _ (by omega)), ?_, a12.ag y (fun a ha => by have := m a ha; omega) (hs.big rfl)⟩
  · by_cases q : p.1 = 0
    · have := a1.2.2 p hp
      rw [q, Nat.add_zero] at this ⊢
      rw [hR1]; exact this
    · rw [y.R (nn _ (by omega))]
      exact a1.2.2 p hp
  · have : ∀ p ∈ fxI, (p.1 = 0 → p = (0, 5, 26)) ∧ (p.1 ≠ 0 → p.2.2 ∉ [26, 27]) := by decide
    obtain ⟨u1, u2⟩ := this p hp
    by_cases q : p.1 = 0
    · rw [u1 q]; exact h0
    · rw [y.I (nn _ (by omega)), hs.1 _ (u2 q)]
      exact a3.1 p hp
  · rw [hs.i 22 rfl] at z
    rw [y.I (nn _ (by omega)), hs.i 23 rfl, hs.i 24 rfl]
    exact a3.2.1 z
  · rw [y.I (nn _ (by omega)), hs.i 42 rfl]
    exact a3.2.2.2 k hk
  · rw [made_cg (hs.i 0 rfl)] at hi
    refine ((a4 i hi).ag y (fun a ha => ?_)).sd (fun k hk => hs.1 k ?_) (fun k _ => hs.2.1 k List.not_mem_nil) hs.2.2.2
    · rw [m a ha]
      rcases Nat.eq_zero_or_pos i with z | z
      · subst z
        have := a2.1
        omega
      · have := (a2.2.2.1 i z hi).1
        omega
    · simp only [List.mem_cons, List.not_mem_nil, or_false] at hk ⊢
      omega
  · simp only [List.mem_cons, List.not_mem_nil, or_false] at hk ⊢
    omega
  · rw [hs.l 18 rfl]
    exact a11.ag y (nn _ (by omega)) (nn _ (by omega))
theorem RW.drf (x : RW B E S li od h) {l : List Int32} (y : Ag [B + 88, B + 88 + 1] h h') (c : Cd h' (B + 88) 12 l) : RW B E (wSL S 18 0 l) li od h' := by
  obtain ⟨a1, a2, a3, a4, a5, a6, a7, a8, a9, a10, a11, a12⟩ := x
  have m : ∀ a ∈ [B + 88, B + 88 + 1], a = B + 88 ∨ a = B + 89 := by
    intro a ha
    simp only [List.mem_cons, List.not_mem_nil, or_false] at ha
    omega
  have nn : ∀ a, a ≠ B + 88 → a ≠ B + 89 → a ∉ [B + 88, B + 88 + 1] := fun a q1 q2 z => by have := m a z; omega
  have el : ∀ k, k ≠ 18 → sL (wSL S 18 0 l) k = sL S k := fun k hk => up2_ne S.2.1 0 l hk
  refine ⟨a1.ag y (fun a ha p hp => by have := m a ha; have := fxP_in p hp; omega), by rw [y.1]; exact a2, a3.ag y (fun a ha => by have := m a ha; omega), fun i hi => ((a4 i hi).ag y (fun a ha => by have := m a ha; exact a2.far hi (by omega) (by omega))).sd (fun _ _ => rfl) (fun k hk => el k ?_) rfl, a5.ag y (fun a ha => by have := m a ha; omega), a6.ag y (fun a ha => by have := m a ha; omega), (a7.ag y (fun a ha => by have := m a ha; omega)).sd (fun _ _ => rfl) (fun k hk => el k ?_) (fun _ _ => rfl), a8.ag y (nn _ (by omega) (by omega)), a9.ag y (fun a ha => by have := m a ha; omega), a10.ag y (nn _ (by omega) (by omega)) (nn _ (by omega) (by omega)), ?_, a12.ag y (fun a ha => by have := m a ha; omega) (fun _ _ => rfl)⟩
  · simp only [List.mem_cons, List.not_mem_nil, or_false] at hk
    omega
  · simp only [List.mem_cons, List.not_mem_nil, or_false] at hk
    omega
  · rw [sL_L, if_pos ⟨rfl, rfl⟩]
    exact c
/-! the tree's removal -/
theorem nTh_sd {ki kl kq : List Nat} (hs : Sd ki kl kq S S') (h1 : (decide (0 ∉ ki) && decide (1 ∉ ki)) = true) : nTh S' = nTh S := by
  rw [Bool.and_eq_true] at h1
  unfold nTh
  rw [made_cg (hs.i 0 h1.1), hs.i 1 h1.2]
theorem t_takeOut {S : SS} (hW : WT S) {y : Nat} (hy : th S y) (h0 : 0 < y) (x : RW B E (fgF S y (made S)) li od h) : ∃ h', fX7_takeOut (B + 1) (some (E y)) h = some (nI (rmN S y), h') ∧ RW B E (rm2 S y) li (ord (rm2 S y)) h' := by
  have sT := sd_fgF S y (made S)
  have mT : made (fgF S y (made S)) = made S := made_cg (sT.i 0 rfl)
  have hWT : WT (fgF S y (made S)) := hW.cg (sT.i 0 rfl) (sT.i 1 rfl) (sT.i 2 rfl) (sT.i 3 rfl) (sT.i 12 rfl) sT.2.2.2
  have hr := rmF_eq S y (made S)
  have hN := nTh_dd (S := fgF S y (made S)) y (made S) (by rw [mT]; exact Nat.le_refl _)
  have hcn : (List.range (made S)).countP (fun j => decide (sI (fgF S y (made S)) 1 j ≠ 0) && wthn (fgF S y (made S)) j y) = rmN S y := by
    unfold rmN
    have ew : ∀ j, wthn (fgF S y (made S)) j y = wthn S j y := fun j => wthn_cg (sT.i 3 rfl) j y
    simp only [ew, sT.i 1 rfl]
  rw [hcn] at hN
  obtain ⟨h1, a1, x1⟩ := t_dead x hWT.pw (by rw [mT]; exact hy.lt) (nI (nTh (fgF S y (made S))))
  rw [mT] at x1
  have e3 : oGI 6 3 (some (B + 1)) h = some (nI (nTh (fgF S y (made S)))) := hgI (x.1.t 1 7 (by decide)) x.2.2.2.2.1.2.1
  have sD := sd_ddF (fgF S y (made S)) y (made S)
  have mD : made (ddF (fgF S y (made S)) y (made S)) = made S := by rw [made_cg (sD.i 0 rfl), mT]
  have kD : sK (ddF (fgF S y (made S)) y (made S)) = sK S := by rw [sD.2.2.2, sT.2.2.2]
  have pD : dpar (ddF (fgF S y (made S)) y (made S)) y = dpar S y := by rw [dpar_cg (sD.i 3 rfl), dpar_cg (sT.i 3 rfl)]
  have pT : dpar (fgF S y (made S)) y = dpar S y := dpar_cg (sT.i 3 rfl) y
  obtain ⟨p1, p2⟩ := hW.up h0 hy
  have esT : ES (fgF S y (made S)) E h1 := by
    refine ⟨fun i hi => (x1.2.2.2.1 i (by rw [mD, ← mT]; exact hi)).sd (fun k hk => (sD.1 k ?_).symm) (fun k _ => (sD.2.1 k List.not_mem_nil).symm) sD.2.2.2.symm, fun i j hi hj => x1.es.2 i j (by rw [mD, ← mT]; exact hi) (by rw [mD, ← mT]; exact hj)⟩
    simp only [List.mem_cons, List.not_mem_nil, or_false] at hk ⊢
    omega
  have hpT : th (fgF S y (made S)) (dpar S y) := (th_cg (sT.i 0 rfl) (sT.i 1 rfl) _).mpr p1
  have hpl := e_place esT hWT hpT (y := y) (by rw [sT.2.2.2]; exact p2)
  rw [sT.2.2.2] at hpl
  have hix := List.idxOf_lt_length_of_mem p2
  obtain ⟨k1, k2, k3⟩ := hW.kids p1
  obtain ⟨h2, a2, x2⟩ := e_out x1 (p := dpar S y) (by rw [mD]; exact p1.lt) (by rw [kD]; exact k2) (fun j hj => by rw [mD]; rw [kD] at hj; exact (k3 j hj).1.lt) (e := E y) (q := (sK S (dpar S y)).idxOf y) (by rw [kD]; exact hix) hpl
  have hrm : wSK (ddF (fgF S y (made S)) y (made S)) (dpar S y) ((sK (ddF (fgF S y (made S)) y (made S)) (dpar S y)).eraseIdx ((sK S (dpar S y)).idxOf y)) = rm2 S y := by
    unfold rm2 plc
    rw [hr, kD]
  rw [hrm] at x2
  obtain ⟨h3, a3, x3, -⟩ := t_reorder x2 (rm2_WT hW hy h0)
  have e3' : oGI 6 3 (some (B + 1)) h3 = some (nI (nTh (rm2 S y))) := hgI (x3.1.t 1 7 (by decide)) x3.2.2.2.2.1.2.1
  have hn2 : nTh (rm2 S y) = nTh (ddF (fgF S y (made S)) y (made S)) := by
    rw [← hrm]; rfl
  refine ⟨h3, ?_, x3⟩
  have hyD : y < made (ddF (fgF S y (made S)) y (made S)) := by rw [mD]; exact hy.lt
  unfold fX7_takeOut
  rw [e3, sb, show (0 : Int32) = nI 0 from rfl, a1, sb, x1.es.up hyD, sb, if_neg (show ¬ y = 0 by omega), if_neg (Option.some_ne_none _), sb, pD, x1.es.ob (by rw [mD]; exact p1.lt), sb, a2, o2s, sb, x2.fo (o := 1) (t := 6) (by decide), sb, a3, o2s, e3', sb, hn2, nI_sub (by omega)]
  rw [show nTh (fgF S y (made S)) - nTh (ddF (fgF S y (made S)) y (made S)) = rmN S y by omega]
end FR

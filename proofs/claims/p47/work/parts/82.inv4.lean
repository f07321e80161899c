/-! ===== calls on the tree keep it ===== -/
theorem Core.of {S : SS} (h : CoreT S) (h1 : WC S) (h2 : WXs S) (h3 : WXf S) (h4 : WXt S) : Core S := ⟨h.1, h.2.1, h.2.2.1, h1, h.2.2.2.1, h2, h3, h4, h.2.2.2.2.1, h.2.2.2.2.2.1, h.2.2.2.2.2.2.1, h.2.2.2.2.2.2.2.1, h.2.2.2.2.2.2.2.2.1, h.2.2.2.2.2.2.2.2.2⟩
def tki : List Nat := [0, 1, 2, 3, 10, 11, 12, 22, 23, 24, 25, 26, 27]
section TT
variable {S S' : SS}
theorem CoreT.sd {ki kl kq : List Nat} (h : CoreT S) (hs : Sd ki kl kq S S') (h1 : (dsj tki ki && dsj ckl kl) = true) : CoreT S' := by
  rw [Bool.and_eq_true] at h1
  have e : ∀ k, decide (k ∈ tki) = true → sI S' k = sI S k := fun k hk => hs.i k (dsj_of h1.1 (of_decide_eq_true hk))
  have el : ∀ k, decide (k ∈ ckl) = true → sL S' k = sL S k := fun k hk => hs.l k (dsj_of h1.2 (of_decide_eq_true hk))
  obtain ⟨a1, a2, a3, a5, a9, a10, a11, a12, a13, a14⟩ := h
  refine ⟨a1.cg (e 0 rfl) (e 1 rfl) (e 2 rfl) (e 3 rfl) (e 12 rfl) hs.2.2.2, a2.cg (el 6 rfl) (el 8 rfl) (el 17 rfl), a3.cg (e 0 rfl) (e 1 rfl) (e 2 rfl), a5.cg (fun k hk => ?_), a9.cg (e 2 rfl) (el 8 rfl), a10.cg (e 0 rfl) (e 1 rfl) (e 2 rfl) (el 17 rfl), ?_, ?_, a13.cg (e 26 rfl) (e 27 rfl), a14.cg (e 0 rfl) (e 10 rfl) (e 11 rfl) (e 12 rfl) (el 8 rfl) (el 17 rfl) hs.2.2.2⟩
  · have : ∀ k, k ∈ [1, 10, 12, 22, 23, 24] → decide (k ∈ tki) = true := by decide
    exact e k (this k hk)
  · unfold WXd
    rw [el 18 rfl]; exact a11
  · unfold WXo
    rw [e 25 rfl]; exact a12
theorem CoreT.w17 (h : CoreT S) {r : Nat} {l : List Int32} (hl : l.length ≤ 80) (hx : l = [] ∨ (sI S 2 r = 7 ∧ th S r)) : CoreT (wSL S 17 r l) := by
  obtain ⟨a1, a2, a3, a5, a9, a10, a11, a12, a13, a14⟩ := h
  have hs : Sd [] [17] [] S (wSL S 17 r l) := Sd.L (by decide)
  refine ⟨a1.sd hs rfl, a2.k17 hl, a3.cg rfl rfl rfl, a5, a9.cg rfl (hs.l 8 rfl), fun i hi => ?_, ?_, a12, a13, fun i hi => ?_⟩
  · rw [sL_L] at hi
    rw [show sI (wSL S 17 r l) 2 i = sI S 2 i from rfl]
    split at hi
    · rename_i z
      rcases hx with hx | hx
      · rw [hx] at hi; simp at hi
      · rw [z.2]; exact hx
    · exact a10 i hi
  · unfold WXd
    rw [hs.l 18 rfl]; exact a11
  · obtain ⟨z1, z2, z3, z4, z5, z6⟩ := a14 i hi
    refine ⟨by rw [hs.l 8 rfl]; exact z1, ?_, z3, z4, z5, z6⟩
    rw [sL_L]
    split
    · rename_i z
      rcases hx with hx | hx
      · exact hx
      · have := hx.2.1
        have hi' : made S ≤ i := hi
        omega
    · exact z2
theorem CoreT.kSwl (h : CoreT S) {r : Nat} : CoreT (swl S r) := by
  unfold swl
  split
  · exact h
  · exact CoreT.w17 (S := wSI S 45 0 (sI S 45 0 + 1)) (h.sd (Sd.I (ki := [45]) (kl := []) (kq := []) (by decide)) rfl) (by simp) (Or.inl rfl)
theorem an_th (h : WT S) : ∀ i, i < made S → th S i → ∀ j ∈ an S i, th S j := by
  refine an_ind h.pw (fun hi j hj => ?_) (fun i i0 il ih hi j hj => ?_)
  · rw [an_0 h.pw] at hj
    rw [List.mem_singleton.mp hj]; exact hi
  · rw [an_s h.pw i0 il] at hj
    rcases List.mem_cons.mp hj with e | hj
    · rw [e]; exact hi
    · exact ih (h.up i0 hi).1 j hj
theorem rgn_th (h : WT S) {i r : Nat} (hi : th S i) (hr : rgn S i = some r) : sI S 2 r = 7 ∧ th S r := by
  unfold rgn at hr
  have h1 := List.find?_some hr
  exact ⟨by simpa using h1, an_th h i hi.lt hi r (List.mem_of_mem_tail (List.mem_of_find?_eq_some hr))⟩
theorem CoreT.kTel (h : CoreT S) {r : Option Nat} (hr : ∀ i, r = some i → sI S 2 i = 7 ∧ th S i) {t : List Int32} (ht : t.length ≤ 80) : CoreT (tel S r t) := by
  cases r with
  | none => exact h
  | some r =>
    unfold tel
    simp only []
    split
    · exact h
    · split
      · exact h.sd (sd_cAl S t) rfl
      · split
        · exact CoreT.sd (S := wSI S 15 r (sI S 46 0)) (h.sd (Sd.I (ki := [15]) (kl := []) (kq := []) (by decide)) rfl) (sd_cNews _ t) rfl
        · have hs := sd_swl S r
          exact h.kSwl.w17 ht (Or.inr ⟨by rw [hs.i 2 rfl]; exact (hr r rfl).1, (th_cg (hs.i 0 rfl) (hs.i 1 rfl) r).mpr (hr r rfl).2⟩)
/-- all but the cursor and the focus, speech included -/
def InvT (S : SS) (c a : Nat) : Prop := CoreT S ∧ WV S ∧ WN S c ∧ (sQ S 35).length ≤ a
theorem Inv0.toT {c a : Nat} (h : Inv0 S c) (ha : (sQ S 35).length ≤ a) : InvT S c a := ⟨h.1.toT, h.2.1, h.2.2.1, ha⟩
theorem InvT.kTel {c a : Nat} (h : InvT S c a) {r : Option Nat} (hr : ∀ i, r = some i → sI S 2 i = 7 ∧ th S i) {t : List Int32} (ht : t.length ≤ 80) : InvT (tel S r t) c (a + 1) := ⟨h.1.kTel hr ht, h.2.1.ktel ht, h.2.2.1.ktel, by have := tel_len S r t; have := h.2.2.2; omega⟩
/-- the cursor and the focus are where they may be -/
def CoreC (S : SS) : Prop := WC S ∧ WXs S ∧ WXf S ∧ WXt S
theorem CoreC.sd {ki kl kq : List Nat} (h : CoreC S) (hs : Sd ki kl kq S S') (h1 : (dsj [0, 1, 2, 3, 12, 20, 21, 22] ki) = true) : CoreC S' := by
  have e : ∀ k, decide (k ∈ [0, 1, 2, 3, 12, 20, 21, 22]) = true → sI S' k = sI S k := fun k hk => hs.i k (dsj_of h1 (of_decide_eq_true hk))
  exact ⟨h.1.cg (e 0 rfl) (e 1 rfl) (e 20 rfl), h.2.1.cg (e 3 rfl) (e 12 rfl) (e 20 rfl), h.2.2.1.cg (e 0 rfl) (e 1 rfl) (e 2 rfl) (e 3 rfl) (e 12 rfl) (e 21 rfl), h.2.2.2.cg (e 2 rfl) (e 20 rfl) (e 21 rfl) (e 22 rfl)⟩
theorem Core.toC (h : Core S) : CoreC S := ⟨h.c, h.xs, h.xf, h.xt⟩
theorem InvT.toI {c a : Nat} (h : InvT S c a) (hc : CoreC S) (ha : a ≤ 21) : Inv0 S c := ⟨Core.of h.1 hc.1 hc.2.1 hc.2.2.1 hc.2.2.2, h.2.1, h.2.2.1, Nat.le_trans h.2.2.2 ha⟩
theorem InvT.kTelW {c a : Nat} (h : InvT S c a) {i : Nat} (hi : th S i) : InvT (telW S i) c (a + 1) := by
  unfold telW
  split
  · exact h.kTel (fun r hr => rgn_th h.1.1 hi hr) (by have := wd_len0 S h.1.2.1 i []; simp at this; omega)
  · exact ⟨h.1, h.2.1, h.2.2.1, by have := h.2.2.2; omega⟩
/-- the loss: cursor and focus are there and of their kinds, though perhaps not shown or there any more -/
theorem InvT.kLos {c a : Nat} (h : InvT S c a) {r : Nat} (hrs : gonA S (sI S 20 0) = true → th S r ∧ shn S r = true) (hcu : sI S 20 0 = nI (cur S) ∧ cur S < made S)
    (hfo : sI S 21 0 = -1 ∨ ∃ f, sI S 21 0 = nI f ∧ f < made S ∧ canF (sI S 2 f) = true) (hty : WXt S) : InvT (los S r) c (a + 1) ∧ CoreC (los S r) := by
  obtain ⟨hT, hV, hN, hA⟩ := h
  have hm := hT.1.m40
  have hB := hT.2.2.2.1
  -- the focus
  have hs1 := sd_los1 S
  have hT1 : CoreT (los1 S) := by
    unfold los1
    split
    · obtain ⟨a1, a2, a3, a5, a9, a10, a11, a12, a13, a14⟩ := hT
      have hs0 : Sd [21, 22] [] [] S (wSI (wSI S 21 0 (-1)) 22 0 0) := (Sd.I (by decide)).tr (Sd.I (by decide))
      refine ⟨a1.sd hs0 rfl, a2, a3.cg (hs0.i 0 rfl) (hs0.i 1 rfl) (hs0.i 2 rfl), fun k hk i => ?_, a9.cg (hs0.i 2 rfl) rfl, a10.cg (hs0.i 0 rfl) (hs0.i 1 rfl) (hs0.i 2 rfl) rfl, a11, ?_, a13.cg (hs0.i 26 rfl) (hs0.i 27 rfl), a14.cg (hs0.i 0 rfl) (hs0.i 10 rfl) (hs0.i 11 rfl) (hs0.i 12 rfl) rfl rfl rfl⟩
      · rw [sI_I]
        split
        · exact Or.inl rfl
        · rw [sI_N (fun z => by subst z; revert hk; decide)]; exact a5 k hk i
      · unfold WXo
        rw [hs0.i 25 rfl]; exact a12
    · exact hT
  have hV1 : WV (los1 S) := by
    unfold los1
    split
    · exact (hV.i (by decide) (by decide)).i (by decide) (by decide)
    · exact hV
  have hN1 : WN (los1 S) c := hN.sd hs1 rfl
  have th1 : ∀ i, th (los1 S) i ↔ th S i := th_cg (hs1.i 0 rfl) (hs1.i 1 rfl)
  have sh1 : ∀ i, shn (los1 S) i = shn S i := shn_cg (hs1.i 3 rfl) (hs1.i 12 rfl)
  have hcur1 : cur (los1 S) = cur S := cur_cg (hs1.i 20 rfl)
  have hfx1 : WXf (los1 S) := by
    unfold WXf
    rw [hs1.i 2 rfl]
    by_cases g : gonA S (sI S 21 0) = true
    · refine Or.inl ?_
      unfold los1
      rw [if_pos g, sI_N (by decide), sI_I, if_pos ⟨rfl, rfl⟩]
    · have e : los1 S = S := by unfold los1; rw [if_neg g]
      rw [e]
      rcases hfo with hfo | ⟨f, f1, f2, f3⟩
      · exact Or.inl hfo
      · refine Or.inr ⟨f, f1, ?_⟩
        unfold gonA nth at g
        rw [f1, nI_clamp (by omega)] at g
        simp only [Bool.and_eq_true, decide_eq_true_eq, Bool.or_eq_true, not_and, not_or, Bool.not_eq_true', Bool.not_eq_false] at g
        have g2 := g (nI_m1 (by omega))
        exact ⟨⟨f2, g2.1⟩, g2.2, f3⟩
  have gon_cg : gonA (los1 S) (sI (los1 S) 20 0) = gonA S (sI S 20 0) := by
    unfold gonA
    rw [hs1.i 20 rfl, hs1.i 1 rfl, sh1]
  unfold los los3
  by_cases g : gonA S (sI S 20 0) = true
  · rw [gon_cg, if_pos g]
    obtain ⟨hr, hs⟩ := hrs g
    have hs2 := sd_los2 (los1 S) r
    have hty1 : sI (los1 S) 22 0 = 0 := by
      unfold los1
      rcases hty with q | q
      · split
        · rw [sI_I, if_pos ⟨rfl, rfl⟩]
        · exact q
      · rw [if_pos (by rw [q.2]; exact g), sI_I, if_pos ⟨rfl, rfl⟩]
    have hT2 : CoreT (los2 (los1 S) r) := by
      obtain ⟨a1, a2, a3, a5, a9, a10, a11, a12, a13, a14⟩ := hT1
      refine ⟨a1.sd hs2 rfl, a2, a3.cg (hs2.i 0 rfl) (hs2.i 1 rfl) (hs2.i 2 rfl), fun k hk i => ?_, a9.cg (hs2.i 2 rfl) rfl, a10.cg (hs2.i 0 rfl) (hs2.i 1 rfl) (hs2.i 2 rfl) rfl, a11, ⟨0, by decide, ?_⟩, a13.cg (hs2.i 26 rfl) (hs2.i 27 rfl), a14.cg (hs2.i 0 rfl) (hs2.i 10 rfl) (hs2.i 11 rfl) (hs2.i 12 rfl) rfl rfl rfl⟩
      · have : ∀ k, k ∈ [1, 10, 12, 22, 23, 24] → decide (k ∉ [20, 25]) = true := by decide
        rw [hs2.i k (this k hk)]; exact a5 k hk i
      · unfold los2
        rw [sI_I, if_pos ⟨rfl, rfl⟩]; rfl
    have hr40 := hr.l40 hT.1
    have hcur2 : cur (los2 (los1 S) r) = r := by
      unfold cur los2
      rw [sI_N (by decide), sI_I, if_pos ⟨rfl, rfl⟩, nI_clamp (by omega)]
    have th2 : ∀ i, th (los2 (los1 S) r) i ↔ th S i := fun i => (th_cg (hs2.i 0 rfl) (hs2.i 1 rfl) i).trans (th1 i)
    have sh2 : ∀ i, shn (los2 (los1 S) r) i = shn S i := fun i => (shn_cg (hs2.i 3 rfl) (hs2.i 12 rfl) i).trans (sh1 i)
    have hC2 : CoreC (los2 (los1 S) r) := by
      refine ⟨⟨?_, ?_⟩, ?_, ?_, Or.inl ?_⟩
      · rw [hcur2]
        unfold los2
        rw [sI_N (by decide), sI_I, if_pos ⟨rfl, rfl⟩]
      · rw [hcur2, th2]; exact hr
      · unfold WXs
        rw [hcur2, sh2]; exact hs
      · exact hfx1.cg (hs2.i 0 rfl) (hs2.i 1 rfl) (hs2.i 2 rfl) (hs2.i 3 rfl) (hs2.i 12 rfl) (hs2.i 21 rfl)
      · rw [hs2.i 22 rfl]; exact hty1
    have hV2 : WV (los2 (los1 S) r) := (hV1.i (by decide) (by decide)).i (by decide) (by decide)
    have hN2 : WN (los2 (los1 S) r) c := hN1.sd hs2 rfl
    have hl := wd_len0 (los2 (los1 S) r) hT2.2.1 r [108, 111, 115, 116]
    have hpos : 0 < (wd (los2 (los1 S) r) r [108, 111, 115, 116]).length := by
      have hp : ∀ t p : List Int32, t.length ≤ (pt t p).length := fun t p => by unfold pt; rw [List.length_append]; omega
      have h1 : ∀ S : SS, ∀ i, ∀ t : List Int32, t.length ≤ (wd1 S i t).length := fun S i t => by unfold wd1; split; exact Nat.le_trans (hp _ _) (hp _ _); exact hp _ _
      have h2 : ∀ S : SS, ∀ i, ∀ t : List Int32, t.length ≤ (wd2 S i t).length := fun S i t => by unfold wd2; split; exact hp _ _; exact Nat.le_refl _
      have h3 : ∀ S : SS, ∀ i, ∀ t : List Int32, t.length ≤ (wd3 S i t).length := fun S i t => by unfold wd3; exact Nat.le_trans (hp _ _) (Nat.le_trans (hp _ _) (hp _ _))
      have h4 : ([108, 111, 115, 116] : List Int32).length ≤ (wd (los2 (los1 S) r) r [108, 111, 115, 116]).length := by
        unfold wd
        split
        · exact Nat.le_trans (h1 _ _ _) (Nat.le_trans (h2 _ _ _) (Nat.le_trans (hp _ _) (h3 _ _ _)))
        · exact Nat.le_trans (h1 _ _ _) (Nat.le_trans (h2 _ _ _) (hp _ _))
      simp at h4; omega
    have hsA := sd_cAl (los2 (los1 S) r) (wd (los2 (los1 S) r) r [108, 111, 115, 116])
    have hq : sQ (los2 (los1 S) r) 35 = sQ S 35 := (hs2.q 35 rfl).trans (hs1.q 35 rfl)
    refine ⟨⟨hT2.sd hsA rfl, hV2.kcAl hpos (by simp at hl; omega), hN2.sd hsA rfl, ?_⟩, hC2.sd hsA rfl⟩
    rw [cAl_len, hq]; omega
  · rw [gon_cg, if_neg g]
    have g' : th S (cur S) ∧ shn S (cur S) = true := by
      unfold gonA nth at g
      rw [hcu.1, nI_clamp (by omega)] at g
      simp only [Bool.and_eq_true, decide_eq_true_eq, Bool.or_eq_true, not_and, not_or, Bool.not_eq_true', Bool.not_eq_false] at g
      have g2 := g (nI_m1 (by omega))
      exact ⟨⟨hcu.2, g2.1⟩, g2.2⟩
    refine ⟨⟨hT1, hV1, hN1, by rw [hs1.q 35 rfl]; omega⟩, ⟨?_, ?_⟩, ?_, hfx1, ?_⟩
    · rw [hcur1, hs1.i 20 rfl]; exact hcu.1
    · rw [hcur1, th1]; exact g'.1
    · unfold WXs
      rw [hcur1, sh1]; exact g'.2
    · unfold WXt
      rw [hcur1, hs1.i 2 rfl, hs1.i 20 rfl]
      unfold los1
      split
      · exact Or.inl (by rw [sI_I, if_pos ⟨rfl, rfl⟩])
      · exact hty
end TT

/-! ===== what chords change; ticks keep the form; the reference's keys and ticks ===== -/
abbrev cI : List Nat := [10, 11, 20, 21, 22, 23, 24, 25, 38, 44]
theorem sdc_A (S : SS) (t : List Int32) : Sd cI [8, 33] [30] S (cAns S t) := (sd_cAns S t).mono (by decide)
theorem sdc_go (S : SS) (x : Nat) : Sd cI [8, 33] [30] S (go S x) := (((Sd.I (by decide)).tr (Sd.I (by decide))).tr (Sd.I (by decide))).tr (sdc_A _ _)
theorem sdc_goO (S : SS) (o : Option Nat) (w : List Int32) : Sd cI [8, 33] [30] S (goO S o w) := by
  cases o with
  | some x => exact sdc_go S x
  | none => exact sdc_A S w
theorem sdc_tab (S : SS) : Sd cI [8, 33] [30] S (gTab S) := by
  unfold gTab
  split
  · exact (Sd.I (by decide)).tr (sdc_go _ _)
  · exact sdc_A _ _
theorem sdc_act (S : SS) : Sd cI [8, 33] [30] S (act S) := by
  have h2 : Sd cI [8, 33] [30] S (act2 S) := Sd.I (by decide)
  exact Sd.if (Sd.if (h2.tr ((Sd.I (by decide)).tr (sdc_A _ _))) (Sd.if (h2.tr ((Sd.I (by decide)).tr (sdc_A _ _))) (h2.tr ((((Sd.I (by decide)).tr (Sd.I (by decide))).tr (Sd.I (by decide))).tr (sdc_A _ _))))) (sdc_A _ _)
theorem sdc_cmd (S : SS) (p : Int32) : Sd cI [8, 33] [30] S (cmd S p) :=
  Sd.if (sdc_goO _ _ _) (Sd.if (sdc_goO _ _ _) (Sd.if (sdc_goO _ _ _) (Sd.if (sdc_goO _ _ _) (Sd.if (Sd.if (sdc_goO _ _ _) (sdc_A _ _)) (Sd.if (Sd.if (sdc_goO _ _ _) (sdc_A _ _)) (Sd.if (sdc_tab S) (Sd.if (sdc_act S) (Sd.if ((sd_hush S).mono (by decide)) (Sd.if (Sd.I (by decide)) (Sd.if (Sd.I (by decide)) (Sd.if (sdc_A _ _) Sd.rf)))))))))))
theorem sdc_typ (S : SS) (c : Int32) : Sd cI [8, 33] [30] S (typ S c) := (sd_typ S c).mono (by decide)
theorem sdc_typL (S : SS) (j : Nat) : Sd cI [8, 33] [30] S (typL S j) := Sd.if (sdc_typ _ _) (Sd.if (sdc_typ _ _) ((sdc_typ _ _).tr ((Sd.I (by decide)).tr (Sd.I (by decide)))))
theorem sdc_tkB (S : SS) : Sd cI [8, 33] [30] S (tkB S) := Sd.if (sdc_A _ _) ((Sd.L (by decide)).tr ((sd_sayC _ _).mono (by decide)))
theorem sdc_typS (S : SS) (p : Int32) : Sd cI [8, 33] [30] S (typS S p) := by
  unfold typS
  split
  · exact sdc_typL S _
  · exact Sd.if (Sd.I (by decide)) (Sd.if (Sd.I (by decide)) (Sd.if (Sd.I (by decide)) (Sd.if (sdc_typ _ _) (Sd.if (sdc_typ _ _) (Sd.if (sdc_typ _ _) (Sd.if (sdc_typ _ _) (Sd.if (Sd.if (sdc_typ _ _) ((sdc_typ _ _).tr (Sd.I (by decide)))) (Sd.if (sdc_tkB S) (Sd.if ((Sd.I (by decide)).tr (sdc_A _ _)) Sd.rf)))))))))
theorem sd_chd (S : SS) (p : Int32) : Sd cI [8, 33] [30] S (chd S p) := by
  refine Sd.tr ?_ ((sd_fit _).mono (by decide))
  exact Sd.if (Sd.if (Sd.if Sd.rf (Sd.if Sd.rf (sdc_goO _ _ _))) (sdc_typS S p)) (sdc_cmd S _)
/-! ticks -/
def K17 (S S' : SS) : Prop := ∀ i, sL S' 17 i = sL S 17 i ∨ sL S' 17 i = []
theorem K17.of {S S' : SS} (h : sL S' 17 = sL S 17) : K17 S S' := fun i => Or.inl (by rw [h])
theorem K17.tr {S T U : SS} (h1 : K17 S T) (h2 : K17 T U) : K17 S U := fun i => (h2 i).elim (fun e => by rw [e]; exact h1 i) Or.inr
theorem K17.w {S : SS} {r : Nat} : K17 S (wSL S 17 r []) := fun i => by
  rw [sL_L]
  split
  · exact Or.inr rfl
  · exact Or.inl rfl
theorem k17_swl (S : SS) (r : Nat) : K17 S (swl S r) := by
  unfold swl
  split
  · exact K17.of rfl
  · exact K17.w (S := wSI S 45 0 (sI S 45 0 + 1))
theorem k17_kpt1 (S : SS) (r : Nat) : K17 S (kpt1 S r) := by
  unfold kpt1
  split
  · exact K17.of rfl
  · split
    · exact (K17.w (S := S) (r := r)).tr (K17.of ((sd_cNews _ _).l 17 rfl))
    · exact k17_swl S r
theorem k17_kptF (S : SS) : ∀ n, K17 S (kptF S n)
  | 0 => K17.of rfl
  | n + 1 => by rw [kptF_s]; exact (k17_kptF S n).tr (k17_kpt1 _ n)
theorem k17_tck1 (S : SS) : K17 S (tck1 S) := by
  refine K17.tr (T := kpt (wSI S 46 0 (sI S 46 0 + 1))) ?_ (K17.of ?_)
  · exact k17_kptF (wSI S 46 0 (sI S 46 0 + 1)) _
  · unfold tck1
    rw [(sd_spkI _).l 17 rfl, (sd_bgnI _).l 17 rfl]
theorem Core.k17 {S S' : SS} {ki kl kq : List Nat} (h : Core S) (hs : Sd ki kl kq S S') (h1 : (dsj cki ki && dsj [6, 8, 18] kl) = true) (h17 : K17 S S') : Core S' := by
  rw [Bool.and_eq_true] at h1
  have e : ∀ k, decide (k ∈ cki) = true → sI S' k = sI S k := fun k hk => hs.i k (dsj_of h1.1 (of_decide_eq_true hk))
  have el : ∀ k, decide (k ∈ [6, 8, 18]) = true → sL S' k = sL S k := fun k hk => hs.l k (dsj_of h1.2 (of_decide_eq_true hk))
  obtain ⟨a1, a2, a3, a4, a5, a6, a7, a8, a9, a10, a11, a12, a13, a14⟩ := h
  refine ⟨a1.cg (e 0 rfl) (e 1 rfl) (e 2 rfl) (e 3 rfl) (e 12 rfl) hs.2.2.2, fun i => ?_, a3.cg (e 0 rfl) (e 1 rfl) (e 2 rfl), a4.cg (e 0 rfl) (e 1 rfl) (e 20 rfl), a5.cg (fun k hk => ?_), a6.cg (e 3 rfl) (e 12 rfl) (e 20 rfl), a7.cg (e 0 rfl) (e 1 rfl) (e 2 rfl) (e 3 rfl) (e 12 rfl) (e 21 rfl), a8.cg (e 2 rfl) (e 20 rfl) (e 21 rfl) (e 22 rfl), a9.cg (e 2 rfl) (el 8 rfl), fun i hi => ?_, ?_, ?_, a13.cg (e 26 rfl) (e 27 rfl), fun i hi => ?_⟩
  · rw [el 6 rfl, el 8 rfl]
    refine ⟨(a2 i).1, (a2 i).2.1, ?_⟩
    rcases h17 i with z | z
    · rw [z]; exact (a2 i).2.2
    · rw [z]; simp
  · have : ∀ k, k ∈ [1, 10, 12, 22, 23, 24] → decide (k ∈ cki) = true := by decide
    exact e k (this k hk)
  · rcases h17 i with z | z
    · rw [z] at hi
      rw [e 2 rfl]
      exact ⟨(a10 i hi).1, (th_cg (e 0 rfl) (e 1 rfl) i).mpr (a10 i hi).2⟩
    · rw [z] at hi; simp at hi
  · unfold WXd
    rw [el 18 rfl]; exact a11
  · unfold WXo
    rw [e 25 rfl]; exact a12
  · rw [made_cg (e 0 rfl)] at hi
    obtain ⟨z1, z2, z3, z4, z5, z6⟩ := a14 i hi
    rw [el 8 rfl, e 10 rfl, e 11 rfl, e 12 rfl, hs.2.2.2]
    refine ⟨z1, ?_, z3, z4, z5, z6⟩
    rcases h17 i with z | z
    · rw [z]; exact z2
    · exact z
theorem fit_keep {S S' : SS} (h : fit S = S) (hl : ln S' = ln S) (h25 : sI S' 25 = sI S 25) : fit S' = S' := by
  unfold fit at *
  rw [hl, h25]
  by_cases q : 0 < sI S 25 0 ∧ nI (ln S).length ≤ sI S 25 0
  · rw [if_pos q] at h
    rw [if_pos q]
    refine wSI_same ?_
    have := congrArg (fun T => sI T 25 0) h
    replace this : sI (wSI S 25 0 (if (ln S).length = 0 then 0 else nI (((ln S).length - 1) / 10 * 10))) 25 0 = sI S 25 0 := this
    rw [sI_I, if_pos ⟨rfl, rfl⟩] at this
    rw [this, h25]
  · rw [if_neg q]
theorem tck_Inv {S : SS} {c : Nat} (h : Inv S c) : Inv (tck1 S) (c + 2) := by
  obtain ⟨h1, h2, h3, h4, h5⟩ := tck_keep h.1.1.t h.1.1.l h.1.2.1 h.1.2.2.1
  have hs := sd_tck1 S
  have h6 := Nat.le_trans h5 h.2.2
  exact ⟨⟨h.1.1.k17 hs rfl (k17_tck1 S), h3, h4, h6⟩, fit_keep h.2.1 (ln_cg (hs.i 2 rfl) (hs.i 3 rfl) (hs.i 10 rfl) (hs.i 13 rfl) (hs.i 20 rfl) (hs.i 22 rfl) (hs.l 6 rfl) (hs.l 8 rfl)) (hs.i 25 rfl), h6⟩
theorem Inv.kTick {S : SS} {c : Nat} (h : Inv S c) : ∀ n, Inv (tckN S n) (c + 2 * n)
  | 0 => h
  | n + 1 => by
    have := tck_Inv (h.kTick n)
    rw [show c + 2 * (n + 1) = c + 2 * n + 2 by omega]
    exact this
/-- the call answers, throws and leaves the desk as r says of the desk at which nothing was thrown -/
def MF (S : SS) (m : mm) (f : Option (Int32 × mm)) (r : SS → aS) : Prop := ∃ m', f = some ((r (z0 S)).2.1, m') ∧ RM (wSI (r (z0 S)).2.2 48 0 (r (z0 S)).1) m'
section MT
variable {S : SS} {m : mm}
theorem MC.toF {f : Option (Int32 × mm)} {r : SS → aS} (h : MC S m f r) (e : ((r (z0 S)).1, (r (z0 S)).2.1) = ((r S).1, (r S).2.1)) : MF S m f r := by
  obtain ⟨m', a, b⟩ := h
  obtain ⟨e1, e2⟩ := Prod.mk.inj e
  exact ⟨m', by rw [e2]; exact a, by rw [e1]; exact b⟩
theorem MF.thr {f : Option (Int32 × mm)} {r : SS → aS} {k : Int32} (hM : RM S m) (h2 : r (z0 S) = tw k (z0 S)) (hf : f = some (0, up2 m 48 0 k)) : MF S m f r := by
  refine ⟨_, by rw [h2]; exact hf, ?_⟩
  rw [h2]
  show RM (wSI (wSI S 48 0 0) 48 0 k) _
  rw [wSI_two]
  exact hM.wI0 rfl
theorem MF.okr {f : Option (Int32 × mm)} {r : SS → aS} {a : Int32} {S' : SS} (h2 : r (z0 S) = rt a S') (h48 : sI S' 48 0 = 0) (hf : ∃ m', f = some (a, m') ∧ RM S' m') : MF S m f r := by
  obtain ⟨m', g1, g2⟩ := hf
  refine ⟨m', by rw [h2]; exact g1, ?_⟩
  rw [h2]
  show RM (wSI S' 48 0 0) m'
  rw [wSI_same h48]
  exact g2
theorem not_neg {x : Int32} {a : Int32} (ha : (0 : Int32) ≤ a) (h : a ≤ x) : ¬ x < 0 := fun z => by
  rw [Int32.lt_iff_toInt_lt] at z
  rw [Int32.le_iff_toInt_le] at ha h
  omega
theorem m_tickC (hM : RM S m) {c : Nat} (h : Inv S c) (hc : c + 200 < 1000000) (x : Int32) : MF S m (fX11_tick x m) (fun S => cTick S x) := by
  unfold fX11_tick
  by_cases q : (1 : Int32) ≤ x ∧ x ≤ 50
  · obtain ⟨n, n1, rfl⟩ := nI_of2 (n := 50) (M := 50) (by decide) (not_neg (by decide) q.1) q.2
    have nq : ¬ ¬ ((1 : Int32) ≤ nI n ∧ nI n ≤ 50) := fun z => z q
    have hz := h.z
    have hM' := hM.z
    have n0 : nth (nI n) = n := nth_nI (by omega)
    have s48 : ∀ k, sI (tckN (z0 S) k) 48 0 = 0 := fun k => by rw [(sd_tckN _ k).i 48 rfl]; rfl
    have key : ∃ b, itr (fX11_tick_B23 (nI n)) FU ((0 : Int32), (0 : Int32), up2 m 48 0 0) = some b ∧ b.1 = sI (tckN (z0 S) n) 43 0 - sI S 43 0 ∧ RM (tckN (z0 S) n) b.2 := by
      refine itr_for (R := fun (b : Int32 × mm) => b.1 = sI (tckN (z0 S) n) 43 0 - sI S 43 0 ∧ RM (tckN (z0 S) n) b.2) (fun j a => ∃ m', a = (sI (tckN (z0 S) j) 43 0 - sI S 43 0, nI j, m') ∧ RM (tckN (z0 S) j) m') n (fun j a hj hX => ?_) (fun a hX => ?_) (FU_lt (by omega)) ⟨up2 m 48 0 0, ?_, hM'⟩
      · obtain ⟨m', rfl, x1⟩ := hX
        have hj' := hz.kTick j
        obtain ⟨m2, a2, b2⟩ := m_tck1 x1 hj'.1.1.t hj'.1.1.l hj'.1.2.1 hj'.1.2.2.1 (by omega) (by have := hj'.2.2; omega) (s48 j) hj n1 (sI S 43 0)
        exact ⟨_, a2, m2, rfl, b2⟩
      · obtain ⟨m', rfl, x1⟩ := hX
        refine ⟨(sI (tckN (z0 S) n) 43 0 - sI S 43 0, m'), ?_, rfl, x1⟩
        unfold fX11_tick_B23
        rw [if_pos (show nI n ≤ nI n from Int32.le_refl _)]
      · show ((0 : Int32), (0 : Int32), _) = (sI S 43 0 - sI S 43 0, _, _)
        rw [Int32.sub_self]; rfl
    obtain ⟨b, k1, k2, k3⟩ := key
    refine MF.okr (a := sI (tckN (z0 S) n) 43 0 - sI S 43 0) (S' := tckN (z0 S) n) ?_ (s48 n) ⟨b.2, ?_, k3⟩
    · show cTick (z0 S) _ = _
      unfold cTick
      rw [if_neg nq, n0]; rfl
    · rw [in_dec q, sb, if_neg (by decide), sb, mPIs, sb, k1, sb, k2]
  · refine MF.thr (k := 1) hM ?_ ?_
    · show cTick (z0 S) _ = _
      unfold cTick
      rw [if_pos q]
    · have e1 : fX11_tick_B23 x ((0 : Int32), (0 : Int32), up2 m 48 0 1) = some (.inr ((0 : Int32), up2 m 48 0 1)) := by
        unfold fX11_tick_B23
        by_cases w : x ≤ 0
        · rw [if_pos (show x ≤ (0 : Int32) from w)]
        · rw [if_neg (show ¬ x ≤ (0 : Int32) from w), if_neg]
          show ¬ up2 m 48 0 1 48 0 = 0
          rw [up_s]; decide
      rw [in_dec0 q, sb, if_pos rfl, sb, mPIs, sb, show FU = 4999 + 1 from rfl, itr_end e1 4999, sb]
/-! keys -/
theorem m_bits : ∀ n, n < 512 → fX11_bits (nI n) = some (nI (bts n)) := by decide +kernel
theorem or_bit : ∀ d, d < 512 → ∀ k, k < 9 → (nI d ||| ((1 : Int32) <<< (nI k &&& 31))) = nI (d ||| 2 ^ k) ∧ d ||| 2 ^ k < 512 ∧ d ||| 2 ^ k ≠ 0 := by decide +kernel
theorem and_bit : ∀ d, d < 512 → ∀ k, k < 9 → (nI d &&& (((1 : Int32) <<< (nI k &&& 31)) ^^^ (-1))) = nI (d &&& (511 ^^^ 2 ^ k)) ∧ d &&& (511 ^^^ 2 ^ k) < 512 := by decide +kernel
theorem m_press (hM : RM S m) {c : Nat} (h : Inv S c) (x : Int32) : MC S m (fX11_press x m) (fun S => cPress S x) := by
  obtain ⟨d, e, d1, e1, d2, e2, de⟩ := h.1.1.xp
  unfold fX11_press
  by_cases q : (0 : Int32) ≤ x ∧ x ≤ 8
  · obtain ⟨k, k1, rfl⟩ := nI_of2 (n := 8) (M := 8) (by decide) (not_neg (by decide) q.1) q.2
    have nq : ¬ ¬ ((0 : Int32) ≤ nI k ∧ nI k ≤ 8) := fun z => z q
    rw [in_dec q, sb, if_neg (by decide), hM.p 26 rfl]
    by_cases w : (sI S 26 0 >>> (nI k &&& 31)) &&& (1 : Int32) = 1
    · rw [if_pos w]
      refine MC.genT (t := 2) (X := S) hM rfl (by decide) ?_ ?_
      · show cPress S _ = _
        unfold cPress
        rw [if_neg nq, if_pos w]
      · show (cPress (z0 S) _).2.2 = _
        unfold cPress
        rw [if_neg nq, if_pos (show (sI (z0 S) 26 0 >>> (nI k &&& 31)) &&& (1 : Int32) = 1 from w)]; rfl
    · rw [if_neg w]
      obtain ⟨o1, o2, o3⟩ := or_bit d d1 k (by omega)
      refine MC.gen0 (a := nI (bts (dwn (prs S (nI k))))) (X := prs S (nI k)) (S' := prs (z0 S) (nI k)) rfl ?_ ?_ rfl ?_
      · show cPress S _ = _
        unfold cPress
        rw [if_neg nq, if_neg w]
      · show (cPress (z0 S) _).2.2 = _
        unfold cPress
        rw [if_neg nq, if_neg (show ¬ (sI (z0 S) 26 0 >>> (nI k &&& 31)) &&& (1 : Int32) = 1 from w)]; rfl
      · have hM' := hM.z
        have hP := ((hM'.wI0 (k := 27) (i := 0) (v := if sI S 26 0 = 0 then 0 else sI S 27 0) rfl).wI0 (k := 27) (i := 0) (v := (if sI S 26 0 = 0 then 0 else sI S 27 0) ||| ((1 : Int32) <<< (nI k &&& 31))) rfl).wI0 (k := 26) (i := 0) (v := sI S 26 0 ||| ((1 : Int32) <<< (nI k &&& 31))) rfl
        rw [wSI_two] at hP
        have key : (if up2 m 48 0 0 26 0 = 0 then some (0 : Int32) else some (up2 m 48 0 0 27 0)) = some (if sI S 26 0 = 0 then 0 else sI S 27 0) := by
          rw [hM'.p 26 rfl, hM'.p 27 rfl]
          show (if sI S 26 0 = 0 then _ else some (sI S 27 0)) = _
          by_cases z : sI S 26 0 = 0
          · rw [if_pos z, if_pos z]
          · rw [if_neg z, if_neg z]
        have e26 : (up2 m 48 0 0) 26 0 = sI S 26 0 := hM'.p 26 rfl 0
        rw [key, sb, mPIs, sb, up_s, mPIs, sb]
        generalize hv : (if sI S 26 0 = 0 then 0 else sI S 27 0) = v at *
        rw [up_f _ _ _ (by decide), up_f _ _ _ (by decide), e26, mPIs, sb, up_s]
        have e3 : dwn (prs S (nI k)) = d ||| 2 ^ k := by
          unfold dwn prs nth
          rw [sI_I, if_pos ⟨rfl, rfl⟩, d2, o1, nI_clamp (by omega)]
        rw [e3, show fX11_bits (sI S 26 0 ||| ((1 : Int32) <<< (nI k &&& 31))) = some (nI (bts (d ||| 2 ^ k))) from by rw [d2, o1, m_bits _ o2], sb]
        refine ⟨_, rfl, ?_⟩
        unfold prs
        show RM (wSI (wSI (z0 S) 27 0 ((if sI S 26 0 = 0 then 0 else sI S 27 0) ||| _)) 26 0 (sI S 26 0 ||| _)) _
        rw [hv]
        exact hP
  · rw [in_dec0 q, sb, if_pos rfl]
    refine MC.genT (t := 1) (X := S) hM rfl (by decide) ?_ ?_
    · show cPress S _ = _
      unfold cPress
      rw [if_pos q]
    · show (cPress (z0 S) _).2.2 = _
      unfold cPress
      rw [if_pos q]; rfl
theorem Core.kp {S' : SS} {ki : List Nat} (h : Core S) (hs : Sd [26, 27] [] [] S S') (hp : WXp S') : Core S' := by
  obtain ⟨a1, a2, a3, a4, a5, a6, a7, a8, a9, a10, a11, a12, a13, a14⟩ := h
  refine ⟨a1.cg (hs.i 0 rfl) (hs.i 1 rfl) (hs.i 2 rfl) (hs.i 3 rfl) (hs.i 12 rfl) hs.2.2.2, a2.cg (hs.l 6 rfl) (hs.l 8 rfl) (hs.l 17 rfl), a3.cg (hs.i 0 rfl) (hs.i 1 rfl) (hs.i 2 rfl), a4.cg (hs.i 0 rfl) (hs.i 1 rfl) (hs.i 20 rfl), a5.cg (fun k hk => ?_), a6.cg (hs.i 3 rfl) (hs.i 12 rfl) (hs.i 20 rfl), a7.cg (hs.i 0 rfl) (hs.i 1 rfl) (hs.i 2 rfl) (hs.i 3 rfl) (hs.i 12 rfl) (hs.i 21 rfl), a8.cg (hs.i 2 rfl) (hs.i 20 rfl) (hs.i 21 rfl) (hs.i 22 rfl), a9.cg (hs.i 2 rfl) (hs.l 8 rfl), a10.cg (hs.i 0 rfl) (hs.i 1 rfl) (hs.i 2 rfl) (hs.l 17 rfl), ?_, ?_, hp, a14.cg (hs.i 0 rfl) (hs.i 10 rfl) (hs.i 11 rfl) (hs.i 12 rfl) (hs.l 8 rfl) (hs.l 17 rfl) hs.2.2.2⟩
  · have : ∀ k, k ∈ [1, 10, 12, 22, 23, 24] → decide (k ∉ [26, 27]) = true := by decide
    exact hs.i k (this k hk)
  · unfold WXd
    rw [hs.l 18 rfl]; exact a11
  · unfold WXo
    rw [hs.i 25 rfl]; exact a12
theorem Inv.kp {S' : SS} {c : Nat} (h : Inv S c) (hs : Sd [26, 27] [] [] S S') (hp : WXp S') : Inv S' c := by
  refine ⟨h.1.core hs (h.1.1.kp (ki := []) hs hp) rfl, fit_keep h.2.1 (ln_cg (hs.i 2 rfl) (hs.i 3 rfl) (hs.i 10 rfl) (hs.i 13 rfl) (hs.i 20 rfl) (hs.i 22 rfl) (hs.l 6 rfl) (hs.l 8 rfl)) (hs.i 25 rfl), by rw [hs.q 35 rfl]; exact h.2.2⟩
theorem Inv.kPress {c : Nat} (h : Inv S c) {k : Nat} (hk : k ≤ 8) : Inv (prs S (nI k)) c := by
  obtain ⟨d, e, d1, e1, d2, e2, de⟩ := h.1.1.xp
  have hs : Sd [26, 27] [] [] S (prs S (nI k)) := (Sd.I (by decide)).tr (Sd.I (by decide))
  refine h.kp hs ?_
  obtain ⟨o1, o2, o3⟩ := or_bit d d1 k (by omega)
  have hv : ∃ v, v < 512 ∧ (if sI S 26 0 = 0 then 0 else sI S 27 0) = nI v := by
    split
    · exact ⟨0, by decide, rfl⟩
    · exact ⟨e, e1, e2⟩
  obtain ⟨v, v1, v2⟩ := hv
  obtain ⟨w1, w2, w3⟩ := or_bit v v1 k (by omega)
  refine ⟨d ||| 2 ^ k, v ||| 2 ^ k, o2, w2, ?_, ?_, fun _ => w3⟩
  · unfold prs
    rw [sI_I, if_pos ⟨rfl, rfl⟩, d2, o1]
  · unfold prs
    rw [sI_I, if_neg (fun z => absurd z.1 (by decide)), sI_I, if_pos ⟨rfl, rfl⟩, v2, w1]
theorem Inv.kRls1 {c : Nat} (h : Inv S c) {k : Nat} (hk : k ≤ 8) : Inv (rls1 S (nI k)) c := by
  obtain ⟨d, e, d1, e1, d2, e2, de⟩ := h.1.1.xp
  have hs : Sd [26, 27] [] [] S (rls1 S (nI k)) := Sd.I (by decide)
  refine h.kp hs ?_
  obtain ⟨o1, o2⟩ := and_bit d d1 k (by omega)
  refine ⟨d &&& (511 ^^^ 2 ^ k), e, o2, e1, ?_, ?_, fun z => de (fun w => z (by rw [w, Nat.zero_and]))⟩
  · unfold rls1
    rw [sI_I, if_pos ⟨rfl, rfl⟩, d2, o1]
  · unfold rls1
    rw [sI_I, if_neg (fun z => absurd z.1 (by decide))]; exact e2
theorem Inv.kRls {c : Nat} (h : Inv S c) {k : Nat} (hk : k ≤ 8) : Inv (rls S (nI k)) c := by
  have := h.kRls1 hk
  unfold rls
  split
  · exact this.chd _
  · exact this
theorem m_chordK (hM : RM S m) {c : Nat} (h : Inv S c) (p : Int32) : TS (fX11_doChord p) m (chd S p) := by
  obtain ⟨m1, a1, b1⟩ := m_chd0 hM h.1.1.t h.1.1.l h.1.1.k h.1.2.1 h.1.1.c h.1.1.xs h.1.1.b p
  have hI := h.1.kChd0 p
  obtain ⟨m2, a2, b2, -⟩ := m_fit b1 hI.1.t hI.1.l hI.1.k hI.1.c
  unfold TS fX11_doChord
  exact ⟨m2, by rw [a1, sb, a2, oMs], b2⟩
theorem m_release (hM : RM S m) {c : Nat} (h : Inv S c) (x : Int32) : MF S m (fX11_release x m) (fun S => cRelease S x) := by
  have hz := h.z
  have hM' := hM.z
  unfold fX11_release
  by_cases q : (0 : Int32) ≤ x ∧ x ≤ 8
  · obtain ⟨k, k1, rfl⟩ := nI_of2 (n := 8) (M := 8) (by decide) (not_neg (by decide) q.1) q.2
    have nq : ¬ ¬ ((0 : Int32) ≤ nI k ∧ nI k ≤ 8) := fun z => z q
    rw [in_dec q, sb, if_neg (by decide), hM.p 26 rfl]
    by_cases w : (sI S 26 0 >>> (nI k &&& 31)) &&& (1 : Int32) = 0
    · refine MF.thr (k := 2) hM ?_ ?_
      · show cRelease (z0 S) _ = _
        unfold cRelease
        rw [if_neg nq, if_pos (show (sI (z0 S) 26 0 >>> (nI k &&& 31)) &&& (1 : Int32) = 0 from w)]
      · rw [if_pos w, sb, mPIs, sb, up_s, if_neg (by decide)]
    · obtain ⟨d, e, d1, e1, d2, e2, de⟩ := hz.1.1.xp
      obtain ⟨o1, o2⟩ := and_bit d d1 k (by omega)
      have hR := hz.kRls1 k1
      have e26 : sI (rls1 (z0 S) (nI k)) 26 0 = nI (d &&& (511 ^^^ 2 ^ k)) := by
        unfold rls1
        rw [sI_I, if_pos ⟨rfl, rfl⟩, d2, o1]
      have e27 : sI (rls1 (z0 S) (nI k)) 27 0 = sI (z0 S) 27 0 := by
        unfold rls1
        rw [sI_I, if_neg (fun z => absurd z.1 (by decide))]
      have hM1 : RM (rls1 (z0 S) (nI k)) (up2 (up2 m 48 0 0) 26 0 (sI (z0 S) 26 0 &&& (((1 : Int32) <<< (nI k &&& 31)) ^^^ (-1)))) := hM'.wI0 rfl
      have key : ∃ m2, (if (up2 (up2 m 48 0 0) 26 0 (sI (z0 S) 26 0 &&& (((1 : Int32) <<< (nI k &&& 31)) ^^^ (-1)))) 26 0 = 0 then (oM (fX11_doChord ((up2 (up2 m 48 0 0) 26 0 (sI (z0 S) 26 0 &&& (((1 : Int32) <<< (nI k &&& 31)) ^^^ (-1)))) 27 0) (up2 (up2 m 48 0 0) 26 0 (sI (z0 S) 26 0 &&& (((1 : Int32) <<< (nI k &&& 31)) ^^^ (-1))))) fun _ m9 => some m9) else some (up2 (up2 m 48 0 0) 26 0 (sI (z0 S) 26 0 &&& (((1 : Int32) <<< (nI k &&& 31)) ^^^ (-1))))) = some m2 ∧ RM (rls (z0 S) (nI k)) m2 := by
        unfold rls
        rw [hM1.p 26 rfl, hM1.p 27 rfl, e27]
        by_cases z : sI (rls1 (z0 S) (nI k)) 26 0 = 0
        · rw [if_pos z, if_pos z]
          obtain ⟨m2, a2, b2⟩ := m_chordK hM1 hR (sI (z0 S) 27 0)
          exact ⟨m2, by rw [a2, oMs], b2⟩
        · rw [if_neg z, if_neg z]
          exact ⟨_, rfl, hM1⟩
      obtain ⟨m2, a2, b2⟩ := key
      have hsr : ∀ f, decide (f ∉ cI) = true → sI (rls (z0 S) (nI k)) f = sI (rls1 (z0 S) (nI k)) f := fun f hf => by
        unfold rls
        split
        · exact (sd_chd _ _).i f hf
        · rfl
      have er : (cRelease (z0 S) (nI k)) = rt (nI (bts (d &&& (511 ^^^ 2 ^ k)))) (rls (z0 S) (nI k)) := by
        unfold cRelease
        rw [if_neg nq, if_neg (show ¬ (sI (z0 S) 26 0 >>> (nI k &&& 31)) &&& (1 : Int32) = 0 from w)]
        unfold dwn nth
        rw [e26, nI_clamp (by omega)]
      refine MF.okr er ?_ ⟨m2, ?_, b2⟩
      · rw [hsr 48 rfl]; rfl
      · rw [if_neg w, sb, mPIs, sb, up_s, if_pos (by decide), hM'.p 26 rfl, mPIs, sb, a2, sb, b2.p 26 rfl, hsr 26 rfl, e26, m_bits _ o2, sb]
  · refine MF.thr (k := 1) hM ?_ ?_
    · show cRelease (z0 S) _ = _
      unfold cRelease
      rw [if_pos q]
    · rw [in_dec0 q, sb, if_pos rfl, sb, mPIs, sb, up_s, if_neg (by decide)]
theorem m_chordC (hM : RM S m) {c : Nat} (h : Inv S c) (p : Int32) : MF S m (fX11_chord p m) (fun S => cChord S p) := by
  have hz := h.z
  have hM' := hM.z
  unfold fX11_chord
  by_cases q : (1 : Int32) ≤ p ∧ p ≤ 511
  · have nq : ¬ ¬ ((1 : Int32) ≤ p ∧ p ≤ 511) := fun z => z q
    rw [in_dec q, sb, if_neg (by decide), hM.p 26 rfl]
    by_cases w : 0 < sI S 26 0
    · refine MF.thr (k := 2) hM ?_ ?_
      · show cChord (z0 S) _ = _
        unfold cChord
        rw [if_neg nq, if_pos (show 0 < sI (z0 S) 26 0 from w)]
      · rw [if_neg (Int32.not_le.mpr w), sb, mPIs, sb, up_s, if_neg (by decide)]
    · obtain ⟨m2, a2, b2⟩ := m_chordK hM' hz p
      refine MF.okr (a := sI (chd (z0 S) p) 20 0) (S' := chd (z0 S) p) ?_ (by rw [(sd_chd _ _).i 48 rfl]; rfl) ⟨m2, ?_, b2⟩
      · show cChord (z0 S) _ = _
        unfold cChord
        rw [if_neg nq, if_neg (show ¬ 0 < sI (z0 S) 26 0 from w)]
      · rw [if_pos (Int32.not_lt.mp w), sb, mPIs, sb, up_s, if_pos (by decide), a2, oMs, b2.p 20 rfl]
  · refine MF.thr (k := 1) hM ?_ ?_
    · show cChord (z0 S) _ = _
      unfold cChord
      rw [if_pos q]
    · rw [in_dec0 q, sb, if_pos rfl, sb, mPIs, sb, up_s, if_neg (by decide)]
end MT

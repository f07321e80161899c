/-! ===== one turn: an element goes, or is hidden ===== -/
theorem wH_b {ρ σ : Type} {o : Option σ} {f : σ → Option (ρ × hp)} {K : ρ → hp → Prop} : wH (o.bind f) K = wP o fun x => wH (f x) K := by
  cases o with
  | none => exact propext ⟨fun ⟨b, h, _⟩ => (by cases h), fun ⟨b, h, _⟩ => (by cases h)⟩
  | some x => rw [wPs]; rfl
section RMV
variable {B c : Nat} {E : Nat → Nat} {S T : SS} {h : hp} {m : LY}
theorem pt_ge (t p : List Int32) : t.length ≤ (pt t p).length := by unfold pt; rw [List.length_append]; omega
theorem wd_al (hk : VK T) (hl : WL T) {r : Nat} (hr : r < made T) : 0 < (wd T r [108, 111, 115, 116]).length ∧ (wd T r [108, 111, 115, 116]).length ≤ 50 := by
  obtain ⟨k, k1, k2⟩ := (hk.2 r hr).1
  have n6 := (hk.2 r hr).2.2.1
  have n8 := (hl r).2.1
  have kl := q_kw k1
  rw [← k2] at kl
  have e4 : ([108, 111, 115, 116] : List Int32).length = 4 := rfl
  have a1 : 4 ≤ (wd1 T r [108, 111, 115, 116]).length ∧ (wd1 T r [108, 111, 115, 116]).length ≤ 15 := by
    unfold wd1
    have b1 := q_pt [108, 111, 115, 116] (sL T 6 r)
    have b2 := pt_ge [108, 111, 115, 116] (sL T 6 r)
    split
    · have b3 := q_pt (pt [108, 111, 115, 116] (sL T 6 r)) (kw (sI T 2 r))
      have b4 := pt_ge (pt [108, 111, 115, 116] (sL T 6 r)) (kw (sI T 2 r))
      omega
    · omega
  have a2 : 4 ≤ (wd2 T r (wd1 T r [108, 111, 115, 116])).length ∧ (wd2 T r (wd1 T r [108, 111, 115, 116])).length ≤ 19 := by
    have b1 := q_wd2 (S := T) r (wd1 T r [108, 111, 115, 116])
    have b2 : (wd1 T r [108, 111, 115, 116]).length ≤ (wd2 T r (wd1 T r [108, 111, 115, 116])).length := by
      unfold wd2
      split
      · exact pt_ge _ _
      · exact Nat.le_refl _
    omega
  have a3 := q_pt (wd2 T r (wd1 T r [108, 111, 115, 116])) (sL T 8 r)
  have a4 := pt_ge (wd2 T r (wd1 T r [108, 111, 115, 116])) (sL T 8 r)
  unfold wd
  split
  · unfold wd3
    have m1 := q_pt (pt (wd2 T r (wd1 T r [108, 111, 115, 116])) (sL T 8 r)) (dg (vis T ((sK T (dpar T r)).take (plc T r + 1))))
    have m2 := q_pt (pt (pt (wd2 T r (wd1 T r [108, 111, 115, 116])) (sL T 8 r)) (dg (vis T ((sK T (dpar T r)).take (plc T r + 1))))) [111, 102]
    have m3 := q_dg (vis T ((sK T (dpar T r)).take (plc T r + 1)))
    have m4 : ([111, 102] : List Int32).length = 2 := rfl
    have m5 := q_pt (pt (pt (pt (wd2 T r (wd1 T r [108, 111, 115, 116])) (sL T 8 r)) (dg (vis T ((sK T (dpar T r)).take (plc T r + 1))))) [111, 102]) (dg (vis T (sK T (dpar T r))))
    have m6 := q_dg (vis T (sK T (dpar T r)))
    have g1 := pt_ge (pt (wd2 T r (wd1 T r [108, 111, 115, 116])) (sL T 8 r)) (dg (vis T ((sK T (dpar T r)).take (plc T r + 1))))
    have g2 := pt_ge (pt (pt (wd2 T r (wd1 T r [108, 111, 115, 116])) (sL T 8 r)) (dg (vis T ((sK T (dpar T r)).take (plc T r + 1))))) [111, 102]
    have g3 := pt_ge (pt (pt (pt (wd2 T r (wd1 T r [108, 111, 115, 116])) (sL T 8 r)) (dg (vis T ((sK T (dpar T r)).take (plc T r + 1))))) [111, 102]) (dg (vis T (sK T (dpar T r))))
    omega
  · omega
theorem dq_fit {k : Nat} (h : Dq k T) : Dq k (fit T) := by
  have hs := sd_fit T
  have e17 : sL (fit T) 17 = sL T 17 := hs.l 17 rfl
  have e39 : sL (fit T) 39 = sL T 39 := hs.l 39 rfl
  have e38 : sI (fit T) 38 = sI T 38 := hs.i 38 rfl
  have e41 : sI (fit T) 41 = sI T 41 := hs.i 41 rfl
  unfold Dq Qt at h ⊢
  rw [e17, e39, e38, e41, hs.q 30 rfl, hs.q 35 rfl]
  exact h
/-- when the cursor is lost, one alert waits -/
theorem dq_los (hq : Qt T) (h38 : sI T 38 0 = -1 ∨ sI T 38 0 = 0 ∨ sI T 38 0 = 1 ∨ sI T 38 0 = 2) (hk : VK T) (hl : WL T) {r : Nat} (hr : r < made T) : Dq 50 (los T r) := by
  have hs1 := sd_los1 T
  have q1 : Qt (los1 T) := ⟨fun i => by rw [hs1.l 17 rfl]; exact hq.1 i, by rw [hs1.q 30 rfl]; exact hq.2.1, by rw [hs1.q 35 rfl]; exact hq.2.2.1, by rw [hs1.i 38 rfl]; exact hq.2.2.2⟩
  unfold los los3
  by_cases g : gonA (los1 T) (sI (los1 T) 20 0) = true
  · rw [if_pos g]
    have hs2 := sd_los2 (los1 T) r
    have hs : Sd [20, 21, 22, 25] [] [] T (los2 (los1 T) r) := (hs1.mono rfl).tr (hs2.mono rfl)
    have k2 : VK (los2 (los1 T) r) := hk.sd hs rfl
    have w2 : WL (los2 (los1 T) r) := hl.cg (hs.l 6 rfl) (hs.l 8 rfl) (hs.l 17 rfl)
    have m2 := made_cg (hs.i 0 rfl)
    obtain ⟨t1, t2⟩ := wd_al k2 w2 (show r < made (los2 (los1 T) r) by rw [m2]; exact hr)
    have q2 : Qt (los2 (los1 T) r) := ⟨fun i => by rw [hs.l 17 rfl]; exact hq.1 i, by rw [hs.q 30 rfl]; exact hq.2.1, by rw [hs.q 35 rfl]; exact hq.2.2.1, by rw [hs.i 38 rfl]; exact hq.2.2.2⟩
    have h38' : sI (los2 (los1 T) r) 38 0 = -1 ∨ sI (los2 (los1 T) r) 38 0 = 0 ∨ sI (los2 (los1 T) r) 38 0 = 1 ∨ sI (los2 (los1 T) r) 38 0 = 2 := by rw [hs.i 38 rfl]; exact h38
    generalize los2 (los1 T) r = U at k2 w2 m2 t1 t2 q2 h38'
    generalize wd U r [108, 111, 115, 116] = t at t1 t2
    have e35 : sQ (wSQ U 35 (sQ U 35 ++ [t])) 35 = [t] := by
      show (if (35 : Nat) = 35 then sQ U 35 ++ [t] else sQ U 35) = [t]
      rw [if_pos rfl, q2.2.2.1]; rfl
    have e30 : sQ (wSQ U 35 (sQ U 35 ++ [t])) 30 = [] := by
      show (if (30 : Nat) = 35 then sQ U 35 ++ [t] else sQ U 30) = []
      rw [if_neg (by decide)]; exact q2.2.1
    have e38 : sI (wSQ U 35 (sQ U 35 ++ [t])) 38 0 = sI U 38 0 := rfl
    refine Or.inr (Or.inr ?_)
    have hs3 := sd_cAl1 (wSQ U 35 (sQ U 35 ++ [t]))
    refine ⟨fun i => ?_, ?_, ?_, t, ?_, t1, by omega, t2⟩
    · show sL (cAl1 (wSQ U 35 (sQ U 35 ++ [t]))) 17 i = []
      rw [hs3.l 17 rfl]; exact q2.1 i
    · show sQ (cAl1 (wSQ U 35 (sQ U 35 ++ [t]))) 30 = []
      rw [hs3.q 30 rfl]; exact e30
    · show sI (cAl1 (wSQ U 35 (sQ U 35 ++ [t]))) 38 0 = -1
      unfold cAl1
      rw [e38]
      rcases h38' with z | z | z | z
      · rw [z, if_neg (by decide), if_neg (by decide), e38]; exact z
      · rw [z, if_pos rfl]
        unfold drop1
        rw [sI_N (by decide), sI_I, if_pos ⟨rfl, rfl⟩]
      · rw [z, if_neg (by decide), if_pos rfl, sI_I, if_pos ⟨rfl, rfl⟩]
      · exact absurd z q2.2.2.2
    · show sQ (cAl1 (wSQ U 35 (sQ U 35 ++ [t]))) 35 = [t]
      rw [hs3.q 35 rfl]; exact e35
  · rw [if_neg g]
    exact Or.inl q1
theorem rfgO_lt (hW : WT S) {y : Nat} (hy : th S y) (h0 : 0 < y) : rfgO S y < made S := by
  obtain ⟨u1, u2⟩ := hW.up h0 hy
  have k3 := (hW.kids u1).2.2
  unfold rfgO rfg
  cases h1 : fnd S ((sK S (dpar S y)).drop (plc S y + 1)) with
  | some z => exact (k3 z (List.mem_of_mem_drop (List.mem_of_find?_eq_some h1))).1.lt
  | none =>
    show (Option.getD (fnd S ((sK S (dpar S y)).take (plc S y)).reverse) (dpar S y)) < made S
    cases h2 : fnd S ((sK S (dpar S y)).take (plc S y)).reverse with
    | some z => exact (k3 z (List.mem_of_mem_take (List.mem_reverse.mp (List.mem_of_find?_eq_some h2)))).1.lt
    | none => exact u1.lt
/-- refused: nothing has changed -/
theorem JJ.ref (j : JJ B c S h) {E' : Nat → Nat} {h' : hp} (x : RC B E' S h') {n : Nat} (hn : hN h' ≤ n) : Md B c S (wS h' n) ∧ Qt S := by
  have j' : JJ B c S (wS h' n) := ⟨(j.1.of x).gw (gw_S hn), j.2⟩
  exact ⟨j'.md, j.2.2⟩
theorem WV.s (h : WV S) : sI S 38 0 = -1 ∨ sI S 38 0 = 0 ∨ sI S 38 0 = 1 ∨ sI S 38 0 = 2 := h.2.2.2.2.2.1
theorem JC.new (j : JC B c S h) (hc : c < 1000000) (m2 : LY) : WKN (wml S m2) ∧ WKM (wml S m2) ∧ Inv (wml S m2) c ∧ VK (wml S m2) ∧ sL (wml S m2) 18 0 = [] ∧ sI (wml S m2) 26 0 = 0 := by
  have l2 := lo8_m S m2
  obtain ⟨-, hI, hv, hn, hm, h18, h26⟩ := j
  exact ⟨WKN.cg hn (l2.e 15 rfl) (l2.l 17), hm.cg (l2.e 0 rfl) l2.2.2.2, hI.lo8 l2, hv.lo8 l2, by rw [l2.l 18]; exact h18, by rw [l2.e 26 rfl]; exact h26⟩
/-- what stands behind a call -/
theorem JC.done {S1 S0 : SS} {E' : Nat → Nat} {h' : hp} (hKP : KP S1 (fit S0)) {m2 : LY} (e1 : S1 = wml S m2) (x3 : RC B E' (fit S0) h') (I3 : Inv (fit S0) c) (hv : VK S0) (h18 : sL S0 18 0 = []) (h26 : sI S0 26 0 = 0) (lb : LB S0 m2) : Md B c (fit S0) h' := by
  have lst : ∀ j, j < 6 → (∀ k, (lSt (fit S0)).1 j k = m2.1 j k) ∧ ∀ k, (lSt (fit S0)).2 j k = m2.2 j k := fun j hj => ⟨fun k => by rw [hKP.1.lst.1, e1]; exact (lSt_w S m2 j hj).1 k, fun k => by rw [hKP.1.lst.2, e1]; exact (lSt_w S m2 j hj).2 k⟩
  exact ⟨⟨⟨E', x3⟩, I3, hv.sd (sd_fit _) rfl, hKP.2.1, hKP.2.2, by rw [(sd_fit S0).l 18 rfl]; exact h18, by rw [(sd_fit S0).i 26 rfl]; exact h26⟩, S0, lb.ag5 (fun j hj => lst j (by omega)), rfl⟩
theorem elt_0 (hW : WT S) : elt S 0 = true := elt_y (i := 0) hW.2.1 (by decide)
/-- REMOVE -/
theorem t_rem (j : JJ B c S h) (hc : c < 1000000) {y : Nat} (hy : y < made S) {K6 : Int32 × hp → Prop} (hK : ∀ S' h', Md B c S' h' → Dq 50 S' → K6 (1, h')) : wM (fun (K8 : (Int32 × hp) → Prop) =>
  if bI (decide (sI S 1 y ≠ 0)) = 0 then
  (K8 ((-11 : Int32), h))
  else
  if nI y = 0 then
  (K8 ((-13 : Int32), h))
  else
  wH (fL_removes (some (B + 90)) (some (B + 91)) (nI y) h) fun x9 h10 =>
  K8 (x9, h10))
  fun q8 =>
  wE (fL_does (some B) (1 : Int32) (nI y) (0 : Int32) (0 : Int32) q8.2) fun x11 h12 =>
  if x11 = q8.1 then
  (K6 ((1 : Int32), h12))
  else
  K6 ((0 : Int32), h12) := by
  obtain ⟨E, x, rd⟩ := j.rd
  have hI := j.1.2.1
  have hC := hI.1.1
  have l10 := rd.m10
  have do1 : ∀ h1, RC B E S h1 → fL_does (some B) 1 (nI y) 0 0 h1 = fX10_remove B (nI y) h1 := fun h1 x1 => by
    unfold fL_does
    rw [if_neg (by decide), if_pos rfl, RW.ob0 x1, sb]
  rw [wMs]
  by_cases t : th S y
  · rw [decide_eq_true t.2, if_neg (show ¬ bI true = 0 by decide)]
    rcases Nat.eq_zero_or_pos y with z | z
    · subst z
      rw [if_pos (show nI 0 = 0 from rfl)]
      dsimp only
      rw [do1 h x]
      have hr : cRemove S (nI 0) = tw 2 S := by
        unfold cRemove
        rw [show nI 0 = 0 from rfl, elt_0 hC.t, if_neg (by decide), if_pos (Or.inl rfl)]
      have q := C_remove x hI hc (nI 0)
      rw [hr] at q
      refine q.e (by decide) (fun w => absurd (show (2 : Int32) = 0 from w) (by decide)) (fun k k1 k2 E' h' n x3 hn => ?_)
      have k3 : k = 1 := by
        have k2 : (2 : Int32) = nI (k + 1) := k2
        have := (nI_eq (a := 2) (b := k + 1) (by decide) (by have : k < 2 := k1; omega)).mp k2
        omega
      subst k3
      obtain ⟨r1, r2⟩ := j.ref x3 hn
      rw [if_pos (show thC ([exI, exS].getD 1 "") = -13 by decide)]
      exact hK _ _ r1 (Or.inl r2)
    · rw [if_neg (nI_ne0 z (by omega))]
      have hh := RW.lws x
      have rd' : RD B (lw B h (lSt S)) (lSt S) S := by rw [hh]; exact rd
      obtain ⟨m2, e2, er, lb⟩ := sim (S := S) (f := fun S => los (rm2 S y) (rfgO S y)) (r := fun S => nI (rmN S y)) (F := fL_removes (some (B + 90)) (some (B + 91)) (nI y) h) (B := B) (h := h) (fun S' l => by
        have := q_rem (RW.lt6 x) (rd'.lo8 l hI) (hI.lo8 l).1.1 ((th_cg (l.e 0 rfl) (l.e 1 rfl) y).mpr t) z
        rw [hh] at this
        exact this)
      obtain ⟨n1, n2, I2, v2, e18, e26⟩ := j.1.new hc m2
      have l2 := lo8_m S m2
      have t2 : th (wml S m2) y := (th_cg (l2.e 0 rfl) (l2.e 1 rfl) y).mpr t
      have x2 : RC B E (wml S m2) (lw B h m2) := RC.lwp x m2
      have q2 := j.2.2.lo8 l2
      have C2 := I2.1.1
      have y2 : y < made (wml S m2) := t2.lt
      have rgs := rgS_none v2 C2.t.pw y2
      have hr : cRemove (wml S m2) (nI y) = rt (nI (rmN (wml S m2) y)) (fit (los (rm2 (wml S m2) y) (rfgO (wml S m2) y))) := by
        unfold cRemove
        rw [elt_y t2 (by omega), if_neg (by decide), nth_nI (by omega), if_neg (fun w => w.elim (fun w => nI_ne0 z (by omega) w) (fun w => by rw [q2.2.2.1] at w; exact absurd w (by decide)))]
        unfold rm3
        rw [rgs, tel_none]
      obtain ⟨E', h', e3, x3⟩ := (C_remove x2 I2 hc (nI y)).v (by decide) hr
      have k3 := kRemove I2 hc n1 n2 (nI y)
      have I3 := iRemove I2 (nI y)
      rw [hr] at k3 I3
      have hd : fL_does (some B) 1 (nI y) 0 0 (lw B h m2) = some (.inl (nI (rmN (wml S m2) y)), h') := by
        unfold fL_does
        rw [if_neg (by decide), if_pos rfl, RW.ob0 x2, sb, e3]
      rw [e2, wHs]
      dsimp only
      rw [hd]
      refine wE_l ?_
      rw [if_pos er]
      have vr : VK (rm2 (wml S m2) y) := (v2.sd (sd_rmF (S := wml S m2) y (made (wml S m2))) rfl : VK (rmF (wml S m2) y (made (wml S m2))))
      have wr : WL (rm2 (wml S m2) y) := rmF_WL C2.l y (made (wml S m2))
      have hsl := sd_los (rm2 (wml S m2) y) (rfgO (wml S m2) y)
      refine hK _ _ (JC.done (S := S) k3 rfl x3 I3 (vr.sd hsl rfl) ?_ ?_ lb) (dq_fit (dq_los ?_ ?_ vr wr ?_))
      · rw [hsl.l 18 rfl, rm2_l y 18 (by decide)]; exact e18
      · rw [hsl.i 26 rfl, rm2_i y 26 (by decide) (by decide)]; exact e26
      · refine ⟨fun i => ?_, by rw [rm2_q]; exact q2.2.1, by rw [rm2_q]; exact q2.2.2.1, by rw [rm2_i y 38 (by decide) (by decide)]; exact q2.2.2.2⟩
        rw [rm2_17]
        split
        · rfl
        · exact q2.1 i
      · rw [rm2_i y 38 (by decide) (by decide)]; exact I2.1.2.1.s
      · rw [rm2_made]; exact rfgO_lt C2.t t2 z
  · have z1 : sI S 1 y = 0 := Classical.byContradiction fun w => t ⟨hy, w⟩
    rw [decide_eq_false (show ¬ sI S 1 y ≠ 0 from fun w => w z1), if_pos (show bI false = 0 from rfl)]
    dsimp only
    rw [do1 h x]
    have hr : cRemove S (nI y) = tw 1 S := by
      unfold cRemove
      rw [elt_n t (by omega), if_pos rfl]
    have q := C_remove x hI hc (nI y)
    rw [hr] at q
    refine q.e (by decide) (fun w => absurd (show (1 : Int32) = 0 from w) (by decide)) (fun k k1 k2 E' h' n x3 hn => ?_)
    have k3 : k = 0 := by
      have k2 : (1 : Int32) = nI (k + 1) := k2
      have := (nI_eq (a := 1) (b := k + 1) (by decide) (by have : k < 2 := k1; omega)).mp k2
      omega
    subst k3
    obtain ⟨r1, r2⟩ := j.ref x3 hn
    rw [if_pos (show thC ([exI, exS].getD 0 "") = -11 by decide)]
    exact hK _ _ r1 (Or.inl r2)
end RMV

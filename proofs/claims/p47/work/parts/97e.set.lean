/-! ===== one turn: a check is set, an element gets a rule ===== -/
section SET
variable {B c : Nat} {E : Nat → Nat} {S T : SS} {h : hp} {m : LY}
/-- the call is refused, and what the law says of it is told -/
theorem ref_e {es : List String} {f : Option ((Int32 ⊕ String) × hp)} {k : Nat} (j : JJ B c S h) (hl : es.length ≤ 3) (hes : ∀ e ∈ es, e = exI ∨ e = exA ∨ e = exS) (q : CS B es f (tw (nI (k + 1)) S)) (hk : k < 3) {K : Int32 → hp → Prop} (hK : ∀ h', JJ B c S h' → K (thC (es.getD k "")) h') : wE f K := by
  obtain ⟨E', a, h', a1, a2, a3⟩ := q
  rw [a1]
  rcases a2 with ⟨w, -⟩ | ⟨k', k1, k2, rfl⟩
  · exact absurd (show nI (k + 1) = 0 from w) (nI_ne0 (by omega) (by omega))
  · have k3 := tw_k (by omega) (by omega) (show nI (k + 1) = nI (k' + 1) from k2)
    have k4 : k' = k := by omega
    subst k4
    refine wE_r (hes _ ?_) (fun n hn => hK _ ⟨(j.1.of a3).gw (gw_S hn), j.2⟩)
    rw [List.getD_eq_getElem?_getD, List.getElem?_eq_getElem k1]
    exact List.getElem_mem k1
/-- SET -/
theorem t_sets (j : JJ B c S h) (hc : c < 1000000) {y : Nat} (hy : y < made S) (v : Bool) {K6 : Int32 × hp → Prop} (hK : ∀ S' h', Md B c S' h' → Qt S' → K6 (1, h')) : wM (fun (K29 : Int32 → Prop) =>
  if bI (decide (sI S 1 y ≠ 0)) = 0 then
  (K29 (-11 : Int32))
  else
  wP (oIL (some (B + 91)) ((6 : Int32) * nI y) h) fun x30 =>
  if x30 = (3 : Int32) then
  (wP (oIL (some (B + 91)) (((6 : Int32) * nI y) + (3 : Int32)) h) fun x31 =>
  wP (oNz (4 : Int32)) fun _ =>
  K29 ((x31 &&& (4 : Int32)) / (4 : Int32)))
  else
  K29 (-13 : Int32))
  fun q29 =>
  wM (fun (K32 : Int32 → Prop) =>
  if 0 ≤ q29 then
  (if bI v = 0 then
  (wP (oIL (some (B + 91)) (((6 : Int32) * nI y) + (3 : Int32)) h) fun x33 =>
  K32 (x33 &&& (-5 : Int32)))
  else
  wP (oIL (some (B + 91)) (((6 : Int32) * nI y) + (3 : Int32)) h) fun x34 =>
  K32 (x34 ||| (4 : Int32)))
  else
  wP (oIL (some (B + 91)) (((6 : Int32) * nI y) + (3 : Int32)) h) fun x35 =>
  K32 x35)
  fun q32 =>
  wP (oIS (some (B + 91)) (((6 : Int32) * nI y) + (3 : Int32)) q32 h) fun h36 =>
  wM (fun (K37 : Int32 → Prop) =>
  if bI v = 0 then
  (K37 (0 : Int32))
  else
  K37 (1 : Int32))
  fun q37 =>
  wE (fL_does (some B) (4 : Int32) (nI y) q37 (0 : Int32) h36) fun x38 h39 =>
  if x38 = q29 then
  (K6 ((1 : Int32), h39))
  else
  K6 ((0 : Int32), h39) := by
  obtain ⟨E, x, rd⟩ := j.rd
  have hI := j.1.2.1
  have hC := hI.1.1
  have l10 := rd.m10
  have hh := RW.lws x
  have do1 : ∀ S1 h1 E1, RC B E1 S1 h1 → fL_does (some B) 4 (nI y) (bI v) 0 h1 = zbE (fX10_set B (nI y) (bI v) h1) := fun S1 h1 E1 x1 => by
    unfold fL_does
    rw [if_neg (by decide), if_neg (by decide), if_neg (by decide), if_neg (by decide), if_pos rfl, RW.ob0 x1, sb]
    cases v <;> rfl
  have e37 : ∀ K : Int32 → Prop, K (bI v) → wM (fun (K37 : Int32 → Prop) => if bI v = 0 then K37 0 else K37 1) K := fun K hk => by
    rw [wMs]
    cases v
    · exact hk
    · exact hk
  have wr : ∀ q32, oIS (some (B + 91)) (((6 : Int32) * nI y) + (3 : Int32)) q32 h = some (lw B h (lu (lSt S) 1 (6 * y + 3) q32)) := fun q32 => by
    have := (RW.lt6 x).pe3 (m := lSt S) (v := q32) (j := y) (by omega)
    rw [hh] at this
    exact this
  have same : lw B h (lu (lSt S) 1 (6 * y + 3) (nI (fl3 S y))) = h := by
    have e := (rd.l.e hy).2.2.2.1
    rw [← e, lu_self, hh]
  -- refused
  have ref : ∀ k, k < 2 → cSet S (nI y) (bI v) = tw (nI (k + 1)) S → ¬ (0 : Int32) ≤ thC ([exI, exS].getD k "") → wM (fun (K32 : Int32 → Prop) =>
      if 0 ≤ thC ([exI, exS].getD k "") then
      (if bI v = 0 then
      (wP (oIL (some (B + 91)) (((6 : Int32) * nI y) + (3 : Int32)) h) fun x33 =>
      K32 (x33 &&& (-5 : Int32)))
      else
      wP (oIL (some (B + 91)) (((6 : Int32) * nI y) + (3 : Int32)) h) fun x34 =>
      K32 (x34 ||| (4 : Int32)))
      else
      wP (oIL (some (B + 91)) (((6 : Int32) * nI y) + (3 : Int32)) h) fun x35 =>
      K32 x35)
      fun q32 =>
      wP (oIS (some (B + 91)) (((6 : Int32) * nI y) + (3 : Int32)) q32 h) fun h36 =>
      wM (fun (K37 : Int32 → Prop) =>
      if bI v = 0 then
      (K37 (0 : Int32))
      else
      K37 (1 : Int32))
      fun q37 =>
      wE (fL_does (some B) (4 : Int32) (nI y) q37 (0 : Int32) h36) fun x38 h39 =>
      if x38 = thC ([exI, exS].getD k "") then
      (K6 ((1 : Int32), h39))
      else
      K6 ((0 : Int32), h39) := fun k hk hr hn => by
    rw [wMs, if_neg hn, rd.fg hy, wPs]
    dsimp only
    rw [wr, wPs, same]
    refine e37 _ ?_
    rw [do1 S h E x]
    have q := C_set x hI hc (nI y) (bI v) (bI_01 v)
    rw [hr] at q
    have := ref_e (k := k) j (by decide) (by decide) q (by omega) (K := fun x38 h39 => if x38 = thC ([exI, exS].getD k "") then K6 (1, h39) else K6 (0, h39)) (fun h' j' => by
      rw [if_pos rfl]
      exact hK _ _ j'.md j'.2.2)
    obtain ⟨p, p1, p2⟩ := this
    rw [p1]
    obtain ⟨a, h'⟩ := p
    cases a with
    | inl w =>
      obtain ⟨E', a, h'', a1, a2, a3⟩ := q
      rw [p1] at a1
      cases a1
      rcases a2 with ⟨w1, -⟩ | ⟨k', -, -, w2⟩
      · exact absurd (show nI (k + 1) = 0 from w1) (nI_ne0 (by omega) (by omega))
      · cases w2
    | inr E => exact ⟨_, rfl, p2⟩
  rw [wMs]
  by_cases t : th S y
  · rw [decide_eq_true t.2, if_neg (show ¬ bI true = 0 by decide), rd.kd hy, wPs]
    by_cases k3 : sI S 2 y = 3
    · rw [if_pos k3, rd.fg hy, wPs, show oNz (4 : Int32) = some () from rfl, wPs, fl_on rd.b t.2]
      have s10 : sI S 10 y = 0 ∨ sI S 10 y = 1 := rd.b 10 (by decide) y
      have p10 : (0 : Int32) ≤ sI S 10 y := by rcases s10 with z | z <;> rw [z] <;> decide
      have hs : Sd [10] [] [] S (wSI S 10 y (bI v)) := Sd.I (by decide)
      have lb0 : LB (wSI S 10 y (bI v)) (lu (lSt S) 1 (6 * y + 3) (nI (fl3 (wSI S 10 y (bI v)) y))) := rd.l.fl hy (hs.mono rfl) (fun j hj => by rw [sI_I, if_neg (fun z => hj z.2)]) (fun j hj => rfl) rfl
      have l2 := lo8_m S (lu (lSt S) 1 (6 * y + 3) (nI (fl3 (wSI S 10 y (bI v)) y)))
      obtain ⟨n1, n2, I2, v2, e18, e26⟩ := j.1.new hc (lu (lSt S) 1 (6 * y + 3) (nI (fl3 (wSI S 10 y (bI v)) y)))
      have x2 := RC.lwp x (lu (lSt S) 1 (6 * y + 3) (nI (fl3 (wSI S 10 y (bI v)) y)))
      have q2 := j.2.2.lo8 l2
      generalize hm2 : lu (lSt S) 1 (6 * y + 3) (nI (fl3 (wSI S 10 y (bI v)) y)) = m2 at lb0 l2 n1 n2 I2 v2 e18 e26 x2 q2
      have C2 := I2.1.1
      have t2 : th (wml S m2) y := (th_cg (l2.e 0 rfl) (l2.e 1 rfl) y).mpr t
      have hs2 : Sd [10] [] [] (wml S m2) (wSI (wml S m2) 10 y (bI v)) := Sd.I (by decide)
      have ef : set1S (wml S m2) y (bI v) = fit (wSI (wml S m2) 10 y (bI v)) := by
        unfold set1S
        split
        · rfl
        · rw [telW_id (v2.sd hs2 rfl) (C2.t.pw.cg (hs2.i 0 rfl) (hs2.i 3 rfl)) (show y < made (wSI (wml S m2) 10 y (bI v)) by rw [made_cg (hs2.i 0 rfl)]; exact t2.lt)]
      have hr : cSet (wml S m2) (nI y) (bI v) = rt (sI S 10 y) (fit (wSI (wml S m2) 10 y (bI v))) := by
        unfold cSet
        rw [elt_y t2 (by omega), if_neg (by decide), nth_nI (by omega), l2.e 2 rfl, if_neg (fun w => w.elim (fun w => w k3) (fun w => by rw [q2.2.2.1] at w; exact absurd w (by decide))), l2.e 10 rfl, ef]
      obtain ⟨E', h', e3, x3⟩ := (C_set x2 I2 hc (nI y) (bI v) (bI_01 v)).v (by decide) hr
      have k4 := kSet I2 hc n1 n2 (nI y) (bI v)
      have I3 := iSet I2 (nI y) (bI_01 v)
      rw [hr] at k4 I3
      have lb : LB (wSI (wml S m2) 10 y (bI v)) m2 := by
        refine lb0.lo8 ⟨fun k hk h48 => ?_, rfl, rfl, rfl⟩
        funext i
        rw [sI_I, sI_I]
        split
        · rfl
        · rw [l2.1 k hk h48]
      have fin : Md B c (fit (wSI (wml S m2) 10 y (bI v))) h' ∧ Qt (fit (wSI (wml S m2) 10 y (bI v))) := ⟨JC.done (S := S) k4 rfl x3 I3 (v2.sd hs2 rfl) (by rw [hs2.l 18 rfl]; exact e18) (by rw [hs2.i 26 rfl]; exact e26) lb, (q2.i (by decide)).fit⟩
      dsimp only
      have e32 : ∀ K : Int32 → Prop, K (nI (fl3 (wSI S 10 y (bI v)) y)) → wM (fun (K32 : Int32 → Prop) =>
          if 0 ≤ sI S 10 y then
          (if bI v = 0 then (wP (some (nI (fl3 S y))) fun x33 => K32 (x33 &&& (-5 : Int32))) else wP (some (nI (fl3 S y))) fun x34 => K32 (x34 ||| (4 : Int32)))
          else
          wP (some (nI (fl3 S y))) fun x35 => K32 x35) K := fun K hk => by
        rw [wMs, if_pos p10, wPs, wPs]
        cases v
        · rw [if_pos (show bI false = 0 from rfl), fl_and4 (S' := wSI S 10 y (bI false)) t.2 rfl rfl (show sI (wSI S 10 y (bI false)) 10 y = 0 by rw [sI_I, if_pos ⟨rfl, rfl⟩]; rfl)]
          exact hk
        · rw [if_neg (show ¬ bI true = 0 by decide), fl_or4 (S' := wSI S 10 y (bI true)) t.2 rfl rfl (show sI (wSI S 10 y (bI true)) 10 y = 1 by rw [sI_I, if_pos ⟨rfl, rfl⟩]; rfl)]
          exact hk
      refine e32 _ ?_
      rw [wr, wPs, hm2]
      refine e37 _ ?_
      rw [do1 _ _ _ x2, e3]
      show wE (some (.inl (if sI S 10 y = 0 then 0 else 1), h')) _
      refine wE_l ?_
      have e10 : (if sI S 10 y = 0 then (0 : Int32) else 1) = sI S 10 y := by
        rcases s10 with z | z
        · rw [if_pos z, z]
        · rw [z]; decide
      rw [e10, if_pos rfl]
      exact hK _ _ fin.1 fin.2
    · rw [if_neg k3]
      exact ref 1 (by decide) (by
        unfold cSet
        rw [elt_y t (by omega), if_neg (by decide), nth_nI (by omega), if_pos (Or.inl k3)]; rfl) (by decide)
  · have z1 : sI S 1 y = 0 := Classical.byContradiction fun w => t ⟨hy, w⟩
    rw [decide_eq_false (show ¬ sI S 1 y ≠ 0 from fun w => w z1), if_pos (show bI false = 0 from rfl)]
    exact ref 0 (by decide) (by
      unfold cSet
      rw [elt_n t (by omega), if_pos rfl]; rfl) (by decide)
/-- SET RULE -/
theorem t_rule (j : JJ B c S h) (hc : c < 1000000) {y : Nat} (hy : y < made S) {r : Nat} (hr3 : r ≤ 3) {K6 : Int32 × hp → Prop} (hK : ∀ S' h', Md B c S' h' → Qt S' → K6 (1, h')) : wE (fL_does (some B) (5 : Int32) (nI y) (nI r - (1 : Int32)) (0 : Int32) h) fun x20 h21 =>
  wM (fun (K22 : Int32 → Prop) =>
  if bI (decide (sI S 1 y ≠ 0)) = 0 then
  (K22 (-11 : Int32))
  else
  wP (oIL (some (B + 91)) (((6 : Int32) * nI y) + (4 : Int32)) h21) fun x23 =>
  K22 (x23 - (1 : Int32)))
  fun q22 =>
  wM (fun (K24 : Int32 → Prop) =>
  if x20 = q22 then
  (K24 (1 : Int32))
  else
  K24 (0 : Int32))
  fun q24 =>
  if bI (decide (sI S 1 y ≠ 0)) = 0 then
  (wP (oIL (some (B + 91)) (((6 : Int32) * nI y) + (4 : Int32)) h21) fun x25 =>
  wP (oIS (some (B + 91)) (((6 : Int32) * nI y) + (4 : Int32)) x25 h21) fun h26 =>
  K6 (q24, h26))
  else
  wP (oIS (some (B + 91)) (((6 : Int32) * nI y) + (4 : Int32)) ((nI r - (1 : Int32)) + (1 : Int32)) h21) fun h27 =>
  K6 (q24, h27) := by
  obtain ⟨E, x, rd⟩ := j.rd
  have hI := j.1.2.1
  have hC := hI.1.1
  have l10 := rd.m10
  have do1 : fL_does (some B) 5 (nI y) (nI r - 1) 0 h = fX10_setRule B (nI y) (nI r - 1) h := by
    unfold fL_does
    rw [if_neg (by decide), if_neg (by decide), if_neg (by decide), if_neg (by decide), if_neg (by decide), if_pos rfl, RW.ob0 x, sb]
  have hv : -1 ≤ nI r - 1 ∧ nI r - 1 ≤ 2 := by
    rcases (show r = 0 ∨ r = 1 ∨ r = 2 ∨ r = 3 by omega) with rfl | rfl | rfl | rfl <;> decide
  rw [do1]
  by_cases t : th S y
  · have hr : cSetRule S (nI y) (nI r - 1) = rt (sI S 13 y) (fit (wSI S 13 y (nI r - 1))) := by
      unfold cSetRule
      rw [elt_y t (by omega), if_neg (by decide), if_neg (fun w => w hv), nth_nI (by omega)]
    obtain ⟨E', h', e3, x3⟩ := (C_setRule x hC (nI y) (nI r - 1)).v (by decide) hr
    have k4 := kSetRule j.1.2.2.2.1 j.1.2.2.2.2.1 (nI y) (nI r - 1)
    have I3 := iSetRule hI (nI y) (nI r - 1)
    rw [hr] at k4 I3
    have hs : Sd [13] [] [] S (wSI S 13 y (nI r - 1)) := Sd.I (by decide)
    have v0 : VK (wSI S 13 y (nI r - 1)) := by
      refine ⟨j.1.2.2.1.1, fun i hi => ?_⟩
      obtain ⟨b1, b2, b3, b4, b5⟩ := j.1.2.2.1.2 i hi
      refine ⟨b1, ?_, b3, b4, b5⟩
      rw [sI_I]
      split
      · exact ⟨r, hr3, by rw [Int32.sub_add_cancel]⟩
      · exact b2
    have jc : JC B c (fit (wSI S 13 y (nI r - 1))) h' := ⟨⟨E', x3⟩, I3, v0.sd (sd_fit _) rfl, k4.2.1, k4.2.2, by rw [(sd_fit _).l 18 rfl]; exact j.1.2.2.2.2.2.1, by rw [(sd_fit _).i 26 rfl, sI_N (by decide)]; exact j.1.2.2.2.2.2.2⟩
    have hh := RW.lws x3
    have lst := k4.1.lst
    have wr : ∀ q, oIS (some (B + 91)) (((6 : Int32) * nI y) + (4 : Int32)) q h' = some (lw B h' (lu (lSt (fit (wSI S 13 y (nI r - 1)))) 1 (6 * y + 4) q)) := fun q => by
      have := (RW.lt6 x3).pe4 (m := lSt (fit (wSI S 13 y (nI r - 1)))) (v := q) (j := y) (by omega)
      rw [hh] at this
      exact this
    have rl : oIL (some (B + 91)) (((6 : Int32) * nI y) + (4 : Int32)) h' = some (sI S 13 y + 1) := by
      rw [(RW.lq x3).e4 (by omega)]
      have := lst.1 1 (6 * y + 4)
      rw [show (lSt (rt (sI S 13 y) (fit (wSI S 13 y (nI r - 1)))).2.2) = lSt (fit (wSI S 13 y (nI r - 1))) from rfl] at this
      rw [this, (rd.l.e hy).2.2.2.2.1]
    rw [e3]
    refine wE_l ?_
    rw [decide_eq_true t.2, wMs, if_neg (show ¬ bI true = 0 by decide), rl, wPs]
    dsimp only
    rw [wMs, Int32.add_sub_cancel, if_pos rfl]
    dsimp only
    rw [if_neg (show ¬ bI true = 0 by decide), wr, wPs, Int32.sub_add_cancel]
    have lb0 : LB (wSI S 13 y (nI r - 1)) (lu (lSt (fit (wSI S 13 y (nI r - 1)))) 1 (6 * y + 4) (nI r)) := by
      rcases LB.rl (c := y) rd.l (nI r - 1) with z | z
      · rw [Int32.sub_add_cancel] at z
        refine z.ag5 (fun j hj => ⟨fun k => ?_, fun k => ?_⟩)
        · rw [lu_1, lu_1]
          have := lst.1 j k
          rw [show (lSt (rt (sI S 13 y) (fit (wSI S 13 y (nI r - 1)))).2.2) = lSt (fit (wSI S 13 y (nI r - 1))) from rfl] at this
          rw [this]
        · rw [lu_2, lu_2]
          have := lst.2 j k
          rw [show (lSt (rt (sI S 13 y) (fit (wSI S 13 y (nI r - 1)))).2.2) = lSt (fit (wSI S 13 y (nI r - 1))) from rfl] at this
          rw [this]
      · omega
    generalize hm3 : lu (lSt (fit (wSI S 13 y (nI r - 1)))) 1 (6 * y + 4) (nI r) = m3 at lb0
    refine hK (wml (fit (wSI S 13 y (nI r - 1))) m3) _ ⟨jc.lwp m3, wml (wSI S 13 y (nI r - 1)) m3, ?_, ?_⟩ ?_
    · exact (lb0.lo8 (lo8_m _ m3)).ag5 (fun j hj => lSt_w _ m3 j (by omega))
    · exact fit_wml _ _
    · exact ((j.2.2.i (by decide)).fit).lo8 (lo8_m _ m3)
  · have z1 : sI S 1 y = 0 := Classical.byContradiction fun w => t ⟨hy, w⟩
    have hr : cSetRule S (nI y) (nI r - 1) = tw (nI (0 + 1)) S := by
      unfold cSetRule
      rw [elt_n t (by omega), if_pos rfl]; rfl
    have q := C_setRule x hC (nI y) (nI r - 1)
    rw [hr] at q
    refine ref_e (k := 0) j (by decide) (by decide) q (by decide) (fun h' j' => ?_)
    obtain ⟨E', x', rd'⟩ := j'.rd
    have hh := RW.lws x'
    have wr : ∀ q, oIS (some (B + 91)) (((6 : Int32) * nI y) + (4 : Int32)) q h' = some (lw B h' (lu (lSt S) 1 (6 * y + 4) q)) := fun q => by
      have := (RW.lt6 x').pe4 (m := lSt S) (v := q) (j := y) (by omega)
      rw [hh] at this
      exact this
    rw [decide_eq_false (show ¬ sI S 1 y ≠ 0 from fun w => w z1), wMs, if_pos (show bI false = 0 from rfl)]
    dsimp only
    rw [wMs, if_pos (show thC ([exI, exA].getD 0 "") = -11 by decide)]
    dsimp only
    rw [if_pos (show bI false = 0 from rfl), (RW.lq x').e4 (by omega), wPs, wr, wPs, lu_self, hh]
    exact hK _ _ j'.md j'.2.2
end SET

/-! ===== one turn: an element is hidden or shown, set, given a rule ===== -/
section HID
variable {B c : Nat} {E : Nat → Nat} {S T : SS} {h : hp} {m : LY}
theorem fl3_lo8 {S' : SS} (l : Lo8 S S') (j : Nat) : fl3 S' j = fl3 S j := by unfold fl3; rw [l.e 1 rfl, l.e 12 rfl, l.e 10 rfl]
theorem JC.lwp (j : JC B c S h) (m : LY) : JC B c (wml S m) (lw B h m) := by
  have l2 := lo8_m S m
  obtain ⟨⟨E, x⟩, hI, hv, hn, hm, h18, h26⟩ := j
  exact ⟨⟨E, RC.lwp x m⟩, hI.lo8 l2, hv.lo8 l2, WKN.cg hn (l2.e 15 rfl) (l2.l 17), hm.cg (l2.e 0 rfl) l2.2.2.2, by rw [l2.l 18]; exact h18, by rw [l2.e 26 rfl]; exact h26⟩
theorem fit_wml (T : SS) (m : LY) : fit (wml T m) = wml (fit T) m := by
  have l := lo8_m T m
  unfold fit
  rw [ln_lo8 l, l.e 25 rfl]
  split
  · refine Prod.ext (funext fun k => funext fun i => ?_) rfl
    show up2 (wml T m).1 25 0 _ k i = (if k < 1000 then up2 T.1 25 0 _ k i else if k < 1010 then m.1 (k - 1000) i else if k < 1020 then eH (m.2 (k - 1010) i) else eLo (m.2 (k - 1020) i))
    rw [up2_g]
    by_cases q : k = 25 ∧ i = 0
    · obtain ⟨rfl, rfl⟩ := q
      rw [if_pos (show (25 : Nat) = 25 ∧ (0 : Nat) = 0 from ⟨rfl, rfl⟩), if_pos (show 25 < 1000 by decide), up2_g, if_pos (show (25 : Nat) = 25 ∧ (0 : Nat) = 0 from ⟨rfl, rfl⟩)]
    · rw [if_neg q, up2_g, if_neg q]; rfl
  · rfl
theorem tw_k {k n : Nat} (hk : k < 4) (hn : n < 4) (h : nI n = nI (k + 1)) : n = k + 1 := (nI_eq (by omega) (by omega)).mp h
theorem dq_hd3 (hq : Qt S) (hC : Core S) (h38 : sI S 38 0 = -1 ∨ sI S 38 0 = 0 ∨ sI S 38 0 = 1 ∨ sI S 38 0 = 2) (hv : VK S) {y : Nat} (hy : th S y) (h0 : 0 < y) (v : Int32) : Dq 50 (hd3 S y v) := by
  have hs : ∀ w, Sd [12] [] [] S (wSI S 12 y w) := fun w => Sd.I (by decide)
  have q1 : ∀ w, Qt (wSI S 12 y w) := fun w => hq.i (by decide)
  unfold hd3
  rw [rgS_none hv hC.t.pw hy.lt, tel_none]
  split
  · exact dq_los (q1 1) (by rw [(hs 1).i 38 rfl]; exact h38) (hv.sd (hs 1) rfl) hC.l (rfgO_lt hC.t hy h0)
  · split
    · rw [telW_id (hv.sd (hs 0) rfl) (show PW (wSI S 12 y 0) from hC.t.pw) hy.lt]
      exact Or.inl (q1 0)
    · exact Or.inl hq
theorem hd3_sd (hC : Core S) (hv : VK S) {y : Nat} (hy : th S y) (v : Int32) : Sd [12, 20, 21, 22, 25, 38, 44] [33] [35] S (hd3 S y v) := by
  have hs : ∀ w, Sd [12] [] [] S (wSI S 12 y w) := fun w => Sd.I (by decide)
  unfold hd3
  rw [rgS_none hv hC.t.pw hy.lt, tel_none]
  refine Sd.if (((hs 1).mono (by decide)).tr ((sd_los _ _).mono (by decide))) (Sd.if ?_ Sd.rf)
  rw [telW_id (hv.sd (hs 0) rfl) (show PW (wSI S 12 y 0) from hC.t.pw) hy.lt]
  exact (hs 0).mono (by decide)
/-- HIDE -/
theorem t_hide (j : JJ B c S h) (hc : c < 1000000) {y : Nat} (hy : y < made S) (v : Bool) {K6 : Int32 × hp → Prop} (hK : ∀ S' h', Md B c S' h' → Dq 50 S' → K6 (1, h')) : wM (fun (K50 : Int32 → Prop) =>
  if bI (decide (sI S 1 y ≠ 0)) = 0 then
  (K50 (-11 : Int32))
  else
  if nI y = 0 then
  (K50 (-13 : Int32))
  else
  wP (fL_isHidden (some (B + 91)) (nI y) h) fun x51 =>
  if x51 = 0 then
  (K50 (0 : Int32))
  else
  K50 (1 : Int32))
  fun q50 =>
  wM (fun (K52 : hp → Prop) =>
  if q50 < 0 then
  (K52 h)
  else
  wM (fun (K53 : Int32 → Prop) =>
  if bI v = 0 then
  (wP (oIL (some (B + 91)) (((6 : Int32) * nI y) + (3 : Int32)) h) fun x54 =>
  K53 (x54 &&& (-3 : Int32)))
  else
  wP (oIL (some (B + 91)) (((6 : Int32) * nI y) + (3 : Int32)) h) fun x55 =>
  K53 (x55 ||| (2 : Int32)))
  fun q53 =>
  wP (oIS (some (B + 91)) (((6 : Int32) * nI y) + (3 : Int32)) q53 h) fun h56 =>
  wP (oIL (some (B + 91)) (((6 : Int32) * nI y) + (1 : Int32)) h56) fun x57 =>
  wP (oIL (some (B + 91)) (((6 : Int32) * nI y) + (2 : Int32)) h56) fun x58 =>
  wH (fL_loses (some (B + 90)) (some (B + 91)) x57 (x58 + (1 : Int32)) h56) fun _ h59 =>
  K52 h59)
  fun q52 =>
  wM (fun (K60 : Int32 → Prop) =>
  if bI v = 0 then
  (K60 (0 : Int32))
  else
  K60 (1 : Int32))
  fun q60 =>
  wE (fL_does (some B) (2 : Int32) (nI y) q60 (0 : Int32) q52) fun x61 h62 =>
  if x61 = q50 then
  (K6 ((1 : Int32), h62))
  else
  K6 ((0 : Int32), h62) := by
  obtain ⟨E, x, rd⟩ := j.rd
  have hI := j.1.2.1
  have hC := hI.1.1
  have l10 := rd.m10
  have do1 : ∀ S1 h1 E1, RC B E1 S1 h1 → fL_does (some B) 2 (nI y) (bI v) 0 h1 = zbE (fX10_hide B (nI y) (bI v) h1) := fun S1 h1 E1 x1 => by
    unfold fL_does
    rw [if_neg (by decide), if_neg (by decide), if_pos rfl, RW.ob0 x1, sb]
    cases v <;> rfl
  -- the second flag goes through
  have e60 : ∀ K : Int32 → Prop, K (bI v) → wM (fun (K60 : Int32 → Prop) => if bI v = 0 then K60 0 else K60 1) K := fun K hk => by
    rw [wMs]
    cases v
    · exact hk
    · exact hk
  have ref : ∀ k, k < 2 → cHide S (nI y) (bI v) = tw (nI (k + 1)) S → wE (fL_does (some B) 2 (nI y) (bI v) 0 h) fun x61 h62 => if x61 = thC ([exI, exS].getD k "") then K6 (1, h62) else K6 (0, h62) := fun k hk hr => by
    rw [do1 S h E x]
    have q := C_hide x hI hc (nI y) (bI v) (bI_01 v)
    rw [hr] at q
    obtain ⟨E', a, h', a1, a2, a3⟩ := q
    rw [a1]
    rcases a2 with ⟨w, -⟩ | ⟨k', k1, k2, rfl⟩
    · exact absurd (show nI (k + 1) = 0 from w) (nI_ne0 (by omega) (by omega))
    · have k2 : nI (k + 1) = nI (k' + 1) := k2
      have k3 := tw_k (by have : k' < 2 := k1; omega) (by omega) k2
      have k4 : k' = k := by omega
      subst k4
      refine wE_r ?_ (fun n hn => ?_)
      · have : ∀ k, k < 2 → ([exI, exS].getD k "" = exI ∨ [exI, exS].getD k "" = exA ∨ [exI, exS].getD k "" = exS) := by decide
        exact this k' hk
      · obtain ⟨r1, r2⟩ := j.ref a3 hn
        rw [if_pos rfl]
        exact hK _ _ r1 (Or.inl r2)
  rw [wMs]
  by_cases t : th S y
  · rw [decide_eq_true t.2, if_neg (show ¬ bI true = 0 by decide)]
    rcases Nat.eq_zero_or_pos y with z | z
    · subst z
      rw [if_pos (show nI 0 = 0 from rfl)]
      dsimp only
      rw [wMs, if_pos (show (-13 : Int32) < 0 by decide)]
      refine e60 _ ?_
      exact ref 1 (by decide) (by
        unfold cHide
        rw [show nI 0 = 0 from rfl, elt_0 hC.t, if_neg (by decide), if_pos (Or.inl rfl)]; rfl)
    · rw [if_neg (nI_ne0 z (by omega)), r_hid rd t, wPs]
      have hh := RW.lws x
      have rd' : RD B (lw B h (lSt S)) (lSt S) S := by rw [hh]; exact rd
      obtain ⟨m2, e2, -, lb⟩ := sim (S := S) (f := fun S => hd3 S y (bI v)) (r := fun _ => ()) (F := (oIS (some (B + 91)) (((6 : Int32) * nI y) + (3 : Int32)) (if v = true then nI (fl3 S y) ||| (2 : Int32) else nI (fl3 S y) &&& (-3 : Int32)) h).bind fun h56 => (oIL (some (B + 91)) (((6 : Int32) * nI y) + (1 : Int32)) h56).bind fun x57 => (oIL (some (B + 91)) (((6 : Int32) * nI y) + (2 : Int32)) h56).bind fun x58 => fL_loses (some (B + 90)) (some (B + 91)) x57 (x58 + (1 : Int32)) h56) (B := B) (h := h) (fun S' l => by
        have := q_hide (RW.lt6 x) (rd'.lo8 l hI) (hI.lo8 l).1.1 ((th_cg (l.e 0 rfl) (l.e 1 rfl) y).mpr t) z v
        rw [hh, fl3_lo8 l] at this
        exact this)
      obtain ⟨n1, n2, I2, v2, e18, e26⟩ := j.1.new hc m2
      have l2 := lo8_m S m2
      have t2 : th (wml S m2) y := (th_cg (l2.e 0 rfl) (l2.e 1 rfl) y).mpr t
      have x2 : RC B E (wml S m2) (lw B h m2) := RC.lwp x m2
      have q2 := j.2.2.lo8 l2
      have C2 := I2.1.1
      have hr : cHide (wml S m2) (nI y) (bI v) = rt (sI S 12 y) (fit (hd3 (wml S m2) y (bI v))) := by
        unfold cHide
        rw [elt_y t2 (by omega), if_neg (by decide), nth_nI (by omega), if_neg (fun w => w.elim (fun w => nI_ne0 z (by omega) w) (fun w => by rw [q2.2.2.1] at w; exact absurd w (by decide))), l2.e 12 rfl]
      obtain ⟨E', h', e3, x3⟩ := (C_hide x2 I2 hc (nI y) (bI v) (bI_01 v)).v (by decide) hr
      have k3 := kHide I2 hc n1 n2 (nI y) (bI v)
      have I3 := iHide I2 (nI y) (bI v)
      rw [hr] at k3 I3
      have hsd := hd3_sd C2 v2 t2 (bI v)
      have fin : Md B c (fit (hd3 (wml S m2) y (bI v))) h' ∧ Dq 50 (fit (hd3 (wml S m2) y (bI v))) := by
        refine ⟨JC.done (S := S) k3 rfl x3 I3 (v2.sd hsd rfl) ?_ ?_ lb, dq_fit (dq_hd3 q2 C2 I2.1.2.1.s v2 t2 z (bI v))⟩
        · rw [hsd.l 18 rfl]; exact e18
        · rw [hsd.i 26 rfl]; exact e26
      have hd : fL_does (some B) 2 (nI y) (bI v) 0 (lw B h m2) = some (.inl (if sI S 12 y = 0 then 0 else 1), h') := by
        rw [do1 _ _ _ x2, e3]; rfl
      have tail : ∀ q : Int32, q = (if sI S 12 y = 0 then (0 : Int32) else 1) → wM (fun (K52 : hp → Prop) =>
          if q < 0 then
          (K52 h)
          else
          wM (fun (K53 : Int32 → Prop) =>
          if bI v = 0 then
          (wP (oIL (some (B + 91)) (((6 : Int32) * nI y) + (3 : Int32)) h) fun x54 =>
          K53 (x54 &&& (-3 : Int32)))
          else
          wP (oIL (some (B + 91)) (((6 : Int32) * nI y) + (3 : Int32)) h) fun x55 =>
          K53 (x55 ||| (2 : Int32)))
          fun q53 =>
          wP (oIS (some (B + 91)) (((6 : Int32) * nI y) + (3 : Int32)) q53 h) fun h56 =>
          wP (oIL (some (B + 91)) (((6 : Int32) * nI y) + (1 : Int32)) h56) fun x57 =>
          wP (oIL (some (B + 91)) (((6 : Int32) * nI y) + (2 : Int32)) h56) fun x58 =>
          wH (fL_loses (some (B + 90)) (some (B + 91)) x57 (x58 + (1 : Int32)) h56) fun _ h59 =>
          K52 h59)
          fun q52 =>
          wM (fun (K60 : Int32 → Prop) =>
          if bI v = 0 then
          (K60 (0 : Int32))
          else
          K60 (1 : Int32))
          fun q60 =>
          wE (fL_does (some B) (2 : Int32) (nI y) q60 (0 : Int32) q52) fun x61 h62 =>
          if x61 = q then
          (K6 ((1 : Int32), h62))
          else
          K6 ((0 : Int32), h62) := by
        intro q hq
        have q0 : ¬ q < 0 := by
          rw [hq]
          split <;> decide
        have e53 : ∀ K : Int32 → Prop, K (if v = true then nI (fl3 S y) ||| (2 : Int32) else nI (fl3 S y) &&& (-3 : Int32)) → wM (fun (K53 : Int32 → Prop) =>
            if bI v = 0 then
            (wP (oIL (some (B + 91)) (((6 : Int32) * nI y) + (3 : Int32)) h) fun x54 =>
            K53 (x54 &&& (-3 : Int32)))
            else
            wP (oIL (some (B + 91)) (((6 : Int32) * nI y) + (3 : Int32)) h) fun x55 =>
            K53 (x55 ||| (2 : Int32))) K := fun K hk => by
          rw [wMs, rd.fg t.lt, wPs, wPs]
          cases v
          · exact hk
          · exact hk
        rw [wMs, if_neg q0]
        refine e53 _ ?_
        dsimp only
        have e2' : wH ((oIS (some (B + 91)) (((6 : Int32) * nI y) + (3 : Int32)) (if v = true then nI (fl3 S y) ||| (2 : Int32) else nI (fl3 S y) &&& (-3 : Int32)) h).bind fun h56 => (oIL (some (B + 91)) (((6 : Int32) * nI y) + (1 : Int32)) h56).bind fun x57 => (oIL (some (B + 91)) (((6 : Int32) * nI y) + (2 : Int32)) h56).bind fun x58 => fL_loses (some (B + 90)) (some (B + 91)) x57 (x58 + (1 : Int32)) h56) (fun _ h59 => wM (fun (K60 : Int32 → Prop) =>
          if bI v = 0 then
          (K60 (0 : Int32))
          else
          K60 (1 : Int32))
          fun q60 =>
          wE (fL_does (some B) (2 : Int32) (nI y) q60 (0 : Int32) h59) fun x61 h62 =>
          if x61 = q then
          (K6 ((1 : Int32), h62))
          else
          K6 ((0 : Int32), h62)) := by
          rw [e2, wHs]
          refine e60 _ ?_
          rw [hd]
          refine wE_l ?_
          rw [hq, if_pos rfl]
          exact hK _ _ fin.1 fin.2
        rw [wH_b] at e2'
        simp only [wH_b] at e2'
        exact e2'
      unfold hid
      by_cases hz : sI S 12 y = 0
      · rw [decide_eq_false (fun w => w hz), if_pos (show bI false = 0 from rfl)]
        exact tail 0 (by rw [if_pos hz])
      · rw [decide_eq_true hz, if_neg (show ¬ bI true = 0 by decide)]
        exact tail 1 (by rw [if_neg hz])
  · have z1 : sI S 1 y = 0 := Classical.byContradiction fun w => t ⟨hy, w⟩
    rw [decide_eq_false (show ¬ sI S 1 y ≠ 0 from fun w => w z1), if_pos (show bI false = 0 from rfl)]
    dsimp only
    rw [wMs, if_pos (show (-11 : Int32) < 0 by decide)]
    refine e60 _ ?_
    exact ref 0 (by decide) (by
      unfold cHide
      rw [elt_n t (by omega), if_pos rfl]; rfl)
end HID

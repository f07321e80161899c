/-! ===== one turn's end: the place on the line, what waits, the desk compared ===== -/
section END
variable {B c : Nat} {E : Nat → Nat} {S T : SS} {h : hp} {m : LY}
theorem sd25 (S : SS) : Sd [25] [] [] (fit S) S := by
  have hs := sd_fit S
  exact ⟨fun k hk => (hs.1 k hk).symm, fun k hk => (hs.2.1 k hk).symm, fun k hk => (hs.2.2.1 k hk).symm, hs.2.2.2.symm⟩
/-- the law fits the place on the line -/
theorem t_fit (x : Md B c S h) {K : hp → Prop} (hK : ∀ S' h', JC B c S' h' → LB S' (lSt S') → Lo8 S S' → K h') : wH (fL_line (some (B + 90)) (some (B + 91)) (some (B + 92)) (some (B + 93)) (some (B + 94)) (some (B + 95)) h) fun x126 h127 =>
  wP (oIL (some (B + 90)) (3 : Int32) h127) fun x128 =>
  wM (fun (K129 : Int32 → Prop) =>
  if x128 ≤ 0 then
  (wP (oIL (some (B + 90)) (3 : Int32) h127) fun x130 =>
  K129 x130)
  else
  wP (oIL (some (B + 90)) (3 : Int32) h127) fun x131 =>
  if x131 < x126 then
  (wP (oIL (some (B + 90)) (3 : Int32) h127) fun x132 =>
  K129 x132)
  else
  if x126 = 0 then
  (K129 (0 : Int32))
  else
  wP (oNz (10 : Int32)) fun _ =>
  K129 (((x126 - (1 : Int32)) / (10 : Int32)) * (10 : Int32)))
  fun q129 =>
  wP (oIS (some (B + 90)) (3 : Int32) q129 h127) fun h133 => K h133 := by
  obtain ⟨⟨⟨E, x1⟩, hI, hv, hn, hm, h18, h26⟩, S0, lb, rfl⟩ := x
  obtain ⟨m1, H0, e1, x0, ag⟩ := t_line x1 lb (sd25 S0) hI hv
  have eln : ln (fit S0) = ln S0 := ln_fit S0
  have lnl := ln_len hI.1.1.l
  rw [eln] at e1 lnl
  have t0 := RW.lt6 x0
  have n3 : oIL (some (B + 90)) (3 : Int32) (lw B H0 m1) = some (sI S0 25 0) := by
    rw [(t0.lq m1).n3, (ag 0 (by decide)).1, lb.2.2.2.1]
  have jc : JC B c (fit S0) H0 := ⟨⟨E, x0⟩, hI, hv, hn, hm, h18, h26⟩
  have fin : ∀ v, v = sI (fit S0) 25 0 → wP (oIS (some (B + 90)) (3 : Int32) v (lw B H0 m1)) fun h133 => K h133 := fun v hv2 => by
    rw [t0.pn3, wPs]
    have lb1 : LB (fit S0) (lu m1 0 3 v) := by
      have lb0 := lb.ag5 ag
      have hs := sd_fit S0
      refine lb0.gl (by rw [← made_cg (hs.i 0 rfl)]; exact hI.1.1.t.2.1.lt) (hs.mono rfl) (fun j k hj => lu_f (by omega)) rfl (lu_f (by omega)) ?_ ?_ ?_ ?_ (fun z => ?_)
      · rw [lu_f (by omega), hs.i 20 rfl]; exact lb0.2.1
      · rw [lu_f (by omega), hs.i 21 rfl]; exact lb0.2.2.1
      · rw [lu_s]; exact hv2
      · rw [lu_f (by omega), hs.i 22 rfl]; exact lb0.2.2.2.2.1
      · rw [hs.i 22 rfl] at z
        rw [lu_f (by omega), lu_f (by omega), hs.i 23 rfl, hs.i 24 rfl]
        exact lb0.2.2.2.2.2.1 z
    generalize lu m1 0 3 v = m3 at lb1
    exact hK (wml (fit S0) m3) _ (jc.lwp m3) ((lb1.lo8 (lo8_m _ m3)).ag5 (fun i hi => lSt_w _ m3 i (by omega))) (lo8_m _ m3)
  rw [e1, wHs, n3, wPs, wMs]
  by_cases c1 : sI S0 25 0 ≤ 0
  · rw [if_pos c1, wPs]
    refine fin _ ?_
    unfold fit
    rw [if_neg (fun z => absurd z.1 (Int32.not_lt.mpr c1))]
  · have c1' : 0 < sI S0 25 0 := Int32.not_le.mp c1
    rw [if_neg c1, wPs]
    by_cases c2 : sI S0 25 0 < nI (ln S0).length
    · rw [if_pos c2, wPs]
      refine fin _ ?_
      unfold fit
      rw [if_neg (fun z => absurd z.2 (Int32.not_le.mpr c2))]
    · have c2' : nI (ln S0).length ≤ sI S0 25 0 := Int32.not_lt.mp c2
      rw [if_neg c2]
      have ef : sI (fit S0) 25 0 = if (ln S0).length = 0 then 0 else nI (((ln S0).length - 1) / 10 * 10) := by
        unfold fit
        rw [if_pos ⟨c1', c2'⟩, sI_I, if_pos ⟨rfl, rfl⟩]
      rcases Nat.eq_zero_or_pos (ln S0).length with z | z
      · rw [if_pos (show nI (ln S0).length = 0 by rw [z]; rfl)]
        exact fin _ (by rw [ef, if_pos z])
      · rw [if_neg (nI_ne0 z (by omega)), o10, wPs, nI_pr z]
        refine fin _ ?_
        rw [ef, if_neg (by omega), show (10 : Int32) = nI 10 from rfl, nI_div (by omega) (by decide), nI_mul]
/-- ticking until the alerts are spoken -/
theorem t_tick (x : JC B c S h) (lb : LB S (lSt S)) (hq : Dq 50 S) (hc : c + 200 < 1000000) : ∃ v h' S', (∀ E, RC B E S h → fX10_tick B 50 h = some (.inl v, h')) ∧ ¬ v < 0 ∧ JJ B (c + 100) S' h' ∧ made S' = made S := by
  obtain ⟨⟨E, x1⟩, hI, hv, hn, hm, h18, h26⟩ := x
  have hr : cTick S 50 = rt (sI (tckN S 50) 43 0 - sI S 43 0) (tckN S 50) := by
    unfold cTick
    rw [if_neg (show ¬ ¬ ((1 : Int32) ≤ 50 ∧ (50 : Int32) ≤ 50) from fun z => z ⟨by decide, by decide⟩), show nth (50 : Int32) = 50 from nth_nI (i := 50) (by decide)]
  have hs := sd_tckN S 50
  have h43 := t43_ge S 50 (by decide)
  have hd := dq_0 (dq_N (n := 0) 50 hq)
  generalize tckN S 50 = T at hr hs h43 hd
  obtain ⟨E', h', e3, x3⟩ := (C_tick x1 hI hc hn 50).v (by decide) hr
  have k4 := kTick hI (by omega) hn hm hc 50
  have I3 := iTick hI 50
  rw [hr] at k4 I3
  have k4' : KP S T := k4
  have I3' : Inv T (c + 100) := I3
  have lst := k4'.1.lst
  exact ⟨_, h', T, fun E2 x2 => e3, h43, ⟨⟨⟨E', x3⟩, I3', hv.sd hs rfl, k4'.2.1, k4'.2.2, by rw [hs.l 18 rfl]; exact h18, by rw [hs.i 26 rfl]; exact h26⟩, (lb.sd hs rfl).ag5 (fun i hi => ⟨fun k => lst.1 i k, fun k => lst.2 i k⟩), hd⟩, made_cg (hs.i 0 rfl)⟩
theorem Dq.lo8 {S' : SS} {k : Nat} (x : Dq k S) (l : Lo8 S S') : Dq k S' := by
  unfold Dq Qt at x ⊢
  rw [l.l 17, l.l 39, l.e 38 rfl, l.e 41 rfl, l.q 30, l.q 35]
  exact x
/-- THE TURN'S END -/
theorem t_end (x : Md B c S h) (hc : c + 200 < 1000000) {q2 : Int32} {i : Nat} (hi : i < 130) (hq : (q2 = 4 ∨ q2 = 5) → Dq 50 S) (hq' : ¬ (q2 = 4 ∨ q2 = 5) → Qt S) {dd : Nat} (hd : dd < 2 ^ 31) {KB : Int32 × Int32 × hp → Prop} (hKB : ∀ S' h', JJ B (c + 100) S' h' → made S' = made S → KB (1, nI (i + 1), h')) : wH (fL_line (some (B + 90)) (some (B + 91)) (some (B + 92)) (some (B + 93)) (some (B + 94)) (some (B + 95)) h) fun x126 h127 =>
  wP (oIL (some (B + 90)) (3 : Int32) h127) fun x128 =>
  wM (fun (K129 : Int32 → Prop) =>
  if x128 ≤ 0 then
  (wP (oIL (some (B + 90)) (3 : Int32) h127) fun x130 =>
  K129 x130)
  else
  wP (oIL (some (B + 90)) (3 : Int32) h127) fun x131 =>
  if x131 < x126 then
  (wP (oIL (some (B + 90)) (3 : Int32) h127) fun x132 =>
  K129 x132)
  else
  if x126 = 0 then
  (K129 (0 : Int32))
  else
  wP (oNz (10 : Int32)) fun _ =>
  K129 (((x126 - (1 : Int32)) / (10 : Int32)) * (10 : Int32)))
  fun q129 =>
  wP (oIS (some (B + 90)) (3 : Int32) q129 h127) fun h133 =>
  wM (fun (K134 : (Int32 × hp) → Prop) =>
  if (1 : Int32) = 0 then
  (K134 ((0 : Int32), h133))
  else
  wM (fun (K135 : Unit → Prop) =>
  if q2 = (4 : Int32) then
  (K135 ())
  else
  if q2 = (5 : Int32) then
  (K135 ())
  else
  wC ((oOb 9 (some B) h133).bind fun b => fX10_waiting b (1 : Int32) h133) fun x136 =>
  if (2 : Int32) ≤ x136 then
  (K134 ((0 : Int32), h133))
  else
  wC ((oOb 9 (some B) h133).bind fun b => fX10_waiting b (0 : Int32) h133) fun x137 =>
  if x137 = 0 then
  (K134 ((1 : Int32), h133))
  else
  K134 ((0 : Int32), h133))
  fun q135 =>
  wX ((oOb 9 (some B) h133).bind fun b => fX10_tick b (50 : Int32) h133) fun x138 h139 =>
  if x138 < 0 then
  (K134 ((0 : Int32), h139))
  else
  wC ((oOb 9 (some B) h139).bind fun b => fX10_waiting b (2 : Int32) h139) fun x140 =>
  if x140 = 0 then
  (wC ((oOb 9 (some B) h139).bind fun b => fX10_waiting b (1 : Int32) h139) fun x141 =>
  if (2 : Int32) ≤ x141 then
  (K134 ((0 : Int32), h139))
  else
  wC ((oOb 9 (some B) h139).bind fun b => fX10_waiting b (0 : Int32) h139) fun x142 =>
  if x142 = 0 then
  (K134 ((1 : Int32), h139))
  else
  K134 ((0 : Int32), h139))
  else
  K134 ((0 : Int32), h139))
  fun q134 =>
  if q134.1 = 0 then
  (KB ((0 : Int32), nI i + (1 : Int32), q134.2))
  else
  wP (oNz (4 : Int32)) fun _ =>
  if (nI i - nI i / (4 : Int32) * (4 : Int32)) < (3 : Int32) then
  (KB ((1 : Int32), nI i + (1 : Int32), q134.2))
  else
  fL_isDesk (some B) (some (B + 90)) (some (B + 91)) (some (B + 92)) (some (B + 93)) (some (B + 94)) (nI dd) q134.2 fun x143 h144 =>
  if x143 = 0 then
  (KB ((0 : Int32), nI i + (1 : Int32), h144))
  else
  KB ((1 : Int32), nI i + (1 : Int32), h144) := by
  -- behind the waiting asks
  have last : ∀ S' h', JJ B (c + 100) S' h' → made S' = made S → (if (1 : Int32) = 0 then (KB ((0 : Int32), nI i + (1 : Int32), h')) else wP (oNz (4 : Int32)) fun _ =>
      if (nI i - nI i / (4 : Int32) * (4 : Int32)) < (3 : Int32) then
      (KB ((1 : Int32), nI i + (1 : Int32), h'))
      else
      fL_isDesk (some B) (some (B + 90)) (some (B + 91)) (some (B + 92)) (some (B + 93)) (some (B + 94)) (nI dd) h' fun x143 h144 =>
      if x143 = 0 then
      (KB ((0 : Int32), nI i + (1 : Int32), h144))
      else
      KB ((1 : Int32), nI i + (1 : Int32), h144)) := fun S' h' j hmd => by
    rw [if_neg (show ¬ (1 : Int32) = 0 by decide), show oNz (4 : Int32) = some () from rfl, wPs, nI_1]
    split
    · exact hKB S' h' j hmd
    · obtain ⟨E, x, rd⟩ := j.rd
      refine dk_all x j.2.1 j.1.2.2.1 j.1.2.1.1.1 hd (fun h2 x2 => ?_)
      rw [if_neg (show ¬ (1 : Int32) = 0 by decide)]
      exact hKB S' h2 ⟨j.1.of x2, j.2⟩ hmd
  have wt : ∀ (S' : SS) (h' : hp) (E' : Nat → Nat), RC B E' S' h' → Qt S' → fX10_waiting B 1 h' = some (.inl (if (sL S' 33 0).length = 0 then 0 else 1)) ∧ fX10_waiting B 0 h' = some (.inl 0) ∧ fX10_waiting B 2 h' = some (.inl 0) := fun S' h' E' x' q' => by
    have g : ∀ p : Int32, 0 ≤ p ∧ p ≤ 2 → cWaiting S' p = rt (if p = 0 then nI (sQ S' 30).length else if p = 2 then nI (sQ S' 35).length else if (sL S' 33 0).length = 0 then 0 else 1) S' := fun p hp2 => by
      unfold cWaiting
      rw [if_neg (fun z => z hp2)]
    refine ⟨(C_waiting x' 1).v (by decide) ((g 1 (by decide)).trans (by rw [if_neg (by decide), if_neg (by decide)])), (C_waiting x' 0).v (by decide) ((g 0 (by decide)).trans (by rw [if_pos rfl, q'.2.1]; rfl)), (C_waiting x' 2).v (by decide) ((g 2 (by decide)).trans (by rw [if_neg (by decide), if_pos rfl, q'.2.2.1]; rfl))⟩
  have le1 : ∀ S' : SS, ¬ (2 : Int32) ≤ (if (sL S' 33 0).length = 0 then 0 else 1) := fun S' => by split <;> decide
  refine t_fit x (fun S' h' jc lb l => ?_)
  obtain ⟨⟨E', x'⟩, jr⟩ := jc
  have jc : JC B c S' h' := ⟨⟨E', x'⟩, jr⟩
  rw [wMs, if_neg (show ¬ (1 : Int32) = 0 by decide), wMs]
  have tick : (q2 = 4 ∨ q2 = 5) → wX ((oOb 9 (some B) h').bind fun b => fX10_tick b (50 : Int32) h') fun x138 h139 =>
      if x138 < 0 then
      (if (0 : Int32) = 0 then (KB ((0 : Int32), nI i + (1 : Int32), h139)) else wP (oNz (4 : Int32)) fun _ =>
      if (nI i - nI i / (4 : Int32) * (4 : Int32)) < (3 : Int32) then
      (KB ((1 : Int32), nI i + (1 : Int32), h139))
      else
      fL_isDesk (some B) (some (B + 90)) (some (B + 91)) (some (B + 92)) (some (B + 93)) (some (B + 94)) (nI dd) h139 fun x143 h144 =>
      if x143 = 0 then
      (KB ((0 : Int32), nI i + (1 : Int32), h144))
      else
      KB ((1 : Int32), nI i + (1 : Int32), h144))
      else
      wC ((oOb 9 (some B) h139).bind fun b => fX10_waiting b (2 : Int32) h139) fun x140 =>
      if x140 = 0 then
      (wC ((oOb 9 (some B) h139).bind fun b => fX10_waiting b (1 : Int32) h139) fun x141 =>
      if (2 : Int32) ≤ x141 then
      (if (0 : Int32) = 0 then (KB ((0 : Int32), nI i + (1 : Int32), h139)) else wP (oNz (4 : Int32)) fun _ =>
      if (nI i - nI i / (4 : Int32) * (4 : Int32)) < (3 : Int32) then
      (KB ((1 : Int32), nI i + (1 : Int32), h139))
      else
      fL_isDesk (some B) (some (B + 90)) (some (B + 91)) (some (B + 92)) (some (B + 93)) (some (B + 94)) (nI dd) h139 fun x143 h144 =>
      if x143 = 0 then
      (KB ((0 : Int32), nI i + (1 : Int32), h144))
      else
      KB ((1 : Int32), nI i + (1 : Int32), h144))
      else
      wC ((oOb 9 (some B) h139).bind fun b => fX10_waiting b (0 : Int32) h139) fun x142 =>
      if x142 = 0 then
      (if (1 : Int32) = 0 then (KB ((0 : Int32), nI i + (1 : Int32), h139)) else wP (oNz (4 : Int32)) fun _ =>
      if (nI i - nI i / (4 : Int32) * (4 : Int32)) < (3 : Int32) then
      (KB ((1 : Int32), nI i + (1 : Int32), h139))
      else
      fL_isDesk (some B) (some (B + 90)) (some (B + 91)) (some (B + 92)) (some (B + 93)) (some (B + 94)) (nI dd) h139 fun x143 h144 =>
      if x143 = 0 then
      (KB ((0 : Int32), nI i + (1 : Int32), h144))
      else
      KB ((1 : Int32), nI i + (1 : Int32), h144))
      else
      (if (0 : Int32) = 0 then (KB ((0 : Int32), nI i + (1 : Int32), h139)) else wP (oNz (4 : Int32)) fun _ =>
      if (nI i - nI i / (4 : Int32) * (4 : Int32)) < (3 : Int32) then
      (KB ((1 : Int32), nI i + (1 : Int32), h139))
      else
      fL_isDesk (some B) (some (B + 90)) (some (B + 91)) (some (B + 92)) (some (B + 93)) (some (B + 94)) (nI dd) h139 fun x143 h144 =>
      if x143 = 0 then
      (KB ((0 : Int32), nI i + (1 : Int32), h144))
      else
      KB ((1 : Int32), nI i + (1 : Int32), h144)))
      else
      (if (0 : Int32) = 0 then (KB ((0 : Int32), nI i + (1 : Int32), h139)) else wP (oNz (4 : Int32)) fun _ =>
      if (nI i - nI i / (4 : Int32) * (4 : Int32)) < (3 : Int32) then
      (KB ((1 : Int32), nI i + (1 : Int32), h139))
      else
      fL_isDesk (some B) (some (B + 90)) (some (B + 91)) (some (B + 92)) (some (B + 93)) (some (B + 94)) (nI dd) h139 fun x143 h144 =>
      if x143 = 0 then
      (KB ((0 : Int32), nI i + (1 : Int32), h144))
      else
      KB ((1 : Int32), nI i + (1 : Int32), h144)) := fun w => by
    obtain ⟨v, h2, S2, e2, v0, j2, md2⟩ := t_tick jc lb ((hq w).lo8 l) hc
    obtain ⟨E2, x2, -⟩ := j2.rd
    obtain ⟨w1, w0, w2⟩ := wt S2 h2 E2 x2 j2.2.2
    rw [RW.ob0 x', sb, e2 E' x', wXs, if_neg v0, RW.ob0 x2, sb, w2, wCs, if_pos rfl, sb, w1, wCs, if_neg (le1 S2), sb, w0, wCs, if_pos (show (0 : Int32) = 0 from rfl)]
    exact last S2 h2 j2 (md2.trans (made_cg (l.e 0 rfl)))
  by_cases a4 : q2 = 4
  · rw [if_pos a4]
    exact tick (Or.inl a4)
  · rw [if_neg a4]
    by_cases a5 : q2 = 5
    · rw [if_pos a5]
      exact tick (Or.inr a5)
    · rw [if_neg a5]
      have q' := (hq' (fun z => z.elim a4 a5)).lo8 l
      obtain ⟨w1, w0, w2⟩ := wt S' h' E' x' q'
      rw [RW.ob0 x', sb, w1, wCs, if_neg (le1 S'), sb, w0, wCs, if_pos (show (0 : Int32) = 0 from rfl)]
      obtain ⟨r1, r2, r3, r4, r5, r6⟩ := jr
      exact last S' h' ⟨⟨⟨E', x'⟩, r1.more (by omega), r2, r3, r4, r5, r6⟩, lb, q'⟩ (made_cg (l.e 0 rfl))
end END

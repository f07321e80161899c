/-! ===== one turn: drafts, a new name ===== -/
section DRF
variable {B c : Nat} {E : Nat → Nat} {S T : SS} {h : hp} {m : LY}
theorem code_ok : ∀ n, n < 64 → ((fL_code (nI n)).elim false (fun v => isC v && (decide (0 < v) && decide (v < 131072)))) = true := by decide +kernel
theorem code_n {n : Nat} (hn : n < 64) : ∃ k, fL_code (nI n) = some (nI k) ∧ 0 < k ∧ k < 131072 ∧ isC (nI k) = true := by
  have h := code_ok n hn
  cases hc : fL_code (nI n) with
  | none => rw [hc] at h; cases h
  | some v =>
    rw [hc] at h
    simp only [Option.elim, Bool.and_eq_true, decide_eq_true_eq] at h
    obtain ⟨h1, h2, h3⟩ := h
    obtain ⟨k, k1, rfl⟩ := nI_of (x := v) (fun z => absurd (Int32.lt_trans h2 z) (Int32.lt_irrefl))
    refine ⟨k, rfl, ?_, ?_, h1⟩
    · rcases Nat.eq_zero_or_pos k with z | z
      · rw [z] at h2; exact absurd h2 (by decide)
      · exact z
    · exact (nI_ltI k1 (by decide)).mp h3
/-- the desk with a draft -/
def DR (B c : Nat) (S : SS) (l : List Int32) (S' : SS) (h' : hp) : Prop := (∃ E, RC B E S' h') ∧ Inv S' c ∧ VK S' ∧ WKN S' ∧ WKM S' ∧ sI S' 26 0 = 0 ∧ sL S' 18 0 = l ∧ LB S' (lSt S') ∧ Qt S' ∧ Sd [] [18] [] S S'
theorem t_drafts (j : JJ B c S h) (hc : c < 1000000) {dd : Nat} (hd : dd < 2 ^ 31) {K : Int64 → hp → Prop} (hK : ∀ l S' h', DR B c S l S' h' → l.length ≤ 3 → okC 20 l → K (lN (pkF 20 l)) h') : fL_drafts (some B) (nI dd) h K := by
  have e4 : nI dd / (3 : Int32) - nI dd / (3 : Int32) / (4 : Int32) * (4 : Int32) = nI (dd / 3 % 4) := by
    rw [show (3 : Int32) = nI 3 from rfl, nI_div hd (by decide), show (4 : Int32) = nI 4 from rfl, nI_rem (by omega) (by decide)]
  have h4 : dd / 3 % 4 < 4 := Nat.mod_lt _ (by decide)
  unfold fL_drafts
  show itrW (fL_drafts_B5 (some B) (nI dd)) 4 (0, 0, h) _
  refine itrW_for (fun k a => ∃ l S' h', a = (lN (pkF 20 l), nI k, h') ∧ DR B c S l S' h' ∧ l.length = k ∧ okC 20 l) (dd / 3 % 4) (fun k a hk hX P1 hP => ?_) (fun a hX P1 => ?_) (by omega) ?_
  · obtain ⟨l, S', h', rfl, ⟨⟨E', x⟩, hI, hv, hn, hm, h26, h18, lb, hq, hs⟩, ll, ok⟩ := hX
    have g64 : dd / (5 + 8 * k) % 64 < 64 := Nat.mod_lt _ (by decide)
    obtain ⟨ch, c1, c2, c3, c4⟩ := code_n g64
    have ed : nI dd / ((5 : Int32) + (8 : Int32) * nI k) - nI dd / ((5 : Int32) + (8 : Int32) * nI k) / (64 : Int32) * (64 : Int32) = nI (dd / (5 + 8 * k) % 64) := by
      rw [show (8 : Int32) = nI 8 from rfl, nI_mul, show (5 : Int32) = nI 5 from rfl, nI_add, nI_div hd (by omega), show (64 : Int32) = nI 64 from rfl, nI_rem (by have := Nat.div_le_self dd (5 + 8 * k); omega) (by decide)]
    have en : (5 : Int32) + (8 : Int32) * nI k = nI (5 + 8 * k) := by rw [show (8 : Int32) = nI 8 from rfl, nI_mul, show (5 : Int32) = nI 5 from rfl, nI_add]
    have hr : cDraft S' (nI ch) = rt (nI (k + 1)) (wSL S' 18 0 (l ++ [nI ch])) := by
      unfold cDraft
      rw [c4, if_neg (by decide), h18, if_neg (by omega), ll]
    obtain ⟨E'', h'', e3, x3⟩ := (C_draft x hI.1.1.xd (nI ch)).v (by decide) hr
    have k4 := kDraft hn hm (nI ch)
    have I3 := iDraft hI (nI ch)
    rw [hr] at k4 I3
    have hs2 : Sd [] [18] [] S' (wSL S' 18 0 (l ++ [nI ch])) := Sd.L (by decide)
    have hp20 : (20 : Int32) * nI k = nI (20 * k) := by rw [show (20 : Int32) = nI 20 from rfl, nI_mul]
    have h1 := pkx_lt (b := 20) (by decide) ok
    rw [ll] at h1
    have h2 : 2 ^ (20 * k) ≤ 2 ^ 40 := Nat.pow_le_pow_right (by decide) (by omega)
    have h3 : ch * 2 ^ (20 * k) ≤ 131072 * 2 ^ 40 := Nat.mul_le_mul (by omega) h2
    have pk : lN (pkF 20 l) ||| ((nI ch).toInt64 <<< (((20 : Int32) * nI k).toInt64 &&& 63)) = lN (pkF 20 (l ++ [nI ch])) := by
      rw [hp20, i64_n (by omega), wb_shl ch (by omega), g_or' rfl h1 (by omega), pk_app, nI_clamp (by omega), ll]
    have lst := k4.1.lst
    have hP' := hP (lN (pkF 20 (l ++ [nI ch])), nI (k + 1), h'') ⟨l ++ [nI ch], wSL S' 18 0 (l ++ [nI ch]), h'', rfl, ⟨⟨E'', x3⟩, I3, hv.sd hs2 rfl, k4.2.1, k4.2.2, h26, by rw [sL_L, if_pos ⟨rfl, rfl⟩], (lb.sd hs2 rfl).ag5 (fun i hi => ⟨fun q => lst.1 i q, fun q => lst.2 i q⟩), ⟨fun i => by rw [sL_L, if_neg (fun z => absurd z.1 (by decide))]; exact hq.1 i, hq.2.1, hq.2.2.1, hq.2.2.2⟩, hs.tr hs2⟩, by rw [List.length_append, ll]; rfl, okC_app ok ⟨ch, c2, by omega, rfl⟩⟩
    unfold fL_drafts_B5
    dsimp only
    rw [show oNz (3 : Int32) = some () from rfl, wPs, show oNz (4 : Int32) = some () from rfl, wPs, e4, if_neg (show ¬ nI (dd / 3 % 4) ≤ nI k from nI_ge hk (by omega)), ed, en, oNz_n (by omega) (by omega), wPs, show oNz (64 : Int32) = some () from rfl, wPs, c1, wPs, RW.ob0 x, sb, e3, wXs, nI_1, if_pos rfl, pk]
    exact hP'
  · obtain ⟨l, S', h', rfl, dr, ll, ok⟩ := hX
    unfold fL_drafts_B5
    dsimp only
    rw [show oNz (3 : Int32) = some () from rfl, wPs, show oNz (4 : Int32) = some () from rfl, wPs, e4, if_pos (nI_le (Nat.le_refl _) (by omega))]
    exact hK l S' h' dr (by omega) ok
  · obtain ⟨⟨x, hI, hv, hn, hm, h18, h26⟩, lb, hq⟩ := j
    exact ⟨[], S, h, rfl, ⟨x, hI, hv, hn, hm, h26, h18, lb, hq, Sd.rf⟩, rfl, fun c hc => absurd hc List.not_mem_nil⟩
/-- RENAME -/
theorem t_ren (j : JJ B c S h) (hc : c < 1000000) {y : Nat} (hy : y < made S) {dd : Nat} (hd : dd < 2 ^ 31) {K6 : Int32 × hp → Prop} (hK : ∀ S' h', Md B c S' h' → Qt S' → K6 (1, h')) : wM (fun (K40 : Int32 → Prop) =>
  if bI (decide (sI S 1 y ≠ 0)) = 0 then
  (K40 (-11 : Int32))
  else
  if nI y = 0 then
  (K40 (-13 : Int32))
  else
  K40 (0 : Int32))
  fun q40 =>
  wM (fun (K41 : (Int32 × hp) → Prop) =>
  if q40 = 0 then
  (fL_drafts (some B) (nI dd) h fun x42 h43 =>
  wP (oJS (some (B + 92)) (nI y) x42 h43) fun h44 =>
  wP (oJL (some (B + 92)) (nI y) h44) fun x45 =>
  wP (fL_nameMany x45) fun x46 =>
  K41 (x46, h44))
  else
  K41 (q40, h))
  fun q41 =>
  wE (fL_does (some B) (3 : Int32) (nI y) (0 : Int32) (0 : Int32) q41.2) fun x47 h48 =>
  if x47 = q41.1 then
  (K6 ((1 : Int32), h48))
  else
  K6 ((0 : Int32), h48) := by
  obtain ⟨E, x, rd⟩ := j.rd
  have hI := j.1.2.1
  have hC := hI.1.1
  have l10 := rd.m10
  have do1 : ∀ S1 h1 E1, RC B E1 S1 h1 → fL_does (some B) 3 (nI y) 0 0 h1 = fX10_rename B (nI y) h1 := fun S1 h1 E1 x1 => by
    unfold fL_does
    rw [if_neg (by decide), if_neg (by decide), if_neg (by decide), if_pos rfl, RW.ob0 x1, sb]
  have ref : ∀ k, k < 2 → cRename S (nI y) = tw (nI (k + 1)) S → wE (fL_does (some B) 3 (nI y) 0 0 h) fun x47 h48 => if x47 = thC ([exI, exS].getD k "") then K6 (1, h48) else K6 (0, h48) := fun k hk hr => by
    rw [do1 S h E x]
    have q := C_rename x hI hc (nI y)
    rw [hr] at q
    exact ref_e (k := k) j (by decide) (by decide) q (by omega) (K := fun x47 h48 => if x47 = thC ([exI, exS].getD k "") then K6 (1, h48) else K6 (0, h48)) (fun h' j' => by
      rw [if_pos rfl]
      exact hK _ _ j'.md j'.2.2)
  rw [wMs]
  by_cases t : th S y
  · rw [decide_eq_true t.2, if_neg (show ¬ bI true = 0 by decide)]
    rcases Nat.eq_zero_or_pos y with z | z
    · subst z
      rw [if_pos (show nI 0 = 0 from rfl)]
      dsimp only
      rw [wMs, if_neg (show ¬ (-13 : Int32) = 0 by decide)]
      exact ref 1 (by decide) (by
        unfold cRename
        rw [show nI 0 = 0 from rfl, elt_0 hC.t, if_neg (by decide), if_pos (Or.inl rfl)]; rfl)
    · rw [if_neg (nI_ne0 z (by omega))]
      dsimp only
      rw [wMs, if_pos (show (0 : Int32) = 0 from rfl)]
      refine t_drafts j hc hd (fun l S' h' dr ll ok => ?_)
      obtain ⟨⟨E', x'⟩, I', v', n', m', h26', h18', lb', q', hs'⟩ := dr
      have hm' := made_cg (hs'.i 0 rfl)
      have ty : th S' y := (th_cg (hs'.i 0 rfl) (hs'.i 1 rfl) y).mpr t
      have hh := RW.lws x'
      have wr : oJS (some (B + 92)) (nI y) (lN (pkF 20 l)) h' = some (lw B h' (lv (lSt S') 2 y (lN (pkF 20 l)))) := by
        have := (RW.lt6 x').pc (m := lSt S') (v := lN (pkF 20 l)) (k := y) (by omega)
        rw [hh] at this
        exact this
      have rl : oJL (some (B + 92)) (nI y) (lw B h' (lv (lSt S') 2 y (lN (pkF 20 l)))) = some (lN (pkF 20 l)) := by
        rw [((RW.lt6 x').lq _).c (by omega), lv_s]
      rw [wr, wPs, rl, wPs, r_nmany ll ok, wPs]
      dsimp only
      have l2 := lo8_m S' (lv (lSt S') 2 y (lN (pkF 20 l)))
      have x2 := RC.lwp x' (lv (lSt S') 2 y (lN (pkF 20 l)))
      have I2 := I'.lo8 l2
      have v2 := v'.lo8 l2
      have n2 : WKN (wml S' (lv (lSt S') 2 y (lN (pkF 20 l)))) := WKN.cg n' (l2.e 15 rfl) (l2.l 17)
      have m2' : WKM (wml S' (lv (lSt S') 2 y (lN (pkF 20 l)))) := m'.cg (l2.e 0 rfl) l2.2.2.2
      have q2 := q'.lo8 l2
      have lb2 : LB (wml S' (lv (lSt S') 2 y (lN (pkF 20 l)))) (lSt S') := lb'.lo8 l2
      generalize hm2 : lv (lSt S') 2 y (lN (pkF 20 l)) = m2 at l2 x2 I2 v2 n2 m2' q2 lb2
      have C2 := I2.1.1
      have t2 : th (wml S' m2) y := (th_cg (l2.e 0 rfl) (l2.e 1 rfl) y).mpr ty
      have h18 : sL (wml S' m2) 18 0 = l := by rw [l2.l 18]; exact h18'
      have h26 : sI (wml S' m2) 26 0 = 0 := by rw [l2.e 26 rfl]; exact h26'
      have e6 : sL (ren1 (wml S' m2) y) 6 y = l := by
        unfold ren1
        rw [sL_L, if_neg (fun w => absurd w.1 (by decide)), sL_L, if_pos ⟨rfl, rfl⟩, h18]
      have lb3 : LB (ren1 (wml S' m2) y) m2 := by
        have hs1 : Sd [] [6, 18] [] (wml S' m2) (ren1 (wml S' m2) y) := (Sd.L (by decide)).tr (Sd.L (by decide))
        have := lb2.nm (c := y) hs1 (fun i hi => by
          unfold ren1
          rw [sL_L, if_neg (fun w => absurd w.1 (by decide)), sL_L, if_neg (fun w => hi w.2)])
        rw [e6, hm2] at this
        exact this
      have hs1 : Sd [] [6, 18] [] (wml S' m2) (ren1 (wml S' m2) y) := (Sd.L (by decide)).tr (Sd.L (by decide))
      have v3 : VK (ren1 (wml S' m2) y) := by
        have e : ∀ k, sI (ren1 (wml S' m2) y) k = sI (wml S' m2) k := fun k => hs1.1 k List.not_mem_nil
        have e8 : sL (ren1 (wml S' m2) y) 8 = sL (wml S' m2) 8 := hs1.l 8 rfl
        have hmm := made_cg (e 0)
        refine ⟨by rw [hmm]; exact v2.1, fun i hi => ?_⟩
        rw [hmm] at hi
        obtain ⟨b1, b2, b3, b4, b5⟩ := v2.2 i hi
        by_cases q : i = y
        · subst q
          refine ⟨by rw [e 2]; exact b1, by rw [e 13]; exact b2, by rw [e6]; exact ll, by rw [e6]; exact ok, by rw [e8]; exact b5⟩
        · have e6' : sL (ren1 (wml S' m2) y) 6 i = sL (wml S' m2) 6 i := by
            unfold ren1
            rw [sL_L, if_neg (fun w => absurd w.1 (by decide)), sL_L, if_neg (fun w => q w.2)]
          refine ⟨by rw [e 2]; exact b1, by rw [e 13]; exact b2, by rw [e6']; exact b3, by rw [e6']; exact b4, by rw [e8]; exact b5⟩
      have ef : ren (wml S' m2) y = fit (ren1 (wml S' m2) y) := by
        unfold ren
        split
        · rfl
        · rw [telW_id v3 (C2.t.pw.cg (hs1.i 0 rfl) (hs1.i 3 rfl)) (show y < made (ren1 (wml S' m2) y) by rw [made_cg (hs1.i 0 rfl)]; exact t2.lt)]
      have hr : cRename (wml S' m2) (nI y) = rt (nI l.length) (fit (ren1 (wml S' m2) y)) := by
        unfold cRename
        rw [elt_y t2 (by omega), if_neg (by decide), nth_nI (by omega), if_neg (fun w => w.elim (fun w => nI_ne0 z (by omega) w) (fun w => by rw [q2.2.2.1] at w; exact absurd w (by decide))), h18, ef]
      obtain ⟨E3, h3, e3, x3⟩ := (C_rename x2 I2 hc (nI y)).v (by decide) hr
      have k4 := kRename I2 hc n2 m2' (nI y)
      have I3 := iRename I2 (nI y)
      rw [hr] at k4 I3
      rw [do1 _ _ _ x2, e3]
      refine wE_l ?_
      rw [if_pos rfl]
      have q3 : Qt (ren1 (wml S' m2) y) := ⟨fun i => by rw [hs1.l 17 rfl]; exact q2.1 i, by rw [hs1.q 30 rfl]; exact q2.2.1, by rw [hs1.q 35 rfl]; exact q2.2.2.1, by rw [hs1.i 38 rfl]; exact q2.2.2.2⟩
      refine hK _ _ (JC.done (S := S') k4 rfl x3 I3 v3 ?_ ?_ lb3) q3.fit
      · unfold ren1
        rw [sL_L, if_pos ⟨rfl, rfl⟩]
      · rw [hs1.i 26 rfl]; exact h26
  · have z1 : sI S 1 y = 0 := Classical.byContradiction fun w => t ⟨hy, w⟩
    rw [decide_eq_false (show ¬ sI S 1 y ≠ 0 from fun w => w z1), if_pos (show bI false = 0 from rfl)]
    dsimp only
    rw [wMs, if_neg (show ¬ (-11 : Int32) = 0 by decide)]
    exact ref 0 (by decide) (by
      unfold cRename
      rw [elt_n t (by omega), if_pos rfl]; rfl)
end DRF

/-! ===== the reference's removing ===== -/
section MV
variable {S : SS} {m : mm}
theorem gn_erase (l : List Nat) (p k : Nat) : gn (l.eraseIdx p) k = if k < p then gn l k else gn l (k + 1) := by
  unfold gn
  rw [List.getD_eq_getElem?_getD, List.getD_eq_getElem?_getD, List.getD_eq_getElem?_getD, List.getElem?_eraseIdx]
  split <;> rfl
theorem rem_lem {c : Nat} (h : Inv S c) {x : Nat} (hx : th S x) (h0 : 0 < x) (ha : (sQ S 35).length < 20) {T : SS} (hT : tel (rm2 S x) (rgS S x) (gone S x) = T) : InvT (rm2 S x) c 19 ∧ InvT T c 20 ∧ sK T = sK (rm2 S x) ∧ (∀ k, k ≠ 1 → k ≠ 45 → decide (k ∉ [15, 38, 44, 45]) = true → sI T k = sI S k) ∧ th T (dpar S x) ∧ rfgO S x = rfg T (dpar S x) ((sK T (dpar S x)).drop (plc S x)) ((sK T (dpar S x)).take (plc S x)) ∧ (gonA T (sI T 20 0) = true → th T (rfgO S x)) := by
  have hW := h.1.1.t
  have hC := h.1.1
  have hth := rm2_th (S := S) x
  have hI0 : InvT (rm2 S x) c 19 := rm2_InvT h hx h0 (by omega)
  have hg := gone_len hC.l x
  obtain ⟨u1, u2⟩ := hW.up h0 hx
  have hI1 : InvT (tel (rm2 S x) (rgS S x) (gone S x)) c 20 := hI0.kTel (fun r hr => by
    unfold rgS at hr
    split at hr
    · have h2 := rgn_th hW hx hr
      rw [rgn_s hW.pw h0 hx.lt] at hr
      have hm : r ∈ an S (dpar S x) := List.mem_of_find?_eq_some hr
      refine ⟨by rw [rm2_i x 2 (by decide) (by decide)]; exact h2.1, (hth r).mpr ⟨h2.2, fun z => ?_⟩⟩
      have q1 := an_mem hW.pw u1.lt r hm
      have q2 := an_mem hW.pw h2.2.lt x z
      have q3 := (hW.pw.par h0 hx.lt).1
      omega
    · cases hr) hg
  have hs1 := sd_tel (rm2 S x) (rgS S x) (gone S x)
  have hi : ∀ k, k ≠ 1 → k ≠ 45 → decide (k ∉ [15, 38, 44, 45]) = true → sI (tel (rm2 S x) (rgS S x) (gone S x)) k = sI S k := fun k h1 h2 h3 => (hs1.i k h3).trans (rm2_i x k h1 h2)
  have e1 : sI (tel (rm2 S x) (rgS S x) (gone S x)) 1 = sI (rm2 S x) 1 := hs1.i 1 rfl
  have eK : sK (tel (rm2 S x) (rgS S x) (gone S x)) = sK (rm2 S x) := hs1.2.2.2
  have htT : ∀ i, th (tel (rm2 S x) (rgS S x) (gone S x)) i ↔ (th S i ∧ x ∉ an S i) := fun i => (th_cg (hs1.i 0 rfl) (hs1.i 1 rfl) i).trans (hth i)
  rw [hT] at *
  have e20 : sI T 20 = sI S 20 := hi 20 (by decide) (by decide) rfl
  have e12 : sI T 12 = sI S 12 := hi 12 (by decide) (by decide) rfl
  have e3 : sI T 3 = sI S 3 := hi 3 (by decide) (by decide) rfl
  have c40 := hC.c.2.l40 hW
  have shT : ∀ i, shn T i = shn S i := shn_cg e3 e12
  have hh : ∀ j, hid T j = hid S j := fun j => by unfold hid; rw [e12]
  have hKT : sK T (dpar S x) = (sK S (dpar S x)).take (plc S x) ++ (sK S (dpar S x)).drop (plc S x + 1) := by
    rw [eK, rm2_K, if_pos rfl, eraseIdx_split]
  have hpl : plc S x < (sK S (dpar S x)).length := List.idxOf_lt_length_of_mem u2
  have htl : ((sK S (dpar S x)).take (plc S x)).length = plc S x := by rw [List.length_take]; omega
  have er : rfgO S x = rfg T (dpar S x) ((sK T (dpar S x)).drop (plc S x)) ((sK T (dpar S x)).take (plc S x)) := by
    rw [hKT, List.drop_left' htl, List.take_left' htl]
    exact (rfg_cg (fun j _ => hh j) (fun j _ => hh j)).symm
  have htp : th T (dpar S x) := (htT _).mpr ⟨u1, hW.not_up h0 hx⟩
  refine ⟨hI0, hI1, eK, hi, htp, er, fun g => ?_⟩
  rw [e20, hC.c.1, gon_nI c40, shT, hC.xs, e1, rm2_1] at g
  have hin : x ∈ an S (cur S) := by
    by_cases q : cur S < made S ∧ wthn S (cur S) x = true
    · exact of_decide_eq_true q.2
    · rw [if_neg q, decide_eq_false hC.c.2.2] at g
      simp at g
  have hxs := anc_shn hW _ hC.c.2.lt hC.xs x hin
  have hps := (shn_up hW h0 hx hxs).1
  rw [er]
  exact (rfg_in hI1.1.1 htp (by rw [shT]; exact hps) (fun j hj => List.mem_of_mem_drop hj) (fun j hj => List.mem_of_mem_take hj)).1
theorem rmF_WL (hL : WL S) (x n : Nat) : WL (rmF S x n) := fun i => by
  have hs := sd_rmF (S := S) x n
  rw [hs.l 6 rfl, hs.l 8 rfl, rmF_17]
  refine ⟨(hL i).1, (hL i).2.1, ?_⟩
  split
  · simp
  · exact (hL i).2.2
theorem m_rmF (hM : RM S m) (h : PW S) (hL : WL S) {x : Nat} (hx : x < 40) (c2 c3 c4 : Int32) : ∃ b, itr (fX11_remove_B86 (nI x) c2 c3 c4) FU ((0 : Int32), (0 : Int32), m) = some b ∧ b.1 = nI (rmN S x) ∧ RM (rmF S x (made S)) b.2 ∧ Sm [1, 45, 16] m b.2 := by
  have m40 := h.2.1
  refine itr_for (R := fun (b : Int32 × mm) => b.1 = nI (rmN S x) ∧ RM (rmF S x (made S)) b.2 ∧ Sm [1, 45, 16] m b.2) (fun j a => ∃ m', a = (nI ((List.range j).countP (fun j => decide (sI S 1 j ≠ 0) && wthn S j x)), nI j, m') ∧ RM (rmF S x j) m' ∧ Sm [1, 45, 16] m m') (made S) (fun j a hj hX => ?_) (fun a hX => ?_) (FU_lt (by omega)) ⟨m, rfl, hM, Sm.rf⟩
  · obtain ⟨m', rfl, x1, x2⟩ := hX
    have hs := sd_rmF (S := S) x j
    have hp : PW (rmF S x j) := h.cg (hs.i 0 rfl) (hs.i 3 rfl)
    have em : made (rmF S x j) = made S := made_cg (hs.i 0 rfl)
    have e1 : sI (rmF S x j) 1 j = sI S 1 j := by rw [rmF_1, if_neg (by omega)]
    have ew : wthn (rmF S x j) j x = wthn S j x := wthn_cg (hs.i 3 rfl) j x
    have hcnt : ∀ b : Bool, (decide (sI S 1 j ≠ 0) && wthn S j x) = b → (List.range (j + 1)).countP (fun j => decide (sI S 1 j ≠ 0) && wthn S j x) = (List.range j).countP (fun j => decide (sI S 1 j ≠ 0) && wthn S j x) + (if b = true then 1 else 0) := by
      intro b hb
      rw [List.range_succ, List.countP_append, List.countP_cons, List.countP_nil, hb, Nat.zero_add]
    unfold fX11_remove_B86
    rw [if_neg (show ¬ m' 0 0 ≤ nI j by rw [x1.made hp, em]; exact nI_ge hj (by omega))]
    show ∃ a', ((mLZ 1 (nI j) m').bind _ = _) ∧ _
    rw [mLZ_ok rfl (show j < 40 by omega), sb, x1.p 1 rfl, e1]
    by_cases q : sI S 1 j = 0
    · have hc := hcnt false (by rw [decide_eq_false (fun z => z q)]; rfl)
      rw [if_pos q]
      refine ⟨_, rfl, m', by rw [hc, nI_1]; rfl, ?_, x2⟩
      rw [rmF_s]
      unfold rm1
      rw [if_neg (fun z => z.1 (by rw [e1]; exact q))]
      exact x1
    · rw [if_neg q]
      show ∃ a', ((fX11_isBelow (nI j) (nI x) m').bind _ = _) ∧ _
      rw [m_below x1 hp (by rw [em]; exact hj) hx, sb, ew]
      by_cases w : wthn S j x = true
      · have hc := hcnt true (by rw [decide_eq_true q, w]; rfl)
        rw [w, if_neg (by decide)]
        show ∃ a', ((mSZ 1 (nI j) 0 m').bind _ = _) ∧ _
        rw [mSZ_ok rfl (show j < 40 by omega) (Or.inl rfl), sb]
        obtain ⟨m2, a2, b2, s2⟩ := m_swl (x1.wI0 (k := 1) (i := j) (v := 0) rfl) (S := wSI (rmF S x j) 1 j 0) (rmF_WL hL x j) (show j < 40 by omega)
        refine ⟨_, ?_, m2, rfl, ?_, ?_⟩
        · show oM (fX11_swallow (nI j) _) _ = _
          rw [a2, oMs, hc, nI_1, nI_1]; rfl
        · rw [rmF_s]
          unfold rm1
          rw [if_pos ⟨by rw [e1]; exact q, by rw [ew]; exact w⟩]
          exact b2
        · exact (x2.tr (Sm.up (by decide))).tr (s2.mono (by decide))
      · rw [Bool.not_eq_true] at w
        have hc := hcnt false (by rw [w, Bool.and_false])
        rw [w, if_pos bF]
        refine ⟨_, rfl, m', by rw [hc, nI_1]; rfl, ?_, x2⟩
        rw [rmF_s]
        unfold rm1
        rw [if_neg (fun z => by have := z.2; rw [ew, w] at this; cases this)]
        exact x1
  · obtain ⟨m', rfl, x1, x2⟩ := hX
    have hs := sd_rmF (S := S) x (made S)
    have hp : PW (rmF S x (made S)) := h.cg (hs.i 0 rfl) (hs.i 3 rfl)
    refine ⟨(nI (rmN S x), m'), ?_, rfl, x1, x2⟩
    unfold fX11_remove_B86
    rw [if_pos (show m' 0 0 ≤ nI (made S) by rw [x1.made hp, made_cg (hs.i 0 rfl)]; exact Int32.le_refl _)]; rfl
theorem m_shiftL (p pl n : Nat) (c3 c4 c5 : Int32) (h1 : pl ≤ n) (h2 : n < 10) (hp : p < 40) (m0 : mm) (h5 : m0 5 p = nI n) : ∃ m', itr (fX11_remove_B151 (nI p) c3 c4 c5) FU (nI pl, m0) = some m' ∧ Sm [4] m0 m' ∧ (∀ i, (i < 10 * p + pl ∨ 10 * p + n ≤ i) → m' 4 i = m0 4 i) ∧ ∀ k, pl ≤ k → k < n → m' 4 (10 * p + k) = m0 4 (10 * p + (k + 1)) := by
  refine itr_for (R := fun m' => Sm [4] m0 m' ∧ (∀ i, (i < 10 * p + pl ∨ 10 * p + n ≤ i) → m' 4 i = m0 4 i) ∧ ∀ k, pl ≤ k → k < n → m' 4 (10 * p + k) = m0 4 (10 * p + (k + 1))) (fun j a => ∃ m', a = (nI (pl + j), m') ∧ Sm [4] m0 m' ∧ (∀ i, (i < 10 * p + pl ∨ 10 * p + pl + j ≤ i) → m' 4 i = m0 4 i) ∧ ∀ k, pl ≤ k → k < pl + j → m' 4 (10 * p + k) = m0 4 (10 * p + (k + 1))) (n - pl) (fun j a hj hX => ?_) (fun a hX => ?_) (FU_lt (by omega)) ⟨m0, rfl, Sm.rf, fun _ _ => rfl, fun k k1 k2 => absurd k2 (by omega)⟩
  · obtain ⟨m', rfl, x1, x2, x3⟩ := hX
    have e5 : mL 5 (nI p) m' = some (nI n) := by rw [mL_ok rfl (show p < 40 from hp), x1.at 5 (by decide), h5]
    unfold fX11_remove_B151
    refine ⟨(nI (pl + (j + 1)), up2 m' 4 (10 * p + (pl + j)) (m' 4 (10 * p + (pl + j) + 1))), ?_, _, rfl, x1.tr (Sm.up (by decide)), ?_, ?_⟩
    · rw [e5, sb, if_neg (show ¬ nI n ≤ nI (pl + j) from nI_ge (by omega) (by omega))]
      show (mL 4 (nI 10 * nI p + nI (pl + j) + nI 1) m').bind _ = _
      rw [nI_mul, nI_add, nI_add, mL_ok rfl (show 10 * p + (pl + j) + 1 < 400 by omega), sb]
      show (mS 4 (nI 10 * nI p + nI (pl + j)) _ m').bind _ = _
      rw [nI_mul, nI_add, mS_ok rfl (show 10 * p + (pl + j) < 400 by omega), sb]
      show some (Sum.inl (nI (pl + j) + 1, _)) = _
      rw [nI_1]; rfl
    · intro i hi
      rw [up_n _ _ _ (by omega)]
      exact x2 i (by omega)
    · intro k k1 k2
      by_cases z : k = pl + j
      · subst z
        rw [up_s, x2 _ (by omega)]; rfl
      · rw [up_n _ _ _ (by omega)]
        exact x3 k k1 (by omega)
  · obtain ⟨m', rfl, x1, x2, x3⟩ := hX
    have e5 : mL 5 (nI p) m' = some (nI n) := by rw [mL_ok rfl (show p < 40 from hp), x1.at 5 (by decide), h5]
    refine ⟨m', ?_, x1, fun i hi => x2 i (by omega), fun k k1 k2 => x3 k k1 (by omega)⟩
    unfold fX11_remove_B151
    rw [e5, sb, if_pos (show nI n ≤ nI (pl + (n - pl)) by rw [show pl + (n - pl) = n by omega]; exact Int32.le_refl _)]
theorem rm3_48 (S : SS) (x : Nat) : sI (rm3 S x) 48 0 = sI S 48 0 := by
  unfold rm3
  rw [(sd_fit _).i 48 rfl, (sd_los _ _).i 48 rfl, (sd_tel _ _ _).i 48 rfl, rm2_i x 48 (by decide) (by decide)]
theorem m_remK (hM : RM S m) {c : Nat} (h : Inv S c) {x : Nat} (hx : th S x) (h0 : 0 < x) (ha : (sQ S 35).length < 20) : ∃ m2, ((mL 3 (nI x) m).bind fun x5 => (fX11_placeOf (nI x) m).bind fun x6 => (fX11_shows (nI x) m).bind fun x7 => Option.bind (α := Int32) (if x7 = 0 then (some (-1 : Int32)) else (fX11_regionOf (nI x) m).bind fun x10 => some x10) fun q8 => oM (fX11_makeGone (nI x) m) fun _ m12 => Option.bind (α := (Int32 × mm)) (itr (fX11_remove_B86 (nI x) x5 x6 q8) FU ((0 : Int32), (0 : Int32), m12)) fun q13 => (mL 5 x5 q13.2).bind fun x14 => (mS 5 x5 (x14 - (1 : Int32)) q13.2).bind fun m15 => Option.bind (α := mm) (itr (fX11_remove_B151 x5 x6 q8 q13.1) FU (x6, m15)) fun q16 => oM (fX11_tell q8 q16) fun _ m18 => oM (fX11_lose x5 x6 (x6 - (1 : Int32)) m18) fun _ m20 => oM (fX11_fitOffset m20) fun _ m22 => some ((q13.1, m22))) = some (nI (rmN S x), m2) ∧ RM (rm3 S x) m2 := by
  have hW := h.1.1.t
  have hC := h.1.1
  have x40 := hx.l40 hW
  obtain ⟨u1, u2⟩ := hW.up h0 hx
  have p40 := u1.l40 hW
  have l10 := (hW.kids u1).2.1
  have hpl : plc S x < (sK S (dpar S x)).length := List.idxOf_lt_length_of_mem u2
  obtain ⟨hI0, hI1, eK, hi, htp, er, hth⟩ := rem_lem h hx h0 ha rfl
  have e0 := m_rgS hM hW.pw hx.lt
  obtain ⟨m1, a1, b1, s1⟩ := m_gone hM hC.l x40
  have hM1 := hM.tsc s1
  obtain ⟨b, a2, c2, hM2, s2⟩ := m_rmF hM1 hW.pw hC.l x40 (nI (dpar S x)) (nI (plc S x)) (rI (rgS S x))
  obtain ⟨bc, m2⟩ := b
  simp only at c2 hM2 s2
  subst c2
  have hsF := sd_rmF (S := S) x (made S)
  have eKF : sK (rmF S x (made S)) = sK S := hsF.2.2.2
  have e5 : mL 5 (nI (dpar S x)) m2 = some (nI (sK S (dpar S x)).length) := by rw [m_kidn hM2 p40, eKF]
  rw [m_par hM hW hx h0, sb, m_place hM hW h0 hx, sb, ← Option.bind_assoc, e0, sb, a1, oMs, a2, sb]
  show ∃ m2', ((mL 5 (nI (dpar S x)) m2).bind _ = _) ∧ _
  rw [e5, sb, show (1 : Int32) = nI 1 from rfl, nI_sub (by omega)]
  show ∃ m2', ((mS 5 (nI (dpar S x)) (nI ((sK S (dpar S x)).length - 1)) m2).bind _ = _) ∧ _
  rw [mS_ok rfl (show dpar S x < 40 from p40), sb]
  obtain ⟨m3, a3, s3, b3, c3⟩ := m_shiftL (dpar S x) (plc S x) ((sK S (dpar S x)).length - 1) (nI (plc S x)) (rI (rgS S x)) (nI (rmN S x)) (by omega) (by omega) p40 (up2 m2 5 (dpar S x) (nI ((sK S (dpar S x)).length - 1))) (up_s _ _ _ _)
  rw [a3, sb]
  have hk1 : ∀ j, j < 40 → RKd m2 j (sK S j) := fun j hj => by have := hM2.kds hj; rw [eKF] at this; exact this
  have elen : ((sK S (dpar S x)).eraseIdx (plc S x)).length = (sK S (dpar S x)).length - 1 := by rw [List.length_eraseIdx, if_pos hpl]
  have hM3 : RM (rm2 S x) m3 := by
    unfold rm2
    refine hM2.wK (((Sm.up (k := 5) (i := dpar S x) (x := nI ((sK S (dpar S x)).length - 1)) (by decide))).tr (s3.mono (by decide))) ⟨?_, fun j hj => ?_, ?_⟩ (fun j hj hne => ?_)
    · rw [s3.at 5 (by decide), up_s, elen]
    · rw [elen] at hj
      rw [gn_erase]
      have hkp := (hk1 (dpar S x) p40).2.1
      by_cases j1 : j < plc S x
      · rw [if_pos j1, b3 _ (by omega), up_f _ _ _ (by decide)]
        exact hkp j (by omega)
      · rw [if_neg j1, c3 j (by omega) hj, up_f _ _ _ (by decide)]
        exact hkp (j + 1) (by omega)
    · rw [elen]; omega
    · have hkj := hk1 j hj
      have lj := hkj.2.2
      rw [eKF]
      refine ⟨?_, fun q hq => ?_, lj⟩
      · rw [s3.at 5 (by decide), up_n _ _ _ hne]
        exact hkj.1
      · have hq' : q < (sK S j).length := hq
        rw [b3 _ (by omega), up_f _ _ _ (by decide)]
        exact hkj.2.1 q hq
  have hT3 : Tx m3 (gone S x) := TxA.sm b1 (by rw [s3.at 28 (by decide), up_f _ _ _ (by decide), s2.at 28 (by decide)]) (by rw [s3.at 29 (by decide), up_f _ _ _ (by decide), s2.at 29 (by decide)])
  obtain ⟨m4, a4, b4⟩ := m_tel hM3 hI0.2.1 hI0.1.2.1 (Nat.le_trans hI0.2.2.2 (by decide)) (r := rgS S x) (rgS_40 hW hx) hT3 (gone_len hC.l x)
  rw [a4, oMs]
  have hrem := rem_Inv0 h hx h0 ha
  unfold rm3
  generalize hT : tel (rm2 S x) (rgS S x) (gone S x) = T at *
  have e20 : sI T 20 = sI S 20 := hi 20 (by decide) (by decide) rfl
  have hcur : cur T = cur S := cur_cg e20
  have em : made T = made S := made_cg (hi 0 (by decide) (by decide) rfl)
  have hlen : (sK T (dpar S x)).length = (sK S (dpar S x)).length - 1 := by rw [eK, rm2_K, if_pos rfl, elen]
  obtain ⟨m5, a5, b5⟩ := m_lose b4 hI1.1.1 hI1.2.1 hI1.1.2.1 (Nat.le_trans hI1.2.2.2 (by decide)) (p := dpar S x) (k1 := plc S x) (k2 := plc S x) htp (by omega) (by omega) ⟨by rw [e20, hcur]; exact hC.c.1, by rw [hcur, em]; exact hC.c.2.lt⟩ (by
    rw [hi 21 (by decide) (by decide) rfl]
    rcases hC.xf with w | ⟨f, f1, f2, f3, f4⟩
    · exact Or.inl w
    · exact Or.inr ⟨f, f1, by rw [em]; exact f2.lt⟩) (by rw [← er]; exact hth)
  rw [← er] at b5
  obtain ⟨m6, a6, b6, -⟩ := m_fit b5 hrem.1.t hrem.1.l hrem.1.k hrem.1.c
  refine ⟨m6, ?_, b6⟩
  show oM (fX11_lose (nI (dpar S x)) (nI (plc S x)) (nI (plc S x) - 1) m4) _ = _
  rw [a5, oMs, a6, oMs]
theorem m_remC (hM : RM S m) {c : Nat} (h : Inv S c) (x : Int32) : MC S m (fX11_remove x m) (fun S => cRemove S x) := by
  have ha := h.2.2
  refine m_t2 (a := fun S => nI (rmN S (nth x))) (F := fun S => rm3 S (nth x)) hM h.1.1.t.pw (by omega) (fun i m' e i0 hi ha hM' => ?_)
  subst e
  have i40 := hi.l40 h.1.1.t
  rw [nth_nI (by omega)]
  refine ⟨by rw [rm3_48]; rfl, ?_⟩
  have en : rmN (z0 S) i = rmN S i := by
    unfold rmN
    have : (fun j => decide (sI (z0 S) 1 j ≠ 0) && wthn (z0 S) j i) = (fun j => decide (sI S 1 j ≠ 0) && wthn S j i) := funext fun j => by rw [wthn_cg ((sd_z S).i 3 rfl), (sd_z S).i 1 rfl]
    rw [this]; rfl
  have := m_remK hM' h.z hi i0 ha
  rw [en] at this
  exact this
end MV

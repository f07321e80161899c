/-! ===== words of an element, what is told of one that is gone ===== -/
section MX
variable {S : SS} {m : mm}
theorem m_pp_l (hM : RM S m) (h : WT S) {i : Nat} (h0 : 0 < i) (hi : th S i) : itr (fX11_partPlace_B15 (nI i) (nI (dpar S i)) m) FU ((0 : Int32), (0 : Int32), (0 : Int32)) = some (nI (vis S ((sK S (dpar S i)).take (plc S i + 1))), nI (vis S (sK S (dpar S i)))) := by
  obtain ⟨h1, h2⟩ := h.up h0 hi
  obtain ⟨h5, h6, h7⟩ := h.kids h1
  have hq : plc S i < (sK S (dpar S i)).length := List.idxOf_lt_length_of_mem h2
  have hl40 := hi.l40 h
  have hp40 := h1.l40 h
  have hqi : gn (sK S (dpar S i)) (plc S i) = i := gn_idx h2
  have key : ∃ b, itr (fX11_partPlace_B15 (nI i) (nI (dpar S i)) m) FU ((0 : Int32), (0 : Int32), (0 : Int32)) = some b ∧ b = (nI (vis S ((sK S (dpar S i)).take (plc S i + 1))), nI (vis S (sK S (dpar S i)))) := by
    refine itr_for (X := fun j a => a.1 = (if plc S i < j then nI (vis S ((sK S (dpar S i)).take (plc S i + 1))) else 0) ∧ a.2.1 = nI (vis S ((sK S (dpar S i)).take j)) ∧ a.2.2 = nI j) (sK S (dpar S i)).length (fun j a hj hX => ?_) (fun a hX => ?_) (FU_lt (by omega)) ⟨by rw [if_neg (by omega)], by rw [List.take_zero]; rfl, rfl⟩
    · obtain ⟨b, al, pl⟩ := a
      obtain ⟨x1, x2, x3⟩ := hX
      simp only at x1 x2 x3
      subst x2 x3
      have hg : gn (sK S (dpar S i)) j < 40 := (h7 _ (gn_mem hj)).1.l40 h
      have hF : fX11_partPlace_B15 (nI i) (nI (dpar S i)) m (b, nI (vis S ((sK S (dpar S i)).take j)), nI j) = some (.inl (if gn (sK S (dpar S i)) j = i then nI (vis S ((sK S (dpar S i)).take (j + 1))) else b, nI (vis S ((sK S (dpar S i)).take (j + 1))), nI (j + 1))) := by
        unfold fX11_partPlace_B15
        rw [m_kidn hM hp40, sb]
        show (if nI (sK S (dpar S i)).length ≤ nI j then _ else _) = _
        rw [if_neg (nI_ge hj (by omega)), m_kid hM hp40 hj h6, sb, m_hid hM hg, sb, vis_s hj, ← nI_1 j]
        have hn : (nI (gn (sK S (dpar S i)) j) = nI i) ↔ gn (sK S (dpar S i)) j = i := nI_eq (by omega) (by omega)
        simp only [hn]
        by_cases eh : sI S 12 (gn (sK S (dpar S i)) j) = 0
        · have hh : hid S (gn (sK S (dpar S i)) j) = false := by unfold hid; simp [eh]
          rw [if_pos eh, sb, hh]
          by_cases e : gn (sK S (dpar S i)) j = i
          · simp only [if_pos e, Bool.false_eq_true, if_false, nI_1]
          · simp only [if_neg e, Bool.false_eq_true, if_false, nI_1]
        · have hh : hid S (gn (sK S (dpar S i)) j) = true := by unfold hid; simp [eh]
          rw [if_neg eh, sb, hh]
          by_cases e : gn (sK S (dpar S i)) j = i
          · simp only [if_pos e, if_true, Nat.add_zero, Int32.add_zero]
          · simp only [if_neg e, if_true, Nat.add_zero, Int32.add_zero]
      refine ⟨_, hF, ?_, rfl, rfl⟩
      show (if gn (sK S (dpar S i)) j = i then _ else b) = _
      by_cases e : gn (sK S (dpar S i)) j = i
      · have : j = plc S i := gn_inj h5 hj hq (by rw [e, hqi])
        rw [if_pos e, this, if_pos (by omega)]
      · have : j ≠ plc S i := fun z => e (by rw [z, hqi])
        rw [if_neg e, x1]
        by_cases e2 : plc S i < j
        · rw [if_pos e2, if_pos (by omega)]
        · rw [if_neg e2, if_neg (by omega)]
    · obtain ⟨b, al, pl⟩ := a
      obtain ⟨x1, x2, x3⟩ := hX
      simp only at x1 x2 x3
      subst x2 x3
      rw [if_pos hq] at x1
      subst x1
      refine ⟨_, ?_, rfl⟩
      unfold fX11_partPlace_B15
      rw [m_kidn hM hp40, sb]
      show (if nI (sK S (dpar S i)).length ≤ nI (sK S (dpar S i)).length then _ else _) = _
      rw [if_pos (Int32.le_refl _), List.take_length]
  obtain ⟨b, k1, rfl⟩ := key
  exact k1
theorem pt_dg {t : List Int32} (n : Nat) : pt t (dg n) = t ++ sep t (dg n) ++ dg n := by unfold pt; rw [List.append_assoc]
theorem dg_pos (n : Nat) : 0 < (dg n).length := by unfold dg; split <;> simp
theorem m_pp {t : List Int32} (hM : RM S m) (h : WT S) {i : Nat} (h0 : 0 < i) (hi : th S i) (hT : Tx m t) (hl : t.length + 20 ≤ 100) : TP (fX11_partPlace (nI i)) m (wd3 S i t) := by
  obtain ⟨h1, h2⟩ := h.up h0 hi
  obtain ⟨h5, h6, h7⟩ := h.kids h1
  obtain ⟨h3, h4⟩ := h.pw.par h0 hi.lt
  have hl40 := hi.l40 h
  have v1 : vis S ((sK S (dpar S i)).take (plc S i + 1)) ≤ 10 := Nat.le_trans (vis_le S _) (by rw [List.length_take]; omega)
  have v2 : vis S (sK S (dpar S i)) ≤ 10 := Nat.le_trans (vis_le S _) h6
  have c1 := pt_len t (dg (vis S ((sK S (dpar S i)).take (plc S i + 1))))
  have d1 := dg_len (vis S ((sK S (dpar S i)).take (plc S i + 1)))
  have d2 := dg_len (vis S (sK S (dpar S i)))
  obtain ⟨m1, a1, b1, s1⟩ := m_gap (dg (vis S ((sK S (dpar S i)).take (plc S i + 1)))) hT (by omega) (dg_pos _)
  have e1 := sep_len t (dg (vis S ((sK S (dpar S i)).take (plc S i + 1))))
  obtain ⟨m2, a2, b2, s2⟩ := m_num (n := vis S ((sK S (dpar S i)).take (plc S i + 1))) (by omega) b1 (by simp only [List.length_append]; omega)
  rw [← pt_dg] at b2
  obtain ⟨m3, a3, b3, s3⟩ := m_word (w := 14310) (p := [111, 102]) (by decide +kernel) (by decide +kernel) b2 (by omega)
  have c2 := pt_len (pt t (dg (vis S ((sK S (dpar S i)).take (plc S i + 1))))) [111, 102]
  simp only [List.length_cons, List.length_nil] at c2
  obtain ⟨m4, a4, b4, s4⟩ := m_gap (dg (vis S (sK S (dpar S i)))) b3 (by omega) (dg_pos _)
  have e2 := sep_len (pt (pt t (dg (vis S ((sK S (dpar S i)).take (plc S i + 1))))) [111, 102]) (dg (vis S (sK S (dpar S i))))
  obtain ⟨m5, a5, b5, s5⟩ := m_num (n := vis S (sK S (dpar S i))) (by omega) b4 (by simp only [List.length_append]; omega)
  rw [← pt_dg] at b5
  refine ⟨m5, ?_, b5, (((s1.tr s2).tr s3).tr s4).tr s5⟩
  unfold fX11_partPlace
  rw [m_plain hM rfl rfl (show i < 40 from hl40), sb, h4, m_pp_l hM h h0 hi, sb, a1, oMs, a2, oMs, show fX11_word 0 0 0 0 0 111 102 = some 14310 from by decide +kernel, sb, a3, oMs, a4, oMs, a5, oMs]
theorem wd1_len (S : SS) (hL : WL S) (i : Nat) (t : List Int32) : (wd1 S i t).length ≤ t.length + 20 := by
  have h1 := pt_len t (sL S 6 i)
  have h2 := pt_len (pt t (sL S 6 i)) (kw (sI S 2 i))
  have h3 := kw_len (sI S 2 i)
  have h4 := (hL i).1
  unfold wd1
  split <;> omega
theorem onw_len (x : Int32) : (onw x).length ≤ 3 := by unfold onw; split <;> decide
theorem wd2_len (S : SS) (i : Nat) (t : List Int32) : (wd2 S i t).length ≤ t.length + 4 := by
  have h1 := pt_len t (onw (sI S 10 i))
  have h2 := onw_len (sI S 10 i)
  unfold wd2
  split <;> omega
theorem wd3_len (S : SS) (i : Nat) (t : List Int32) : (wd3 S i t).length ≤ t.length + 9 := by
  unfold wd3
  have c1 := pt_len t (dg (vis S ((sK S (dpar S i)).take (plc S i + 1))))
  have d1 := dg_len (vis S ((sK S (dpar S i)).take (plc S i + 1)))
  have d2 := dg_len (vis S (sK S (dpar S i)))
  have c2 := pt_len (pt t (dg (vis S ((sK S (dpar S i)).take (plc S i + 1))))) [111, 102]
  have c3 := pt_len (pt (pt t (dg (vis S ((sK S (dpar S i)).take (plc S i + 1))))) [111, 102]) (dg (vis S (sK S (dpar S i))))
  simp only [List.length_cons, List.length_nil] at c2
  omega
/-- a crude bound: enough for rows of 100 -/
theorem wd_len0 (S : SS) (hL : WL S) (i : Nat) (t : List Int32) : (wd S i t).length ≤ t.length + 46 := by
  have h1 := wd1_len S hL i t
  have h2 := wd2_len S i (wd1 S i t)
  have h3 := pt_len (wd2 S i (wd1 S i t)) (sL S 8 i)
  have h4 := (hL i).2.1
  have h5 := wd3_len S i (pt (wd2 S i (wd1 S i t)) (sL S 8 i))
  unfold wd
  split <;> omega
theorem m_words {t : List Int32} (hM : RM S m) (h : WT S) (hL : WL S) {i : Nat} (hi : th S i) (hT : Tx m t) (hl : t.length + 60 ≤ 100) : TP (fX11_partWords (nI i)) m (wd S i t) := by
  have hl40 := hi.l40 h
  obtain ⟨m1, a1, b1, s1⟩ := m_name hM hL hl40 hT (by omega)
  have hM1 := hM.tsc s1
  have l1 := pt_len t (sL S 6 i)
  have n1 := (hL i).1
  have n2 := (hL i).2.1
  -- the word of the kind
  have k2 : ∃ m2, (if lvl S i = 0 then (mL 7 (nI i) m1).bind fun x10 => if x10 = 0 then (mL 2 (nI i) m1).bind fun x11 => (fX11_kindWord x11).bind fun x12 => oM (fX11_partWord x12 m1) fun _ m14 => some m14 else some m1 else (mL 2 (nI i) m1).bind fun x6 => (fX11_kindWord x6).bind fun x7 => oM (fX11_partWord x7 m1) fun _ m9 => some m9) = some m2 ∧ Tx m2 (wd1 S i t) ∧ Sm tsc m m2 := by
    obtain ⟨w, w1, w2, w3⟩ := m_kwd (sI S 2 i)
    obtain ⟨m2, a2, b2, s2⟩ := m_word w2 w3 b1 (by omega)
    have hk : (mL 2 (nI i) m1) = some (sI S 2 i) := m_plain hM1 rfl rfl (show i < 40 from hl40)
    have hn : mL 7 (nI i) m1 = some (nI (sL S 6 i).length) := by rw [mL_ok rfl (show i < 40 from hl40), (hM1.name hl40).1]
    unfold wd1
    by_cases e : lvl S i = 0
    · rw [if_pos e, hn, sb]
      by_cases e2 : (sL S 6 i).length = 0
      · rw [e2, if_pos (show nI 0 = 0 from nI_0), hk, sb, w1, sb, a2, oMs, if_pos (Or.inr rfl)]
        exact ⟨m2, rfl, b2, s1.tr s2⟩
      · rw [if_neg (nI_ne0 (by omega) (by omega)), if_neg (by simp [e, e2])]
        exact ⟨m1, rfl, b1, s1⟩
    · rw [if_neg e, hk, sb, w1, sb, a2, oMs, if_pos (Or.inl e)]
      exact ⟨m2, rfl, b2, s1.tr s2⟩
  obtain ⟨m2, a2, b2, s2⟩ := k2
  have hM2 := hM.tsc s2
  have l2 := wd1_len S hL i t
  have k3 : ∃ m3, (if sI S 2 i = 3 then (mLZ 10 (nI i) m2).bind fun x18 => oM (fX11_partOn x18 m2) fun _ m20 => some m20 else some m2) = some m3 ∧ Tx m3 (wd2 S i (wd1 S i t)) ∧ Sm tsc m m3 := by
    unfold wd2
    by_cases e : sI S 2 i = 3
    · rw [if_pos e, if_pos e, mLZ_ok (k := 10) rfl (show i < 40 from hl40), hM2.p 10 rfl, sb]
      obtain ⟨m3, a3, b3, s3⟩ := m_onw (sI S 10 i) b2 (by omega)
      exact ⟨m3, by rw [a3, oMs], b3, s2.tr s3⟩
    · rw [if_neg e, if_neg e]
      exact ⟨m2, rfl, b2, s2⟩
  obtain ⟨m3, a3, b3, s3⟩ := k3
  have hM3 := hM.tsc s3
  have l3 := wd2_len S i (wd1 S i t)
  have hc := hM3.cont hl40
  obtain ⟨m4, a4, b4, s4⟩ := m_part (f := 8) (o := 12 * i) b3 rfl rfl hc.2 (show _ ≤ 480 by omega) (by omega)
  have l4 := pt_len (wd2 S i (wd1 S i t)) (sL S 8 i)
  have hM4 := hM3.tsc s4
  have hk2 : mL 2 (nI i) m2 = some (sI S 2 i) := m_plain hM2 rfl rfl (show i < 40 from hl40)
  have hcn : mL 9 (nI i) m3 = some (nI (sL S 8 i).length) := by rw [mL_ok rfl (show i < 40 from hl40), hc.1]
  have pre : fX11_partWords (nI i) m = (if lvl S i = 2 then (if nI i ≤ 0 then (some (((), m4))) else oM (fX11_partPlace (nI i) m4) fun _ m25 => some (((), m25))) else some (((), m4))) := by
    unfold fX11_partWords
    rw [m_level hM h.pw hi.lt, sb, a1, oMs, a2, sb, hk2, sb, a3, sb, hcn, sb, show (12 : Int32) = nI 12 from rfl, nI_mul, a4, oMs]
  unfold TP wd
  rw [pre]
  by_cases e : lvl S i = 2
  · rw [if_pos e]
    by_cases e0 : i = 0
    · subst e0
      rw [if_pos (show nI 0 ≤ 0 by decide), if_neg (by simp)]
      exact ⟨m4, rfl, b4, s3.tr s4⟩
    · rw [if_neg (nI_nle (by omega) (by omega)), if_pos ⟨e, e0⟩]
      obtain ⟨m5, a5, b5, s5⟩ := m_pp hM4 h (by omega) hi b4 (by omega)
      exact ⟨m5, by rw [a5, oMs], b5, (s3.tr s4).tr s5⟩
  · rw [if_neg e, if_neg (fun z => e z.1)]
    exact ⟨m4, rfl, b4, s3.tr s4⟩
theorem Tx_0 (m : mm) : Tx (up2 m 29 0 0) [] := ⟨by rw [up_s]; rfl, Sl_nil⟩
theorem m_gone (hM : RM S m) (hL : WL S) {i : Nat} (hi : i < 40) : TP (fX11_makeGone (nI i)) m (gone S i) := by
  have hM0 := hM.tsc (Sm.up (k := 29) (i := 0) (x := 0) (by decide))
  have s0 : Sm tsc m (up2 m 29 0 0) := Sm.up (by decide)
  obtain ⟨m1, a1, b1, s1⟩ := m_word (w := 217839461) (p := [103, 111, 110, 101]) (by decide +kernel) (by decide +kernel) (Tx_0 m) (by decide)
  have hM1 := hM0.tsc s1
  have e1 : pt [] [103, 111, 110, 101] = [103, 111, 110, 101] := rfl
  rw [e1] at b1
  obtain ⟨m2, a2, b2, s2⟩ := m_name hM1 hL hi b1 (by decide)
  have hM2 := hM1.tsc s2
  have hn : mL 7 (nI i) m2 = some (nI (sL S 6 i).length) := by rw [mL_ok rfl (show i < 40 from hi), (hM2.name hi).1]
  have n1 := (hL i).1
  have pre : fX11_makeGone (nI i) m = (if nI (sL S 6 i).length = 0 then ((mL 2 (nI i) m2).bind fun x8 => (fX11_kindWord x8).bind fun x9 => oM (fX11_partWord x9 m2) fun _ m11 => some (((), m11))) else some (((), m2))) := by
    unfold fX11_makeGone
    rw [mPIs, sb, show fX11_word 0 0 0 103 111 110 101 = some 217839461 from by decide +kernel, sb, a1, oMs, a2, oMs, hn, sb]
  unfold TP gone
  rw [pre]
  by_cases e : (sL S 6 i).length = 0
  · rw [e, if_pos (show nI 0 = 0 from nI_0), if_pos rfl]
    obtain ⟨w, w1, w2, w3⟩ := m_kwd (sI S 2 i)
    have e3 : pt [103, 111, 110, 101] (sL S 6 i) = [103, 111, 110, 101] := by
      rw [List.eq_nil_of_length_eq_zero e]; rfl
    rw [e3] at b2
    obtain ⟨m3, a3, b3, s3⟩ := m_word w2 w3 b2 (by decide)
    refine ⟨m3, ?_, b3, ((s0.tr s1).tr s2).tr s3⟩
    rw [m_plain hM2 rfl rfl (show i < 40 from hi), sb, w1, sb, a3, oMs]
  · rw [if_neg (nI_ne0 (by omega) (by omega)), if_neg e]
    exact ⟨m2, rfl, b2, (s0.tr s1).tr s2⟩
end MX

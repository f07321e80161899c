/-! ===== the reference's public calls: what else is asked, the draft ===== -/
theorem sd_z (S : SS) : Sd [48] [] [] S (z0 S) := Sd.I (by decide)
theorem ord_cg {S S' : SS} (h12 : sI S' 12 = sI S 12) (hK : sK S' = sK S) : ord S' = ord S := by
  have : ∀ (f i : Nat), ordF S' f i = ordF S f i := by
    intro f
    induction f with
    | zero => intro i; rfl
    | succ f ih =>
      intro i
      have e : ordF S' f = ordF S f := funext ih
      show (if hid S' i = true then [] else i :: (sK S' i).flatMap (ordF S' f)) = _
      rw [hid_cg h12, hK, e]; rfl
  exact this 40 0
theorem ln_z (S : SS) : ln (z0 S) = ln S := by
  have hs := sd_z S
  exact ln_cg (hs.i 2 rfl) (hs.i 3 rfl) (hs.i 10 rfl) (hs.i 13 rfl) (hs.i 20 rfl) (hs.i 22 rfl) (hs.l 6 rfl) (hs.l 8 rfl)
theorem wd_z (S : SS) (i : Nat) (t : List Int32) : wd (z0 S) i t = wd S i t := by
  have hs := sd_z S
  exact wd_cg (hs.i 2 rfl) (hs.i 3 rfl) (hs.i 10 rfl) (hs.i 12 rfl) (hs.i 13 rfl) (hs.l 6 rfl) (hs.l 8 rfl) hs.2.2.2 i t
theorem ord_z (S : SS) : ord (z0 S) = ord S := ord_cg ((sd_z S).i 12 rfl) rfl
theorem shn_z (S : SS) (i : Nat) : shn (z0 S) i = shn S i := shn_cg ((sd_z S).i 3 rfl) ((sd_z S).i 12 rfl) i
theorem WT.z {S : SS} (h : WT S) : WT (z0 S) := h.sd (sd_z S) rfl
theorem WL.z {S : SS} (h : WL S) : WL (z0 S) := h
theorem WK.z {S : SS} (h : WK S) : WK (z0 S) := h.cg ((sd_z S).i 0 rfl) ((sd_z S).i 1 rfl) ((sd_z S).i 2 rfl)
theorem WC.z {S : SS} (h : WC S) : WC (z0 S) := h.cg ((sd_z S).i 0 rfl) ((sd_z S).i 1 rfl) ((sd_z S).i 20 rfl)
section ME
variable {S : SS} {m : mm}
theorem m_elements (hM : RM S m) (h : PW S) : MC S m (fX11_elements m) (fun S => rt (nI (nTh S)) S) :=
  MC.one (g := fun S => nI (nTh S)) hM (fun m' hM' e => ⟨m', by
    unfold fX11_elements
    have h1 := h.1
    have h2 := h.2.1
    rw [mPIs, sb, ← e]
    have key : ∃ b, itr (fX11_elements_B9 m') FU ((0 : Int32), (0 : Int32)) = some b ∧ b = nI (nTh S) := by
      refine itr_for (R := fun b => b = nI (nTh S)) (fun j a => a = (nI ((List.range j).countP (fun j => decide (sI S 1 j ≠ 0))), nI j)) (made S) (fun j a hj hX => ⟨_, ?_, rfl⟩) (fun a hX => ⟨_, ?_, rfl⟩) (FU_lt (by omega)) rfl
      · subst hX
        unfold fX11_elements_B9
        rw [if_neg (by rw [hM'.made (h.cg ((sd_z S).i 0 rfl) ((sd_z S).i 3 rfl))]; exact nI_ge hj (show made S < 2 ^ 31 by omega)), mLZ_ok rfl (show j < 40 by omega), sb, hM'.p 1 rfl, nI_1]
        rw [List.range_succ, List.countP_append]
        show (if sI S 1 j = 0 then _ else _) = _
        by_cases q : sI S 1 j = 0
        · rw [if_pos q]
          have : [j].countP (fun j => decide (sI S 1 j ≠ 0)) = 0 := by simp [q]
          rw [this]
          show some (Sum.inl (nI _ + nI 0, _)) = _
          rw [nI_add]
        · rw [if_neg q]
          have : [j].countP (fun j => decide (sI S 1 j ≠ 0)) = 1 := by simp [q]
          rw [this, nI_1]
      · subst hX
        unfold fX11_elements_B9
        rw [if_pos (by rw [hM'.made (h.cg ((sd_z S).i 0 rfl) ((sd_z S).i 3 rfl))]; exact Int32.le_refl _)]; rfl
    obtain ⟨b, k1, k2⟩ := key
    rw [k1, sb, k2], hM'⟩)
theorem m_reading (hM : RM S m) (h : WT S) : MC S m (fX11_reading m) (fun S => rt (nI (ord S).length) S) :=
  MC.one (g := fun S => nI (ord S).length) hM (fun m' hM' e => by
    obtain ⟨m2, a1, a2, a3, a4⟩ := m_order hM' h.z
    refine ⟨m2, ?_, hM'.sm (a4.mono (by decide))⟩
    unfold fX11_reading
    rw [mPIs, sb, ← e, a1, oMs, a3, ord_z])
theorem m_readingAt (hM : RM S m) (h : WT S) (y : Int32) : MC S m (fX11_readingAt y m) (fun S => cReadingAt S y) := by
  obtain ⟨m2, a1, a2, a3, a4⟩ := m_order hM h
  have hM2 : RM S m2 := hM.sm (a4.mono (by decide))
  have hl := ord_len h
  unfold fX11_readingAt
  rw [a1, oMs, a3, m_in, sb, ← inb_le0 y (show (ord S).length < 2 ^ 31 by omega)]
  by_cases q : inb y (ord S).length = true
  · obtain ⟨k, k1, rfl⟩ := inb_of q (by omega)
    refine MC.okr (a := nI (gn (ord S) k)) (X := S) (S' := z0 S) ?_ ?_ rfl ⟨up2 m2 48 0 0, ?_, hM2.z⟩
    · show cReadingAt S _ = _
      unfold cReadingAt
      rw [if_pos q, nth_nI (by omega)]
    · show (cReadingAt (z0 S) _).2.2 = _
      unfold cReadingAt
      rw [ord_z, if_pos q]; rfl
    · rw [q, if_neg (by decide), sb, mPIs, sb, up_s, if_pos rfl, m_ordAt h (by rw [up_f _ _ _ (by decide)]; exact a2) k1, sb]
  · rw [Bool.not_eq_true] at q
    have key : MC S m2 (some ((0 : Int32), up2 m2 48 0 1)) (fun S => cReadingAt S y) := by
      refine MC.thr (k := 1) (X := S) hM2 ?_ ?_ rfl
      · show cReadingAt S _ = _
        unfold cReadingAt
        rw [if_neg (by rw [q]; decide)]
      · show (cReadingAt (z0 S) _).2.2 = _
        unfold cReadingAt
        rw [ord_z, if_neg (by rw [q]; decide)]; rfl
    rw [q, if_pos bF, sb, mPIs, sb, up_s, if_neg (by decide)]
    exact key
theorem m_lineLen (hM : RM S m) (h : WT S) (hL : WL S) (hK : WK S) (hC : WC S) : MC S m (fX11_lineLength m) (fun S => rt (nI (ln S).length) S) :=
  MC.one (g := fun S => nI (ln S).length) hM (fun m' hM' e => by
    obtain ⟨m2, a1, a2, a3⟩ := m_line hM' h.z hL.z hK.z hC.z
    refine ⟨m2, ?_, hM'.lsc a3⟩
    unfold fX11_lineLength
    rw [mPIs, sb, ← e, a1, oMs, a2.1, ln_z])
theorem m_pin (hM : RM S m) (h : WT S) (hL : WL S) (hK : WK S) (hC : WC S) (ho : WXo S) (p : Int32) : MC S m (fX11_pin p m) (fun S => cPin S p) := by
  unfold fX11_pin
  rw [m_in, sb]
  by_cases e : (0 : Int32) ≤ p ∧ p ≤ 9
  · obtain ⟨m2, a1, a2, a3⟩ := m_line hM.z h.z hL.z hK.z hC.z
    have hM2 : RM (z0 S) m2 := hM.z.lsc a3
    obtain ⟨q, q1, q2⟩ := ho
    obtain ⟨j, j1, rfl⟩ := nI_of2 (n := 9) (M := 9) (by decide) (Int32.not_lt.mpr e.1) e.2
    have hl := ln_len hL
    refine MC.okr (a := (cPin S (nI j)).2.1) (X := S) (S' := z0 S) ?_ ?_ rfl ⟨m2, ?_, hM2⟩
    · show cPin S _ = _
      unfold cPin
      rw [if_neg (fun z => z e)]; rfl
    · show (cPin (z0 S) _).2.2 = _
      unfold cPin
      rw [if_neg (fun z => z e)]; rfl
    · rw [decide_eq_true e, if_neg (by decide), sb, mPIs, sb, a1, oMs, hM2.p 48 rfl, if_pos (show sI (z0 S) 48 0 = 0 from rfl), a2.1, ln_z, hM2.p 25 rfl]
      show (if nI (ln S).length ≤ sI S 25 0 + nI j then _ else _) = _
      have hw : (cPin S (nI j)).2.1 = (if nI (ln S).length ≤ nI (10 * q + j) then 0 else ge (ln S) (nth (nI (10 * q + j)))) := by
        unfold cPin
        rw [if_neg (show ¬ ¬ ((0 : Int32) ≤ nI j ∧ nI j ≤ 9) from fun z => z e), q2, nI_add]; rfl
      rw [hw, show sI S 25 0 + nI j = nI (10 * q + j) from by rw [q2, nI_add]]
      by_cases g : nI (ln S).length ≤ nI (10 * q + j)
      · rw [if_pos g, if_pos g]
      · have g' : 10 * q + j < (ln S).length := by
          rw [nI_leI (by omega) (by omega)] at g
          omega
        rw [if_neg g, if_neg g]
        show (mL 52 (sI S 25 0 + nI j) m2).bind _ = _
        have := a2.2 (10 * q + j) (by rw [ln_z]; exact g')
        rw [Nat.mul_zero, Nat.zero_add, ln_z] at this
        rw [q2, nI_add, mL_ok rfl (show 10 * q + j < 100 by omega), sb, this, nth_nI (by omega)]
  · obtain ⟨m2, a1, a2, a3⟩ := m_line (hM.wI0 (k := 48) (i := 0) (v := 1) rfl) (h.sd (Sd.I (ki := [48]) (kl := []) (kq := []) (by decide)) rfl) hL (hK.cg rfl rfl rfl) (hC.cg rfl rfl rfl)
    have hM2 : RM (wSI S 48 0 1) m2 := (hM.wI0 (k := 48) (i := 0) (v := 1) rfl).lsc a3
    refine ⟨m2, ?_, ?_⟩
    · rw [decide_eq_false e, if_pos bF, sb, mPIs, sb, a1, oMs, hM2.p 48 rfl, if_neg (by rw [sI_I, if_pos ⟨rfl, rfl⟩]; decide)]
      show _ = some ((cPin S p).2.1, m2)
      unfold cPin
      rw [if_pos e]; rfl
    · show RM (wSI (cPin (z0 S) p).2.2 48 0 (cPin S p).1) m2
      unfold cPin
      rw [if_pos e, if_pos e]
      show RM (wSI (wSI S 48 0 0) 48 0 1) m2
      rw [wSI_two]; exact hM2
theorem m_pinAnew (hM : RM S m) (h : WT S) (hL : WL S) (hK : WK S) (hC : WC S) (ho : WXo S) (p : Int32) : MC S m (fX11_pinAnew p m) (fun S => cPin S p) := by
  obtain ⟨m', a, b⟩ := m_pin hM h hL hK hC ho p
  exact ⟨m', by unfold fX11_pinAnew; rw [a, oMs], b⟩
theorem m_waiting (hM : RM S m) (hV : WV S) (p : Int32) : MC S m (fX11_waiting p m) (fun S => cWaiting S p) := by
  unfold fX11_waiting
  rw [m_in, sb]
  by_cases e : (0 : Int32) ≤ p ∧ p ≤ 2
  · have hM' := hM.z
    refine MC.okr (a := (cWaiting S p).2.1) (X := S) (S' := z0 S) ?_ ?_ rfl ⟨up2 m 48 0 0, ?_, hM'⟩
    · show cWaiting S _ = _
      unfold cWaiting
      rw [if_neg (fun z => z e)]; rfl
    · show (cWaiting (z0 S) _).2.2 = _
      unfold cWaiting
      rw [if_neg (fun z => z e)]; rfl
    · rw [decide_eq_true e, if_neg (by decide), sb, mPIs, sb, up_s, if_pos (by decide)]
      have hw : (cWaiting S p).2.1 = (if p = 0 then nI (sQ S 30).length else if p = 2 then nI (sQ S 35).length else if (sL S 33 0).length = 0 then 0 else 1) := by
        unfold cWaiting
        rw [if_neg (show ¬ ¬ ((0 : Int32) ≤ p ∧ p ≤ 2) from fun z => z e)]; rfl
      rw [hw]
      have n33 := hV.2.2.2.1
      by_cases p0 : p = 0
      · rw [if_pos p0, if_pos p0, hM'.2.2.2.2.2.2.2.1.1]; rfl
      · rw [if_neg p0, if_neg p0]
        by_cases p2 : p = 2
        · rw [if_pos p2, if_pos p2, hM'.2.2.2.2.2.2.2.2.1.1]; rfl
        · rw [if_neg p2, if_neg p2, hM'.2.2.2.2.2.1.1]
          show (if nI (sL S 33 0).length ≤ 0 then _ else _) = _
          by_cases g : (sL S 33 0).length = 0
          · rw [if_pos g, if_pos (by rw [g]; decide)]
          · rw [if_neg g, if_neg (nI_nle (by omega) (by omega))]
  · refine MC.thr (k := 1) (X := S) hM ?_ ?_ ?_
    · show cWaiting S _ = _
      unfold cWaiting
      rw [if_pos e]
    · show (cWaiting (z0 S) _).2.2 = _
      unfold cWaiting
      rw [if_pos e]; rfl
    · rw [decide_eq_false e, if_pos bF, sb, mPIs, sb, up_s, if_neg (by decide)]
theorem m_heardAt (hM : RM S m) {c : Nat} (hN : WN S c) (hc : c < 1000000) (b : Int32) : MC S m (fX11_heardAt b m) (fun S => cHeardAt S b) := by
  obtain ⟨-, ⟨n, n1, n2⟩, -⟩ := hN
  unfold fX11_heardAt
  rw [m_in, sb]
  by_cases e : ((0 : Int32) ≤ b ∧ b ≤ 99) ∧ b < sI S 43 0
  · have hM' := hM.z
    obtain ⟨j, j1, rfl⟩ := nI_of2 (n := 99) (M := 99) (by decide) (Int32.not_lt.mpr e.1.1) e.1.2
    have jn : j < n := by
      have := e.2
      rw [n2, nI_ltI (by omega) (by omega)] at this
      exact this
    have hn : nhd S = n := by unfold nhd; rw [n2, nI_clamp (by omega)]
    have hmod : (n - 1 - j) % 100 < 100 := Nat.mod_lt _ (by decide)
    refine MC.okr (a := sI S 42 ((nhd S - 1 - nth (nI j)) % 100)) (X := S) (S' := z0 S) ?_ ?_ rfl ⟨up2 m 48 0 0, ?_, hM'⟩
    · show cHeardAt S _ = _
      unfold cHeardAt
      rw [if_pos e]
    · show (cHeardAt (z0 S) _).2.2 = _
      unfold cHeardAt
      rw [if_pos (show ((0 : Int32) ≤ nI j ∧ nI j ≤ 99) ∧ nI j < sI (z0 S) 43 0 from e)]; rfl
    · rw [decide_eq_true e.1, if_neg (by decide), hM.p 43 rfl, if_neg (Int32.not_le.mpr e.2), sb, mPIs, sb, up_s, if_pos rfl, show oNz (100 : Int32) = some () from rfl, sb, hM'.p 43 rfl]
      show (mL 42 (sI S 43 0 - 1 - nI j - (sI S 43 0 - 1 - nI j) / 100 * 100) _).bind _ = _
      rw [n2, show (1 : Int32) = nI 1 from rfl, nI_sub (by omega), nI_sub (by omega), show (100 : Int32) = nI 100 from rfl, nI_rem (by omega) (by omega), mL_ok rfl (show (n - 1 - j) % 100 < 100 from hmod), sb, hM'.p 42 rfl, hn, nth_nI (by omega)]
      rfl
  · refine MC.thr (k := 1) (X := S) hM ?_ ?_ ?_
    · show cHeardAt S _ = _
      unfold cHeardAt
      rw [if_neg e]
    · show (cHeardAt (z0 S) _).2.2 = _
      unfold cHeardAt
      rw [if_neg (show ¬ (((0 : Int32) ≤ b ∧ b ≤ 99) ∧ b < sI (z0 S) 43 0) from e)]; rfl
    · by_cases e1 : (0 : Int32) ≤ b ∧ b ≤ 99
      · rw [decide_eq_true e1, if_neg (by decide), hM.p 43 rfl, if_pos (Int32.not_lt.mp (fun z => e ⟨e1, z⟩)), sb, mPIs, sb, up_s, if_neg (by decide)]
      · rw [decide_eq_false e1, if_pos bF, sb, mPIs, sb, up_s, if_neg (by decide)]
end ME

/-! ===== the reference's texts of parts ===== -/
def tsc : List Nat := [28, 29]
def Tx (m : mm) (t : List Int32) : Prop := TxA m 28 29 100 0 t
theorem Tx.cnt {m : mm} {t : List Int32} (h : Tx m t) : m 29 0 = nI t.length := h.1
/-- what a part of a text does -/
def TP (F : mm → Option (Unit × mm)) (m : mm) (t : List Int32) : Prop := ∃ m', F m = some ((), m') ∧ Tx m' t ∧ Sm tsc m m'
theorem m_put {m : mm} {t : List Int32} (x : Int32) (h : Tx m t) (hl : t.length < 100) : TP (fX11_put x) m (t ++ [x]) := by
  refine ⟨up2 (up2 m 28 t.length x) 29 0 (nI t.length + 1), ?_, ⟨?_, ?_⟩, (Sm.up (by decide)).tr (Sm.up (by decide))⟩
  · unfold fX11_put
    rw [h.cnt, mS_ok rfl hl, sb, up_f _ _ _ (show (29 : Nat) ≠ 28 by decide), h.cnt]
    rfl
  · rw [up_s, List.length_append]; exact nI_1 _
  · rw [up_f _ _ _ (show (28 : Nat) ≠ 29 by decide)]
    refine Sl_push h.2 ?_ (fun k hk => ?_)
    · rw [Nat.mul_zero, Nat.zero_add, up_s]
    · rw [up_n]; omega
theorem m_gap {m : mm} {t : List Int32} (p : List Int32) (h : Tx m t) (hl : t.length < 100) (hp : 0 < p.length) : TP fX11_gap m (t ++ sep t p) := by
  unfold TP fX11_gap sep
  rw [h.cnt]
  by_cases e : t.length = 0
  · rw [if_pos (Or.inl e), e, List.append_nil]
    exact ⟨m, by rw [if_pos (show nI 0 ≤ 0 by decide)], h, Sm.rf⟩
  · rw [if_neg (nI_nle (by omega) (by omega)), if_neg (by omega)]
    obtain ⟨m', h1, h2, h3⟩ := m_put 32 h hl
    exact ⟨m', by rw [h1]; rfl, h2, h3⟩
/-! words told as a number -/
def wgr (w : Int64) (s : Int32) : List Int32 := if lg_cmp ((w >>> (s.toInt64 &&& 63)) &&& (127 : Int64)) 0 ≤ 0 then [] else [((w >>> (s.toInt64 &&& 63)) &&& (127 : Int64)).toInt32]
def wdc (w : Int64) : List Int32 := wgr w 42 ++ (wgr w 35 ++ (wgr w 28 ++ (wgr w 21 ++ (wgr w 14 ++ (wgr w 7 ++ wgr w 0)))))
theorem wgr_len (w : Int64) (s : Int32) : (wgr w s).length ≤ 1 := by
  unfold wgr; split <;> simp
theorem m_word_s {m : mm} {t : List Int32} (w : Int64) (s : Int32) (hs : ¬ s < 0) (h : Tx m t) (hl : t.length < 100) : ∃ m', fX11_partWord_B13 w (s, m) = some (.inl (s + -7, m')) ∧ Tx m' (t ++ wgr w s) ∧ Sm tsc m m' := by
  unfold fX11_partWord_B13 wgr
  rw [if_neg hs]
  by_cases e : lg_cmp ((w >>> (s.toInt64 &&& 63)) &&& (127 : Int64)) 0 ≤ 0
  · rw [if_pos e, if_pos e, List.append_nil]
    exact ⟨m, rfl, h, Sm.rf⟩
  · rw [if_neg e, if_neg e]
    obtain ⟨m', h1, h2, h3⟩ := m_put (((w >>> (s.toInt64 &&& 63)) &&& (127 : Int64)).toInt32) h hl
    exact ⟨m', by rw [h1]; rfl, h2, h3⟩
theorem m_word {m : mm} {t : List Int32} {w : Int64} {p : List Int32} (hw : wdc w = p) (hp : (lg_cmp w 0 ≤ 0) ↔ p.length = 0) (h : Tx m t) (hl : t.length + 8 ≤ 100) : TP (fX11_partWord w) m (pt t p) := by
  have hsep : ∃ m1, (if lg_cmp w 0 ≤ 0 then some m else oM (fX11_gap m) fun _ m4 => some m4) = some m1 ∧ Tx m1 (t ++ sep t p) ∧ Sm tsc m m1 := by
    by_cases e : lg_cmp w 0 ≤ 0
    · refine ⟨m, by rw [if_pos e], ?_, Sm.rf⟩
      unfold sep
      rw [if_pos (Or.inr (hp.mp e)), List.append_nil]; exact h
    · obtain ⟨m1, h1, h2, h3⟩ := m_gap p h (by omega) (by
        rcases Nat.eq_zero_or_pos p.length with q | q
        · exact absurd (hp.mpr q) e
        · exact q)
      exact ⟨m1, by rw [if_neg e, h1]; rfl, h2, h3⟩
  obtain ⟨m1, g1, g2, g3⟩ := hsep
  have hs1 : (sep t p).length ≤ 1 := by unfold sep; split <;> simp
  have L := wgr_len w
  obtain ⟨a1, x1, y1, z1⟩ := m_word_s w 42 (by decide) g2 (by rw [List.length_append]; omega)
  have l1 := L 42
  obtain ⟨a2, x2, y2, z2⟩ := m_word_s w 35 (by decide) y1 (by simp only [List.length_append]; omega)
  have l2 := L 35
  obtain ⟨a3, x3, y3, z3⟩ := m_word_s w 28 (by decide) y2 (by simp only [List.length_append]; omega)
  have l3 := L 28
  obtain ⟨a4, x4, y4, z4⟩ := m_word_s w 21 (by decide) y3 (by simp only [List.length_append]; omega)
  have l4 := L 21
  obtain ⟨a5, x5, y5, z5⟩ := m_word_s w 14 (by decide) y4 (by simp only [List.length_append]; omega)
  have l5 := L 14
  obtain ⟨a6, x6, y6, z6⟩ := m_word_s w 7 (by decide) y5 (by simp only [List.length_append]; omega)
  have l6 := L 7
  obtain ⟨a7, x7, y7, z7⟩ := m_word_s w 0 (by decide) y6 (by simp only [List.length_append]; omega)
  refine ⟨a7, ?_, ?_, (((((((g3.tr z1).tr z2).tr z3).tr z4).tr z5).tr z6).tr z7)⟩
  · unfold fX11_partWord
    rw [g1]
    show (itr (fX11_partWord_B13 w) (4992 + 8) (42, m1)).bind _ = _
    rw [itr_step x1, show (42 : Int32) + -7 = 35 from by decide, itr_step x2, show (35 : Int32) + -7 = 28 from by decide, itr_step x3, show (28 : Int32) + -7 = 21 from by decide, itr_step x4, show (21 : Int32) + -7 = 14 from by decide, itr_step x5, show (14 : Int32) + -7 = 7 from by decide, itr_step x6, show (7 : Int32) + -7 = 0 from by decide, itr_step x7]
    rw [itr_end (b := a7) (by unfold fX11_partWord_B13; rw [if_pos (show (0 : Int32) + -7 < 0 by decide)])]
    rfl
  · have : pt t p = ((((((((t ++ sep t p) ++ wgr w 42) ++ wgr w 35) ++ wgr w 28) ++ wgr w 21) ++ wgr w 14) ++ wgr w 7) ++ wgr w 0) := by
      unfold pt
      rw [← hw]
      unfold wdc
      simp only [List.append_assoc]
    rw [this]
    exact y7
/-! a part out of a row -/
theorem sep_len (t p : List Int32) : (sep t p).length ≤ 1 := by unfold sep; split <;> simp
theorem pt_len (t p : List Int32) : (pt t p).length ≤ t.length + 1 + p.length := by
  have := sep_len t p
  unfold pt
  simp only [List.length_append]; omega
theorem m_part {m : mm} {t p : List Int32} {f o : Nat} (h : Tx m t) (hf : mk f = 20) (hne : decide (f ∉ tsc) = true) (hS : Sl (m f) o p) (hb : o + p.length ≤ ml f) (hl : t.length + 1 + p.length ≤ 100) : TP (fX11_part f (nI o) (nI p.length)) m (pt t p) := by
  have hsep : ∃ m1, (if nI p.length ≤ 0 then some m else oM (fX11_gap m) fun _ m4 => some m4) = some m1 ∧ Tx m1 (t ++ sep t p) ∧ Sm tsc m m1 := by
    by_cases e : p.length = 0
    · refine ⟨m, by rw [e, if_pos (show nI 0 ≤ 0 by decide)], ?_, Sm.rf⟩
      unfold sep
      rw [if_pos (Or.inr e), List.append_nil]; exact h
    · obtain ⟨m1, h1, h2, h3⟩ := m_gap p h (by omega) (by omega)
      exact ⟨m1, by rw [if_neg (nI_nle (by omega) (by omega)), h1]; rfl, h2, h3⟩
  obtain ⟨m1, g1, g2, g3⟩ := hsep
  have hs1 := sep_len t p
  have hloop : ∃ m2, itr (fX11_part_B11 f (nI o) (nI p.length)) FU ((0 : Int32), m1) = some m2 ∧ (Tx m2 (pt t p) ∧ Sm tsc m m2) := by
    refine itr_for (X := fun j a => a.1 = nI j ∧ Tx a.2 (t ++ sep t p ++ p.take j) ∧ Sm tsc m a.2) p.length (fun j a hj hX => ?_) (fun a hX => ?_) (FU_lt (by omega)) ⟨rfl, by rw [List.take_zero, List.append_nil]; exact g2, g3⟩
    · obtain ⟨i, m2⟩ := a
      obtain ⟨rfl, x2, x3⟩ := hX
      simp only at x2 x3
      obtain ⟨m3, y1, y2, y3⟩ := m_put (ge p j) x2 (by simp only [List.length_append, List.length_take]; omega)
      refine ⟨(nI j + 1, m3), ?_, ⟨nI_1 j, ?_, x3.tr y3⟩⟩
      · unfold fX11_part_B11
        show (if nI p.length ≤ nI j then _ else _) = _
        rw [if_neg (nI_ge hj (by omega))]
        show (mL f (nI o + nI j) m2).bind _ = _
        rw [nI_add, mL_ok hf (by omega), x3.at f hne, hS j hj, sb]
        show (oM (fX11_put (ge p j) m2) _) = _
        rw [y1]; rfl
      · rw [take_succ_ge hj, ← List.append_assoc]; exact y2
    · obtain ⟨i, m2⟩ := a
      obtain ⟨rfl, x2, x3⟩ := hX
      simp only at x2 x3
      refine ⟨m2, ?_, ?_, x3⟩
      · unfold fX11_part_B11
        show (if nI p.length ≤ nI p.length then _ else _) = _
        rw [if_pos (Int32.le_refl _)]
      · rw [List.take_length] at x2
        unfold pt
        rw [← List.append_assoc]; exact x2
  obtain ⟨m2, k1, k2, k3⟩ := hloop
  refine ⟨m2, ?_, k2, k3⟩
  unfold fX11_part
  rw [g1]
  show (itr (fX11_part_B11 f (nI o) (nI p.length)) FU ((0 : Int32), m1)).bind _ = _
  rw [k1]; rfl
/-! numbers below 100 -/
theorem dg_len (n : Nat) : (dg n).length ≤ 2 := by unfold dg; split <;> simp
theorem m_num {m : mm} {t : List Int32} {n : Nat} (hn : n < 100) (h : Tx m t) (hl : t.length + 2 ≤ 100) : TP (fX11_addNumber (nI n)) m (t ++ dg n) := by
  have hd : (48 : Int32) + nI n / 10 = nI (48 + n / 10) := by
    rw [show (10 : Int32) = nI 10 from rfl, nI_div (by omega) (by omega), show (48 : Int32) = nI 48 from rfl, nI_add]
  have hr : (48 : Int32) + (nI n - nI n / 10 * 10) = nI (48 + n % 10) := by
    rw [show (10 : Int32) = nI 10 from rfl, nI_rem (by omega) (by omega), show (48 : Int32) = nI 48 from rfl, nI_add]
  have h10 : oNz (10 : Int32) = some () := rfl
  unfold TP fX11_addNumber dg
  rw [show (9 : Int32) = nI 9 from rfl]
  by_cases e : n ≤ 9
  · rw [if_pos e, if_pos (nI_le e (by omega))]
    obtain ⟨m1, h1, h2, h3⟩ := m_put (nI (48 + n)) h (by omega)
    refine ⟨m1, ?_, h2, h3⟩
    rw [sb, h10, sb, hr, Nat.mod_eq_of_lt (by omega), h1]; rfl
  · rw [if_neg e, if_neg (nI_ge (by omega) (by omega))]
    obtain ⟨m1, h1, h2, h3⟩ := m_put (nI (48 + n / 10)) h (by omega)
    obtain ⟨m2, g1, g2, g3⟩ := m_put (nI (48 + n % 10)) h2 (by rw [List.length_append, List.length_singleton]; omega)
    refine ⟨m2, ?_, by rw [List.append_assoc] at g2; exact g2, h3.tr g3⟩
    rw [h10, sb, hd, h1, oMs, sb, sb, hr, g1]; rfl

/-! ===== the reference's copies and queues ===== -/
theorem m_copy {m : mm} {a o b p n : Nat} (ha : mk a = 20) (hb : mk b = 20) (h1 : o + n ≤ ml a) (h2 : p + n ≤ ml b) (hd : a ≠ b ∨ p + n ≤ o ∨ o + n ≤ p) : ∃ m', fX11_copy a (nI o) b (nI p) (nI n) m = some ((), m') ∧ (∀ k, k < n → m' b (p + k) = m a (o + k)) ∧ (∀ j, (j < p ∨ p + n ≤ j) → m' b j = m b j) ∧ Sm [b] m m' := by
  have hla := ml_lt a
  have hlb := ml_lt b
  have key : ∃ m', itr (fX11_copy_B3 a (nI o) b (nI p) (nI n)) FU ((0 : Int32), m) = some m' ∧ ((∀ k, k < n → m' b (p + k) = m a (o + k)) ∧ (∀ j, (j < p ∨ p + n ≤ j) → m' b j = m b j) ∧ Sm [b] m m') := by
    refine itr_for (X := fun j x => x.1 = nI j ∧ (∀ k, k < j → x.2 b (p + k) = m a (o + k)) ∧ (∀ q, (q < p ∨ p + j ≤ q) → x.2 b q = m b q) ∧ Sm [b] m x.2) n (fun j x hj hX => ?_) (fun x hX => ?_) (FU_lt (by omega)) ⟨rfl, fun k hk => absurd hk (Nat.not_lt_zero k), fun _ _ => rfl, Sm.rf⟩
    · obtain ⟨i, m1⟩ := x
      obtain ⟨rfl, x1, x2, x3⟩ := hX
      simp only at x1 x2 x3
      have hv : m1 a (o + j) = m a (o + j) := by
        by_cases e : a = b
        · subst e
          exact x2 _ (by omega)
        · rw [x3 a (by simp [e])]
      refine ⟨(nI (j + 1), up2 m1 b (p + j) (m a (o + j))), ?_, rfl, fun k hk => ?_, fun q hq => ?_, x3.tr (Sm.up (by simp))⟩
      · unfold fX11_copy_B3
        show (if nI n ≤ nI j then _ else _) = _
        rw [if_neg (nI_ge hj (by omega))]
        simp only []
        rw [nI_add, nI_add, mL_ok ha (by omega), hv, sb, mS_ok hb (by omega), sb, nI_1]
      · by_cases e : k = j
        · subst e
          exact up_s _ _ _ _
        · show up2 m1 b (p + j) (m a (o + j)) b (p + k) = _
          rw [up_n _ _ _ (by omega)]; exact x1 k (by omega)
      · show up2 m1 b (p + j) (m a (o + j)) b q = _
        rw [up_n _ _ _ (by omega)]; exact x2 q (by omega)
    · obtain ⟨i, m1⟩ := x
      obtain ⟨rfl, x1, x2, x3⟩ := hX
      refine ⟨m1, ?_, x1, x2, x3⟩
      unfold fX11_copy_B3
      show (if nI n ≤ nI n then _ else _) = _
      rw [if_pos (Int32.le_refl _)]
  obtain ⟨m', k1, k2⟩ := key
  exact ⟨m', by unfold fX11_copy; rw [k1]; rfl, k2⟩
/-- a text copied whole -/
theorem m_copyT {m : mm} {a o b p : Nat} {l : List Int32} (ha : mk a = 20) (hb : mk b = 20) (h1 : o + l.length ≤ ml a) (h2 : p + l.length ≤ ml b) (hd : a ≠ b ∨ p + l.length ≤ o ∨ o + l.length ≤ p) (hS : Sl (m a) o l) : ∃ m', fX11_copy a (nI o) b (nI p) (nI l.length) m = some ((), m') ∧ Sl (m' b) p l ∧ (∀ j, (j < p ∨ p + l.length ≤ j) → m' b j = m b j) ∧ Sm [b] m m' := by
  obtain ⟨m', g1, g2, g3, g4⟩ := m_copy ha hb h1 h2 hd
  exact ⟨m', g1, fun k hk => (g2 k hk).trans (hS k hk), g3, g4⟩
theorem qn_app {q : List (List Int32)} {t : List Int32} {j : Nat} (h : j < q.length) : qn (q ++ [t]) j = qn q j := by
  unfold qn
  rw [List.getD_eq_getElem?_getD, List.getD_eq_getElem?_getD, List.getElem?_append_left h]
theorem qn_last {q : List (List Int32)} {t : List Int32} : qn (q ++ [t]) q.length = t := by
  unfold qn
  rw [List.getD_eq_getElem?_getD, List.getElem?_append_right (Nat.le_refl _), Nat.sub_self]
  rfl
theorem qn_drop {q : List (List Int32)} {j : Nat} : qn (q.drop 1) j = qn q (j + 1) := by
  unfold qn
  rw [List.getD_eq_getElem?_getD, List.getD_eq_getElem?_getD, List.getElem?_drop, Nat.add_comm]
theorem qn_mem {q : List (List Int32)} {j : Nat} (h : j < q.length) : qn q j ∈ q := by
  unfold qn
  rw [List.getD_eq_getElem?_getD, List.getElem?_eq_getElem h]
  exact List.getElem_mem h
def WQ (q : List (List Int32)) : Prop := ∀ t ∈ q, 0 < t.length ∧ t.length ≤ 80
theorem WQ.n {q : List (List Int32)} (h : WQ q) {j : Nat} (hj : j < q.length) : 0 < (qn q j).length ∧ (qn q j).length ≤ 80 := h _ (qn_mem hj)
theorem WQ.app {q : List (List Int32)} {t : List Int32} (h : WQ q) (h1 : 0 < t.length) (h2 : t.length ≤ 80) : WQ (q ++ [t]) := fun s hs => by
  rcases List.mem_append.mp hs with a | a
  · exact h s a
  · rw [List.mem_singleton.mp a]; exact ⟨h1, h2⟩
theorem WQ.drop {q : List (List Int32)} (h : WQ q) : WQ (q.drop 1) := fun s hs => h s (List.mem_of_mem_drop hs)
theorem Tx.sm {m m' : mm} {t : List Int32} {ks : List Nat} (h : Tx m t) (hs : Sm ks m m') (h1 : decide (28 ∉ ks) = true) (h2 : decide (29 ∉ ks) = true) : Tx m' t := TxA.sm h (hs.at 28 h1) (hs.at 29 h2)

/-! the queue 30: one more, the first one taken -/
theorem m_push30 {m : mm} {q : List (List Int32)} {t : List Int32} (hR : RQ m 30 31 32 q) (hT : Tx m t) (ht : t.length ≤ 80) (hq : q.length < 7) (hw : WQ q) : ∃ m', (oM (fX11_copy 28 (0 : Int32) 30 ((100 : Int32) * (m 32 0)) (m 29 0) m) fun _ m2 => (mS 31 (m2 32 0) (m2 29 0) m2).bind fun m3 => mPI 32 ((m3 32 0) + (1 : Int32)) m3) = some m' ∧ RQ m' 30 31 32 (q ++ [t]) ∧ Sm [30, 31, 32] m m' := by
  obtain ⟨m1, a1, a2, a3, a4⟩ := m_copyT (m := m) (a := 28) (o := 0) (b := 30) (p := 100 * q.length) (l := t) rfl rfl (show 0 + t.length ≤ 100 by omega) (show 100 * q.length + t.length ≤ 700 by omega) (Or.inl (by decide)) (by have := hT.2; rw [Nat.mul_zero] at this; exact this)
  refine ⟨up2 (up2 m1 31 q.length (nI t.length)) 32 0 (nI q.length + 1), ?_, ⟨?_, fun j hj => ?_⟩, ((a4.mono (by decide)).tr (Sm.up (by decide))).tr (Sm.up (by decide))⟩
  · rw [hR.1, hT.1, show (100 : Int32) = nI 100 from rfl, nI_mul, show (0 : Int32) = nI 0 from rfl, a1, oMs, a4.at 32 (by decide), a4.at 29 (by decide), hR.1, hT.1, mS_ok rfl (show q.length < 7 by omega), sb, up_f _ _ _ (show (32 : Nat) ≠ 31 by decide), a4.at 32 (by decide), hR.1]
    rfl
  · rw [up_s, List.length_append]; exact nI_1 _
  · rw [List.length_append, List.length_singleton] at hj
    refine TxA.sm (m := up2 m1 31 q.length (nI t.length)) ?_ (up_f _ _ _ (by decide)) (up_f _ _ _ (by decide))
    by_cases e : j = q.length
    · subst e
      rw [qn_last]
      refine ⟨up_s _ _ _ _, ?_⟩
      rw [up_f _ _ _ (by decide)]
      exact a2
    · have hjl : j < q.length := by omega
      rw [qn_app hjl]
      obtain ⟨b1, b2⟩ := hR.2 j hjl
      have hn := hw.n hjl
      refine ⟨?_, ?_⟩
      · rw [up_n _ _ _ e, a4.at 31 (by decide)]; exact b1
      · rw [up_f _ _ _ (by decide)]
        exact Sl_eq b2 (fun k hk => by show m1 30 _ = _; rw [a3 _ (by omega)])
theorem m_pop30 {m : mm} {q : List (List Int32)} (hR : RQ m 30 31 32 q) (hw : WQ q) (hq : 0 < q.length) (hl : q.length ≤ 7) : ∃ m', fX11_takeNews m = some ((), m') ∧ RQ m' 30 31 32 (q.drop 1) ∧ Sm [30, 31, 32] m m' := by
  have s0 : Sm [30, 31, 32] m (up2 m 32 0 (nI (q.length - 1))) := Sm.up (by decide)
  have key : ∃ m', itr (fX11_takeNews_B12) FU ((0 : Int32), up2 m 32 0 (nI (q.length - 1))) = some m' ∧ ((m' 32 0 = nI (q.length - 1)) ∧ (∀ i, i < q.length - 1 → TxA m' 30 31 100 i (qn q (i + 1))) ∧ Sm [30, 31, 32] m m') := by
    refine itr_for (X := fun j x => x.1 = nI j ∧ x.2 32 0 = nI (q.length - 1) ∧ (∀ i, i < j → TxA x.2 30 31 100 i (qn q (i + 1))) ∧ (∀ i, j ≤ i → i < q.length → TxA x.2 30 31 100 i (qn q i)) ∧ Sm [30, 31, 32] m x.2) (q.length - 1) (fun j x hj hX => ?_) (fun x hX => ?_) (FU_lt (by omega)) ⟨rfl, (show up2 m 32 0 (nI (q.length - 1)) 32 0 = nI (q.length - 1) from up_s _ _ _ _), fun i hi => absurd hi (Nat.not_lt_zero i), fun i _ hi => (hR.2 i hi).sm (up_f m 0 (nI (q.length - 1)) (show (30 : Nat) ≠ 32 by decide)) (up_f m 0 (nI (q.length - 1)) (show (31 : Nat) ≠ 32 by decide)), s0⟩
    · obtain ⟨i0, m1⟩ := x
      obtain ⟨rfl, x1, x2, x3, x4⟩ := hX
      simp only at x1 x2 x3 x4
      have hn := hw.n (j := j + 1) (by omega)
      obtain ⟨b1, b2⟩ := x3 (j + 1) (by omega) (by omega)
      -- the length, then the text
      obtain ⟨m2, a1, a2, a3, a4⟩ := m_copyT (m := up2 m1 31 j (nI (qn q (j + 1)).length)) (a := 30) (o := 100 * (j + 1)) (b := 30) (p := 100 * j) (l := qn q (j + 1)) rfl rfl (show 100 * (j + 1) + _ ≤ 700 by omega) (show 100 * j + _ ≤ 700 by omega) (Or.inr (Or.inl (by omega))) (by rw [up_f _ _ _ (by decide)]; exact b2)
      have s2 : Sm [30, 31, 32] m1 m2 := (Sm.up (by decide)).tr (a4.mono (by decide))
      refine ⟨(nI (j + 1), m2), ?_, rfl, ?_, fun i hi => ?_, fun i hi hi2 => ?_, x4.tr s2⟩
      · unfold fX11_takeNews_B12
        show (if m1 32 0 ≤ nI j then _ else _) = _
        rw [x1, if_neg (nI_ge hj (by omega))]
        simp only []
        rw [nI_1, mL_ok rfl (show j + 1 < 7 by omega), b1, sb, mS_ok rfl (show j < 7 by omega), sb, mL_ok rfl (show j < 7 by omega), up_s, sb, show (100 : Int32) = nI 100 from rfl, nI_mul, nI_mul, a1, oMs]
      · show m2 32 0 = _
        rw [a4.at 32 (by decide), up_f _ _ _ (by decide)]; exact x1
      · by_cases e : i = j
        · subst e
          refine ⟨?_, a2⟩
          show m2 31 i = _
          rw [a4.at 31 (by decide)]; exact up_s _ _ _ _
        · have hi3 : i < j := by omega
          obtain ⟨c1, c2⟩ := x2 i hi3
          have hn2 := hw.n (j := i + 1) (by omega)
          refine ⟨?_, Sl_eq c2 (fun k hk => ?_)⟩
          · show m2 31 i = _
            rw [a4.at 31 (by decide), up_n _ _ _ (by omega)]; exact c1
          · show m2 30 _ = _
            rw [a3 _ (by omega), up_f _ _ _ (by decide)]
      · obtain ⟨c1, c2⟩ := x3 i (by omega) hi2
        refine ⟨?_, Sl_eq c2 (fun k hk => ?_)⟩
        · show m2 31 i = _
          rw [a4.at 31 (by decide), up_n _ _ _ (by omega)]; exact c1
        · show m2 30 _ = _
          rw [a3 _ (by omega), up_f _ _ _ (by decide)]
    · obtain ⟨i0, m1⟩ := x
      obtain ⟨rfl, x1, x2, x3, x4⟩ := hX
      simp only at x1 x2 x3 x4
      refine ⟨m1, ?_, x1, x2, x4⟩
      unfold fX11_takeNews_B12
      show (if m1 32 0 ≤ nI (q.length - 1) then _ else _) = _
      rw [x1, if_pos (Int32.le_refl _)]
  obtain ⟨m', k1, k2, k3, k4⟩ := key
  refine ⟨m', ?_, ⟨by rw [List.length_drop]; exact k2, fun j hj => ?_⟩, k4⟩
  · unfold fX11_takeNews
    rw [hR.1, show (1 : Int32) = nI 1 from rfl, nI_sub (by omega), mPIs, sb, k1]; rfl
  · rw [List.length_drop] at hj
    rw [qn_drop]; exact k3 j hj

/-! the queue 35: one more, the first one taken -/
theorem m_push35 {m : mm} {q : List (List Int32)} {t : List Int32} (hR : RQ m 35 36 37 q) (hT : Tx m t) (ht : t.length ≤ 80) (hq : q.length < 24) (hw : WQ q) : ∃ m', (oM (fX11_copy 28 (0 : Int32) 35 ((100 : Int32) * (m 37 0)) (m 29 0) m) fun _ m2 => (mS 36 (m2 37 0) (m2 29 0) m2).bind fun m3 => mPI 37 ((m3 37 0) + (1 : Int32)) m3) = some m' ∧ RQ m' 35 36 37 (q ++ [t]) ∧ Sm [35, 36, 37] m m' := by
  obtain ⟨m1, a1, a2, a3, a4⟩ := m_copyT (m := m) (a := 28) (o := 0) (b := 35) (p := 100 * q.length) (l := t) rfl rfl (show 0 + t.length ≤ 100 by omega) (show 100 * q.length + t.length ≤ 2400 by omega) (Or.inl (by decide)) (by have := hT.2; rw [Nat.mul_zero] at this; exact this)
  refine ⟨up2 (up2 m1 36 q.length (nI t.length)) 37 0 (nI q.length + 1), ?_, ⟨?_, fun j hj => ?_⟩, ((a4.mono (by decide)).tr (Sm.up (by decide))).tr (Sm.up (by decide))⟩
  · rw [hR.1, hT.1, show (100 : Int32) = nI 100 from rfl, nI_mul, show (0 : Int32) = nI 0 from rfl, a1, oMs, a4.at 37 (by decide), a4.at 29 (by decide), hR.1, hT.1, mS_ok rfl (show q.length < 24 by omega), sb, up_f _ _ _ (show (37 : Nat) ≠ 36 by decide), a4.at 37 (by decide), hR.1]
    rfl
  · rw [up_s, List.length_append]; exact nI_1 _
  · rw [List.length_append, List.length_singleton] at hj
    refine TxA.sm (m := up2 m1 36 q.length (nI t.length)) ?_ (up_f _ _ _ (by decide)) (up_f _ _ _ (by decide))
    by_cases e : j = q.length
    · subst e
      rw [qn_last]
      refine ⟨up_s _ _ _ _, ?_⟩
      rw [up_f _ _ _ (by decide)]
      exact a2
    · have hjl : j < q.length := by omega
      rw [qn_app hjl]
      obtain ⟨b1, b2⟩ := hR.2 j hjl
      have hn := hw.n hjl
      refine ⟨?_, ?_⟩
      · rw [up_n _ _ _ e, a4.at 36 (by decide)]; exact b1
      · rw [up_f _ _ _ (by decide)]
        exact Sl_eq b2 (fun k hk => by show m1 35 _ = _; rw [a3 _ (by omega)])
theorem m_pop35 {m : mm} {q : List (List Int32)} (hR : RQ m 35 36 37 q) (hw : WQ q) (hq : 0 < q.length) (hl : q.length ≤ 24) : ∃ m', fX11_takeAlert m = some ((), m') ∧ RQ m' 35 36 37 (q.drop 1) ∧ Sm [35, 36, 37] m m' := by
  have s0 : Sm [35, 36, 37] m (up2 m 37 0 (nI (q.length - 1))) := Sm.up (by decide)
  have key : ∃ m', itr (fX11_takeAlert_B12) FU ((0 : Int32), up2 m 37 0 (nI (q.length - 1))) = some m' ∧ ((m' 37 0 = nI (q.length - 1)) ∧ (∀ i, i < q.length - 1 → TxA m' 35 36 100 i (qn q (i + 1))) ∧ Sm [35, 36, 37] m m') := by
    refine itr_for (X := fun j x => x.1 = nI j ∧ x.2 37 0 = nI (q.length - 1) ∧ (∀ i, i < j → TxA x.2 35 36 100 i (qn q (i + 1))) ∧ (∀ i, j ≤ i → i < q.length → TxA x.2 35 36 100 i (qn q i)) ∧ Sm [35, 36, 37] m x.2) (q.length - 1) (fun j x hj hX => ?_) (fun x hX => ?_) (FU_lt (by omega)) ⟨rfl, (show up2 m 37 0 (nI (q.length - 1)) 37 0 = nI (q.length - 1) from up_s _ _ _ _), fun i hi => absurd hi (Nat.not_lt_zero i), fun i _ hi => (hR.2 i hi).sm (up_f m 0 (nI (q.length - 1)) (show (35 : Nat) ≠ 37 by decide)) (up_f m 0 (nI (q.length - 1)) (show (36 : Nat) ≠ 37 by decide)), s0⟩
    · obtain ⟨i0, m1⟩ := x
      obtain ⟨rfl, x1, x2, x3, x4⟩ := hX
      simp only at x1 x2 x3 x4
      have hn := hw.n (j := j + 1) (by omega)
      obtain ⟨b1, b2⟩ := x3 (j + 1) (by omega) (by omega)
      -- the length, then the text
      obtain ⟨m2, a1, a2, a3, a4⟩ := m_copyT (m := up2 m1 36 j (nI (qn q (j + 1)).length)) (a := 35) (o := 100 * (j + 1)) (b := 35) (p := 100 * j) (l := qn q (j + 1)) rfl rfl (show 100 * (j + 1) + _ ≤ 2400 by omega) (show 100 * j + _ ≤ 2400 by omega) (Or.inr (Or.inl (by omega))) (by rw [up_f _ _ _ (by decide)]; exact b2)
      have s2 : Sm [35, 36, 37] m1 m2 := (Sm.up (by decide)).tr (a4.mono (by decide))
      refine ⟨(nI (j + 1), m2), ?_, rfl, ?_, fun i hi => ?_, fun i hi hi2 => ?_, x4.tr s2⟩
      · unfold fX11_takeAlert_B12
        show (if m1 37 0 ≤ nI j then _ else _) = _
        rw [x1, if_neg (nI_ge hj (by omega))]
        simp only []
        rw [nI_1, mL_ok rfl (show j + 1 < 24 by omega), b1, sb, mS_ok rfl (show j < 24 by omega), sb, mL_ok rfl (show j < 24 by omega), up_s, sb, show (100 : Int32) = nI 100 from rfl, nI_mul, nI_mul, a1, oMs]
      · show m2 37 0 = _
        rw [a4.at 37 (by decide), up_f _ _ _ (by decide)]; exact x1
      · by_cases e : i = j
        · subst e
          refine ⟨?_, a2⟩
          show m2 36 i = _
          rw [a4.at 36 (by decide)]; exact up_s _ _ _ _
        · have hi3 : i < j := by omega
          obtain ⟨c1, c2⟩ := x2 i hi3
          have hn2 := hw.n (j := i + 1) (by omega)
          refine ⟨?_, Sl_eq c2 (fun k hk => ?_)⟩
          · show m2 36 i = _
            rw [a4.at 36 (by decide), up_n _ _ _ (by omega)]; exact c1
          · show m2 35 _ = _
            rw [a3 _ (by omega), up_f _ _ _ (by decide)]
      · obtain ⟨c1, c2⟩ := x3 i (by omega) hi2
        refine ⟨?_, Sl_eq c2 (fun k hk => ?_)⟩
        · show m2 36 i = _
          rw [a4.at 36 (by decide), up_n _ _ _ (by omega)]; exact c1
        · show m2 35 _ = _
          rw [a3 _ (by omega), up_f _ _ _ (by decide)]
    · obtain ⟨i0, m1⟩ := x
      obtain ⟨rfl, x1, x2, x3, x4⟩ := hX
      simp only at x1 x2 x3 x4
      refine ⟨m1, ?_, x1, x2, x4⟩
      unfold fX11_takeAlert_B12
      show (if m1 37 0 ≤ nI (q.length - 1) then _ else _) = _
      rw [x1, if_pos (Int32.le_refl _)]
  obtain ⟨m', k1, k2, k3, k4⟩ := key
  refine ⟨m', ?_, ⟨by rw [List.length_drop]; exact k2, fun j hj => ?_⟩, k4⟩
  · unfold fX11_takeAlert
    rw [hR.1, show (1 : Int32) = nI 1 from rfl, nI_sub (by omega), mPIs, sb, k1]; rfl
  · rw [List.length_drop] at hj
    rw [qn_drop]; exact k3 j hj

/-! ===== the reference's calls: words, adding ===== -/
section MA
variable {S : SS} {m : mm}
theorem m_wordsLen (hM : RM S m) (h : WT S) (hL : WL S) (x : Int32) : MC S m (fX11_wordsLength x m) (fun S => cWordsLen S x) := by
  unfold fX11_wordsLength
  rw [m_elt hM h.pw, sb]
  by_cases e : elt S x = true
  · obtain ⟨i, rfl, hi⟩ := elt_th h.pw e
    have i40 := hi.l40 h
    rw [e, if_neg (by decide), m_shows hM h.pw hi.lt, sb]
    by_cases q : shn S i = true
    · have hM' : RM (z0 S) (up2 (up2 m 48 0 0) 29 0 0) := hM.z.tsc (Sm.up (by decide))
      obtain ⟨m2, a2, b2, s2⟩ := m_words hM' h.z hL.z (show th (z0 S) i from hi) (Tx_0 _) (by decide)
      refine MC.gen0 (a := nI (wd S i []).length) (X := S) (S' := z0 S) (by rw [q, if_neg (by decide)]) ?_ ?_ rfl ?_
      · show cWordsLen S _ = _
        unfold cWordsLen
        rw [if_neg (ne_false e), nth_nI (by omega), if_neg (ne_false q)]
      · show (cWordsLen (z0 S) _).2.2 = _
        unfold cWordsLen
        rw [if_neg (ne_false (b := elt (z0 S) (nI i)) e), nth_nI (by omega), if_neg (by rw [shn_z]; exact ne_false q)]; rfl
      · rw [mPIs, sb, a2, oMs, b2.1, wd_z]
        exact ⟨m2, rfl, hM'.tsc s2⟩
    · rw [Bool.not_eq_true] at q
      refine MC.genT (t := 2) (X := S) hM (by rw [q, if_pos bF]) (by decide) ?_ ?_
      · show cWordsLen S _ = _
        unfold cWordsLen
        rw [if_neg (ne_false e), nth_nI (by omega), if_pos q]
      · show (cWordsLen (z0 S) _).2.2 = _
        unfold cWordsLen
        rw [if_neg (ne_false (b := elt (z0 S) (nI i)) e), nth_nI (by omega), if_pos (by rw [shn_z]; exact q)]; rfl
  · rw [Bool.not_eq_true] at e
    refine MC.genT (t := 1) (X := S) hM (by rw [e, if_pos bF]) (by decide) ?_ ?_
    · show cWordsLen S _ = _
      unfold cWordsLen
      rw [if_pos e]
    · show (cWordsLen (z0 S) _).2.2 = _
      unfold cWordsLen
      rw [if_pos (show elt (z0 S) x = false from e)]; rfl
theorem m_wordsAt (hM : RM S m) (h : WT S) (hL : WL S) (x y : Int32) : MC S m (fX11_wordsAt x y m) (fun S => cWordsAt S x y) := by
  unfold fX11_wordsAt
  rw [m_elt hM h.pw, sb]
  by_cases e : elt S x = true
  · obtain ⟨i, rfl, hi⟩ := elt_th h.pw e
    have i40 := hi.l40 h
    rw [e, if_neg (by decide), m_shows hM h.pw hi.lt, sb]
    by_cases q : shn S i = true
    · have hM' : RM (z0 S) (up2 (up2 m 48 0 0) 29 0 0) := hM.z.tsc (Sm.up (by decide))
      obtain ⟨m2, a2, b2, s2⟩ := m_words hM' h.z hL.z (show th (z0 S) i from hi) (Tx_0 _) (by decide)
      have hw := wd_len0 S hL i []
      simp only [List.length_nil] at hw
      have hM2 : RM (z0 S) m2 := hM'.tsc s2
      rw [wd_z] at b2
      by_cases r : inb y (wd S i []).length = true
      · obtain ⟨k, k1, rfl⟩ := inb_of r (by omega)
        have er : (cWordsAt S (nI i) (nI k)) = rt (ge (wd S i []) k) S := by
          unfold cWordsAt
          rw [if_neg (ne_false e), nth_nI (by omega), if_neg (ne_false q), if_pos r, nth_nI (by omega)]
        refine MC.gen0 (a := ge (wd S i []) k) (X := S) (S' := z0 S) (by rw [q, if_neg (by decide)]) er ?_ rfl ?_
        · show (cWordsAt (z0 S) _ _).2.2 = _
          unfold cWordsAt
          rw [if_neg (ne_false (b := elt (z0 S) (nI i)) e), nth_nI (by omega), if_neg (by rw [shn_z]; exact ne_false q), wd_z, if_pos r]; rfl
        · rw [mPIs, sb, a2, oMs, b2.1, m_in, sb, ← inb_le0 _ (show (wd S i []).length < 2 ^ 31 by omega), r, if_neg (by decide), sb, mPIs, sb, up_s, if_pos rfl]
          have hg : up2 m2 48 0 0 28 k = ge (wd S i []) k := by
            rw [up_f _ _ _ (by decide)]
            have := b2.2 k k1
            rw [Nat.mul_zero, Nat.zero_add] at this
            exact this
          rw [mL_ok rfl (show k < 100 by omega), sb, hg]
          exact ⟨_, rfl, by have := hM2.wI0 (k := 48) (i := 0) (v := 0) rfl; rw [show wSI (z0 S) 48 0 0 = z0 S from wSI_two S 48 0 0 0] at this; exact this⟩
      · rw [Bool.not_eq_true] at r
        have er : (cWordsAt S (nI i) y) = tw 2 S := by
          unfold cWordsAt
          rw [if_neg (ne_false e), nth_nI (by omega), if_neg (ne_false q), if_neg (by rw [r]; decide)]
        have ez : (cWordsAt (z0 S) (nI i) y).2.2 = z0 S := by
          unfold cWordsAt
          rw [if_neg (ne_false (b := elt (z0 S) (nI i)) e), nth_nI (by omega), if_neg (by rw [shn_z]; exact ne_false q), wd_z, if_neg (by rw [r]; decide)]; rfl
        refine ⟨up2 m2 48 0 2, ?_, ?_⟩
        · show _ = some ((cWordsAt S (nI i) y).2.1, up2 m2 48 0 2)
          rw [er, q, if_neg (by decide), sb, mPIs, sb, up_s, if_pos (by decide), mPIs, sb, a2, oMs, b2.1, m_in, sb, ← inb_le0 _ (show (wd S i []).length < 2 ^ 31 by omega), r, if_pos bF, sb, mPIs, sb, up_s, if_neg (by decide)]
          rfl
        · show RM (wSI (cWordsAt (z0 S) (nI i) y).2.2 48 0 (cWordsAt S (nI i) y).1) _
          rw [ez, er]
          exact hM2.wI0 rfl
    · rw [Bool.not_eq_true] at q
      refine MC.genT (t := 1) (X := S) hM (by rw [q, if_pos bF]) (by decide) ?_ ?_
      · show cWordsAt S _ y = _
        unfold cWordsAt
        rw [if_neg (ne_false e), nth_nI (by omega), if_pos q]
      · show (cWordsAt (z0 S) _ y).2.2 = _
        unfold cWordsAt
        rw [if_neg (ne_false (b := elt (z0 S) (nI i)) e), nth_nI (by omega), if_pos (by rw [shn_z]; exact q)]; rfl
  · rw [Bool.not_eq_true] at e
    refine MC.genT (t := 2) (X := S) hM (by rw [e, if_pos bF]) (by decide) ?_ ?_
    · show cWordsAt S _ y = _
      unfold cWordsAt
      rw [if_pos e]
    · show (cWordsAt (z0 S) _ y).2.2 = _
      unfold cWordsAt
      rw [if_pos (show elt (z0 S) x = false from e)]; rfl
/-! adding -/
theorem m_canH (p k : Int32) : fX11_canHave p k = some (bI (cnH p k)) := by
  unfold fX11_canHave cnH
  have e6 : ∀ b : Prop, [Decidable b] → (if b then some (0 : Int32) else some 1) = some (bI (decide (¬ b))) := by
    intro b _
    by_cases z : b
    · rw [if_pos z, decide_eq_false (fun w => w z)]; rfl
    · rw [if_neg z, decide_eq_true z]; rfl
  by_cases p0 : p = 0
  · rw [if_pos p0, oRr, if_pos (Or.inl p0), e6]
  · rw [if_neg p0]
    by_cases p7 : p = 7
    · rw [if_pos p7, oRr, if_pos (Or.inr p7), e6]
    · rw [if_neg p7, if_neg (show ¬ (p = 0 ∨ p = 7) from fun z => z.elim p0 p7)]
      by_cases p5 : p = 5
      · rw [if_pos p5, if_pos p5]
        by_cases k6 : k = 6
        · rw [if_pos k6, oRl, decide_eq_true k6]; rfl
        · rw [if_neg k6, oRl, decide_eq_false k6]; rfl
      · rw [if_neg p5, if_neg p5]
        by_cases p6 : p = 6
        · rw [if_pos p6, if_pos p6, m_in, sb]
          by_cases z : (1 : Int32) ≤ k ∧ k ≤ 4
          · rw [decide_eq_true z, if_neg (by decide), oRl]; rfl
          · rw [decide_eq_false z, if_pos bF, oRl]; rfl
        · rw [if_neg p6, if_neg p6, oRl]; rfl
theorem gn_ins (l : List Nat) (pl x k : Nat) (hp : pl ≤ l.length) : gn (insA l pl x) k = if k < pl then gn l k else if k = pl then x else gn l (k - 1) := by
  unfold insA gn
  rw [List.getD_eq_getElem?_getD, List.getD_eq_getElem?_getD, List.getD_eq_getElem?_getD]
  have hl : (l.take pl).length = pl := by rw [List.length_take]; omega
  by_cases h1 : k < pl
  · rw [if_pos h1, List.getElem?_append_left (by omega), List.getElem?_take, if_pos h1]
  · rw [if_neg h1, List.getElem?_append_right (by omega), hl]
    by_cases h2 : k = pl
    · subst h2
      rw [if_pos rfl, Nat.sub_self]; rfl
    · rw [if_neg h2, show k - pl = (k - pl - 1) + 1 by omega, List.getElem?_cons_succ, List.getElem?_drop, show pl + (k - pl - 1) = k - 1 by omega]
theorem ins_len (l : List Nat) (pl x : Nat) (hp : pl ≤ l.length) : (insA l pl x).length = l.length + 1 := by
  unfold insA
  rw [List.length_append, List.length_cons, List.length_take, List.length_drop]
  omega
theorem m_shiftR (p pl len : Nat) (c : Int32) (h1 : pl ≤ len) (h2 : len < 10) (hp : p < 40) (m0 : mm) : ∃ m', itr (fX11_add_B190 (nI p) (nI pl) c) FU (nI len, m0) = some m' ∧ Sm [4] m0 m' ∧ (∀ i, (i < 10 * p + pl + 1 ∨ 10 * p + len < i) → m' 4 i = m0 4 i) ∧ ∀ k, pl < k → k ≤ len → m' 4 (10 * p + k) = m0 4 (10 * p + (k - 1)) := by
  refine itr_run (R := fun m' => Sm [4] m0 m' ∧ (∀ i, (i < 10 * p + pl + 1 ∨ 10 * p + len < i) → m' 4 i = m0 4 i) ∧ ∀ k, pl < k → k ≤ len → m' 4 (10 * p + k) = m0 4 (10 * p + (k - 1))) (fun n a => ∃ m', a = (nI (pl + n), m') ∧ pl + n ≤ len ∧ Sm [4] m0 m' ∧ (∀ i, (i < 10 * p + pl + n + 1 ∨ 10 * p + len < i) → m' 4 i = m0 4 i) ∧ ∀ k, pl + n < k → k ≤ len → m' 4 (10 * p + k) = m0 4 (10 * p + (k - 1))) (fun n a hX => ?_) FU (len - pl) (nI len, m0) (FU_lt (by omega)) ⟨m0, by rw [show pl + (len - pl) = len by omega], by omega, Sm.rf, fun _ _ => rfl, fun k k1 k2 => absurd k2 (by omega)⟩
  obtain ⟨m', rfl, x1, x2, x3, x4⟩ := hX
  cases n with
  | zero =>
    refine Or.inr ⟨m', ?_, x2, x3, x4⟩
    unfold fX11_add_B190
    rw [if_pos (show nI (pl + 0) ≤ nI pl from Int32.le_refl _)]
  | succ n =>
    refine Or.inl ⟨_, n, ?_, by omega, _, rfl, by omega, x2.tr (Sm.up (k := 4) (i := 10 * p + (pl + (n + 1))) (x := m' 4 (10 * p + (pl + n))) (by decide)), ?_, ?_⟩
    · unfold fX11_add_B190
      rw [if_neg (show ¬ nI (pl + (n + 1)) ≤ nI pl from nI_ge (by omega) (by omega))]
      show (mL 4 (nI 10 * nI p + nI (pl + (n + 1)) - nI 1) m').bind _ = _
      rw [nI_mul, nI_add, nI_sub (by omega), show 10 * p + (pl + (n + 1)) - 1 = 10 * p + (pl + n) by omega, mL_ok rfl (show 10 * p + (pl + n) < 400 by omega), sb]
      show (mS 4 (nI 10 * nI p + nI (pl + (n + 1))) _ m').bind _ = _
      rw [nI_mul, nI_add, mS_ok rfl (show 10 * p + (pl + (n + 1)) < 400 by omega), sb]
      show some (Sum.inl (nI (pl + n + 1) + -1, _)) = _
      rw [nI_dec]
    · intro i hi
      rw [up_n _ _ _ (by omega)]
      exact x3 i (by omega)
    · intro k k1 k2
      by_cases z : k = pl + n + 1
      · subst z
        rw [show pl + n + 1 = pl + (n + 1) by omega, up_s]
        exact x3 _ (by omega)
      · rw [up_n _ _ _ (by omega)]
        exact x4 k (by omega) k2
end MA

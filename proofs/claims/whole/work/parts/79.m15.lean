/-! ===== the reference's typing and chords ===== -/
def WB (S : SS) : Prop := ∀ k, k ∈ [1, 10, 12, 22, 23, 24] → ∀ i, sI S k i = 0 ∨ sI S k i = 1
theorem sd_sayC (S : SS) (c : Int32) : Sd [38, 44] [33] [] S (sayC S c) := sd_cAns S _
theorem sd_typ (S : SS) (c : Int32) : Sd [38, 44] [8, 33] [] S (typ S c) := Sd.if ((sd_cAns S _).mono (by decide)) (Sd.tr (Sd.L (by decide)) ((sd_sayC _ _).mono (by decide)))
theorem ptsN_inj : ∀ i, i < 26 → ∀ j, j < 26 → ptsN i = ptsN j → i = j := by decide +kernel
section MY
variable {S : SS} {m : mm}
theorem m_sayC (hM : RM S m) (h33 : (sL S 33 0).length ≤ 80) (c : Int32) : TS (fX11_sayCode c) m (sayC S c) := by
  unfold TS fX11_sayCode sayC
  rw [mPIs, sb]
  by_cases e : c = 32
  · rw [if_pos e, if_pos e, show fX11_word 0 0 115 112 97 99 101 = some 31106560485 from by decide +kernel, sb]
    obtain ⟨m1, a1, b1, s1⟩ := m_word (w := 31106560485) (p := [115, 112, 97, 99, 101]) (by decide +kernel) (by decide +kernel) (Tx_0 m) (by decide)
    obtain ⟨m2, a2, b2⟩ := m_cAns ((hM.sm (Sm.up (k := 29) (i := 0) (x := 0) (by decide))).tsc s1) h33 b1 (by decide)
    exact ⟨m2, by rw [a1, oMs, sb, a2, oMs], b2⟩
  · rw [if_neg e, if_neg e]
    obtain ⟨m1, a1, b1, s1⟩ := m_put c (Tx_0 m) (by decide)
    obtain ⟨m2, a2, b2⟩ := m_cAns ((hM.sm (Sm.up (k := 29) (i := 0) (x := 0) (by decide))).tsc s1) h33 b1 (by simp)
    exact ⟨m2, by rw [a1, oMs, sb, a2, oMs], b2⟩
theorem m_typ (hM : RM S m) (h : WT S) (hL : WL S) (h33 : (sL S 33 0).length ≤ 80) (hC : WC S) (c : Int32) : ∃ m', fX11_type c m = some (bI (!full S), m') ∧ RM (typ S c) m' := by
  have c1 := hC.1
  have c40 := hC.2.l40 h
  have l12 := (hL (cur S)).2.1
  have hct := hM.cont c40
  have h9 : mL 9 (nI (cur S)) m = some (nI (sL S 8 (cur S)).length) := by rw [mL_ok rfl (show cur S < 40 from c40), hct.1]
  unfold fX11_type typ full
  rw [hM.p 20 rfl, c1, h9, sb]
  have e12 : (nI (sL S 8 (cur S)).length = (12 : Int32)) ↔ (sL S 8 (cur S)).length = 12 := nI_eq (b := 12) (by omega) (by omega)
  by_cases e : (sL S 8 (cur S)).length = 12
  · rw [if_pos (e12.mpr e), if_pos e, decide_eq_true e, show fX11_word 0 0 0 102 117 108 108 = some 215840364 from by decide +kernel, sb]
    obtain ⟨m1, a1, b1⟩ := m_say (w := 215840364) (p := [102, 117, 108, 108]) hM h33 (by decide +kernel) (by decide +kernel) (by decide)
    exact ⟨m1, by rw [a1, oMs]; rfl, b1⟩
  · rw [if_neg (fun z => e (e12.mp z)), if_neg e, decide_eq_false e, sb, show (12 : Int32) = nI 12 from rfl, nI_mul, nI_add, mS_ok rfl (show 12 * cur S + (sL S 8 (cur S)).length < 480 by omega), sb, up_f (k := 8) (k' := 20) _ _ _ (by decide), hM.p 20 rfl, c1, mL_ok rfl (show cur S < 40 from c40), up_f (k := 8) (k' := 9) _ _ _ (by decide), hct.1, sb, nI_1, mS_ok rfl (show cur S < 40 from c40), sb]
    have hM1 : RM (wSL S 8 (cur S) (sL S 8 (cur S) ++ [c])) (up2 (up2 m 8 (12 * cur S + (sL S 8 (cur S)).length) c) 9 (cur S) (nI ((sL S 8 (cur S)).length + 1))) := by
      refine hM.w8 ((Sm.up (by decide)).tr (Sm.up (by decide))) ⟨?_, ?_⟩ (fun j hj hne => ?_)
      · rw [up_s, List.length_append]; rfl
      · rw [up_f _ _ _ (by decide)]
        exact Sl_push hct.2 (up_s _ _ _ _) (fun k hk => up_n _ _ _ (by omega))
      · obtain ⟨d1, d2⟩ := hM.cont hj
        have := (hL j).2.1
        refine ⟨?_, ?_⟩
        · rw [up_n _ _ _ hne, up_f _ _ _ (by decide)]; exact d1
        · rw [up_f _ _ _ (by decide)]
          exact Sl_eq d2 (fun k hk => up_n _ _ _ (by omega))
    obtain ⟨m2, a2, b2⟩ := m_sayC hM1 (show (sL (wSL S 8 (cur S) (sL S 8 (cur S) ++ [c])) 33 0).length ≤ 80 by rw [sL_L, if_neg (by simp)]; exact h33) c
    exact ⟨m2, by rw [a2, oMs]; rfl, b2⟩
theorem m_lto (hM : RM S m) (p : Int32) : fX11_letterOf p m = some (rI (lto p)) := by
  have key : ∃ b, itr (fX11_letterOf_B4 p m) FU ((-1 : Int32), (0 : Int32)) = some b ∧ b = rI (lto p) := by
    refine itr_for (X := fun j a => a = (rI ((List.range j).find? (fun j => decide (ptsN j = p))), nI j)) 26 (fun j a hj hX => ?_) (fun a hX => ?_) (FU_lt (by decide)) rfl
    · subst hX
      refine ⟨_, ?_, rfl⟩
      unfold fX11_letterOf_B4
      rw [if_neg (show ¬ (26 : Int32) ≤ nI j from nI_ge (b := 26) hj (by decide))]
      simp only []
      rw [m_points hM.base hj, sb, nI_1, List.range_succ, List.find?_append]
      by_cases e : ptsN j = p
      · rw [if_pos e]
        have hnone : (List.range j).find? (fun j => decide (ptsN j = p)) = none := by
          rw [List.find?_eq_none]
          intro i hi
          have hi2 := List.mem_range.mp hi
          simp only [decide_eq_true_eq]
          intro z
          have := ptsN_inj i (by omega) j hj (by rw [z, e])
          omega
        rw [hnone, List.find?_cons, decide_eq_true e]; rfl
      · rw [if_neg e, List.find?_cons, decide_eq_false e]
        simp
    · subst hX
      refine ⟨_, ?_, rfl⟩
      unfold fX11_letterOf_B4
      rw [if_pos (show (26 : Int32) ≤ nI 26 by decide)]; rfl
  obtain ⟨b, k1, rfl⟩ := key
  unfold fX11_letterOf
  rw [k1]; rfl
theorem lto_lt {p : Int32} {j : Nat} (h : lto p = some j) : j < 26 := List.mem_range.mp (List.mem_of_find?_eq_some h)
theorem typ_full (hf : full S = true) (c d : Int32) : typ S c = typ S d := by
  have := of_decide_eq_true hf
  unfold typ
  rw [if_pos this, if_pos this]
theorem m_typL (hM : RM S m) (h : WT S) (hL : WL S) (h33 : (sL S 33 0).length ≤ 80) (hC : WC S) {j : Nat} (hj : j < 26) : TS (fX11_typeLetter (nI j)) m (typL S j) := by
  -- a letter
  have hlet : ¬ (sI S 24 0 ≠ 0 ∧ sI S 23 0 = 0 ∧ j < 10) → ∃ m', (Option.bind (α := Int32) (if (m 23 0) = 0 then (some (97 : Int32)) else some (65 : Int32)) fun q1 => oM (fX11_type (q1 + nI j) m) fun x3 m4 => if x3 = 0 then (some (((), m4))) else (mPZ 23 (0 : Int32) m4).bind fun m5 => (mPZ 24 (0 : Int32) m5).bind fun m6 => some (((), m6))) = some ((), m') ∧ RM (typL S j) m' := by
    intro hn
    have q1 : (if m 23 0 = 0 then (some (97 : Int32)) else some (65 : Int32)) = some (if sI S 23 0 = 0 then 97 else 65) := by rw [hM.p 23 rfl]; split <;> rfl
    rw [q1, sb]
    obtain ⟨m1, a1, b1⟩ := m_typ hM h hL h33 hC ((if sI S 23 0 = 0 then 97 else 65) + nI j)
    rw [a1, oMs]
    unfold typL
    rw [if_neg hn]
    cases hf : full S
    · rw [if_neg (show ¬ bI (!false) = 0 by decide), if_neg (by simp), mPZ_ok (Or.inl rfl), sb, mPZ_ok (Or.inl rfl), sb]
      exact ⟨_, rfl, (b1.wI0 rfl).wI0 rfl⟩
    · rw [if_pos (show bI (!true) = 0 by decide), if_pos rfl, typ_full hf 0 ((if sI S 23 0 = 0 then 97 else 65) + nI j)]
      exact ⟨m1, rfl, b1⟩
  unfold TS fX11_typeLetter
  have e24 := hM.p 24 rfl 0
  have e23 := hM.p 23 rfl 0
  by_cases e1 : m 24 0 = 0
  · rw [if_pos e1]
    exact hlet (fun z => z.1 (by rw [← e24]; exact e1))
  · rw [if_neg e1]
    by_cases e2 : m 23 0 = 0
    · rw [if_pos e2]
      by_cases e3 : (10 : Int32) ≤ nI j
      · rw [if_pos e3]
        have : 10 ≤ j := (nI_leI (a := 10) (by decide) (by omega)).mp e3
        exact hlet (fun z => by omega)
      · rw [if_neg e3]
        have hlt : j < 10 := by
          have := mt (nI_leI (a := 10) (by decide) (show j < 2 ^ 31 by omega)).mpr e3
          omega
        have q : (if nI j = (9 : Int32) then (some (48 : Int32)) else some ((49 : Int32) + nI j)) = some (if j = 9 then 48 else nI (49 + j)) := by
          have e9 : (nI j = (9 : Int32)) ↔ j = 9 := nI_eq (b := 9) (by omega) (by decide)
          by_cases e : j = 9
          · rw [if_pos (e9.mpr e), if_pos e]
          · rw [if_neg (fun z => e (e9.mp z)), if_neg e, show (49 : Int32) = nI 49 from rfl, nI_add]
        rw [q, sb]
        obtain ⟨m1, a1, b1⟩ := m_typ hM h hL h33 hC (if j = 9 then 48 else nI (49 + j))
        unfold typL
        rw [if_pos (c := sI S 24 0 ≠ 0 ∧ sI S 23 0 = 0 ∧ j < 10) ⟨by rw [← e24]; exact e1, by rw [← e23]; exact e2, hlt⟩]
        exact ⟨m1, by rw [a1, oMs], b1⟩
    · rw [if_neg e2]
      exact hlet (fun z => e2 (by rw [e23]; exact z.2.1))
theorem m_tkB (hM : RM S m) (h : WT S) (hL : WL S) (h33 : (sL S 33 0).length ≤ 80) (hC : WC S) : TS fX11_takeLast m (tkB S) := by
  have c1 := hC.1
  have c40 := hC.2.l40 h
  have l12 := (hL (cur S)).2.1
  have hct := hM.cont c40
  have h9 : mL 9 (nI (cur S)) m = some (nI (sL S 8 (cur S)).length) := by rw [mL_ok rfl (show cur S < 40 from c40), hct.1]
  unfold TS fX11_takeLast tkB
  rw [hM.p 20 rfl, c1, h9, sb]
  by_cases e : (sL S 8 (cur S)).length = 0
  · rw [e, if_pos (show nI 0 = 0 from nI_0), if_pos rfl, f_none, sb]
    obtain ⟨m1, a1, b1⟩ := m_say hM h33 d_none g_none (by decide)
    exact ⟨m1, by rw [a1, oMs], b1⟩
  · rw [if_neg (nI_ne0 (by omega) (by omega)), if_neg e, sb, show (1 : Int32) = nI 1 from rfl, nI_sub (by omega), mS_ok rfl (show cur S < 40 from c40), sb, up_f (k := 9) (k' := 20) _ _ _ (by decide), hM.p 20 rfl, c1, mL_ok rfl (show cur S < 40 from c40), up_s, sb, show (12 : Int32) = nI 12 from rfl, nI_mul, nI_add, mL_ok rfl (show 12 * cur S + ((sL S 8 (cur S)).length - 1) < 480 by omega), up_f (k := 9) (k' := 8) _ _ _ (by decide), hct.2 _ (by omega), sb]
    have hM1 : RM (wSL S 8 (cur S) ((sL S 8 (cur S)).take ((sL S 8 (cur S)).length - 1))) (up2 m 9 (cur S) (nI ((sL S 8 (cur S)).length - 1))) := by
      refine hM.w8 (Sm.up (by decide)) ⟨?_, ?_⟩ (fun j hj hne => ?_)
      · rw [up_s, List.length_take, Nat.min_eq_left (by omega)]
      · rw [up_f _ _ _ (by decide)]
        exact Sl_take hct.2
      · obtain ⟨d1, d2⟩ := hM.cont hj
        exact ⟨by rw [up_n _ _ _ hne]; exact d1, by rw [up_f _ _ _ (by decide)]; exact d2⟩
    obtain ⟨m2, a2, b2⟩ := m_sayC hM1 (show (sL (wSL S 8 (cur S) _) 33 0).length ≤ 80 by rw [sL_L, if_neg (by simp)]; exact h33) (ge (sL S 8 (cur S)) ((sL S 8 (cur S)).length - 1))
    exact ⟨m2, by rw [a2, oMs], b2⟩
theorem m_typS (hM : RM S m) (h : WT S) (hL : WL S) (hV : WV S) (hC : WC S) (hB : WB S) (p : Int32) : TS (fX11_typeSet p) m (typS S p) := by
  have h33 := hV.2.2.2.1
  have c1 := hC.1
  unfold TS fX11_typeSet typS
  rw [m_lto hM, sb]
  cases hl : lto p with
  | some j =>
    simp only []
    have hj := lto_lt hl
    rw [if_neg (show ¬ rI (some j) = -1 from nI_m1 (by omega))]
    obtain ⟨m1, a1, b1⟩ := m_typL hM h hL h33 hC hj
    exact ⟨m1, by rw [show rI (some j) = nI j from rfl, a1, oMs], b1⟩
  | none =>
    simp only []
    rw [if_pos (show rI none = -1 from rfl)]
    by_cases p1 : p = 32
    · rw [if_pos p1, if_pos p1, mPZ_ok (Or.inr rfl), sb]
      exact ⟨_, rfl, hM.wI0 rfl⟩
    rw [if_neg p1, if_neg p1]
    by_cases p2 : p = 60
    · rw [if_pos p2, if_pos p2, if_pos p2, sb, mPZ_ok (Or.inr rfl), sb]
      exact ⟨_, rfl, hM.wI0 rfl⟩
    rw [if_neg p2, if_neg p2, if_neg p2]
    by_cases p3 : p = 48
    · rw [if_pos p3, if_pos p3, sb, mPZ_ok (Or.inl rfl), sb]
      exact ⟨_, rfl, hM.wI0 rfl⟩
    rw [if_neg p3, if_neg p3]
    have ht : ∀ c : Int32, ∃ m', (oM (fX11_type c m) fun x7 m8 => some (((), m8))) = some ((), m') ∧ RM (typ S c) m' := fun c => by
      obtain ⟨m1, a1, b1⟩ := m_typ hM h hL h33 hC c
      exact ⟨m1, by rw [a1, oMs], b1⟩
    by_cases p4 : p = 50
    · subst p4
      exact ht 46
    by_cases p5 : p = 2
    · subst p5
      exact ht 44
    by_cases p6 : p = 38
    · subst p6
      exact ht 63
    by_cases p7 : p = 36
    · subst p7
      exact ht 45
    simp only [if_neg p4, if_neg p5, if_neg p6, if_neg p7]
    by_cases p8 : p = 256
    · rw [if_pos p8, if_pos p8]
      obtain ⟨m1, a1, b1⟩ := m_typ hM h hL h33 hC 32
      rw [a1, oMs]
      cases hf : full S
      · rw [if_neg (show ¬ bI (!false) = 0 by decide), if_neg (by simp), sb, mPZ_ok (Or.inl rfl), sb]
        exact ⟨_, rfl, b1.wI0 rfl⟩
      · rw [if_pos (show bI (!true) = 0 by decide), if_pos rfl, sb]
        have e24 : m1 24 0 = sI S 24 0 := by rw [b1.p 24 rfl, (sd_typ S 32).i 24 rfl]
        rw [mPZ_ok (by rw [e24]; exact hB 24 (by decide) 0), sb, up2_self]
        exact ⟨_, rfl, b1⟩
    rw [if_neg p8, if_neg p8]
    by_cases p9 : p = 64
    · rw [if_pos p9, if_pos p9]
      obtain ⟨m1, a1, b1⟩ := m_tkB hM h hL h33 hC
      exact ⟨m1, by rw [a1, oMs], b1⟩
    rw [if_neg p9, if_neg p9]
    by_cases p10 : p = 128
    · rw [if_pos p10, if_pos p10, mPZ_ok (Or.inl rfl), sb, mPIs, sb, up_f _ _ _ (show (20 : Nat) ≠ 29 by decide), up_f _ _ _ (show (20 : Nat) ≠ 22 by decide), hM.p 20 rfl, c1]
      have hM1 : RM (wSI S 22 0 0) (up2 m 22 0 0) := hM.wI0 rfl
      have sd : Sd [22] [] [] S (wSI S 22 0 0) := Sd.I (by decide)
      have hM2 : RM (wSI S 22 0 0) (up2 (up2 m 22 0 0) 29 0 0) := hM1.sm (Sm.up (by decide))
      obtain ⟨m3, a3, b3, s3⟩ := m_words hM2 (h.sd sd rfl) hL ((th_cg (sd.i 0 rfl) (sd.i 1 rfl) _).mpr hC.2) (Tx_0 _) (by decide)
      rw [wd_cg (S := S) (sd.i 2 rfl) (sd.i 3 rfl) (sd.i 10 rfl) (sd.i 12 rfl) (sd.i 13 rfl) rfl rfl rfl] at b3
      have hwl := wd_len0 S hL (cur S) []
      obtain ⟨m4, a4, b4⟩ := m_cAns (hM2.tsc s3) h33 b3 (by simp at hwl; omega)
      exact ⟨m4, by rw [a3, oMs, a4, oMs], b4⟩
    rw [if_neg p10, if_neg p10]
    exact ⟨m, rfl, hM⟩
theorem m_chd0 (hM : RM S m) (h : WT S) (hL : WL S) (hK : WK S) (hV : WV S) (hC : WC S) (hs : shn S (cur S) = true) (hB : WB S) (p : Int32) : ∃ m', (if p ≤ (256 : Int32) then (if (m 22 0) = 0 then (if (256 : Int32) ≤ p then (some m) else oM (fX11_goLetter p m) fun _ m4 => some m4) else oM (fX11_typeSet p m) fun _ m6 => some m6) else oM (fX11_command (p - (256 : Int32)) m) fun _ m8 => some m8) = some m' ∧ RM (chd0 S p) m' := by
  unfold chd0
  rw [hM.p 22 rfl]
  by_cases e1 : p ≤ 256
  · rw [if_pos e1, if_pos e1]
    by_cases e2 : sI S 22 0 = 0
    · rw [if_pos e2, if_pos e2]
      by_cases e3 : (256 : Int32) ≤ p
      · rw [if_pos e3, if_pos e3]; exact ⟨m, rfl, hM⟩
      · rw [if_neg e3, if_neg e3]
        obtain ⟨m1, a1, b1⟩ := m_letter hM h hL hV hC hs p
        exact ⟨m1, by rw [a1, oMs], b1⟩
    · rw [if_neg e2, if_neg e2]
      obtain ⟨m1, a1, b1⟩ := m_typS hM h hL hV hC hB p
      exact ⟨m1, by rw [a1, oMs], b1⟩
  · rw [if_neg e1, if_neg e1]
    obtain ⟨m1, a1, b1⟩ := m_cmd hM h hL hK hV hC hs (p - 256)
    exact ⟨m1, by rw [a1, oMs], b1⟩
end MY

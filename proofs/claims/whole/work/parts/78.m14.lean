/-! ===== the reference's deeds, letters, typing, chords ===== -/
section MU
variable {S : SS} {m : mm}
theorem m_act (hM : RM S m) (h : WT S) (hV : WV S) (hC : WC S) : TS fX11_act m (act S) := by
  have c1 := hC.1
  have c2 := hC.2
  have c40 := c2.l40 h
  unfold TS fX11_act act
  rw [hM.p 20 rfl, c1, m_plain hM rfl rfl (show cur S < 40 from c40), sb, m_canF, sb]
  cases hc : canF (sI S 2 (cur S))
  · rw [if_pos (by rfl), if_neg (by simp), f_none, sb]
    obtain ⟨m1, a1, b1⟩ := m_say hM hV.2.2.2.1 d_none g_none (by decide)
    exact ⟨m1, by rw [a1, oMs], b1⟩
  · rw [if_neg (by decide), if_pos rfl, mPIs, sb, mPIs, sb]
    have hM2 : RM (act2 S) (up2 m 21 0 (nI (cur S))) := by
      unfold act2
      rw [c1]; exact hM.wI0 rfl
    have hM3 : RM (act2 S) (up2 (up2 m 21 0 (nI (cur S))) 29 0 0) := hM2.sm (Sm.up (by decide))
    have sd2 : Sd [21] [] [] S (act2 S) := Sd.I (by decide)
    have h33 : sL (act2 S) 33 0 = sL S 33 0 := rfl
    have hcur : (up2 (up2 m 21 0 (nI (cur S))) 29 0 0) 20 0 = nI (cur S) := by rw [up_f _ _ _ (by decide), up_f _ _ _ (by decide), hM.p 20 rfl, c1]
    by_cases e2 : sI S 2 (cur S) = 2
    · rw [if_pos e2, if_pos e2, hcur, m_plain hM3 rfl rfl (show cur S < 40 from c40), sb, mS_ok rfl (show cur S < 40 from c40), sb, show fX11_word 112 114 101 115 115 101 100 = some 496525574468324 from by decide +kernel, sb]
      have e11 : sI (act2 S) 11 (cur S) = sI S 11 (cur S) := by rw [sd2.i 11 rfl]
      rw [e11]
      have hM4 : RM (wSI (act2 S) 11 (cur S) (sI S 11 (cur S) + 1)) (up2 (up2 (up2 m 21 0 (nI (cur S))) 29 0 0) 11 (cur S) (sI S 11 (cur S) + 1)) := hM3.wI0 rfl
      have hT : Tx (up2 (up2 (up2 m 21 0 (nI (cur S))) 29 0 0) 11 (cur S) (sI S 11 (cur S) + 1)) [] := (Tx_0 _).sm (ks := [11]) (Sm.up (by decide)) rfl rfl
      obtain ⟨m5, a5, b5, s5⟩ := m_word (w := 496525574468324) (p := [112, 114, 101, 115, 115, 101, 100]) (by decide +kernel) (by decide +kernel) hT (by decide)
      obtain ⟨m6, a6, b6⟩ := m_cAns (hM4.tsc s5) (show (sL (act2 S) 33 0).length ≤ 80 from hV.2.2.2.1) b5 (by decide)
      exact ⟨m6, by rw [a5, oMs, sb, a6, oMs], b6⟩
    · rw [if_neg e2, if_neg e2]
      by_cases e3 : sI S 2 (cur S) = 3
      · rw [if_pos e3, if_pos e3, hcur, mLZ_ok rfl (show cur S < 40 from c40), hM3.p 10 rfl, sd2.i 10 rfl, sb]
        have q14 : (if sI S 10 (cur S) = 0 then (some (1 : Int32)) else some (0 : Int32)) = some (if sI S 10 (cur S) = 0 then 1 else 0) := by split <;> rfl
        have hb : (if sI S 10 (cur S) = 0 then (1 : Int32) else 0) = 0 ∨ (if sI S 10 (cur S) = 0 then (1 : Int32) else 0) = 1 := by split <;> simp
        have hM4 : RM (wSI (act2 S) 10 (cur S) (if sI S 10 (cur S) = 0 then 1 else 0)) (up2 (up2 (up2 m 21 0 (nI (cur S))) 29 0 0) 10 (cur S) (if sI S 10 (cur S) = 0 then 1 else 0)) := hM3.wI0 rfl
        rw [q14, sb, mSZ_ok rfl (show cur S < 40 from c40) hb, sb, up_f (k := 10) (k' := 20) _ _ _ (by decide), hcur, mLZ_ok rfl (show cur S < 40 from c40), up_s, sb]
        have hT : Tx (up2 (up2 (up2 m 21 0 (nI (cur S))) 29 0 0) 10 (cur S) (if sI S 10 (cur S) = 0 then 1 else 0)) [] := (Tx_0 _).sm (ks := [10]) (Sm.up (by decide)) rfl rfl
        obtain ⟨m5, a5, b5, s5⟩ := m_onw (if sI S 10 (cur S) = 0 then 1 else 0) hT (by decide)
        have ep : pt [] (onw (if sI S 10 (cur S) = 0 then 1 else 0)) = onw (if sI S 10 (cur S) = 0 then 1 else 0) := by unfold pt sep; simp
        rw [ep] at b5
        have hol := onw_len (if sI S 10 (cur S) = 0 then 1 else 0)
        obtain ⟨m6, a6, b6⟩ := m_cAns (hM4.tsc s5) (show (sL (act2 S) 33 0).length ≤ 80 from hV.2.2.2.1) b5 (by omega)
        exact ⟨m6, by rw [a5, oMs, sb, a6, oMs], b6⟩
      · rw [if_neg e3, if_neg e3, mPZ_ok (Or.inr rfl), sb, mPZ_ok (Or.inl rfl), sb, mPZ_ok (Or.inl rfl), sb, show fX11_word 0 0 0 116 121 112 101 = some 245266533 from by decide +kernel, sb]
        have hM4 := ((hM3.wI0 (k := 22) (i := 0) (v := 1) rfl).wI0 (k := 23) (i := 0) (v := 0) rfl).wI0 (k := 24) (i := 0) (v := 0) rfl
        have hT : Tx (up2 (up2 (up2 (up2 (up2 m 21 0 (nI (cur S))) 29 0 0) 22 0 1) 23 0 0) 24 0 0) [] := (Tx_0 _).sm (ks := [22, 23, 24]) (((Sm.up (by decide)).tr (Sm.up (by decide))).tr (Sm.up (by decide))) rfl rfl
        obtain ⟨m5, a5, b5, s5⟩ := m_word (w := 245266533) (p := [116, 121, 112, 101]) (by decide +kernel) (by decide +kernel) hT (by decide)
        obtain ⟨m6, a6, b6⟩ := m_cAns (hM4.tsc s5) (show (sL (act2 S) 33 0).length ≤ 80 from hV.2.2.2.1) b5 (by decide)
        exact ⟨m6, by rw [a5, oMs, sb, a6, oMs], b6⟩
/-! letters -/
theorem m_kos (hb : ∀ k, k < 10 → m 47 k = ptsN k) (p : Int32) : itr (fX11_goLetter_B4 p m) FU ((-1 : Int32), (0 : Int32)) = some (kos p) := by
  have hstep : ∀ k, k ≤ 7 → k ≠ 1 → ∀ a, fX11_goLetter_B4 p m (a, nI k) = some (.inl (if fpt (nI k) = p then nI k else a, nI (k + 1))) := by
    intro k hk h1 a
    obtain ⟨j, hj, e1, e2⟩ := m_kletter hk h1
    unfold fX11_goLetter_B4
    rw [if_neg (show ¬ (7 : Int32) < nI k from nI_nlt (a := 7) hk (by omega)), e1, sb, if_neg (nI_m1 (by omega)), sb, m_points hb hj, sb, e2, nI_1]
    split <;> rfl
  have h1 : ∀ a, fX11_goLetter_B4 p m (a, nI 1) = some (.inl (a, nI 2)) := by
    intro a
    unfold fX11_goLetter_B4
    rw [if_neg (show ¬ (7 : Int32) < nI 1 by decide), show fX11_kindLetter (nI 1) = some (-1) from by decide +kernel, sb, if_pos rfl]; rfl
  show itr (fX11_goLetter_B4 p m) (4991 + 9) ((-1 : Int32), nI 0) = _
  rw [itr_step (hstep 0 (by decide) (by decide) _), itr_step (h1 _), itr_step (hstep 2 (by decide) (by decide) _), itr_step (hstep 3 (by decide) (by decide) _), itr_step (hstep 4 (by decide) (by decide) _), itr_step (hstep 5 (by decide) (by decide) _), itr_step (hstep 6 (by decide) (by decide) _), itr_step (hstep 7 (by decide) (by decide) _)]
  rw [itr_end (b := if fpt (nI 7) = p then nI 7 else if fpt (nI 6) = p then nI 6 else if fpt (nI 5) = p then nI 5 else if fpt (nI 4) = p then nI 4 else if fpt (nI 3) = p then nI 3 else if fpt (nI 2) = p then nI 2 else if fpt (nI 0) = p then nI 0 else -1) (by unfold fX11_goLetter_B4; rw [if_pos (show (7 : Int32) < nI (7 + 1) by decide)])]
  congr 1
  rw [show fpt (nI 7) = 7 from by decide, show fpt (nI 6) = 23 from by decide, show fpt (nI 5) = 30 from by decide, show fpt (nI 4) = 17 from by decide, show fpt (nI 3) = 9 from by decide, show fpt (nI 2) = 3 from by decide, show fpt (nI 0) = 27 from by decide]
  unfold kos
  by_cases a1 : p = 27
  · subst a1; decide
  by_cases a2 : p = 3
  · subst a2; decide
  by_cases a3 : p = 9
  · subst a3; decide
  by_cases a4 : p = 17
  · subst a4; decide
  by_cases a5 : p = 30
  · subst a5; decide
  by_cases a6 : p = 23
  · subst a6; decide
  by_cases a7 : p = 7
  · subst a7; decide
  rw [if_neg a1, if_neg a2, if_neg a3, if_neg a4, if_neg a5, if_neg a6, if_neg a7, if_neg (fun z => a7 z.symm), if_neg (fun z => a6 z.symm), if_neg (fun z => a5 z.symm), if_neg (fun z => a4 z.symm), if_neg (fun z => a3 z.symm), if_neg (fun z => a2 z.symm), if_neg (fun z => a1 z.symm)]
theorem m_letter (hM : RM S m) (h : WT S) (hL : WL S) (hV : WV S) (hC : WC S) (hs : shn S (cur S) = true) (p : Int32) : TS (fX11_goLetter p) m (gKind S (kos p)) := by
  unfold TS fX11_goLetter gKind
  rw [m_kos hM.base, sb]
  by_cases e : kos p = -1
  · rw [if_pos e, if_pos e]; exact ⟨m, rfl, hM⟩
  · rw [if_neg e, if_neg e]
    generalize kos p = kk at e
    obtain ⟨m1, a1, a2, a3, a4, a5⟩ := m_cpl hM h hC hs
    have hM1 : RM S m1 := hM.sm (a4.mono (by decide))
    have hol := ord_len h
    have hloop : ∀ n, n ≤ (ord S).length → ∀ fu, n + 1 < fu → itr (fX11_goLetter_B58 kk m1) fu (-1, nI ((ord S).length - n)) = some (rI (((ord S).drop ((ord S).length - n)).find? (fun j => decide (sI S 2 j = kk)))) := by
      intro n
      induction n with
      | zero =>
        intro _ fu hf
        obtain ⟨fu, rfl⟩ : ∃ g, fu = g + 1 := ⟨fu - 1, by omega⟩
        rw [Nat.sub_zero, List.drop_length, itr_end (b := -1)]
        · rfl
        · unfold fX11_goLetter_B58
          rw [a3, if_pos (Int32.le_refl _)]
      | succ n ih =>
        intro hn fu hf
        obtain ⟨fu, rfl⟩ : ∃ g, fu = g + 2 := ⟨fu - 2, by omega⟩
        have hj : (ord S).length - (n + 1) < (ord S).length := by omega
        have hg := (ord_thm h hj).l40 h
        have hF : fX11_goLetter_B58 kk m1 (-1, nI ((ord S).length - (n + 1))) = some (.inl (if sI S 2 (gn (ord S) ((ord S).length - (n + 1))) = kk then nI (gn (ord S) ((ord S).length - (n + 1))) else -1, nI ((ord S).length - n))) := by
          unfold fX11_goLetter_B58
          rw [a3, if_neg (nI_ge hj (by omega)), if_pos rfl]
          simp only []
          rw [m_ordAt h a2 hj, sb, m_plain hM1 rfl rfl (show gn (ord S) _ < 40 from hg), sb, sb, nI_1, show (ord S).length - (n + 1) + 1 = (ord S).length - n by omega]
          split <;> rfl
        rw [itr_step hF, drop_gn hj, List.find?_cons, show (ord S).length - (n + 1) + 1 = (ord S).length - n by omega]
        by_cases e2 : sI S 2 (gn (ord S) ((ord S).length - (n + 1))) = kk
        · rw [if_pos e2, decide_eq_true e2, itr_end (b := nI (gn (ord S) ((ord S).length - (n + 1))))]
          · rfl
          · unfold fX11_goLetter_B58
            rw [a3]
            split
            · rfl
            · rw [if_neg (show ¬ nI (gn (ord S) ((ord S).length - (n + 1))) = -1 from nI_m1 (by omega))]
        · rw [if_neg e2, decide_eq_false e2]
          exact ih (by omega) (fu + 1) (by omega)
    have hfin := hloop ((ord S).length - (cpl S + 1)) (by omega) FU (FU_lt (by omega))
    rw [show (ord S).length - ((ord S).length - (cpl S + 1)) = cpl S + 1 by omega] at hfin
    obtain ⟨m2, b1, b2⟩ := m_goO hM1 h hL hV hC (o := ((ord S).drop (cpl S + 1)).find? (fun j => decide (sI S 2 j = kk))) (fun x hx => ord_th h 40 0 x h.2.1 (List.mem_of_mem_drop (List.mem_of_find?_eq_some hx))) d_none g_none (by decide)
    exact ⟨m2, by rw [a1, oMs, nI_1, hfin, sb, f_none, sb, b1, oMs], b2⟩
theorem m_cmd (hM : RM S m) (h : WT S) (hL : WL S) (hK : WK S) (hV : WV S) (hC : WC S) (hs : shn S (cur S) = true) (p : Int32) : TS (fX11_command p) m (cmd S p) := by
  unfold TS fX11_command cmd
  by_cases p1 : p = 1
  · rw [if_pos p1, if_pos p1, if_pos p1, sb]
    obtain ⟨m1, a1, b1⟩ := m_prev hM h hL hV hC hs
    exact ⟨m1, by rw [a1, oMs], b1⟩
  rw [if_neg p1, if_neg p1, if_neg p1]
  by_cases p2 : p = 8
  · rw [if_pos p2, if_pos p2, sb]
    obtain ⟨m1, a1, b1⟩ := m_next hM h hL hV hC hs
    exact ⟨m1, by rw [a1, oMs], b1⟩
  rw [if_neg p2, if_neg p2]
  by_cases p3 : p = 4
  · rw [if_pos p3, if_pos p3]
    exact m_out hM h hL hV hC
  rw [if_neg p3, if_neg p3]
  by_cases p4 : p = 32
  · rw [if_pos p4, if_pos p4]
    obtain ⟨m1, a1, b1⟩ := m_inn hM h hL hV hC
    exact ⟨m1, by rw [a1, oMs], b1⟩
  rw [if_neg p4, if_neg p4]
  obtain ⟨ru, rd⟩ := m_rows hM h hL hV hC
  by_cases p5 : p = 2
  · rw [if_pos p5, if_pos p5, if_pos p5, sb]
    obtain ⟨m1, a1, b1⟩ := ru
    exact ⟨m1, by rw [a1, oMs], b1⟩
  rw [if_neg p5, if_neg p5, if_neg p5]
  by_cases p6 : p = 16
  · rw [if_pos p6, if_pos p6, sb]
    obtain ⟨m1, a1, b1⟩ := rd
    exact ⟨m1, by rw [a1, oMs], b1⟩
  rw [if_neg p6, if_neg p6]
  by_cases p7 : p = 30
  · rw [if_pos p7, if_pos p7]
    obtain ⟨m1, a1, b1⟩ := m_tab hM h hL hV hC hs
    exact ⟨m1, by rw [a1, oMs], b1⟩
  rw [if_neg p7, if_neg p7]
  by_cases p8 : p = 128
  · rw [if_pos p8, if_pos p8]
    obtain ⟨m1, a1, b1⟩ := m_act hM h hV hC
    exact ⟨m1, by rw [a1, oMs], b1⟩
  rw [if_neg p8, if_neg p8]
  by_cases p9 : p = 64
  · rw [if_pos p9, if_pos p9]
    obtain ⟨m1, a1, b1⟩ := m_hush hM hV.1 hV.2.2.2.1 hV.2.2.2.2.2.1
    exact ⟨m1, by rw [a1, oMs], b1⟩
  rw [if_neg p9, if_neg p9]
  by_cases p10 : p = 7
  · rw [if_pos p10, if_pos p10, hM.p 25 rfl]
    have q : (if sI S 25 0 ≤ 0 then (some (0 : Int32)) else some (10 : Int32)) = some (if sI S 25 0 ≤ 0 then 0 else 10) := by split <;> rfl
    rw [q, sb, mPIs, sb]
    exact ⟨_, rfl, hM.wI0 rfl⟩
  rw [if_neg p10, if_neg p10]
  by_cases p11 : p = 56
  · rw [if_pos p11, if_pos p11]
    obtain ⟨m1, a1, b1, s1⟩ := m_line hM h hL hK hC
    have hM1 := hM.lsc s1
    rw [a1, oMs, hM1.p 25 rfl, b1.1]
    have q : (if nI (ln S).length ≤ sI S 25 0 + 10 then (some (0 : Int32)) else some (10 : Int32)) = some (if nI (ln S).length ≤ sI S 25 0 + 10 then 0 else 10) := by split <;> rfl
    rw [q, sb, mPIs, sb]
    exact ⟨_, rfl, hM1.wI0 rfl⟩
  rw [if_neg p11, if_neg p11]
  by_cases p12 : p = 23
  · rw [if_pos p12, if_pos p12, mPIs, sb, up_f _ _ _ (show (20 : Nat) ≠ 29 by decide), hM.p 20 rfl, hC.1]
    obtain ⟨m1, a1, b1, s1⟩ := m_words (hM.sm (Sm.up (k := 29) (i := 0) (x := 0) (by decide))) h hL hC.2 (Tx_0 m) (by decide)
    have hwl := wd_len0 S hL (cur S) []
    obtain ⟨m2, a2, b2⟩ := m_cAns ((hM.sm (Sm.up (k := 29) (i := 0) (x := 0) (by decide))).tsc s1) hV.2.2.2.1 b1 (by simp at hwl; omega)
    exact ⟨m2, by rw [a1, oMs, a2, oMs], b2⟩
  rw [if_neg p12, if_neg p12]
  exact ⟨m, rfl, hM⟩
end MU

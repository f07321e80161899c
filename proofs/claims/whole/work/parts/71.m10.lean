/-! ===== the reference's speaking and ticks ===== -/
/-- the loops' numbers: the time and how many characters were heard, and what regions remember of the time -/
def WN (S : SS) (c : Nat) : Prop := (∃ n, n ≤ c ∧ sI S 46 0 = nI n) ∧ (∃ n, n ≤ c ∧ sI S 43 0 = nI n) ∧ ∀ i, sI S 15 i = -1 ∨ ∃ n, n ≤ c ∧ sI S 15 i = nI n
section MT
variable {S : SS} {m : mm}
theorem RM.made (hM : RM S m) (h : PW S) : m 0 0 = nI (made S) := by rw [hM.p 0 rfl]; exact h.2.2.1
theorem m_bgn (hM : RM S m) (hV : WV S) (h21 : (sQ S 35).length ≤ 23) : ∃ m', fX11_beginSpeech m = some ((), m') ∧ RM (bgn S) m' := by
  obtain ⟨q5, qw, aw, v33, v39, -, -⟩ := hV
  have hn := hM.news
  have hal := hM.alerts
  have ha := hM.ans
  have key : ∃ m1, (if (m 37 0) ≤ 0 then (if (m 34 0) ≤ 0 then (if (m 32 0) ≤ 0 then (some m) else (mPI 38 (0 : Int32) m).bind fun m3 => (mL 31 (0 : Int32) m3).bind fun x4 => (mPI 40 x4 m3).bind fun m5 => oM (fX11_copy 30 (0 : Int32) 39 (0 : Int32) (m5 40 0) m5) fun _ m7 => oM (fX11_takeNews m7) fun _ m9 => some m9) else (mPI 38 (1 : Int32) m).bind fun m10 => (mPI 40 (m10 34 0) m10).bind fun m11 => oM (fX11_copy 33 (0 : Int32) 39 (0 : Int32) (m11 40 0) m11) fun _ m13 => (mPI 34 (0 : Int32) m13).bind fun m14 => some m14) else (mPI 38 (2 : Int32) m).bind fun m15 => (mL 36 (0 : Int32) m15).bind fun x16 => (mPI 40 x16 m15).bind fun m17 => oM (fX11_copy 35 (0 : Int32) 39 (0 : Int32) (m17 40 0) m17) fun _ m19 => oM (fX11_takeAlert m19) fun _ m21 => some m21) = some m1 ∧ RM (bgn1 S) m1 := by
    unfold bgn1
    rw [hal.1, ha.1, hn.1]
    cases hq : sQ S 35 with
    | cons t q =>
      simp only []
      rw [hq] at hal aw h21
      have ht := aw t (List.mem_cons_self)
      obtain ⟨b1, b2⟩ := hal.2 0 (by simp)
      have e0 : qn (t :: q) 0 = t := rfl
      rw [e0] at b1 b2
      rw [if_neg (nI_nle (by simp) (by simp at h21 ⊢; omega)), mPIs, sb, show (0 : Int32) = nI 0 from rfl, mL_ok rfl (show 0 < 24 by decide), up_f _ _ _ (show (36 : Nat) ≠ 38 by decide), b1, sb, mPIs, sb, up_s]
      obtain ⟨m3, c1, c2, c3, c4⟩ := m_copyT (m := up2 (up2 m 38 0 2) 40 0 (nI t.length)) (a := 35) (o := 0) (b := 39) (p := 0) (l := t) rfl rfl (show _ ≤ 2400 by omega) (show _ ≤ 100 by omega) (Or.inl (by decide)) (by
        rw [up_f _ _ _ (by decide), up_f _ _ _ (by decide)]
        rw [Nat.mul_zero] at b2; exact b2)
      rw [c1, oMs]
      have hR3 : RQ m3 35 36 37 (t :: q) := hal.sm (by rw [c4.at 35 (by decide), up_f _ _ _ (by decide), up_f _ _ _ (by decide)]) (by rw [c4.at 36 (by decide), up_f _ _ _ (by decide), up_f _ _ _ (by decide)]) (by rw [c4.at 37 (by decide), up_f _ _ _ (by decide), up_f _ _ _ (by decide)])
      obtain ⟨m4, d1, d2, d3⟩ := m_pop35 hR3 aw (by simp) (by omega)
      rw [d1, oMs]
      have hM1 : RM (wSI S 38 0 2) (up2 m 38 0 2) := hM.wI0 rfl
      have hM2 := hM1.w39 (l := t) (m' := m3) ((Sm.up (by decide)).tr (c4.mono (by decide))) ⟨by rw [c4.at 40 (by decide)]; exact up_s _ _ _ _, c2⟩
      have hM3 := hM2.w35 (q := (t :: q).drop 1) (d3.mono (by decide)) d2
      exact ⟨m4, rfl, hM3⟩
    | nil =>
      simp only []
      rw [show (List.length ([] : List (List Int32))) = 0 from rfl, if_pos (show nI 0 ≤ 0 by decide)]
      by_cases e : (sL S 33 0).length = 0
      · rw [e, if_pos (show nI 0 ≤ 0 by decide), if_pos rfl]
        cases hq2 : sQ S 30 with
        | nil =>
          simp only []
          rw [show (List.length ([] : List (List Int32))) = 0 from rfl, if_pos (show nI 0 ≤ 0 by decide)]
          exact ⟨m, rfl, hM⟩
        | cons t q =>
          simp only []
          rw [hq2] at hn qw q5
          have ht := qw t (List.mem_cons_self)
          obtain ⟨b1, b2⟩ := hn.2 0 (by simp)
          have e0 : qn (t :: q) 0 = t := rfl
          rw [e0] at b1 b2
          rw [if_neg (nI_nle (by simp) (by simp at q5 ⊢; omega)), mPIs, sb, show (0 : Int32) = nI 0 from rfl, mL_ok rfl (show 0 < 7 by decide), up_f _ _ _ (show (31 : Nat) ≠ 38 by decide), b1, sb, mPIs, sb, up_s]
          obtain ⟨m3, c1, c2, c3, c4⟩ := m_copyT (m := up2 (up2 m 38 0 (nI 0)) 40 0 (nI t.length)) (a := 30) (o := 0) (b := 39) (p := 0) (l := t) rfl rfl (show _ ≤ 700 by omega) (show _ ≤ 100 by omega) (Or.inl (by decide)) (by
            rw [up_f _ _ _ (by decide), up_f _ _ _ (by decide)]
            rw [Nat.mul_zero] at b2; exact b2)
          rw [c1, oMs]
          have hR3 : RQ m3 30 31 32 (t :: q) := hn.sm (by rw [c4.at 30 (by decide), up_f _ _ _ (by decide), up_f _ _ _ (by decide)]) (by rw [c4.at 31 (by decide), up_f _ _ _ (by decide), up_f _ _ _ (by decide)]) (by rw [c4.at 32 (by decide), up_f _ _ _ (by decide), up_f _ _ _ (by decide)])
          obtain ⟨m4, d1, d2, d3⟩ := m_pop30 hR3 qw (by simp) (by omega)
          rw [d1, oMs]
          have hM1 : RM (wSI S 38 0 0) (up2 m 38 0 (nI 0)) := hM.wI0 rfl
          have hM2 := hM1.w39 (l := t) (m' := m3) ((Sm.up (by decide)).tr (c4.mono (by decide))) ⟨by rw [c4.at 40 (by decide)]; exact up_s _ _ _ _, c2⟩
          have hM3 := hM2.w30 (q := (t :: q).drop 1) (d3.mono (by decide)) d2
          exact ⟨m4, rfl, hM3⟩
      · rw [if_neg (nI_nle (by omega) (by omega)), if_neg e, mPIs, sb, up_f _ _ _ (show (34 : Nat) ≠ 38 by decide), ha.1, mPIs, sb, up_s]
        obtain ⟨m3, c1, c2, c3, c4⟩ := m_copyT (m := up2 (up2 m 38 0 1) 40 0 (nI (sL S 33 0).length)) (a := 33) (o := 0) (b := 39) (p := 0) (l := sL S 33 0) rfl rfl (show _ ≤ 100 by omega) (show _ ≤ 100 by omega) (Or.inl (by decide)) (by
          rw [up_f _ _ _ (by decide), up_f _ _ _ (by decide)]
          have := ha.2
          rw [Nat.mul_zero] at this; exact this)
        rw [show (0 : Int32) = nI 0 from rfl, c1, oMs, mPIs, sb]
        have hM1 : RM (wSI S 38 0 1) (up2 m 38 0 1) := hM.wI0 rfl
        have hM2 := hM1.w39 (l := sL S 33 0) (m' := m3) ((Sm.up (by decide)).tr (c4.mono (by decide))) ⟨by rw [c4.at 40 (by decide)]; exact up_s _ _ _ _, c2⟩
        have hM3 := hM2.w33 (l := []) (m' := up2 m3 34 0 0) (Sm.up (by decide)) TxA_nil
        exact ⟨_, rfl, hM3⟩
  obtain ⟨m1, k1, k2⟩ := key
  refine ⟨up2 m1 41 0 0, ?_, k2.wI0 rfl⟩
  unfold fX11_beginSpeech
  rw [k1]; rfl
/-- what regions keep comes, element by element -/
theorem m_kpt1 (hM : RM S m) (h : WT S) (hL : WL S) (hV : WV S) {r : Nat} (hr : r < made S) : ∃ m', fX11_comeKept_B2 (nI r, m) = some (.inl (nI (r + 1), m')) ∧ RM (kpt1 S r) m' := by
  have h40 := h.m40
  have hk := hM.kept (i := r) (by omega)
  have h8 := (hL r).2.2
  unfold fX11_comeKept_B2 kpt1
  show ∃ m', (if m 0 0 ≤ nI r then _ else _) = _ ∧ _
  rw [hM.made h.pw, if_neg (nI_ge hr (by omega))]
  simp only []
  rw [mL_ok rfl (show r < 40 by omega), hk.1, sb]
  by_cases e : (sL S 17 r).length = 0
  · rw [e, if_pos (show nI 0 ≤ 0 by decide), if_pos (Or.inl rfl), nI_1]
    exact ⟨m, rfl, hM⟩
  · rw [if_neg (nI_nle (by omega) (by omega)), m_canN hM (by omega), sb]
    cases hc : canN S r
    · rw [if_pos (by rfl), if_pos (Or.inr rfl), nI_1]
      exact ⟨m, rfl, hM⟩
    · rw [if_neg (by decide), if_neg (c := (sL S 17 r).length = 0 ∨ true = false) (fun z => z.elim e (by simp)), m_shows hM h.pw hr, sb]
      cases hs : shn S r
      · rw [if_pos (by rfl), if_neg (by simp)]
        obtain ⟨m1, a1, b1, -⟩ := m_swl hM hL (r := r) (by omega)
        exact ⟨m1, by rw [a1, oMs, nI_1], b1⟩
      · rw [if_neg (by decide), if_pos rfl, sb, mPIs, sb, up_s, show (0 : Int32) = nI 0 from rfl, show (100 : Int32) = nI 100 from rfl, nI_mul]
        obtain ⟨m3, c1, c2, c3, c4⟩ := m_copyT (m := up2 m 29 0 (nI (sL S 17 r).length)) (a := 17) (o := 100 * r) (b := 28) (p := 0) (l := sL S 17 r) rfl rfl (show _ ≤ 4000 by omega) (show _ ≤ 100 by omega) (Or.inl (by decide)) (by rw [up_f _ _ _ (by decide)]; exact hk.2)
        rw [c1, oMs, mS_ok rfl (show r < 40 by omega), sb, mS_ok rfl (show r < 40 by omega), sb, up_f _ _ _ (show (46 : Nat) ≠ 16 by decide), c4.at 46 (by decide), up_f _ _ _ (show (46 : Nat) ≠ 29 by decide), hM.p 46 rfl]
        have hs3 : Sm scr m m3 := (Sm.up (by decide)).tr (c4.mono (by decide))
        have hM3 := hM.sm hs3
        have hM4 : RM (wSL S 17 r []) (up2 m3 16 r (nI 0)) := hM3.w17 (Sm.up (by decide)) TxA_nil (fun j hj hne => by
          obtain ⟨d1, d2⟩ := hM3.kept hj
          exact ⟨by rw [up_n _ _ _ hne]; exact d1, by rw [up_f _ _ _ (by decide)]; exact d2⟩)
        have hM5 : RM (wSI (wSL S 17 r []) 15 r (sI S 46 0)) (up2 (up2 m3 16 r (nI 0)) 15 r (sI S 46 0)) := hM4.wI0 rfl
        have hT : Tx (up2 (up2 m3 16 r (nI 0)) 15 r (sI S 46 0)) (sL S 17 r) := by
          refine TxA.sm (m := m3) ⟨?_, c2⟩ ?_ ?_
          · rw [c4.at 29 (by decide)]; exact up_s _ _ _ _
          · rw [up_f _ _ _ (by decide), up_f _ _ _ (by decide)]
          · rw [up_f _ _ _ (by decide), up_f _ _ _ (by decide)]
        have hV5 : WV (wSI (wSL S 17 r []) 15 r (sI S 46 0)) := by
          obtain ⟨v1, v2, v3, v4, v5, v6, v7⟩ := hV
          have q : ∀ k i, k ≠ 15 → sI (wSI (wSL S 17 r []) 15 r (sI S 46 0)) k i = sI S k i := fun k i hk => by rw [sI_I, if_neg (fun z => hk z.1), sI_L]
          have q2 : ∀ k i, k ≠ 17 → sL (wSI (wSL S 17 r []) 15 r (sI S 46 0)) k i = sL S k i := fun k i hk => by rw [sL_I, sL_L, if_neg (fun z => hk z.1)]
          exact ⟨v1, v2, v3, by rw [q2 33 0 (by decide)]; exact v4, by rw [q2 39 0 (by decide)]; exact v5, by rw [q 38 0 (by decide)]; exact v6, by rw [q 38 0 (by decide), q 41 0 (by decide), q2 39 0 (by decide)]; exact v7⟩
        obtain ⟨m6, d1, d2⟩ := m_cNews hM5 hV5 hT (by omega) h8
        exact ⟨m6, by rw [d1, oMs, nI_1], d2⟩
end MT

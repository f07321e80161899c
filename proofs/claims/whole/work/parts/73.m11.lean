/-! ===== the reference's ticks ===== -/
theorem WT.sd {S S' : SS} {ki kl kq : List Nat} (h : WT S) (hs : Sd ki kl kq S S') (hk : (decide (0 ∉ ki) && decide (1 ∉ ki) && decide (2 ∉ ki) && decide (3 ∉ ki) && decide (12 ∉ ki)) = true) : WT S' := by
  simp only [Bool.and_eq_true] at hk
  exact h.cg (hs.i 0 hk.1.1.1.1) (hs.i 1 hk.1.1.1.2) (hs.i 2 hk.1.1.2) (hs.i 3 hk.1.2) (hs.i 12 hk.2) hs.2.2.2
theorem WN.sd {S S' : SS} {c : Nat} {ki kl kq : List Nat} (h : WN S c) (hs : Sd ki kl kq S S') (hk : (decide (46 ∉ ki) && decide (43 ∉ ki) && decide (15 ∉ ki)) = true) : WN S' c := by
  simp only [Bool.and_eq_true] at hk
  unfold WN at *
  rw [hs.i 46 hk.1.1, hs.i 43 hk.1.2, hs.i 15 hk.2]; exact h
theorem WN.mono {S : SS} {c d : Nat} (h : WN S c) (hd : c ≤ d) : WN S d := by
  obtain ⟨⟨a, a1, a2⟩, ⟨b, b1, b2⟩, e⟩ := h
  refine ⟨⟨a, by omega, a2⟩, ⟨b, by omega, b2⟩, fun i => ?_⟩
  rcases e i with q | ⟨n, q1, q2⟩
  · exact Or.inl q
  · exact Or.inr ⟨n, by omega, q2⟩
theorem WN.w15 {S : SS} {c r : Nat} (h : WN S c) : WN (wSI S 15 r (sI S 46 0)) c := by
  obtain ⟨⟨a, a1, a2⟩, ⟨b, b1, b2⟩, e⟩ := h
  refine ⟨⟨a, a1, by rw [sI_I, if_neg (by simp)]; exact a2⟩, ⟨b, b1, by rw [sI_I, if_neg (by simp)]; exact b2⟩, fun i => ?_⟩
  rw [sI_I]
  split
  · exact Or.inr ⟨a, a1, a2⟩
  · exact e i
theorem WN.kcNews {S : SS} {c : Nat} {t : List Int32} (h : WN S c) : WN (cNews S t) c := h.sd (sd_cNews S t) rfl
theorem WN.ktel {S : SS} {c : Nat} {r : Option Nat} {t : List Int32} (h : WN S c) : WN (tel S r t) c := by
  cases r with
  | none => exact h
  | some r =>
    unfold tel
    simp only []
    split
    · exact h
    · split
      · exact h.sd (sd_cAl S t) rfl
      · split
        · exact h.w15.kcNews
        · exact WN.sd (S := swl S r) (h.sd (sd_swl S r) rfl) (Sd.L (ki := []) (kl := [17]) (kq := []) (by decide)) rfl
theorem WN.kkpt1 {S : SS} {c r : Nat} (h : WN S c) : WN (kpt1 S r) c := by
  unfold kpt1
  split
  · exact h
  · split
    · exact (WN.w15 (S := wSL S 17 r []) (h.sd (Sd.L (ki := []) (kl := [17]) (kq := []) (by decide)) rfl)).kcNews
    · exact h.sd (sd_swl S r) rfl
theorem WN.kkptF {S : SS} {c : Nat} (h : WN S c) : ∀ n, WN (kptF S n) c
  | 0 => h
  | n + 1 => by rw [kptF_s]; exact (WN.kkptF h n).kkpt1
section VB
variable {S : SS}
theorem WV.kbgn1 (h : WV S) (hs : sI S 38 0 = -1) : WV (bgn S) := by
  obtain ⟨v1, v2, v3, v4, v5, v6, v7⟩ := h
  unfold bgn bgn1
  cases h35 : sQ S 35 with
  | cons t q =>
    simp only []
    rw [h35] at v3
    have ht := v3 t List.mem_cons_self
    refine ⟨v1, v2, fun s hs2 => v3 s (List.mem_cons_of_mem _ hs2), ?_, ?_, ?_, fun _ => ⟨0, ?_, ?_⟩⟩
    · exact v4
    · show (sL (wSL S 39 0 t) 39 0).length ≤ 80
      rw [sL_L, if_pos ⟨rfl, rfl⟩]; exact ht.2
    · rw [sI_I, if_neg (by simp), sI_I, if_pos ⟨rfl, rfl⟩]; simp
    · show 0 < (sL (wSL S 39 0 t) 39 0).length
      rw [sL_L, if_pos ⟨rfl, rfl⟩]; exact ht.1
    · rw [sI_I, if_pos ⟨rfl, rfl⟩]; rfl
  | nil =>
    simp only []
    by_cases e : (sL S 33 0).length = 0
    · rw [if_pos e]
      cases h30 : sQ S 30 with
      | cons t q =>
        simp only []
        rw [h30] at v1 v2
        have ht := v2 t List.mem_cons_self
        refine ⟨by show q.length ≤ 5; simp at v1; omega, fun s hs2 => v2 s (List.mem_cons_of_mem _ hs2), v3, v4, ?_, ?_, fun _ => ⟨0, ?_, ?_⟩⟩
        · show (sL (wSL S 39 0 t) 39 0).length ≤ 80
          rw [sL_L, if_pos ⟨rfl, rfl⟩]; exact ht.2
        · rw [sI_I, if_neg (by simp), sI_I, if_pos ⟨rfl, rfl⟩]; simp
        · show 0 < (sL (wSL S 39 0 t) 39 0).length
          rw [sL_L, if_pos ⟨rfl, rfl⟩]; exact ht.1
        · rw [sI_I, if_pos ⟨rfl, rfl⟩]; rfl
      | nil =>
        simp only []
        refine ⟨by rw [sQ_I]; exact v1, by rw [sQ_I]; exact v2, by rw [sQ_I]; exact v3, v4, v5, ?_, fun z => absurd ?_ z⟩
        · rw [sI_I, if_neg (by simp)]; exact v6
        · rw [sI_I, if_neg (by simp)]; exact hs
    · rw [if_neg e]
      refine ⟨v1, v2, v3, ?_, ?_, ?_, fun _ => ⟨0, ?_, ?_⟩⟩
      · show (sL (wSL (wSL S 39 0 (sL S 33 0)) 33 0 []) 33 0).length ≤ 80
        rw [sL_L, if_pos ⟨rfl, rfl⟩]; simp
      · show (sL (wSL (wSL S 39 0 (sL S 33 0)) 33 0 []) 39 0).length ≤ 80
        rw [sL_L, if_neg (by simp), sL_L, if_pos ⟨rfl, rfl⟩]; exact v4
      · rw [sI_I, if_neg (by simp), sI_I, if_pos ⟨rfl, rfl⟩]; simp
      · show 0 < (sL (wSL (wSL S 39 0 (sL S 33 0)) 33 0 []) 39 0).length
        rw [sL_L, if_neg (by simp), sL_L, if_pos ⟨rfl, rfl⟩]; omega
      · rw [sI_I, if_pos ⟨rfl, rfl⟩]; rfl
theorem WV.kbgnI (h : WV S) : WV (bgnI S) := by
  unfold bgnI
  split
  · rename_i e; exact h.kbgn1 e
  · exact h
theorem WV.kspkI (h : WV S) : WV (spkI S) := by
  unfold spkI
  split
  · exact h
  · rename_i e
    obtain ⟨v1, v2, v3, v4, v5, v6, v7⟩ := h
    obtain ⟨p, p1, p2⟩ := v7 e
    have e41 : sI (say2 S) 41 0 = nI (p + 1) := by
      unfold say2
      rw [sI_I, if_pos ⟨rfl, rfl⟩, p2, nI_1]
    have e38 : sI (say2 S) 38 0 = sI S 38 0 := by
      unfold say2
      rw [sI_I, if_neg (by simp), sI_I, if_neg (by simp), sI_I, if_neg (by simp)]
    have es : spk (say2 S) = p + 1 := by
      unfold spk
      rw [e41, nI_clamp (by omega)]
    unfold say3
    rw [es]
    by_cases e2 : p + 1 = (sL (say2 S) 39 0).length
    · rw [if_pos e2]
      refine ⟨v1, v2, v3, v4, v5, Or.inl ?_, fun z => absurd ?_ z⟩
      · rw [sI_I, if_pos ⟨rfl, rfl⟩]
      · rw [sI_I, if_pos ⟨rfl, rfl⟩]
    · rw [if_neg e2]
      refine ⟨v1, v2, v3, v4, v5, by rw [e38]; exact v6, fun _ => ⟨p + 1, ?_, e41⟩⟩
      have : sL (say2 S) 39 0 = sL S 39 0 := rfl
      rw [this] at e2 ⊢
      omega
theorem WN.kspkI {c : Nat} (h : WN S c) : WN (spkI S) (c + 1) := by
  unfold spkI
  split
  · exact h.mono (Nat.le_succ c)
  · obtain ⟨⟨a, a1, a2⟩, ⟨b, b1, b2⟩, e⟩ := h
    have hs3 : Sd [38] [] [] (say2 S) (say3 (say2 S)) := Sd.if (Sd.I (by decide)) Sd.rf
    refine WN.sd (S := say2 S) ?_ hs3 rfl
    unfold say2
    refine ⟨⟨a, by omega, ?_⟩, ⟨b + 1, by omega, ?_⟩, fun i => ?_⟩
    · rw [sI_I, if_neg (by simp), sI_I, if_neg (by simp), sI_I, if_neg (by simp)]; exact a2
    · rw [sI_I, if_neg (by simp), sI_I, if_pos ⟨rfl, rfl⟩, b2, nI_1]
    · rw [sI_I, if_neg (by simp), sI_I, if_neg (by simp), sI_I, if_neg (by simp)]
      rcases e i with q | ⟨n, q1, q2⟩
      · exact Or.inl q
      · exact Or.inr ⟨n, by omega, q2⟩
theorem WN.ktime {c : Nat} (h : WN S c) : WN (wSI S 46 0 (sI S 46 0 + 1)) (c + 1) := by
  obtain ⟨⟨a, a1, a2⟩, ⟨b, b1, b2⟩, e⟩ := h
  refine ⟨⟨a + 1, by omega, ?_⟩, ⟨b, by omega, ?_⟩, fun i => ?_⟩
  · rw [sI_I, if_pos ⟨rfl, rfl⟩, a2, nI_1]
  · rw [sI_I, if_neg (by simp)]; exact b2
  · rw [sI_I, if_neg (by simp)]
    rcases e i with q | ⟨n, q1, q2⟩
    · exact Or.inl q
    · exact Or.inr ⟨n, by omega, q2⟩
theorem tck_keep (hW : WT S) (hL : WL S) (hV : WV S) {c : Nat} (hN : WN S c) : WT (tck1 S) ∧ WL (tck1 S) ∧ WV (tck1 S) ∧ WN (tck1 S) (c + 2) ∧ (sQ (tck1 S) 35).length ≤ (sQ S 35).length := by
  have hV1 : WV (wSI S 46 0 (sI S 46 0 + 1)) := hV.i (by decide) (by decide)
  obtain ⟨hV2, hL2⟩ := WV.kkptF hV1 (S := wSI S 46 0 (sI S 46 0 + 1)) hL (made (wSI S 46 0 (sI S 46 0 + 1)))
  refine ⟨hW.sd (sd_tck1 S) rfl, ?_, hV2.kbgnI.kspkI, ?_, ?_⟩
  · exact (hL2.sd (sd_bgnI _) rfl rfl rfl).sd (sd_spkI _) rfl rfl rfl
  · have h1 := hN.ktime.kkptF (made (wSI S 46 0 (sI S 46 0 + 1)))
    exact (h1.sd (sd_bgnI _) rfl).kspkI
  · have h1 : sQ (tck1 S) 35 = sQ (bgnI (kpt (wSI S 46 0 (sI S 46 0 + 1)))) 35 := (sd_spkI _).q 35 rfl
    have h3 : sQ (kpt (wSI S 46 0 (sI S 46 0 + 1))) 35 = sQ S 35 := (sd_kptF _ _).q 35 rfl
    have h2 : ∀ T : SS, (sQ (bgnI T) 35).length ≤ (sQ T 35).length := by
      intro T
      unfold bgnI
      split
      · show (sQ (bgn1 T) 35).length ≤ _
        unfold bgn1
        cases hq : sQ T 35 with
        | cons t q => simp only []; show q.length ≤ _; simp
        | nil =>
          simp only []
          split
          · cases h30 : sQ T 30 with
            | cons t q => simp only []; show (sQ T 35).length ≤ _; rw [hq]; exact Nat.le_refl _
            | nil => simp only []; rw [hq]; exact Nat.le_refl _
          · show (sQ T 35).length ≤ _; rw [hq]; exact Nat.le_refl _
      · exact Nat.le_refl _
    rw [h1, ← h3]
    exact h2 _
end VB
section MK
variable {S : SS} {m : mm}
theorem m_kpt (hM : RM S m) (h : WT S) (hL : WL S) (hV : WV S) : ∃ m', fX11_comeKept m = some ((), m') ∧ RM (kpt S) m' := by
  have h40 := h.m40
  have key : ∃ m', itr (fX11_comeKept_B2) FU ((0 : Int32), m) = some m' ∧ RM (kpt S) m' := by
    refine itr_for (X := fun j x => x.1 = nI j ∧ RM (kptF S j) x.2) (made S) (fun j x hj hX => ?_) (fun x hX => ?_) (FU_lt (by omega)) ⟨rfl, show RM (kptF S 0) m from hM⟩
    · obtain ⟨i, m1⟩ := x
      obtain ⟨rfl, x1⟩ := hX
      obtain ⟨hV1, hL1⟩ := hV.kkptF hL j
      have hm : made (kptF S j) = made S := made_cg ((sd_kptF S j).i 0 rfl)
      obtain ⟨m2, a1, b1⟩ := m_kpt1 x1 (h.sd (sd_kptF S j) rfl) hL1 hV1 (r := j) (by rw [hm]; exact hj)
      exact ⟨_, a1, rfl, by rw [kptF_s]; exact b1⟩
    · obtain ⟨i, m1⟩ := x
      obtain ⟨rfl, x1⟩ := hX
      have hm : made (kptF S (made S)) = made S := made_cg ((sd_kptF S _).i 0 rfl)
      have hpw := (h.sd (sd_kptF S (made S)) rfl).pw
      refine ⟨m1, ?_, x1⟩
      unfold fX11_comeKept_B2
      show (if m1 0 0 ≤ nI (made S) then _ else _) = _
      simp only at x1
      rw [x1.made hpw, hm, if_pos (Int32.le_refl _)]
  obtain ⟨m', k1, k2⟩ := key
  exact ⟨m', by unfold fX11_comeKept; rw [k1]; rfl, k2⟩
theorem add1_sub (a b : Int32) : a + 1 - b = a - b + 1 := by
  rw [Int32.sub_eq_add_neg, Int32.sub_eq_add_neg, Int32.add_assoc, Int32.add_comm 1, ← Int32.add_assoc]
theorem m_tck1 (hM : RM S m) (h : WT S) (hL : WL S) (hV : WV S) {c : Nat} (hN : WN S c) (hc : c < 1000000) (h21 : (sQ S 35).length ≤ 23) (h48 : sI S 48 0 = 0) {n k : Nat} (hk : k < n) (hn : n ≤ 50) (b : Int32) : ∃ m', fX11_tick_B23 (nI n) (sI S 43 0 - b, nI k, m) = some (.inl (sI (tck1 S) 43 0 - b, nI (k + 1), m')) ∧ RM (tck1 S) m' := by
  have hM1 : RM (wSI S 46 0 (sI S 46 0 + 1)) (up2 m 46 0 (sI S 46 0 + 1)) := hM.wI0 rfl
  have hW1 : WT (wSI S 46 0 (sI S 46 0 + 1)) := h.sd (Sd.I (ki := [46]) (kl := []) (kq := []) (by decide)) rfl
  have hV1 : WV (wSI S 46 0 (sI S 46 0 + 1)) := hV.i (by decide) (by decide)
  obtain ⟨m2, a2, b2⟩ := m_kpt hM1 hW1 (S := wSI S 46 0 (sI S 46 0 + 1)) hL hV1
  obtain ⟨hV2, hL2⟩ := WV.kkptF hV1 (S := wSI S 46 0 (sI S 46 0 + 1)) hL (made (wSI S 46 0 (sI S 46 0 + 1)))
  have hN2 := hN.ktime.kkptF (made (wSI S 46 0 (sI S 46 0 + 1)))
  have hq2 : sQ (kpt (wSI S 46 0 (sI S 46 0 + 1))) 35 = sQ S 35 := (sd_kptF _ _).q 35 rfl
  have h3 : ∃ m3, (if (m2 38 0) = (-1 : Int32) then (oM (fX11_beginSpeech m2) fun _ m7 => some m7) else some m2) = some m3 ∧ RM (bgnI (kpt (wSI S 46 0 (sI S 46 0 + 1)))) m3 := by
    unfold bgnI
    rw [b2.p 38 rfl]
    by_cases e : sI (kpt (wSI S 46 0 (sI S 46 0 + 1))) 38 0 = -1
    · rw [if_pos e, if_pos e]
      obtain ⟨m3, a3, b3⟩ := m_bgn b2 hV2 (by rw [hq2]; exact h21)
      exact ⟨m3, by rw [a3, oMs], b3⟩
    · rw [if_neg e, if_neg e]; exact ⟨m2, rfl, b2⟩
  obtain ⟨m3, a3, b3⟩ := h3
  have hV3 : WV (bgnI (kpt (wSI S 46 0 (sI S 46 0 + 1)))) := hV2.kbgnI
  have hN3 : WN (bgnI (kpt (wSI S 46 0 (sI S 46 0 + 1)))) (c + 1) := hN2.sd (sd_bgnI _) rfl
  have e43 : sI (bgnI (kpt (wSI S 46 0 (sI S 46 0 + 1)))) 43 = sI S 43 := by
    rw [(sd_bgnI _).i 43 rfl]
    show sI (kptF _ _) 43 = _
    rw [(sd_kptF _ _).i 43 rfl]
    exact up2_ne S.1 0 (sI S 46 0 + 1) (show (43 : Nat) ≠ 46 by decide)
  have pre : fX11_tick_B23 (nI n) (sI S 43 0 - b, nI k, m) = if (m3 38 0) = (-1 : Int32) then (some (.inl (sI S 43 0 - b, nI k + (1 : Int32), m3))) else (oNz (100 : Int32)).bind fun _ => (mL 39 (m3 41 0) m3).bind fun x8 => (mS 42 ((m3 43 0) - (m3 43 0) / (100 : Int32) * (100 : Int32)) x8 m3).bind fun m9 => (mPI 43 ((m9 43 0) + (1 : Int32)) m9).bind fun m10 => (mPI 41 ((m10 41 0) + (1 : Int32)) m10).bind fun m11 => Option.bind (α := Int32) (if (m11 41 0) = (m11 40 0) then (some (-1 : Int32)) else some (m11 38 0)) fun q12 => (mPI 38 q12 m11).bind fun m14 => some (.inl (sI S 43 0 - b + (1 : Int32), nI k + (1 : Int32), m14)) := by
    unfold fX11_tick_B23
    show (if nI n ≤ nI k then _ else _) = _
    rw [if_neg (nI_ge hk (by omega))]
    show (if m 48 0 = 0 then _ else _) = _
    rw [hM.p 48 rfl, h48, if_pos rfl]
    simp only []
    rw [hM.p 46 rfl, mPIs, sb, a2, oMs, a3, sb]
  rw [pre, b3.p 38 rfl]
  unfold tck1 spkI
  by_cases e : sI (bgnI (kpt (wSI S 46 0 (sI S 46 0 + 1)))) 38 0 = -1
  · rw [if_pos e, if_pos e, e43, nI_1]
    exact ⟨m3, rfl, b3⟩
  · rw [if_neg e, if_neg e]
    generalize hT : bgnI (kpt (wSI S 46 0 (sI S 46 0 + 1))) = T at *
    obtain ⟨v1, v2, v3, v4, v5, v6, v7⟩ := hV3
    obtain ⟨p, p1, p2⟩ := v7 e
    obtain ⟨-, ⟨q, q1, q2⟩, -⟩ := hN3
    have hsp := b3.spo
    have hch : m3 39 p = ge (sL T 39 0) p := by
      have := hsp.2 p p1
      rw [Nat.mul_zero, Nat.zero_add] at this
      exact this
    have hspk : spk T = p := by unfold spk; rw [p2, nI_clamp (by omega)]
    have hnhd : nhd T = q := by unfold nhd; rw [q2, nI_clamp (by omega)]
    have hmod : q % 100 < 100 := Nat.mod_lt _ (by decide)
    have hM4 : RM (say2 T) (up2 (up2 (up2 m3 42 (q % 100) (ge (sL T 39 0) p)) 43 0 (sI T 43 0 + 1)) 41 0 (sI T 41 0 + 1)) := by
      unfold say2
      rw [hspk, hnhd]
      exact ((b3.wI0 rfl).wI0 rfl).wI0 rfl
    have e40 : (up2 (up2 (up2 m3 42 (q % 100) (ge (sL T 39 0) p)) 43 0 (sI T 43 0 + 1)) 41 0 (sI T 41 0 + 1)) 40 0 = nI (sL T 39 0).length := by
      rw [up_f _ _ _ (by decide), up_f _ _ _ (by decide), up_f _ _ _ (by decide)]; exact hsp.1
    have e41 : (up2 (up2 (up2 m3 42 (q % 100) (ge (sL T 39 0) p)) 43 0 (sI T 43 0 + 1)) 41 0 (sI T 41 0 + 1)) 41 0 = nI (p + 1) := by
      rw [up_s, p2, nI_1]
    have e38 : (up2 (up2 (up2 m3 42 (q % 100) (ge (sL T 39 0) p)) 43 0 (sI T 43 0 + 1)) 41 0 (sI T 41 0 + 1)) 38 0 = sI T 38 0 := by
      rw [up_f _ _ _ (by decide), up_f _ _ _ (by decide), up_f _ _ _ (by decide)]; exact b3.p 38 rfl 0
    have es : spk (say2 T) = p + 1 := by
      unfold spk say2
      rw [sI_I, if_pos ⟨rfl, rfl⟩, p2, nI_1, nI_clamp (by omega)]
    have e43' : sI (say2 T) 43 0 = sI S 43 0 + 1 := by
      unfold say2
      rw [sI_I, if_neg (by simp), sI_I, if_pos ⟨rfl, rfl⟩, e43]
    have hfin : ∃ m', (Option.bind (α := Int32) (if (up2 (up2 (up2 m3 42 (q % 100) (ge (sL T 39 0) p)) 43 0 (sI T 43 0 + 1)) 41 0 (sI T 41 0 + 1)) 41 0 = (up2 (up2 (up2 m3 42 (q % 100) (ge (sL T 39 0) p)) 43 0 (sI T 43 0 + 1)) 41 0 (sI T 41 0 + 1)) 40 0 then (some (-1 : Int32)) else some ((up2 (up2 (up2 m3 42 (q % 100) (ge (sL T 39 0) p)) 43 0 (sI T 43 0 + 1)) 41 0 (sI T 41 0 + 1)) 38 0)) fun q12 => mPI 38 q12 (up2 (up2 (up2 m3 42 (q % 100) (ge (sL T 39 0) p)) 43 0 (sI T 43 0 + 1)) 41 0 (sI T 41 0 + 1))) = some m' ∧ RM (say3 (say2 T)) m' := by
      rw [e41, e40, e38]
      unfold say3
      rw [es, show sL (say2 T) 39 0 = sL T 39 0 from rfl]
      by_cases e2 : p + 1 = (sL T 39 0).length
      · rw [if_pos (by rw [e2]), if_pos e2, sb, mPIs]
        exact ⟨_, rfl, hM4.wI0 rfl⟩
      · rw [if_neg (fun z => e2 ((nI_eq (by omega) (by omega)).mp z)), if_neg e2, sb, mPIs]
        refine ⟨_, rfl, ?_⟩
        rw [← e38, up2_self]; exact hM4
    obtain ⟨m', f1, f2⟩ := hfin
    refine ⟨m', ?_, f2⟩
    have hsay3 : sI (say3 (say2 T)) 43 0 = sI S 43 0 + 1 := by
      have : Sd [38] [] [] (say2 T) (say3 (say2 T)) := Sd.if (Sd.I (by decide)) Sd.rf
      rw [this.i 43 rfl, e43']
    rw [hsay3, add1_sub]
    rw [show oNz (100 : Int32) = some () from rfl, sb, b3.p 41 rfl, p2, mL_ok rfl (show p < 100 by omega), hch, sb, b3.p 43 rfl, q2, show (100 : Int32) = nI 100 from rfl, nI_rem (by omega) (by omega), mS_ok rfl (show q % 100 < 100 from hmod), sb, mPIs, sb, mPIs, sb]
    rw [up_f (k := 42) (k' := 43) _ _ _ (by decide), b3.p 43 rfl]
    rw [show (up2 (up2 m3 42 (q % 100) (ge (sL T 39 0) p)) 43 0 (sI T 43 0 + 1)) 41 0 = sI T 41 0 from by rw [up_f _ _ _ (by decide), up_f _ _ _ (by decide)]; exact b3.p 41 rfl 0]
    rw [← Option.bind_assoc, f1, sb, nI_1]
end MK

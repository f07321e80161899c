/-! ===== the reference's ticks ===== -/
theorem WT.sd {S S' : SS} {ki kl kq : List Nat} (h : WT S) (hs : Sd ki kl kq S S') (hk : (decide (0 ∉ ki) && decide (1 ∉ ki) && decide (2 ∉ ki) && decide (3 ∉ ki) && decide (12 ∉ ki)) = true) : WT S' := by
  simp only [Bool.and_eq_true] at hk
  exact h.cg (hs.i 0 hk.1.1.1.1) (hs.i 1 hk.1.1.1.2) (hs.i 2 hk.1.1.2) (hs.i 3 hk.1.2) (hs.i 12 hk.2) hs.2.2.2
theorem WN.sd {S S' : SS} {c : Nat} {ki kl kq : List Nat} (h : WN S c) (hs : Sd ki kl kq S S') (hk : (decide (46 ∉ ki) && decide (43 ∉ ki) && decide (15 ∉ ki)) = true) : WN S' c := by
  simp only [Bool.and_eq_true] at hk
  unfold WN at *
  rw [hs.i 46 hk.1.1, hs.i 43 hk.1.2, hs.i 15 hk.2]; exact h
theorem WN.mono {S : SS} {c d : Nat} (h : WN S c) (hd : c ≤ d) : WN S d := by
  obtain ⟨⟨a, a1, a2⟩, ⟨b, b1, b2⟩, e⟩ := h
  refine ⟨⟨a, by omega, a2⟩, ⟨b, by omega, b2⟩, fun i => ?_⟩
  rcases e i with q | ⟨n, q1, q2⟩
  · exact Or.inl q
  · exact Or.inr ⟨n, by omega, q2⟩
theorem WN.w15 {S : SS} {c r : Nat} (h : WN S c) : WN (wSI S 15 r (sI S 46 0)) c := by
  obtain ⟨⟨a, a1, a2⟩, ⟨b, b1, b2⟩, e⟩ := h
  refine ⟨⟨a, a1, by rw [sI_I, if_neg (by simp)]; exact a2⟩, ⟨b, b1, by rw [sI_I, if_neg (by simp)]; exact b2⟩, fun i => ?_⟩
  rw [sI_I]
  split
  · exact Or.inr ⟨a, a1, a2⟩
  · exact e i
theorem WN.kcNews {S : SS} {c : Nat} {t : List Int32} (h : WN S c) : WN (cNews S t) c := h.sd (sd_cNews S t) rfl
theorem WN.ktel {S : SS} {c : Nat} {r : Option Nat} {t : List Int32} (h : WN S c) : WN (tel S r t) c := by
  cases r with
  | none => exact h
  | some r =>
    unfold tel
    simp only []
    split
    · exact h
    · split
      · exact h.sd (sd_cAl S t) rfl
      · split
        · exact h.w15.kcNews
        · exact WN.sd (S := swl S r) (h.sd (sd_swl S r) rfl) (Sd.L (ki := []) (kl := [17]) (kq := []) (by decide)) rfl
theorem WN.kkpt1 {S : SS} {c r : Nat} (h : WN S c) : WN (kpt1 S r) c := by
  unfold kpt1
  split
  · exact h
  · split
    · exact (WN.w15 (S := wSL S 17 r []) (h.sd (Sd.L (ki := []) (kl := [17]) (kq := []) (by decide)) rfl)).kcNews
    · exact h.sd (sd_swl S r) rfl
theorem WN.kkptF {S : SS} {c : Nat} (h : WN S c) : ∀ n, WN (kptF S n) c
  | 0 => h
  | n + 1 => by rw [kptF_s]; exact (WN.kkptF h n).kkpt1
section VB
variable {S : SS}
theorem WV.kbgn1 (h : WV S) (hs : sI S 38 0 = -1) : WV (bgn S) := by
  obtain ⟨v1, v2, v3, v4, v5, v6, v7⟩ := h
  unfold bgn bgn1
  cases h35 : sQ S 35 with
  | cons t q =>
    simp only []
    rw [h35] at v3
    have ht := v3 t List.mem_cons_self
    refine ⟨v1, v2, fun s hs2 => v3 s (List.mem_cons_of_mem _ hs2), ?_, ?_, ?_, fun _ => ⟨0, ?_, ?_⟩⟩
    · exact v4
    · show (sL (wSL S 39 0 t) 39 0).length ≤ 80
      rw [sL_L, if_pos ⟨rfl, rfl⟩]; exact ht.2
    · rw [sI_I, if_neg (by simp), sI_I, if_pos ⟨rfl, rfl⟩]; simp
    · show 0 < (sL (wSL S 39 0 t) 39 0).length
      rw [sL_L, if_pos ⟨rfl, rfl⟩]; exact ht.1
    · rw [sI_I, if_pos ⟨rfl, rfl⟩]; rfl
  | nil =>
    simp only []
    by_cases e : (sL S 33 0).length = 0
    · rw [if_pos e]
      cases h30 : sQ S 30 with
      | cons t q =>
        simp only []
        rw [h30] at v1 v2
        have ht := v2 t List.mem_cons_self
        refine ⟨by show q.length ≤ 5; simp at v1; omega, fun s hs2 => v2 s (List.mem_cons_of_mem _ hs2), v3, v4, ?_, ?_, fun _ => ⟨0, ?_, ?_⟩⟩
        · show (sL (wSL S 39 0 t) 39 0).length ≤ 80
          rw [sL_L, if_pos ⟨rfl, rfl⟩]; exact ht.2
        · rw [sI_I, if_neg (by simp), sI_I, if_pos ⟨rfl, rfl⟩]; simp
        · show 0 < (sL (wSL S 39 0 t) 39 0).length
          rw [sL_L, if_pos ⟨rfl, rfl⟩]; exact ht.1
        · rw [sI_I, if_pos ⟨rfl, rfl⟩]; rfl
      | nil =>
        simp only []
        refine ⟨by rw [sQ_I]; exact v1, by rw [sQ_I]; exact v2, by rw [sQ_I]; exact v3, v4, v5, ?_, fun z => absurd ?_ z⟩
        · rw [sI_I, if_neg (by simp)]; exact v6
        · rw [sI_I, if_neg (by simp)]; exact hs
    · rw [if_neg e]
      refine ⟨v1, v2, v3, ?_, ?_, ?_, fun _ => ⟨0, ?_, ?_⟩⟩
      · show (sL (wSL (wSL S 39 0 (sL S 33 0)) 33 0 []) 33 0).length ≤ 80
        rw [sL_L, if_pos ⟨rfl, rfl⟩]; simp
      · show (sL (wSL (wSL S 39 0 (sL S 33 0)) 33 0 []) 39 0).length ≤ 80
        rw [sL_L, if_neg (by simp), sL_L, if_pos ⟨rfl, rfl⟩]; exact v4
      · rw [sI_I, if_neg (by simp), sI_I, if_pos ⟨rfl, rfl⟩]; simp
      · show 0 < (sL (wSL (wSL S 39 0 (sL S 33 0)) 33 0 []) 39 0).length
        rw [sL_L, if_neg (by simp), sL_L, if_pos ⟨rfl, rfl⟩]; omega
      · rw [sI_I, if_pos ⟨rfl, rfl⟩]; rfl
theorem WV.kbgnI (h : WV S) : WV (bgnI S) := by
  unfold bgnI
  split
  · rename_i e; exact h.kbgn1 e
  · exact h
theorem WV.kspkI (h : WV S) : WV (spkI S) := by
  unfold spkI
  split
  · exact h
  · rename_i e
    obtain ⟨v1, v2, v3, v4, v5, v6, v7⟩ := h
    obtain ⟨p, p1, p2⟩ := v7 e
    have e41 : sI (say2 S) 41 0 = nI (p + 1) := by
      unfold say2
      rw [sI_I, if_pos ⟨rfl, rfl⟩, p2, nI_1]
    have e38 : sI (say2 S) 38 0 = sI S 38 0 := by
      unfold say2
      rw [sI_I, if_neg (by simp), sI_I, if_neg (by simp), sI_I, if_neg (by simp)]
    have es : spk (say2 S) = p + 1 := by
      unfold spk
      rw [e41, nI_clamp (by omega)]
    unfold say3
    rw [es]
    by_cases e2 : p + 1 = (sL (say2 S) 39 0).length
    · rw [if_pos e2]
      refine ⟨v1, v2, v3, v4, v5, Or.inl ?_, fun z => absurd ?_ z⟩
      · rw [sI_I, if_pos ⟨rfl, rfl⟩]
      · rw [sI_I, if_pos ⟨rfl, rfl⟩]
    · rw [if_neg e2]
      refine ⟨v1, v2, v3, v4, v5, by rw [e38]; exact v6, fun _ => ⟨p + 1, ?_, e41⟩⟩
      have : sL (say2 S) 39 0 = sL S 39 0 := rfl
      rw [this] at e2 ⊢
      omega
theorem WN.kspkI {c : Nat} (h : WN S c) : WN (spkI S) (c + 1) := by
  unfold spkI
  split
  · exact h.mono (Nat.le_succ c)
  · obtain ⟨⟨a, a1, a2⟩, ⟨b, b1, b2⟩, e⟩ := h
    have hs3 : Sd [38] [] [] (say2 S) (say3 (say2 S)) := Sd.if (Sd.I (by decide)) Sd.rf
    refine WN.sd (S := say2 S) ?_ hs3 rfl
    unfold say2
    refine ⟨⟨a, by omega, ?_⟩, ⟨b + 1, by omega, ?_⟩, fun i => ?_⟩
    · rw [sI_I, if_neg (by simp), sI_I, if_neg (by simp), sI_I, if_neg (by simp)]; exact a2
    · rw [sI_I, if_neg (by simp), sI_I, if_pos ⟨rfl, rfl⟩, b2, nI_1]
    · rw [sI_I, if_neg (by simp), sI_I, if_neg (by simp), sI_I, if_neg (by simp)]
      rcases e i with q | ⟨n, q1, q2⟩
      · exact Or.inl q
      · exact Or.inr ⟨n, by omega, q2⟩
theorem WN.ktime {c : Nat} (h : WN S c) : WN (wSI S 46 0 (sI S 46 0 + 1)) (c + 1) := by
  obtain ⟨⟨a, a1, a2⟩, ⟨b, b1, b2⟩, e⟩ := h
  refine ⟨⟨a + 1, by omega, ?_⟩, ⟨b, by omega, ?_⟩, fun i => ?_⟩
  · rw [sI_I, if_pos ⟨rfl, rfl⟩, a2, nI_1]
  · rw [sI_I, if_neg (by simp)]; exact b2
  · rw [sI_I, if_neg (by simp)]
    rcases e i with q | ⟨n, q1, q2⟩
    · exact Or.inl q
    · exact Or.inr ⟨n, by omega, q2⟩
theorem tck_keep (hW : WT S) (hL : WL S) (hV : WV S) {c : Nat} (hN : WN S c) : WT (tck1 S) ∧ WL (tck1 S) ∧ WV (tck1 S) ∧ WN (tck1 S) (c + 2) ∧ (sQ (tck1 S) 35).length ≤ (sQ S 35).length := by
  have hV1 : WV (wSI S 46 0 (sI S 46 0 + 1)) := hV.i (by decide) (by decide)
  obtain ⟨hV2, hL2⟩ := WV.kkptF hV1 (S := wSI S 46 0 (sI S 46 0 + 1)) hL (made (wSI S 46 0 (sI S 46 0 + 1)))
  refine ⟨hW.sd (sd_tck1 S) rfl, ?_, hV2.kbgnI.kspkI, ?_, ?_⟩
  · exact (hL2.sd (sd_bgnI _) rfl rfl rfl).sd (sd_spkI _) rfl rfl rfl
  · have h1 := hN.ktime.kkptF (made (wSI S 46 0 (sI S 46 0 + 1)))
    exact (h1.sd (sd_bgnI _) rfl).kspkI
  · have h1 : sQ (tck1 S) 35 = sQ (bgnI (kpt (wSI S 46 0 (sI S 46 0 + 1)))) 35 := (sd_spkI _).q 35 rfl
    have h3 : sQ (kpt (wSI S 46 0 (sI S 46 0 + 1))) 35 = sQ S 35 := (sd_kptF _ _).q 35 rfl
    have h2 : ∀ T : SS, (sQ (bgnI T) 35).length ≤ (sQ T 35).length := by
      intro T
      unfold bgnI
      split
      · show (sQ (bgn1 T) 35).length ≤ _
        unfold bgn1
        cases hq : sQ T 35 with
        | cons t q => simp only []; show q.length ≤ _; simp
        | nil =>
          simp only []
          split
          · cases h30 : sQ T 30 with
            | cons t q => simp only []; show (sQ T 35).length ≤ _; rw [hq]; exact Nat.le_refl _
            | nil => simp only []; rw [hq]; exact Nat.le_refl _
          · show (sQ T 35).length ≤ _; rw [hq]; exact Nat.le_refl _
      · exact Nat.le_refl _
    rw [h1, ← h3]
    exact h2 _
end VB
section MK
variable {S : SS} {m : mm}
theorem add1_sub (a b : Int32) : a + 1 - b = a - b + 1 := by
  rw [Int32.sub_eq_add_neg, Int32.sub_eq_add_neg, Int32.add_assoc, Int32.add_comm 1, ← Int32.add_assoc]
end MK

/-! ===== the class anew bears the first desk ===== -/
def kDg (i : Nat) : cel := (kD 0).getD i dc
def Fin0 (B : Nat) (h : hp) : Prop := (∀ i, i < 88 → i ≠ 81 → i ≠ 82 → hT h (B + i) = (kDg i).1 ∧ (∀ k, hI h (B + i) k = cIv (kDg i) k) ∧ (i ≠ 0 → ∀ k, hR h (B + i) k = cRv B (kDg i) k)) ∧ (hR h B 0 = some (B + 1) ∧ hR h B 1 = some (B + 12) ∧ hR h B 2 = some (B + 76) ∧ hR h B 3 = some (B + 79) ∧ hR h B 4 = some (B + 88)) ∧ Cd h (B + 81) 64 (ln S00) ∧ Cd h (B + 88) 12 []
theorem tR {B i k j : Nat} (hd : lk (kDg i).2.2 k = some (some (.inl j))) : cRv B (kDg i) k = some (B + j) := by
  unfold cRv
  rw [hd]; rfl
theorem tN {B i k : Nat} (hd : lk (kDg i).2.2 k = none ∨ lk (kDg i).2.2 k = some none) : cRv B (kDg i) k = none := by
  unfold cRv
  rcases hd with hd | hd <;> rw [hd] <;> rfl
section TB
variable {B : Nat} {h : hp}
theorem cd_tab {n i : Nat} (ht1 : hT h (B + i) = (kDg i).1) (hi1 : ∀ k, hI h (B + i) k = cIv (kDg i) k) (hr1 : ∀ k, hR h (B + i) k = cRv B (kDg i) k) (ht2 : hT h (B + i + 1) = (kDg (i + 1)).1) (hn : n < 1000) (hd : kDg i = ((1, 0), [], [(0, some (.inl (i + 1)))]) ∧ (kDg (i + 1)).1 = (20, n)) : Cd h (B + i) n [] := by
  refine ⟨by rw [ht1, hd.1], by rw [hr1, hd.1]; rfl, by rw [ht2, hd.2], by rw [hi1, hd.1]; rfl, Nat.zero_le _, hn, Sl_nil⟩
theorem el_tab {E : Nat → Nat} (hE : E 0 = B + 2) (hh : ∀ i, 2 ≤ i → i < 10 → hT h (B + i) = (kDg i).1 ∧ (∀ k, hI h (B + i) k = cIv (kDg i) k) ∧ ∀ k, hR h (B + i) k = cRv B (kDg i) k) : EL S00 E 0 h := by
  have t := fun i h1 h2 => (hh i h1 h2).1
  have n := fun i h1 h2 => (hh i h1 h2).2.1
  have r := fun i h1 h2 => (hh i h1 h2).2.2
  unfold EL
  rw [hE]
  refine ⟨by rw [t 2 (by decide) (by decide)]; decide +kernel, by rw [t 3 (by decide) (by decide)]; decide +kernel, ⟨?_, ?_, ?_, ?_, ?_, ?_, fun z => absurd z (by decide +kernel), ?_, fun z => absurd z (by decide +kernel)⟩, ⟨?_, ?_, ?_, ?_, ?_, fun k hk => absurd hk (Nat.not_lt_zero k)⟩, ?_, ?_, ?_⟩
  · rw [n 2 (by decide) (by decide)]; decide +kernel
  · rw [n 2 (by decide) (by decide)]; decide +kernel
  · rw [n 2 (by decide) (by decide)]; decide +kernel
  · rw [n 2 (by decide) (by decide)]; decide +kernel
  · rw [n 2 (by decide) (by decide)]; decide +kernel
  · rw [n 2 (by decide) (by decide)]; decide +kernel
  · rw [n 2 (by decide) (by decide)]; decide +kernel
  · rw [r 2 (by decide) (by decide), if_pos rfl]
    exact tN (by decide +kernel)
  · rw [r 2 (by decide) (by decide)]
    exact tR (j := 3) (by decide +kernel)
  · rw [r 2 (by decide) (by decide)]
    exact tR (j := 4) (by decide +kernel)
  · rw [r 2 (by decide) (by decide)]
    exact tR (j := 6) (by decide +kernel)
  · rw [r 2 (by decide) (by decide)]
    exact tR (j := 8) (by decide +kernel)
  · exact cd_tab (i := 4) (t 4 (by decide) (by decide)) (n 4 (by decide) (by decide)) (r 4 (by decide) (by decide)) (t 5 (by decide) (by decide)) (by decide) (by decide +kernel)
  · exact cd_tab (i := 6) (n := capC S00 0) (t 6 (by decide) (by decide)) (n 6 (by decide) (by decide)) (r 6 (by decide) (by decide)) (t 7 (by decide) (by decide)) (by decide +kernel) (by decide +kernel)
  · exact cd_tab (i := 8) (n := capK S00 0) (t 8 (by decide) (by decide)) (n 8 (by decide) (by decide)) (r 8 (by decide) (by decide)) (t 9 (by decide) (by decide)) (by decide +kernel) (by decide +kernel)
theorem c_new (h : hp) : ∃ h', fX10_init (hN h) (wN h (10, 0)) = some ((), h') ∧ Fin0 (hN h) h' ∧ hN h' = hN h + 90 := by
  generalize hB : hN h = B
  have e0 : wN h (10, 0) = bl B ([] ++ ((10, 0), [], []) :: []) h := by
    have := bl_wN (B := hN h) (L := []) (h := h) (10, 0)
    rw [bl_0, hB] at this
    exact this
  have hD := b_D1 (B := B) (L := []) (h := h)
  rw [← e0] at hD
  have hlen : (kD 0).length = 88 := kD_len 0
  have tt : ∀ i, i < 88 → hT (bl B (kD 0) h) (B + i) = (kDg i).1 := fun i hi => bl_T (by rw [hlen]; exact hi)
  have ti : ∀ i, i < 88 → ∀ k, hI (bl B (kD 0) h) (B + i) k = cIv (kDg i) k := fun i hi k => bl_I (by rw [hlen]; exact hi) k
  have tr : ∀ i, i < 88 → ∀ k, hR (bl B (kD 0) h) (B + i) k = cRv B (kDg i) k := fun i hi k => bl_R (by rw [hlen]; exact hi) k
  have hN0 : hN (bl B (kD 0) h) = B + 88 := by rw [bl_N, hlen]
  replace hD : fX10_init B (wN h (10, 0)) = o2 (fX3_keep (B + 80) (some (B + 2)) (0 : Int32) (bl B (kD 0) h)) fun _ h15 => (oPR 9 3 (some B) (some (B + 79)) h15).bind fun h16 => o2 (fX1_init (hN h16) (12 : Int32) (wN h16 (1, 0))) fun _ h18 => (oPR 9 4 (some B) (some (hN h16)) h18).bind fun h19 => some (((), h19)) := by
    have e1 : ∀ k, ([] : List cel).length + k = k := fun k => Nat.zero_add k
    rw [e1, e1, e1] at hD
    exact hD
  generalize hH : bl B (kD 0) h = H at *
  have es : ES S00 (fun _ => B + 2) H := ⟨fun i hi => by
    rw [made_00] at hi
    rw [show i = 0 by omega]
    exact el_tab rfl (fun i h1 h2 => ⟨tt i (by omega), ti i (by omega), tr i (by omega)⟩), fun i j hi hj _ => by rw [made_00] at hi hj; omega⟩
  have hC := Inv_00.1.1
  have c0 : Cd H (B + 81) 64 [] := cd_tab (i := 81) (tt 81 (by decide)) (ti 81 (by decide)) (tr 81 (by decide)) (tt 82 (by decide)) (by decide) (by decide +kernel)
  obtain ⟨h1, a1, c1, g1⟩ := b_line es hC.t hC.l hC.k hC.c hC.xt (b := B + 81) (fun j hj => by rw [made_00] at hj; omega) c0
  rw [show sI S00 22 0 = 0 from by decide +kernel] at a1
  have m1 : ∀ a ∈ [B + 81, B + 81 + 1], a = B + 81 ∨ a = B + 82 := by
    intro a ha
    simp only [List.mem_cons, List.not_mem_nil, or_false] at ha
    omega
  have nn : ∀ a, a ≠ B + 81 → a ≠ B + 82 → a ∉ [B + 81, B + 81 + 1] := fun a q1 q2 z => by have := m1 a z; omega
  have t80 : (hT H (B + 80)).1 = 2 + 1 := by rw [tt 80 (by decide)]; decide +kernel
  have ek : fX3_keep (B + 80) (some (B + 2)) (0 : Int32) H = some ((), h1) := by
    have e1 : oGR 2 0 (some (B + 80)) H = some (some (B + 81)) := hgR t80 (by rw [tr 80 (by decide)]; exact tR (by decide +kernel))
    have e2 : oGI 2 2 (some (B + 80)) h1 = some 0 := hgI (by rw [g1.T]; exact t80) (by rw [g1.I (nn _ (by omega) (by omega)), ti 80 (by decide)]; decide +kernel)
    unfold fX3_keep
    rw [e1, sb, a1, o2s, e2, sb, if_pos (Int32.le_refl _)]
  have t0 : (hT h1 B).1 = 9 + 1 := by
    have := tt 0 (by decide)
    rw [Nat.add_zero] at this
    rw [g1.T, this]; decide +kernel
  have hN1 : hN (wR h1 B 3 (some (B + 79))) = B + 88 := by
    show hN h1 = _
    rw [g1.1, hN0]
  have hb := b_C (B := hN (wR h1 B 3 (some (B + 79)))) (L := []) (h := wR h1 B 3 (some (B + 79))) (n := 12) (by decide)
  rw [bl_0] at hb
  have hb' : fX1_init (hN (wR h1 B 3 (some (B + 79)))) (12 : Int32) (wN (wR h1 B 3 (some (B + 79))) (1, 0)) = some ((), bl (B + 88) (kC 0 12) (wR h1 B 3 (some (B + 79)))) := by
    rw [hN1] at hb ⊢
    exact hb
  have t0' : (hT (bl (B + 88) (kC 0 12) (wR h1 B 3 (some (B + 79)))) B).1 = 9 + 1 := by
    rw [bh_T, if_neg (by omega)]
    exact t0
  have far : ∀ a, a < B + 88 → ¬ (B + 88 ≤ a ∧ a < B + 88 + (kC 0 12).length) := fun a ha => by omega
  refine ⟨wR (bl (B + 88) (kC 0 12) (wR h1 B 3 (some (B + 79)))) B 4 (some (B + 88)), ?_, ⟨fun i hi h81 h82 => ⟨?_, fun k => ?_, fun i0 k => ?_⟩, ⟨?_, ?_, ?_, ?_, ?_⟩, ?_, ?_⟩, ?_⟩
  · rw [hD, ek, o2s, oPR_ok t0, sb, hb', o2s, hN1, oPR_ok t0', sb]
  · show hT (bl (B + 88) (kC 0 12) (wR h1 B 3 (some (B + 79)))) (B + i) = _
    rw [bh_T, if_neg (far _ (by omega))]
    show hT h1 (B + i) = _
    rw [g1.T]
    exact tt i hi
  · show hI (bl (B + 88) (kC 0 12) (wR h1 B 3 (some (B + 79)))) (B + i) k = _
    rw [bh_I, if_neg (far _ (by omega))]
    show hI h1 (B + i) k = _
    rw [g1.I (nn _ (by omega) (by omega))]
    exact ti i hi k
  · rw [hR_o _ _ _ (by omega), bh_R, if_neg (far _ (by omega)), hR_o _ _ _ (by omega), g1.R (nn _ (by omega) (by omega))]
    exact tr i hi k
  · rw [hR_n _ _ _ (by decide), bh_R, if_neg (far _ (by omega)), hR_n _ _ _ (by decide), g1.R (nn _ (by omega) (by omega))]
    have := tr 0 (by decide) 0
    rw [Nat.add_zero] at this
    rw [this]
    exact tR (by decide +kernel)
  · rw [hR_n _ _ _ (by decide), bh_R, if_neg (far _ (by omega)), hR_n _ _ _ (by decide), g1.R (nn _ (by omega) (by omega))]
    have := tr 0 (by decide) 1
    rw [Nat.add_zero] at this
    rw [this]
    exact tR (by decide +kernel)
  · rw [hR_n _ _ _ (by decide), bh_R, if_neg (far _ (by omega)), hR_n _ _ _ (by decide), g1.R (nn _ (by omega) (by omega))]
    have := tr 0 (by decide) 2
    rw [Nat.add_zero] at this
    rw [this]
    exact tR (by decide +kernel)
  · rw [hR_n _ _ _ (by decide), bh_R, if_neg (far _ (by omega)), hR_s]
  · rw [hR_s]
  · obtain ⟨b1, b2, b3, b4, b5, b6, b7⟩ := c1
    refine ⟨?_, ?_, ?_, ?_, b5, b6, ?_⟩
    · show (hT (bl (B + 88) (kC 0 12) (wR h1 B 3 (some (B + 79)))) (B + 81)).1 = 1
      rw [bh_T, if_neg (far _ (by omega))]
      exact b1
    · rw [hR_o _ _ _ (by omega), bh_R, if_neg (far _ (by omega)), hR_o _ _ _ (by omega)]
      exact b2
    · show hT (bl (B + 88) (kC 0 12) (wR h1 B 3 (some (B + 79)))) (B + 81 + 1) = _
      rw [bh_T, if_neg (far _ (by omega))]
      exact b3
    · show hI (bl (B + 88) (kC 0 12) (wR h1 B 3 (some (B + 79)))) (B + 81) 1 = _
      rw [bh_I, if_neg (far _ (by omega))]
      exact b4
    · refine Sl_eq b7 (fun k _ => ?_)
      show hI (bl (B + 88) (kC 0 12) (wR h1 B 3 (some (B + 79)))) (B + 81 + 1) (0 + k) = _
      rw [bh_I, if_neg (far _ (by omega))]; rfl
  · have q0 : ∀ k, hI (bl (B + 88) (kC 0 12) (wR h1 B 3 (some (B + 79)))) (B + 88 + 0) k = cIv ((kC 0 12).getD 0 dc) k := fun k => bl_I (by decide) k
    have q1 : hT (bl (B + 88) (kC 0 12) (wR h1 B 3 (some (B + 79)))) (B + 88 + 0) = ((kC 0 12).getD 0 dc).1 := bl_T (by decide)
    have q2 : hT (bl (B + 88) (kC 0 12) (wR h1 B 3 (some (B + 79)))) (B + 88 + 1) = ((kC 0 12).getD 1 dc).1 := bl_T (by decide)
    have q3 : hR (bl (B + 88) (kC 0 12) (wR h1 B 3 (some (B + 79)))) (B + 88 + 0) 0 = cRv (B + 88) ((kC 0 12).getD 0 dc) 0 := bl_R (by decide) 0
    rw [Nat.add_zero] at q0 q1 q3
    refine ⟨?_, ?_, ?_, ?_, Nat.zero_le _, by decide, Sl_nil⟩
    · show (hT (bl (B + 88) (kC 0 12) (wR h1 B 3 (some (B + 79)))) (B + 88)).1 = 1
      rw [q1]; rfl
    · rw [hR_o _ _ _ (by omega), q3]; rfl
    · show hT (bl (B + 88) (kC 0 12) (wR h1 B 3 (some (B + 79)))) (B + 88 + 1) = _
      rw [q2]; rfl
    · show hI (bl (B + 88) (kC 0 12) (wR h1 B 3 (some (B + 79)))) (B + 88) 1 = _
      rw [q0]; rfl
  · show B + 88 + 2 = B + 90
    omega
end TB

/-! ===== the class's pins ===== -/
section PN
variable {B : Nat} {E : Nat → Nat} {S : SS} {li : List Int32} {od : List Nat} {h h' : hp}
theorem EL.sd {S S' : SS} {i : Nat} (x : EL S E i h) (hi : ∀ k, k ∈ [2, 3, 10, 11, 12, 13, 14, 15] → sI S' k = sI S k) (hl : ∀ k, k ∈ [6, 8, 17] → sL S' k = sL S k) (hK : sK S' = sK S) : EL S' E i h := by
  obtain ⟨a1, a2, a3, a4, a5, a6, a7⟩ := x
  have e : ∀ k, decide (k ∈ [2, 3, 10, 11, 12, 13, 14, 15]) = true → sI S' k = sI S k := fun k hk => hi k (of_decide_eq_true hk)
  have el : ∀ k, decide (k ∈ [6, 8, 17]) = true → sL S' k = sL S k := fun k hk => hl k (of_decide_eq_true hk)
  refine ⟨a1, a2, ?_, ?_, by rw [el 6 rfl]; exact a5, ?_, ?_⟩
  · unfold EI at *
    rw [e 2 rfl, e 10 rfl, e 11 rfl, e 12 rfl, e 13 rfl, e 14 rfl, e 15 rfl, hK]; exact a3
  · unfold ER at *
    rw [dpar_cg (e 3 rfl), hK]; exact a4
  · unfold capC at *
    rw [e 2 rfl, el 8 rfl]; exact a6
  · unfold capK at *
    rw [e 2 rfl, el 17 rfl]; exact a7
theorem TR.sd {S S' : SS} (x : TR B S E h) (h0 : sI S' 0 = sI S 0) (h1 : sI S' 1 = sI S 1) : TR B S' E h := by
  have hn : nTh S' = nTh S := by unfold nTh; rw [made_cg h0, h1]
  unfold TR at *
  rw [made_cg h0, hn, h1]; exact x
theorem VO.sd {S S' : SS} (x : VO B S h) (hi : ∀ k, k ∈ [38, 41] → sI S' k = sI S k) (hl : ∀ k, k ∈ [33, 39] → sL S' k = sL S k) (hq : ∀ k, k ∈ [30, 35] → sQ S' k = sQ S k) : VO B S' h := by
  unfold VO at *
  rw [hi 38 (by decide), hi 41 (by decide), hl 33 (by decide), hl 39 (by decide), hq 30 (by decide), hq 35 (by decide)]; exact x
theorem RDp.sd {S S' : SS} (x : RDp B S E h) (h20 : sI S' 20 = sI S 20) (h21 : sI S' 21 = sI S 21) : RDp B S' E h := by
  unfold RDp at *
  rw [cur_cg h20, h21]; exact x
theorem fx_u : ∀ p ∈ fxI, ∀ q ∈ fxI, (p.1 = q.1 → p.2.1 = q.2.1 → p.2.2 = q.2.2) ∧ (p.2.2 = q.2.2 → p.1 = q.1 ∧ p.2.1 = q.2.1) := by decide
/-- a number of a fixed object that no other part looks at -/
theorem RW.num (x : RW B E S li od h) {o f k : Nat} (hm : (o, f, k) ∈ fxI) (hk : k = 25 ∨ k = 43 ∨ k = 44 ∨ k = 45 ∨ k = 46) (v : Int32) : RW B E (wSI S k 0 v) li od (wI h (B + o) f v) := by
  obtain ⟨a1, a2, a3, a4, a5, a6, a7, a8, ⟨⟨l1, s1⟩, ⟨l2, s2⟩, ⟨l3, s3⟩⟩, a10, a11, a12⟩ := x
  have e : ∀ k', k' ≠ k → sI (wSI S k 0 v) k' = sI S k' := fun k' hne => up2_ne S.1 0 v hne
  have hof : (o = 80 ∧ f = 2) ∨ (o = 12 ∧ f = 9) ∨ (o = 12 ∧ f = 10) ∨ (o = 76 ∧ f = 4) ∨ (o = 76 ∧ f = 3) := by
    have : ∀ p ∈ fxI, (p.2.2 = 25 ∨ p.2.2 = 43 ∨ p.2.2 = 44 ∨ p.2.2 = 45 ∨ p.2.2 = 46) → ((p.1 = 80 ∧ p.2.1 = 2) ∨ (p.1 = 12 ∧ p.2.1 = 9) ∨ (p.1 = 12 ∧ p.2.1 = 10) ∨ (p.1 = 76 ∧ p.2.1 = 4) ∨ (p.1 = 76 ∧ p.2.1 = 3)) := by decide
    exact this _ hm hk
  have y : Ag [B + o] h (wI h (B + o) f v) := Ag.wI (List.mem_singleton.mpr rfl)
  have nn : ∀ a, a ≠ B + o → a ∉ [B + o] := fun a q z => q (List.mem_singleton.mp z)
  have hon : o = 80 ∨ o = 12 ∨ o = 76 := by omega
  have far : ∀ i, i < made S → ∀ a ∈ [B + o], a < E i ∨ E i + 8 ≤ a := fun i hi a ha => by
    rw [List.mem_singleton.mp ha]
    exact a2.far hi (by omega) (by omega)
  refine ⟨⟨a1.1, a1.2.1, a1.2.2⟩, by rw [made_cg (e 0 (by omega))]; exact a2, ⟨fun p hp => ?_, fun z => ?_, fun z => ?_, fun j hj => ?_⟩, fun i hi => ?_, ?_, ?_, ?_, ?_, ⟨⟨l1, s1.ag y (nn _ (by omega)) (nn _ (by omega))⟩, ⟨l2, s2.ag y (nn _ (by omega)) (nn _ (by omega))⟩, ⟨l3, s3.ag y (nn _ (by omega)) (nn _ (by omega))⟩⟩, a10.ag y (nn _ (by omega)) (nn _ (by omega)), a11.ag y (nn _ (by omega)) (nn _ (by omega)), a12.ag y (fun a ha => by rw [List.mem_singleton.mp ha]; omega) (fun k' hk' => e k' (by omega))⟩
  · obtain ⟨u1, u2⟩ := fx_u p hp _ hm
    by_cases q : p.2.2 = k
    · obtain ⟨w1, w2⟩ := u2 q
      rw [q, w1, w2, hI_s, sI_I, if_pos ⟨rfl, rfl⟩]
    · rw [e _ q]
      by_cases q1 : p.1 = o
      · have q2 : p.2.1 ≠ f := fun z => q (u1 q1 z)
        rw [q1, hI_n _ _ _ q2, ← q1]
        exact a3.1 p hp
      · rw [hI_o _ _ _ (by omega)]
        exact a3.1 p hp
  · rw [e 22 (by omega)] at z
    rw [hI_o _ _ _ (by omega), e 23 (by omega), e 24 (by omega)]
    exact a3.2.1 z
  · rw [e 26 (by omega)] at z
    rw [hI_o _ _ _ (by omega), e 27 (by omega)]
    exact a3.2.2.1 z
  · rw [hI_o _ _ _ (by omega), e 42 (by omega)]
    exact a3.2.2.2 j hj
  · rw [made_cg (e 0 (by omega))] at hi
    refine ((a4 i hi).ag y (far i hi)).sd (fun k' hk' => e k' ?_) (fun _ _ => rfl) rfl
    simp only [List.mem_cons, List.not_mem_nil, or_false] at hk'
    omega
  · exact (a5.ag y (fun a ha => by rw [List.mem_singleton.mp ha]; omega)).sd (e 0 (by omega)) (e 1 (by omega))
  · exact a6.ag y (fun a ha => by rw [List.mem_singleton.mp ha]; omega)
  · refine VO.sd (S := S) ?_ (fun k' hk' => e k' ?_) (fun _ _ => rfl) (fun _ _ => rfl)
    · rcases hof with ⟨rfl, rfl⟩ | ⟨rfl, rfl⟩ | ⟨rfl, rfl⟩ | ⟨rfl, rfl⟩ | ⟨rfl, rfl⟩
      · exact a7.ag y (fun a ha => by rw [List.mem_singleton.mp ha]; omega)
      · obtain ⟨⟨p, b1⟩, ⟨p2, b2⟩, ⟨l, k0, b3, b4⟩, ⟨l', k2, c1, c2⟩⟩ := a7
        refine ⟨⟨p, b1.ag y (fun a ha => by rw [List.mem_singleton.mp ha]; omega)⟩, ⟨p2, b2.ag y (fun a ha => by rw [List.mem_singleton.mp ha]; omega)⟩, ⟨l, k0, b3.ag y (nn _ (by omega)) (nn _ (by omega)), ?_⟩, ⟨l', k2, c1.ag y (nn _ (by omega)) (nn _ (by omega)), ?_⟩⟩
        · rw [hI_n _ _ _ (by decide), hI_n _ _ _ (by decide)]; exact b4
        · rw [hI_n _ _ _ (by decide)]; exact c2
      · obtain ⟨⟨p, b1⟩, ⟨p2, b2⟩, ⟨l, k0, b3, b4⟩, ⟨l', k2, c1, c2⟩⟩ := a7
        refine ⟨⟨p, b1.ag y (fun a ha => by rw [List.mem_singleton.mp ha]; omega)⟩, ⟨p2, b2.ag y (fun a ha => by rw [List.mem_singleton.mp ha]; omega)⟩, ⟨l, k0, b3.ag y (nn _ (by omega)) (nn _ (by omega)), ?_⟩, ⟨l', k2, c1.ag y (nn _ (by omega)) (nn _ (by omega)), ?_⟩⟩
        · rw [hI_n _ _ _ (by decide), hI_n _ _ _ (by decide)]; exact b4
        · rw [hI_n _ _ _ (by decide)]; exact c2
      · exact a7.ag y (fun a ha => by rw [List.mem_singleton.mp ha]; omega)
      · exact a7.ag y (fun a ha => by rw [List.mem_singleton.mp ha]; omega)
    · simp only [List.mem_cons, List.not_mem_nil, or_false] at hk'
      omega
  · exact (a8.ag y (nn _ (by omega))).sd (e 20 (by omega)) (e 21 (by omega))
theorem RW.fi (x : RW B E S li od h) {o f k t : Nat} (hm : (o, f, k) ∈ fxI) (ht : (o, t + 1) ∈ fxT) : oGI t f (some (B + o)) h = some (sI S k 0) := hgI (x.1.t o (t + 1) ht) (x.2.2.1.n o f k hm)
theorem RW.fp (x : RW B E S li od h) {o f q t : Nat} (hm : (o, f, q) ∈ fxP) (ht : (o, t + 1) ∈ fxT) : oGR t f (some (B + o)) h = some (some (B + q)) := hgR (x.1.t o (t + 1) ht) (x.1.p o f q hm)
theorem RW.fo (x : RW B E S li od h) {o t : Nat} (ht : (o, t + 1) ∈ fxT) : oOb t (some (B + o)) h = some (B + o) := hgO (x.1.t o (t + 1) ht)
theorem RW.cu (x : RW B E S li od h) : oGR 4 5 (some (B + 79)) h = some (some (E (cur S))) := hgR (x.1.t 79 5 (by decide)) x.2.2.2.2.2.2.2.1.1
theorem ln_25 (S : SS) (v : Int32) : ln (wSI S 25 0 v) = ln S := ln_cg rfl rfl rfl rfl rfl rfl rfl rfl
theorem p_keep (x : RW B E S li od h) (hW : WT S) (hL : WL S) (hK : WK S) (hC : WC S) (hT : WXt S) : ∃ h', fX3_keep (B + 80) (some (E (cur S))) (sI S 22 0) h = some ((), h') ∧ RW B E (fit S) (ln S) od h' := by
  obtain ⟨h1, a1, c1, g1⟩ := b_line x.es hW hL hK hC hT (x.out (b := B + 81) (by omega) (by omega)) x.2.2.2.2.2.2.2.2.2.1
  have x1 := x.lin g1 c1
  have hl := ln_len hL
  have e25 := x1.fi (o := 80) (f := 2) (k := 25) (t := 2) (by decide) (by decide)
  have eL := x1.fp (o := 80) (f := 0) (q := 81) (t := 2) (by decide) (by decide)
  unfold fX3_keep fit
  rw [x.fp (o := 80) (f := 0) (q := 81) (t := 2) (by decide) (by decide), sb, a1, o2s, e25, sb]
  by_cases q0 : sI S 25 0 ≤ 0
  · rw [if_pos q0, if_neg (show ¬ (0 < sI S 25 0 ∧ _) from fun z => (Int32.not_lt.mpr q0) z.1)]
    exact ⟨h1, rfl, x1⟩
  · rw [if_neg q0, sb, eL, sb, c1.ob, sb, c_size c1, sb]
    by_cases q1 : sI S 25 0 < nI (ln S).length
    · rw [if_pos q1, if_neg (show ¬ (_ ∧ nI (ln S).length ≤ sI S 25 0) from fun z => (Int32.not_lt.mpr z.2) q1)]
      exact ⟨h1, rfl, x1⟩
    · rw [if_neg q1, if_pos (show 0 < sI S 25 0 ∧ nI (ln S).length ≤ sI S 25 0 from ⟨Int32.not_le.mp q0, Int32.not_lt.mp q1⟩), sb, c1.ob, sb, c_size c1, sb]
      have hn := fun v => x1.num (o := 80) (f := 2) (k := 25) (by decide) (Or.inl rfl) v
      by_cases q2 : (ln S).length = 0
      · rw [q2, if_pos (show nI 0 ≤ 0 by decide), if_pos rfl, oPI_ok (x1.1.t 80 3 (by decide)), sb]
        exact ⟨_, rfl, hn 0⟩
      · rw [if_neg (nI_nle (by omega) (by omega)), if_neg q2, sb, c1.ob, sb, c_size c1, sb, show oNz (10 : Int32) = some () from rfl, sb, oPI_ok (x1.1.t 80 3 (by decide)), sb, show (1 : Int32) = nI 1 from rfl, nI_sub (by omega), show (10 : Int32) = nI 10 from rfl, nI_div (by omega) (by omega), nI_mul]
        exact ⟨_, rfl, hn _⟩
theorem p_refresh (x : RW B E S li od h) (hW : WT S) (hL : WL S) (hK : WK S) (hC : WC S) (hT : WXt S) : ∃ h', fX5_refreshPins (B + 79) h = some ((), h') ∧ RW B E (fit S) (ln S) od h' := by
  obtain ⟨h1, a1, x1⟩ := p_keep x hW hL hK hC hT
  refine ⟨h1, ?_, x1⟩
  unfold fX5_refreshPins
  rw [x.fp (o := 79) (f := 2) (q := 80) (t := 4) (by decide) (by decide), sb, x.cu, sb, x.fp (o := 79) (f := 3) (q := 85) (t := 4) (by decide) (by decide), sb, x.fi (o := 85) (f := 0) (k := 22) (t := 7) (by decide) (by decide), sb, x.fo (o := 80) (t := 2) (by decide), sb, a1, o2s]
end PN

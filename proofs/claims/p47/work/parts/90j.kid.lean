/-! ===== the class's children: one is taken out, one is put in ===== -/
section KD
variable {B : Nat} {E : Nat → Nat} {S : SS} {li : List Int32} {od : List Nat} {h h' : hp}
theorem e_out (x : RW B E S li od h) {p : Nat} (hpm : p < made S) (h10 : (sK S p).length ≤ 10) (hm : ∀ j ∈ sK S p, j < made S) {e q : Nat} (hq : q < (sK S p).length) (hpl : fX2_placeOf (E p) (some e) h = some (nI q)) : ∃ h', fX2_takeOut (E p) (some e) h = some ((), h') ∧ RW B E (wSK S p ((sK S p).eraseIdx q)) li od h' := by
  have hel := x.2.2.2.1 p hpm
  have hrow : hT h (E p + 1) = (22, 10) := hel.2.1
  have hks : ∀ k, k < (sK S p).length → hR h (E p + 1) k = some (E (gn (sK S p) k)) := hel.2.2.2.1.2.2.2.2.2
  have hlen : ((sK S p).eraseIdx q).length = (sK S p).length - 1 := by rw [List.length_eraseIdx, if_pos hq]
  have n1 : E p ∉ [E p + 1] := fun z => by have := List.mem_singleton.mp z; omega
  have e3 : ∀ {h1 : hp}, Ag [E p + 1] h h1 → oGR 1 3 (some (E p)) h1 = some (some (E p + 1)) := fun {h1} g => hgR (by rw [g.T]; exact x.es.t hpm) (by rw [g.R n1]; exact hel.2.2.2.1.2.1)
  have e4 : ∀ {h1 : hp}, Ag [E p + 1] h h1 → oGI 1 4 (some (E p)) h1 = some (nI (sK S p).length) := fun {h1} g => hgI (by rw [g.T]; exact x.es.t hpm) (by rw [g.I n1]; exact hel.2.2.1.2.2.2.2.2.2.2.1)
  have key : ∃ h1, itr (fX2_takeOut_B25 (E p)) FU (nI q, h) = some h1 ∧ Ag [E p + 1] h h1 ∧ ∀ k, k < (sK S p).length - 1 → hR h1 (E p + 1) k = some (E (gn ((sK S p).eraseIdx q) k)) := by
    refine itr_for (R := fun h1 => Ag [E p + 1] h h1 ∧ ∀ k, k < (sK S p).length - 1 → hR h1 (E p + 1) k = some (E (gn ((sK S p).eraseIdx q) k))) (fun t a => ∃ h1, a = (nI (q + t), h1) ∧ Ag [E p + 1] h h1 ∧ (∀ k, k < q + t → hR h1 (E p + 1) k = some (E (gn ((sK S p).eraseIdx q) k))) ∧ ∀ k, q + t ≤ k → hR h1 (E p + 1) k = hR h (E p + 1) k) ((sK S p).length - 1 - q) (fun t a ht hX => ?_) (fun a hX => ?_) (FU_lt (by omega)) ⟨h, rfl, Ag.rf, fun k hk => ?_, fun k _ => rfl⟩
    · obtain ⟨h1, rfl, g1, b1, b2⟩ := hX
      have hk1 : q + t + 1 < (sK S p).length := by omega
      have hrow1 : hT h1 (E p + 1) = (22, 10) := by rw [g1.T]; exact hrow
      have ev : hR h1 (E p + 1) (q + t + 1) = some (E (gn (sK S p) (q + t + 1))) := by rw [b2 _ (by omega)]; exact hks _ hk1
      refine ⟨(nI (q + (t + 1)), wR h1 (E p + 1) (q + t) (some (E (gn (sK S p) (q + t + 1))))), ?_, _, rfl, g1.tr (Ag.wR (List.mem_singleton.mpr rfl)), fun k hk => ?_, fun k hk => ?_⟩
      · unfold fX2_takeOut_B25
        rw [e4 g1, sb]
        show (if nI (sK S p).length ≤ nI (q + t) + 1 then _ else _) = _
        rw [nI_1, if_neg (nI_ge hk1 (by omega)), e3 g1, sb, sb]
        show (oAL 22 (some (E p + 1)) (nI (q + t + 1)) h1).bind _ = _
        rw [hgA hrow1 (by omega) (by decide), sb, ev]
        show (oAS 22 2 (some (E p + 1)) (nI (q + t)) (some (E (gn (sK S p) (q + t + 1)))) h1).bind _ = _
        rw [oAS_el hrow1 (by omega) (by decide) (by rw [g1.T]; exact x.es.t (hm _ (gn_mem hk1))), sb]
        rfl
      · by_cases w : k = q + t
        · rw [w, hR_s, gn_erase, if_neg (by omega)]
        · rw [hR_n _ _ _ w]
          exact b1 k (by omega)
      · rw [hR_n _ _ _ (by omega)]
        exact b2 k (by omega)
    · obtain ⟨h1, rfl, g1, b1, b2⟩ := hX
      refine ⟨h1, ?_, g1, fun k hk => b1 k (by omega)⟩
      unfold fX2_takeOut_B25
      rw [e4 g1, sb]
      show (if nI (sK S p).length ≤ nI (q + ((sK S p).length - 1 - q)) + 1 then _ else _) = _
      rw [nI_1, if_pos (nI_le (by omega) (by omega))]
    · rw [gn_erase, if_pos (by omega)]
      exact hks k (by omega)
  obtain ⟨h1, k1, g1, b1⟩ := key
  have y : Ag [E p, E p + 1] h (wI h1 (E p) 4 (nI ((sK S p).length - 1))) := (g1.mono (by simp)).tr (Ag.wI (by simp))
  refine ⟨wI h1 (E p) 4 (nI ((sK S p).length - 1)), ?_, x.wkids hpm y (by show hR h1 (E p) = _; exact g1.R n1) (fun f hf => by rw [hI_n _ _ _ hf, g1.I n1]) (by rw [hI_s, hlen]) (fun k hk => b1 k (by rw [← hlen]; exact hk))⟩
  unfold fX2_takeOut
  rw [x.es.ob hpm, sb, hpl, sb, if_neg (nI_pos (by omega)), e4 Ag.rf, sb, e3 Ag.rf, sb, hgL hrow (by decide), sb, if_pos (nI_le h10 (by decide)), k1, sb, e4 g1, sb, oPI_ok (by rw [g1.T]; exact x.es.t hpm), sb, show (1 : Int32) = nI 1 from rfl, nI_sub (by omega)]
theorem e_ins (x : RW B E S li od h) {p : Nat} (hpm : p < made S) (h10 : (sK S p).length < 10) (hm : ∀ j ∈ sK S p, j < made S) {y pl : Nat} (hy : y < made S) (hpl : pl ≤ (sK S p).length) : ∃ h', fX2_insert (E p) (some (E y)) (nI pl) h = some ((), h') ∧ RW B E (wSK S p (insA (sK S p) pl y)) li od h' := by
  have hel := x.2.2.2.1 p hpm
  have hrow : hT h (E p + 1) = (22, 10) := hel.2.1
  have hks : ∀ k, k < (sK S p).length → hR h (E p + 1) k = some (E (gn (sK S p) k)) := hel.2.2.2.1.2.2.2.2.2
  have hlen := ins_len (sK S p) pl y hpl
  have n1 : E p ∉ [E p + 1] := fun z => by have := List.mem_singleton.mp z; omega
  have e3 : ∀ {h1 : hp}, Ag [E p + 1] h h1 → oGR 1 3 (some (E p)) h1 = some (some (E p + 1)) := fun {h1} g => hgR (by rw [g.T]; exact x.es.t hpm) (by rw [g.R n1]; exact hel.2.2.2.1.2.1)
  have e4 : ∀ {h1 : hp}, Ag [E p + 1] h h1 → oGI 1 4 (some (E p)) h1 = some (nI (sK S p).length) := fun {h1} g => hgI (by rw [g.T]; exact x.es.t hpm) (by rw [g.I n1]; exact hel.2.2.1.2.2.2.2.2.2.2.1)
  have key : ∃ h1, itr (fX2_insert_B37 (E p) (some (E y)) (nI pl)) FU (nI (sK S p).length, h) = some h1 ∧ Ag [E p + 1] h h1 ∧ (∀ k, k < pl → hR h1 (E p + 1) k = hR h (E p + 1) k) ∧ ∀ k, pl < k → k ≤ (sK S p).length → hR h1 (E p + 1) k = some (E (gn (sK S p) (k - 1))) := by
    refine itr_for (R := fun h1 => Ag [E p + 1] h h1 ∧ (∀ k, k < pl → hR h1 (E p + 1) k = hR h (E p + 1) k) ∧ ∀ k, pl < k → k ≤ (sK S p).length → hR h1 (E p + 1) k = some (E (gn (sK S p) (k - 1)))) (fun t a => ∃ h1, a = (nI ((sK S p).length - t), h1) ∧ Ag [E p + 1] h h1 ∧ (∀ k, k < (sK S p).length - t → hR h1 (E p + 1) k = hR h (E p + 1) k) ∧ ∀ k, (sK S p).length - t < k → k ≤ (sK S p).length → hR h1 (E p + 1) k = some (E (gn (sK S p) (k - 1)))) ((sK S p).length - pl) (fun t a ht hX => ?_) (fun a hX => ?_) (FU_lt (by omega)) ⟨h, rfl, Ag.rf, fun k hk => rfl, fun k hk hk2 => absurd hk (by omega)⟩
    · obtain ⟨h1, rfl, g1, b1, b2⟩ := hX
      have hk1 : (sK S p).length - t - 1 < (sK S p).length := by omega
      have hrow1 : hT h1 (E p + 1) = (22, 10) := by rw [g1.T]; exact hrow
      have ev : hR h1 (E p + 1) ((sK S p).length - t - 1) = some (E (gn (sK S p) ((sK S p).length - t - 1))) := by rw [b1 _ (by omega)]; exact hks _ hk1
      refine ⟨(nI ((sK S p).length - (t + 1)), wR h1 (E p + 1) ((sK S p).length - t) (some (E (gn (sK S p) ((sK S p).length - t - 1))))), ?_, _, rfl, g1.tr (Ag.wR (List.mem_singleton.mpr rfl)), fun k hk => ?_, fun k hk hk2 => ?_⟩
      · unfold fX2_insert_B37
        rw [if_neg (show ¬ nI ((sK S p).length - t) ≤ nI pl from nI_ge (by omega) (by omega)), e3 g1, sb, sb]
        show (oAL 22 (some (E p + 1)) (nI ((sK S p).length - t) - 1) h1).bind _ = _
        rw [show (1 : Int32) = nI 1 from rfl, nI_sub (by omega), hgA hrow1 (by omega) (by decide), sb, ev]
        show (oAS 22 2 (some (E p + 1)) (nI ((sK S p).length - t)) (some (E (gn (sK S p) ((sK S p).length - t - 1)))) h1).bind _ = _
        rw [oAS_el hrow1 (by omega) (by decide) (by rw [g1.T]; exact x.es.t (hm _ (gn_mem hk1))), sb]
        show some (Sum.inl (nI ((sK S p).length - t) + (-1 : Int32), _)) = _
        rw [show (sK S p).length - t = (sK S p).length - (t + 1) + 1 by omega, nI_dec]
      · rw [hR_n _ _ _ (by omega)]
        exact b1 k (by omega)
      · by_cases w : k = (sK S p).length - t
        · rw [w, hR_s]
        · rw [hR_n _ _ _ w]
          exact b2 k (by omega) hk2
    · obtain ⟨h1, rfl, g1, b1, b2⟩ := hX
      refine ⟨h1, ?_, g1, fun k hk => b1 k (by omega), fun k hk hk2 => b2 k (by omega) hk2⟩
      unfold fX2_insert_B37
      rw [if_pos (show nI ((sK S p).length - ((sK S p).length - pl)) ≤ nI pl from nI_le (by omega) (by omega))]
  obtain ⟨h1, k1, g1, b1, b2⟩ := key
  have hrow1 : hT h1 (E p + 1) = (22, 10) := by rw [g1.T]; exact hrow
  have g2 : Ag [E p + 1] h (wR h1 (E p + 1) pl (some (E y))) := g1.tr (Ag.wR (List.mem_singleton.mpr rfl))
  have yy : Ag [E p, E p + 1] h (wI (wR h1 (E p + 1) pl (some (E y))) (E p) 4 (nI ((sK S p).length + 1))) := (g2.mono (by simp)).tr (Ag.wI (by simp))
  refine ⟨wI (wR h1 (E p + 1) pl (some (E y))) (E p) 4 (nI ((sK S p).length + 1)), ?_, x.wkids hpm yy (by show hR (wR h1 (E p + 1) pl (some (E y))) (E p) = _; exact g2.R n1) (fun f hf => by rw [hI_n _ _ _ hf, g2.I n1]) (by rw [hI_s, hlen]) (fun k hk => ?_)⟩
  · unfold fX2_insert
    rw [e4 Ag.rf, sb, if_neg (nI_pos (by omega)), sb, e3 Ag.rf, sb, hgL hrow (by decide), sb, if_neg (nI_ge (by omega) (by decide)), if_neg (nI_pos (by omega)), sb, if_pos (nI_le hpl (by omega)), sb, k1, sb, e3 g1, sb, oAS_el hrow1 (by omega) (by decide) (by rw [g1.T]; exact x.es.t hy), sb, e4 g2, sb, oPI_ok (by rw [g2.T]; exact x.es.t hpm), sb, nI_1]
  · show hR (wR h1 (E p + 1) pl (some (E y))) (E p + 1) k = _
    rw [gn_ins _ _ _ _ hpl]
    rw [hlen] at hk
    by_cases w1 : k < pl
    · rw [if_pos w1, hR_n _ _ _ (by omega), b1 k w1]
      exact hks k (by omega)
    · rw [if_neg w1]
      by_cases w2 : k = pl
      · rw [if_pos w2, w2, hR_s]
      · rw [if_neg w2, hR_n _ _ _ w2]
        exact b2 k (by omega) (by omega)
end KD

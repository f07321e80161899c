/-! ===== the class makes an element: the whole step ===== -/
def WKM (S : SS) : Prop := ∀ i, i < made S → ∀ j ∈ sK S i, j < made S
section MK2
variable {B : Nat} {E : Nat → Nat} {S : SS} {li : List Int32} {od : List Nat} {h h' : hp}
theorem cd_bl {L : List cel} {i n : Nat} (hi : i + 1 < L.length) (h1 : L.getD i dc = ((1, 0), [], [(0, some (.inl (i + 1)))])) (h2 : (L.getD (i + 1) dc).1 = (20, n)) (hn : n < 1000) : Cd (bl B L h) (B + i) n [] := by
  refine ⟨by rw [bl_T (by omega), h1], by rw [bl_R (by omega), h1]; rfl, by rw [show B + i + 1 = B + (i + 1) from rfl, bl_T hi, h2], by rw [bl_I (by omega), h1]; rfl, Nat.zero_le _, hn, Sl_nil⟩
theorem bl_gw {L : List cel} : Gw h (bl (hN h) L h) := by
  refine ⟨by rw [bl_N]; omega, fun a ha => ⟨?_, fun k => ?_, fun k => ?_⟩, fun a ha k => by show (if hN h ≤ a ∧ a < hN h + L.length then 0 else h.2.2.2.2 a k) = _; rw [if_neg (by omega)]; rfl⟩
  · rw [bh_T, if_neg (by omega)]
  · rw [bh_I, if_neg (by omega)]
  · rw [bh_R, if_neg (by omega)]
theorem Gw.ag {as : List Nat} {H1 h2 : hp} (g : Gw h H1) (y : Ag as H1 h2) (ha : ∀ a ∈ as, hN h ≤ a) : Gw h h2 := by
  have nn : ∀ a, a < hN h → a ∉ as := fun a h1 z => by have := ha a z; omega
  exact ⟨by rw [y.1]; exact g.1, fun a h1 => ⟨by rw [y.T]; exact (g.2.1 a h1).1, fun k => by rw [y.I (nn a h1)]; exact (g.2.1 a h1).2.1 k, fun k => by rw [y.R (nn a h1)]; exact (g.2.1 a h1).2.2 k⟩, fun a h1 k => by rw [show hJ h2 a k = hJ H1 a k from by unfold hJ; rw [y.2.2.1]]; exact g.2.2 a h1 k⟩
theorem t_make (x : RW B E S li od h) (hW : WT S) (hm : made S < 40) {p pl k : Nat} (hp0 : th S p) (hk10 : (sK S p).length < 10) (hpl : pl ≤ (sK S p).length) (hk7 : k ≤ 7) (hd12 : WXd S) (hz : WXz S) (hkm : WKM S) (hcu : cur S < made S) (hf : sI S 21 0 = -1 ∨ nth (sI S 21 0) < made S) (ho : ∀ j ∈ od, j < made S) : ∃ h', fX7_make (B + 1) (some (E p)) (nI pl) (nI k) (some (B + 88)) h = some (some (hN h), h') ∧ RW B (fun i => if i = made S then hN h else E i) (wSK (addA S p (nI k)) p (insA (sK S p) pl (made S))) li (ord (add1 S p pl (nI k))) h' := by
  have hn0 : 0 < made S := hW.pw.1
  have hB : B + 96 ≤ hN h := x.2.1.2.1
  obtain ⟨-, hC8, hz10, hz11, hz12, hzK⟩ : True ∧ sL S 8 (made S) = [] ∧ sI S 10 (made S) = 0 ∧ sI S 11 (made S) = 0 ∧ sI S 12 (made S) = 0 ∧ sK S (made S) = [] := by
    obtain ⟨u1, u2, u3, u4, u5, u6⟩ := hz (made S) (Nat.le_refl _)
    exact ⟨trivial, u1, u3, u4, u5, u6⟩
  have hC17 : sL S 17 (made S) = [] := (hz (made S) (Nat.le_refl _)).2.1
  generalize hv : hN h = v at *
  have hi1 : fX2_init v (nI (made S)) (nI k) (some (E p)) (wN h (2, 0)) = some ((), bl v (kE 0 (made S) k (some (.inr (E p)))) h) := by
    have := b_E (B := hN h) (L := []) (h := h) (made S) k hk7 (some (.inr (E p)))
    rw [bl_0, hv] at this
    exact this
  have hlen : (kE 0 (made S) k (some (.inr (E p)))).length = 8 := rfl
  have g3 : Gw h (bl v (kE 0 (made S) k (some (.inr (E p)))) h) := by rw [← hv]; exact bl_gw
  have cN : Cd (bl v (kE 0 (made S) k (some (.inr (E p)))) h) (v + 2) 12 [] := cd_bl (by rw [hlen]; decide) rfl rfl (by decide)
  have cC : Cd (bl v (kE 0 (made S) k (some (.inr (E p)))) h) (v + 4) (if k = 4 then 12 else 0) [] := cd_bl (by rw [hlen]; decide) rfl rfl (by split <;> decide)
  have cK : Cd (bl v (kE 0 (made S) k (some (.inr (E p)))) h) (v + 6) (if k = 7 then 80 else 0) [] := cd_bl (by rw [hlen]; decide) rfl rfl (by split <;> decide)
  have hTv : hT (bl v (kE 0 (made S) k (some (.inr (E p)))) h) v = (2, 0) := bl_T (B := v) (i := 0) (by rw [hlen]; decide)
  have hTw : hT (bl v (kE 0 (made S) k (some (.inr (E p)))) h) (v + 1) = (22, 10) := bl_T (B := v) (i := 1) (by rw [hlen]; decide)
  have hIv : ∀ f, hI (bl v (kE 0 (made S) k (some (.inr (E p)))) h) v f = cIv ((kE 0 (made S) k (some (.inr (E p)))).getD 0 dc) f := fun f => bl_I (B := v) (i := 0) (by rw [hlen]; decide) f
  have hRv : ∀ f, hR (bl v (kE 0 (made S) k (some (.inr (E p)))) h) v f = cRv v ((kE 0 (made S) k (some (.inr (E p)))).getD 0 dc) f := fun f => bl_R (B := v) (i := 0) (by rw [hlen]; decide) f
  have hN3 : hN (bl v (kE 0 (made S) k (some (.inr (E p)))) h) = v + 8 := rfl
  have e2m : oGI 6 2 (some (B + 1)) (wN h (2, 0)) = some (nI (made S)) := by
    refine hgI (ci := 6) ?_ ?_
    · rw [wn_T, if_neg (by omega)]
      exact x.1.t 1 7 (by decide)
    · rw [wn_I, if_neg (by omega)]
      exact x.2.2.2.2.1.1
  generalize hb3 : bl v (kE 0 (made S) k (some (.inr (E p)))) h = h3 at *
  -- the name
  obtain ⟨h6, a6, c6, g6⟩ := c_copy cN ((x.2.2.2.2.2.2.2.2.2.2.1).gw g3 (show B + 88 + 1 < hN h by omega)) (by omega) hd12
  have m6 : ∀ a ∈ [v + 2, v + 2 + 1], a = v + 2 ∨ a = v + 3 := by
    intro a ha
    simp only [List.mem_cons, List.not_mem_nil, or_false] at ha
    omega
  have nn6 : ∀ a, a ≠ v + 2 → a ≠ v + 3 → a ∉ [v + 2, v + 2 + 1] := fun a q1 q2 z => by have := m6 a z; omega
  have gw6 : Gw h h6 := g3.ag g6 (fun a ha => by have := m6 a ha; omega)
  have x6 : RW B (fun i => if i = made S then v else E i) S li od h6 := (x.grow gw6).ext hn0 (fun i hi => if_neg (by omega)) hkm (fun i i0 hi => Nat.lt_trans (hW.pw.par i0 hi).1 hi) hcu hf ho
  have hN6 : hN h6 = v + 8 := by rw [g6.1, hN3]
  have ea : EA B (fun i => if i = made S then v else E i) (made S + 1) (hN h6) := by
    obtain ⟨y1, y2, y3, y4⟩ := x.2.1
    rw [hv] at y2 y3
    rw [hN6]
    refine ⟨by show (if 0 = made S then v else E 0) = _; rw [if_neg (by omega)]; exact y1, by omega, fun i i0 hi => ?_, fun i j hij i0 hj => ?_⟩
    · show B + 96 ≤ (if i = made S then v else E i) ∧ (if i = made S then v else E i) + 8 ≤ v + 8
      by_cases q : i = made S
      · rw [if_pos q]; omega
      · rw [if_neg q]
        have := y3 i i0 (by omega)
        omega
    · show (if i = made S then v else E i) + 8 ≤ (if j = made S then v else E j)
      rw [if_neg (show ¬ i = made S by omega)]
      by_cases q : j = made S
      · rw [if_pos q]
        exact (y3 i i0 (by omega)).2
      · rw [if_neg q]
        exact y4 i j hij i0 (by omega)
  obtain ⟨n1, n2, n3, n13, n14, n15⟩ := aA_n (S := S) p (nI k)
  have hcapC : capC (addA S p (nI k)) (made S) = if k = 4 then 12 else 0 := by
    unfold capC
    rw [n2]
    by_cases q : k = 4
    · rw [if_pos (show nI k = 4 by rw [q]; rfl), if_pos q]
    · rw [if_neg (show ¬ nI k = 4 from fun z => q ((nI_eq (b := 4) (by omega) (by decide)).mp z)), if_neg q]
  have hcapK : capK (addA S p (nI k)) (made S) = if k = 7 then 80 else 0 := by
    unfold capK
    rw [n2]
    by_cases q : k = 7
    · rw [if_pos (show nI k = 7 by rw [q]; rfl), if_pos q]
    · rw [if_neg (show ¬ nI k = 7 from fun z => q ((nI_eq (b := 7) (by omega) (by decide)).mp z)), if_neg q]
  have hdp : dpar (addA S p (nI k)) (made S) = p := by
    have := hp0.l40 hW
    unfold dpar
    rw [n3, nI_clamp (by omega)]
  have sA : ∀ f, f ≠ 6 → sL (addA S p (nI k)) f (made S) = sL S f (made S) := fun f hf6 => by
    show sL (wSL (add7 S p (nI k)) 6 (made S) (sL S 18 0)) f (made S) = _
    rw [sL_L, if_neg (fun z => hf6 z.1)]; rfl
  have s6 : sL (addA S p (nI k)) 6 (made S) = sL S 18 0 := by
    show sL (wSL (add7 S p (nI k)) 6 (made S) (sL S 18 0)) 6 (made S) = _
    rw [sL_L, if_pos ⟨rfl, rfl⟩]
  have el : EL (addA S p (nI k)) (fun i => if i = made S then v else E i) (made S) h6 := by
    unfold EL
    rw [show (fun i => if i = made S then v else E i) (made S) = v from if_pos rfl]
    have nv := nn6 v (by omega) (by omega)
    refine ⟨by rw [g6.T, hTv], by rw [g6.T]; exact hTw, ?_, ?_, by rw [s6]; exact c6, ?_, ?_⟩
    · unfold EI
      rw [g6.I nv, hIv, hIv, hIv, hIv, hIv, hIv, hIv, hIv, hIv, n2, n13, n14, n15, aA_i p (nI k) (Or.inl (by decide)), aA_i p (nI k) (Or.inl (by decide)), aA_i p (nI k) (Or.inl (by decide)), hz10, hz11, hz12]
      have hKn : sK (addA S p (nI k)) (made S) = [] := hzK
      rw [hKn]
      exact ⟨rfl, rfl, rfl, rfl, rfl, rfl, fun _ => rfl, rfl, fun _ => by rw [if_pos rfl]; rfl⟩
    · unfold ER
      have hKn : sK (addA S p (nI k)) (made S) = [] := hzK
      rw [g6.R nv, hRv, hRv, hRv, hRv, hRv, hKn, hdp, if_neg (by omega)]
      refine ⟨?_, rfl, rfl, rfl, rfl, fun j hj => absurd hj (Nat.not_lt_zero j)⟩
      show some (E p) = some (if p = made S then v else E p)
      rw [if_neg (by have := hp0.lt; omega)]
    · rw [hcapC, sA 8 (by decide), hC8]
      exact cC.ag g6 (nn6 _ (by omega) (by omega)) (nn6 _ (by omega) (by omega))
    · rw [hcapK, sA 17 (by decide), hC17]
      exact cK.ag g6 (nn6 _ (by omega) (by omega)) (nn6 _ (by omega) (by omega))
  have x17 := x6.reg hm el ea
  have hEn : (if made S = made S then v else E (made S)) = v := if_pos rfl
  have hEp : (if p = made S then v else E p) = E p := if_neg (by have := hp0.lt; omega)
  obtain ⟨k1, k2, k3⟩ := hW.kids hp0
  have mA := aA_made (S := S) hm p (nI k)
  obtain ⟨h19, a19, x19⟩ := e_ins x17 (p := p) (y := made S) (pl := pl) (by rw [mA]; have := hp0.lt; omega) hk10 (fun j hj => by rw [mA]; have := (k3 j hj).1.lt; omega) (by rw [mA]; omega) hpl
  have hWA : WT (wSK (addA S p (nI k)) p (insA (sK S p) pl (made S))) := WT.cg (S := add1 S p pl (nI k)) rfl rfl rfl rfl rfl rfl (a1_WT hW hm hp0 hk10 hzK (nI k))
  obtain ⟨h21, a21, x21, -⟩ := t_reorder x19 hWA
  have hoA : ord (wSK (addA S p (nI k)) p (insA (sK S p) pl (made S))) = ord (add1 S p pl (nI k)) := ord_cg rfl rfl
  refine ⟨h21, ?_, ?_⟩
  · have t1 : (hT h6 (B + 1)).1 = 6 + 1 := x6.1.t 1 7 (by decide)
    have e2 : oGI 6 2 (some (B + 1)) h6 = some (nI (made S)) := hgI t1 x6.2.2.2.2.1.1
    have e3 : oGI 6 3 (some (B + 1)) (wI (wR h6 (B + 10) (made S) (some v)) (B + 1) 2 (nI (made S + 1))) = some (nI (nTh S)) := hgI (show (hT (wI (wR h6 (B + 10) (made S) (some v)) (B + 1) 2 (nI (made S + 1))) (B + 1)).1 = 6 + 1 from t1) (by rw [hI_n _ _ _ (by decide)]; exact x6.2.2.2.2.1.2.1)
    have e2b : oGI 6 2 (some (B + 1)) (wR h6 (B + 10) (made S) (some v)) = some (nI (made S)) := hgI (show (hT (wR h6 (B + 10) (made S) (some v)) (B + 1)).1 = 6 + 1 from t1) x6.2.2.2.2.1.1
    have e1 : oGR 6 1 (some (B + 1)) h6 = some (some (B + 10)) := x6.fp (by decide) (by decide)
    have hT10 := x6.1.a 10 22 40 (by decide)
    have e5 : oGR 1 5 (some v) h3 = some (some (v + 2)) := hgR (by rw [hTv]) (by rw [hRv]; rfl)
    have eo17 : oOb 1 (some (E p)) (wI (wI (wR h6 (B + 10) (made S) (some v)) (B + 1) 2 (nI (made S + 1))) (B + 1) 3 (nI (nTh S + 1))) = some (E p) := by
      have := x17.es.ob (i := p) (by rw [mA]; have := hp0.lt; omega)
      rw [hEn, hEp] at this
      exact this
    have a19' : fX2_insert (E p) (some v) (nI pl) (wI (wI (wR h6 (B + 10) (made S) (some v)) (B + 1) 2 (nI (made S + 1))) (B + 1) 3 (nI (nTh S + 1))) = some ((), h19) := by
      rw [hEn, hEp] at a19
      exact a19
    unfold fX7_make
    rw [hv, e2m, sb, hi1, o2s, e5, sb, cN.ob, sb, a6, o2s, e2, sb, if_neg (nI_pos (by omega)), sb, e1, sb, hgL hT10 (by decide), sb, if_neg (nI_ge hm (by decide)), sb, sb, oAS_el hT10 hm (by decide) (by rw [g6.T, hTv]), sb, e2b, sb, nI_1, oPI_ok (show (hT (wR h6 (B + 10) (made S) (some v)) (B + 1)).1 = 6 + 1 from t1), sb, e3, sb, nI_1, oPI_ok (show (hT (wI (wR h6 (B + 10) (made S) (some v)) (B + 1) 2 (nI (made S + 1))) (B + 1)).1 = 6 + 1 from t1), sb, eo17, sb, a19', o2s, x19.fo (o := 1) (t := 6) (by decide), sb, a21, o2s]
  · rw [← hoA]
    exact x21
end MK2

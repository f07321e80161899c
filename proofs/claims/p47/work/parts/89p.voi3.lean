/-! ===== the class's voice: alerts ===== -/
theorem wst_leq (l : List Int32) (p : Nat) : ∀ j, wst l p j ≤ j
  | 0 => Nat.le_refl _
  | j + 1 => by
    show (if ge l p = 32 ∨ ge l j = 32 then j + 1 else wst l p j) ≤ _
    split
    · exact Nat.le_refl _
    · have := wst_leq l p j
      omega
theorem wst_at (l : List Int32) (p : Nat) : ∀ j, wst l p j = 0 ∨ (0 < wst l p j ∧ ge l (wst l p j - 1) = 32) ∨ (ge l p = 32 ∧ wst l p j = j)
  | 0 => Or.inl rfl
  | j + 1 => by
    show (if ge l p = 32 ∨ ge l j = 32 then j + 1 else wst l p j) = 0 ∨ (0 < (if ge l p = 32 ∨ ge l j = 32 then j + 1 else wst l p j) ∧ ge l ((if ge l p = 32 ∨ ge l j = 32 then j + 1 else wst l p j) - 1) = 32) ∨ (ge l p = 32 ∧ (if ge l p = 32 ∨ ge l j = 32 then j + 1 else wst l p j) = j + 1)
    by_cases q : ge l p = 32 ∨ ge l j = 32
    · rw [if_pos q]
      rcases q with q | q
      · exact Or.inr (Or.inr ⟨q, rfl⟩)
      · exact Or.inr (Or.inl ⟨by omega, q⟩)
    · rw [if_neg q]
      rcases wst_at l p j with z | z | z
      · exact Or.inl z
      · exact Or.inr (Or.inl z)
      · exact absurd (Or.inl z.1) q
theorem SX.word {l t : List Int32} {k p : Nat} (x : SX l k t) (hp : p < t.length) : SX l (k + wst t p p) (t.drop (wst t p p)) := by
  obtain ⟨x1, rfl, x3⟩ := x
  have hw := wst_leq (l.drop k) p p
  have hl : (l.drop k).length = l.length - k := List.length_drop
  refine ⟨by omega, by rw [List.drop_drop], ?_⟩
  rcases wst_at (l.drop k) p p with z | z | z
  · rw [z, Nat.add_zero]; exact x3
  · refine Or.inr (Or.inl ?_)
    have := z.2
    rw [ge_drop] at this
    rw [show k + wst (l.drop k) p p - 1 = k + (wst (l.drop k) p p - 1) by omega]
    exact this
  · refine Or.inr (Or.inr ?_)
    have := z.1
    rw [ge_drop] at this
    rw [z.2]; exact this
theorem v_word {h : hp} {b n k p : Nat} {l t : List Int32} (c : Cd h b n l) (x : SX l k t) (hp : p < t.length) : fX9_wordStart (some b) (nI (k + p)) h = some (nI (k + wst t p p)) := by
  obtain ⟨x1, rfl, x3⟩ := x
  have h5 := c.2.2.2.2.1
  have h6 := c.2.2.2.2.2.1
  have hl : (l.drop k).length = l.length - k := List.length_drop
  have key : ∃ q, itr (fX9_wordStart_B2 (some b) (nI (k + p)) h) FU (nI (k + p)) = some q ∧ q = nI (k + wst (l.drop k) p p) := by
    refine itr_run (R := fun q => q = nI (k + wst (l.drop k) p p)) (fun j a => a = nI (k + j) ∧ j ≤ p ∧ wst (l.drop k) p p = wst (l.drop k) p j ∧ (j < p → ge (l.drop k) p ≠ 32 ∧ ge (l.drop k) j ≠ 32)) (fun j a hX => ?_) FU p (nI (k + p)) (FU_lt (by omega)) ⟨rfl, Nat.le_refl _, rfl, fun z => absurd z (Nat.lt_irrefl _)⟩
    obtain ⟨rfl, j1, j2, j3⟩ := hX
    have a1 : fX1_at b (nI (k + p)) h = some (ge (l.drop k) p) := by rw [c_at c (by omega), ge_drop]
    cases j with
    | zero =>
      refine Or.inr ⟨nI k, ?_, by rw [j2]; rfl⟩
      unfold fX9_wordStart_B2
      rw [Nat.add_zero]
      by_cases k0 : k = 0
      · rw [k0, if_pos (show nI 0 ≤ 0 by decide)]
      · rw [if_neg (nI_nle (by omega) (by omega)), c.ob, sb, a1, sb]
        by_cases e : ge (l.drop k) p = 32
        · rw [if_pos e]
        · have e2 : ge l (k - 1) = 32 := by
            rcases x3 with z | z | z
            · exact absurd z k0
            · exact z
            · exfalso
              rcases Nat.eq_zero_or_pos p with w | w
              · rw [w, ge_drop, Nat.add_zero] at e
                exact e z
              · have := (j3 w).2
                rw [ge_drop, Nat.add_zero] at this
                exact this z
          rw [if_neg e, sb, show nI k - 1 = nI (k - 1) from by rw [show (1 : Int32) = nI 1 from rfl, nI_sub (by omega)], c_at c (by omega), sb, if_pos e2]
    | succ j =>
      have hs : wst (l.drop k) p (j + 1) = (if ge (l.drop k) p = 32 ∨ ge (l.drop k) j = 32 then j + 1 else wst (l.drop k) p j) := rfl
      have a2 : fX1_at b (nI (k + (j + 1)) - 1) h = some (ge (l.drop k) j) := by
        rw [show k + (j + 1) = (k + j) + 1 from rfl, nI_pred, c_at c (by omega), ge_drop]
      unfold fX9_wordStart_B2
      rw [if_neg (nI_nle (by omega) (by omega)), c.ob, sb, a1, sb]
      by_cases e : ge (l.drop k) p = 32
      · rw [if_pos e]
        exact Or.inr ⟨_, rfl, by rw [j2, hs, if_pos (Or.inl e)]⟩
      · rw [if_neg e, sb, a2, sb]
        by_cases e2 : ge (l.drop k) j = 32
        · rw [if_pos e2]
          exact Or.inr ⟨_, rfl, by rw [j2, hs, if_pos (Or.inr e2)]⟩
        · rw [if_neg e2, show k + (j + 1) = (k + j) + 1 from rfl, nI_dec]
          exact Or.inl ⟨_, j, rfl, by omega, rfl, by omega, by rw [j2, hs, if_neg (fun z => z.elim e e2)], fun _ => ⟨e, e2⟩⟩
  obtain ⟨q, k1, k2⟩ := key
  unfold fX9_wordStart
  rw [k1, sb, k2]
section VX
variable {B : Nat} {S : SS} {h : hp}
theorem v_put35 (x : VS B S h) (h5 : (sQ S 35).length < 21) {b2 n2 : Nat} {t : List Int32} (y : Cd h b2 n2 t) (hb : b2 + 1 < B + 12 ∨ B + 75 ≤ b2) (ht : t.length ≤ 80) : ∃ h', fX4_put (B + 27) (some b2) h = some ((), h') ∧ VS B (wSQ S 35 (sQ S 35 ++ [t])) h' ∧ Ag (vas B) h h' := by
  obtain ⟨f, ⟨⟨p, b1⟩, ⟨p2, b2'⟩, ⟨l, k0, b3, b4⟩, ⟨l', k2, c1, c2⟩⟩, vn⟩ := x
  obtain ⟨h1, a1, u1, g1, f1⟩ := q_put b2' f.q2 (by omega) (by omega) (by omega) y (by omega) ht (by omega)
  have pj := (b2'.2.2.1 (sQ S 35).length (by omega)).1
  have m1 : ∀ a ∈ [B + 27, B + 29 + 2 * p2 (sQ S 35).length, B + 29 + 2 * p2 (sQ S 35).length + 1], a = B + 27 ∨ (B + 29 ≤ a ∧ a < B + 71) := by
    intro a ha
    simp only [List.mem_cons, List.not_mem_nil, or_false] at ha
    omega
  have nn1 : ∀ a, a ≠ B + 27 → (a < B + 29 ∨ B + 71 ≤ a) → a ∉ [B + 27, B + 29 + 2 * p2 (sQ S 35).length, B + 29 + 2 * p2 (sQ S 35).length + 1] := fun a w1 w2 z => by have := m1 a z; omega
  have fx1 : FX B h1 := f.ag' g1 (fun q hq hm => by
    obtain ⟨w1, w2, w3⟩ := fx_13 q hq
    have := m1 _ hm
    have q13 : q.1 = 27 := by omega
    obtain ⟨qa, qb, qc⟩ := q
    simp only at q13 w2
    have := w2 q13
    rw [Prod.mk.injEq] at this
    obtain ⟨rfl, rfl⟩ := this
    subst q13
    exact f1.2.1)
  have i12 : hI h1 (B + 12) = hI h (B + 12) := g1.I (nn1 _ (by omega) (by omega))
  refine ⟨h1, a1, ⟨fx1, ⟨⟨p, b1.ag g1 (fun a ha => by have := m1 a ha; omega)⟩, ⟨p2, u1⟩, ⟨l, k0, b3.ag g1 (nn1 _ (by omega) (by omega)) (nn1 _ (by omega) (by omega)), ?_⟩, ⟨l', k2, c1.ag g1 (nn1 _ (by omega) (by omega)) (nn1 _ (by omega) (by omega)), ?_⟩⟩, vn.ag g1 (nn1 _ (by omega) (by omega))⟩, g1.vas (fun a ha => by have := m1 a ha; omega)⟩
  · rw [i12]; exact b4
  · rw [i12]; exact c2
theorem v_alert (x : VS B S h) (hV : WV S) (h5 : (sQ S 35).length < 21) {b2 n2 : Nat} {t : List Int32} (y : Cd h b2 n2 t) (hb : b2 + 1 < B + 12 ∨ B + 75 ≤ b2) (h0 : 0 < t.length) (ht : t.length ≤ 80) : ∃ h', fX9_comeAlert (B + 12) (some b2) h = some ((), h') ∧ VS B (cAl S t) h' ∧ Ag (vas B) h h' := by
  have y6 := y.2.2.2.2.2.1
  have y5 := y.2.2.2.2.1
  obtain ⟨h1, a1, x1, g1⟩ := v_put35 x h5 y hb ht
  have e0 : oGR 8 1 (some (B + 12)) h = some (some (B + 27)) := hgR (x.1.t 12 9 (by decide)) (x.1.p 12 1 27 (by decide))
  have e7 : oGI 8 7 (some (B + 12)) h1 = some (sI S 38 0) := by rw [x1.g 7, x1.2.2.1]; rfl
  unfold fX9_comeAlert cAl cAl1
  rw [y.ob, sb, c_size y, sb, if_neg (nI_ne0 h0 (by omega)), e0, sb, x.1.q2.ob, sb, a1, o2s, e7, sb]
  generalize hTT : wSQ S 35 (sQ S 35 ++ [t]) = T at *
  have t38 : sI T 38 0 = sI S 38 0 := by rw [← hTT]; rfl
  have t41 : sI T 41 0 = sI S 41 0 := by rw [← hTT]; rfl
  have t39 : sL T 39 0 = sL S 39 0 := by rw [← hTT]; rfl
  rw [t38]
  by_cases q0 : sI S 38 0 = 0
  · rw [if_pos q0, if_pos q0, x1.ob, sb]
    obtain ⟨h2, a2, x2, g2⟩ := v_dropS x1
    refine ⟨h2, by rw [a2, o2s], ?_, g1.tr g2⟩
    unfold hshS at x2
    rw [if_pos (Or.inl (by rw [t38]; exact q0))] at x2
    exact x2
  · rw [if_neg q0, if_neg q0, sb]
    by_cases q1 : sI S 38 0 = 1
    · rw [if_pos q1, if_pos q1]
      obtain ⟨fx, ⟨⟨p, b1⟩, ⟨p2, b2'⟩, ⟨l, k0, b3, b4⟩, ⟨l', k2, c1, c2⟩⟩, v1, v2, v3⟩ := x1
      obtain ⟨z1, z2, z3⟩ := c2 (by rw [t38, q1]; decide)
      obtain ⟨pp, pp1, pp2⟩ := hV.2.2.2.2.2.2 (by rw [q1]; decide)
      rw [t39] at z1
      rw [t41, pp2, nI_add] at z2
      have hsp : spk T = pp := by unfold spk; rw [t41, pp2, nI_clamp (by have := hV.2.2.2.2.1; omega)]
      rw [hsp, t39]
      have c1n := c1.2.2.2.2.1
      obtain ⟨h3, a3, c3, g3⟩ := c_copy b3 c1 (by omega) c1n
      have t12 := fx.t 12 9 (by decide)
      have m3 : ∀ a ∈ [B + 71, B + 71 + 1], a = B + 71 ∨ a = B + 72 := by
        intro a ha
        simp only [List.mem_cons, List.not_mem_nil, or_false] at ha
        omega
      have nn3 : ∀ a, a ≠ B + 71 → a ≠ B + 72 → a ∉ [B + 71, B + 71 + 1] := fun a w1 w2 z => by have := m3 a z; omega
      have fx3 : FX B h3 := fx.ag g3 (fun a ha q hq => by
        obtain ⟨w1, w2, w3⟩ := fx_13 q hq
        have := m3 a ha
        omega)
      have t12' := fx3.t 12 9 (by decide)
      have i12 : hI h3 (B + 12) = hI h1 (B + 12) := g3.I (nn3 _ (by omega) (by omega))
      have c1' := c1.ag g3 (nn3 _ (by omega) (by omega)) (nn3 _ (by omega) (by omega))
      have ew := v_word c1' z1 pp1
      have e2 : oGR 8 2 (some (B + 12)) h1 = some (some (B + 71)) := hgR t12 (fx.p 12 2 71 (by decide))
      have e5 : oGR 8 5 (some (B + 12)) h1 = some (some (B + 73)) := hgR t12 (fx.p 12 5 73 (by decide))
      have e5' : oGR 8 5 (some (B + 12)) h3 = some (some (B + 73)) := hgR t12' (fx3.p 12 5 73 (by decide))
      have e6 : oGI 8 6 (some (B + 12)) h3 = some (nI (k2 + pp)) := hgI t12' (by rw [i12]; exact z2)
      have g4 : Ag [B + 12] h3 (wI (wI (wI h3 (B + 12) 3 (nI (k2 + wst (sL S 39 0) pp pp))) (B + 12) 4 1) (B + 12) 7 (-1)) := ((Ag.wI (List.mem_singleton.mpr rfl)).tr (Ag.wI (List.mem_singleton.mpr rfl))).tr (Ag.wI (List.mem_singleton.mpr rfl))
      have nn : ∀ a, a ≠ B + 12 → a ∉ [B + 12] := fun a q z => q (List.mem_singleton.mp z)
      have hx := z1.word pp1
      have hw := wst_leq (sL S 39 0) pp pp
      have hne : ¬ ((sL S 39 0).drop (wst (sL S 39 0) pp pp)).length = 0 := by rw [List.length_drop]; omega
      have m4 : ∀ a ∈ [B + 12], a = B + 12 := fun a ha => List.mem_singleton.mp ha
      refine ⟨wI (wI (wI h3 (B + 12) 3 (nI (k2 + wst (sL S 39 0) pp pp))) (B + 12) 4 1) (B + 12) 7 (-1), ?_, ⟨⟨fx3.1, fx3.2.1, fx3.2.2⟩, ⟨⟨p, (b1.ag g3 (fun a ha => by have := m3 a ha; omega)).ag g4 (fun a ha => by have := m4 a ha; omega)⟩, ⟨p2, (b2'.ag g3 (fun a ha => by have := m3 a ha; omega)).ag g4 (fun a ha => by have := m4 a ha; omega)⟩, ⟨l', k2 + wst (sL S 39 0) pp pp, c3.ag g4 (nn _ (by omega)) (nn _ (by omega)), ?_⟩, ⟨l', k2, c1'.ag g4 (nn _ (by omega)) (nn _ (by omega)), fun z => absurd (show sI (wSI (wSL T 33 0 ((sL S 39 0).drop (wst (sL S 39 0) pp pp))) 38 0 (-1)) 38 0 = -1 by rw [sI_I, if_pos ⟨rfl, rfl⟩]) z⟩⟩, ?_, ?_, ?_⟩, (g1.tr (g3.vas (fun a ha => by have := m3 a ha; omega))).tr (g4.vas (fun a ha => by have := m4 a ha; omega))⟩
      · rw [e2, sb, e5, sb, b3.ob, sb, a3, o2s, e5', sb, e6, sb, ew, sb, oPI_ok t12', sb, oPZ_ok (show (hT (wI h3 (B + 12) 3 (nI (k2 + wst (sL S 39 0) pp pp))) (B + 12)).1 = 8 + 1 from t12') (Or.inr rfl), sb, oPI_ok (show (hT (wI (wI h3 (B + 12) 3 (nI (k2 + wst (sL S 39 0) pp pp))) (B + 12) 4 1) (B + 12)).1 = 8 + 1 from t12'), sb]
      · have e33 : sL (wSI (wSL T 33 0 ((sL S 39 0).drop (wst (sL S 39 0) pp pp))) 38 0 (-1)) 33 0 = (sL S 39 0).drop (wst (sL S 39 0) pp pp) := by
          show sL (wSL T 33 0 _) 33 0 = _
          rw [sL_L, if_pos ⟨rfl, rfl⟩]
        rw [e33, if_neg hne, hI_n _ _ _ (by decide), hI_s, hI_n _ _ _ (by decide), hI_n _ _ _ (by decide), hI_s]
        exact ⟨rfl, rfl, hx⟩
      · rw [hI_s, sI_I, if_pos ⟨rfl, rfl⟩]
      · rw [hI_n _ _ _ (by decide), hI_n _ _ _ (by decide), hI_n _ _ _ (by decide), i12]; exact v2
      · rw [hI_n _ _ _ (by decide), hI_n _ _ _ (by decide), hI_n _ _ _ (by decide), i12]; exact v3
    · rw [if_neg q1, if_neg q1]
      exact ⟨h1, rfl, x1, g1⟩
end VX

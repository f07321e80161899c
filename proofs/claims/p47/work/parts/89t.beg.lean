/-! ===== the class's voice begins ===== -/
section VB2
variable {B : Nat} {S : SS} {h : hp}
theorem v_takeW (x : VS B S h) (h38 : sI S 38 0 = -1) (hw : ¬ (sL S 33 0).length = 0) : ∃ h', ((oGR 8 5 (some (B + 12)) h).bind fun x12 => (oGR 8 2 (some (B + 12)) h).bind fun x13 => (oOb 0 x12 h).bind fun b => o2 (fX1_copy b x13 h) fun _ h15 => (oGI 8 3 (some (B + 12)) h15).bind fun x16 => (oPI 8 6 (some (B + 12)) x16 h15).bind fun h17 => (oPZ 8 4 (some (B + 12)) (0 : Int32) h17).bind fun h18 => (oPI 8 7 (some (B + 12)) (1 : Int32) h18).bind fun h19 => some (((), h19))) = some ((), h') ∧ VS B (wSI (wSI (wSL (wSL S 39 0 (sL S 33 0)) 33 0 []) 38 0 1) 41 0 0) h' ∧ Ag (vas B) h h' := by
  obtain ⟨fx, ⟨⟨p, b1⟩, ⟨p2, b2⟩, ⟨l, k0, b3, b4⟩, ⟨l', k2, c1, c2⟩⟩, v1, v2, v3⟩ := x
  have t12 := fx.t 12 9 (by decide)
  rw [if_neg hw] at b4
  obtain ⟨w1, w2, w3⟩ := b4
  have l80 := b3.2.2.2.2.1
  obtain ⟨h2, a2, d2, g2⟩ := c_copy c1 b3 (by omega) l80
  have m2 : ∀ a ∈ [B + 73, B + 73 + 1], a = B + 73 ∨ a = B + 74 := by
    intro a ha
    simp only [List.mem_cons, List.not_mem_nil, or_false] at ha
    omega
  have nn : ∀ a, a ≠ B + 73 → a ≠ B + 74 → a ∉ [B + 73, B + 73 + 1] := fun a w3 w4 z => by have := m2 a z; omega
  have fx2 : FX B h2 := fx.ag g2 (fun a ha q hq => by
    obtain ⟨w1, w2, w3⟩ := fx_13 q hq
    have := m2 a ha
    omega)
  have t12' := fx2.t 12 9 (by decide)
  have i12 : hI h2 (B + 12) = hI h (B + 12) := g2.I (nn _ (by omega) (by omega))
  have y : Ag [B + 12] h2 (wI (wI (wI h2 (B + 12) 6 (nI k0)) (B + 12) 4 0) (B + 12) 7 1) := ((Ag.wI (List.mem_singleton.mpr rfl)).tr (Ag.wI (List.mem_singleton.mpr rfl))).tr (Ag.wI (List.mem_singleton.mpr rfl))
  have my : ∀ a ∈ [B + 12], a = B + 12 := fun a ha => List.mem_singleton.mp ha
  have ny : ∀ a, a ≠ B + 12 → a ∉ [B + 12] := fun a w z => w (my a z)
  have e2 : oGR 8 2 (some (B + 12)) h = some (some (B + 71)) := hgR t12 (fx.p 12 2 71 (by decide))
  have e5 : oGR 8 5 (some (B + 12)) h = some (some (B + 73)) := hgR t12 (fx.p 12 5 73 (by decide))
  have e3 : oGI 8 3 (some (B + 12)) h2 = some (nI k0) := hgI t12' (by rw [i12]; exact w2)
  refine ⟨wI (wI (wI h2 (B + 12) 6 (nI k0)) (B + 12) 4 0) (B + 12) 7 1, ?_, ⟨⟨fx2.1, fx2.2.1, fx2.2.2⟩, ⟨⟨p, (b1.ag g2 (fun a ha => by have := m2 a ha; omega)).ag y (fun a ha => by have := my a ha; omega)⟩, ⟨p2, (b2.ag g2 (fun a ha => by have := m2 a ha; omega)).ag y (fun a ha => by have := my a ha; omega)⟩, ⟨l, k0, (b3.ag g2 (nn _ (by omega) (by omega)) (nn _ (by omega) (by omega))).ag y (ny _ (by omega)) (ny _ (by omega)), ?_⟩, ⟨l, k0, d2.ag y (ny _ (by omega)) (ny _ (by omega)), ?_⟩⟩, ?_, ?_, ?_⟩, (g2.vas (fun a ha => by have := m2 a ha; omega)).tr (y.vas (fun a ha => by have := my a ha; omega))⟩
  · rw [e5, sb, e2, sb, c1.ob, sb, a2, o2s, e3, sb, oPI_ok t12', sb, oPZ_ok (show (hT (wI h2 (B + 12) 6 (nI k0)) (B + 12)).1 = 8 + 1 from t12') (Or.inl rfl), sb, oPI_ok (show (hT (wI (wI h2 (B + 12) 6 (nI k0)) (B + 12) 4 0) (B + 12)).1 = 8 + 1 from t12'), sb]
  · have e33 : sL (wSI (wSI (wSL (wSL S 39 0 (sL S 33 0)) 33 0 []) 38 0 1) 41 0 0) 33 0 = [] := by
      show sL (wSL (wSL S 39 0 (sL S 33 0)) 33 0 []) 33 0 = []
      rw [sL_L, if_pos ⟨rfl, rfl⟩]
    rw [e33, if_pos (show ([] : List Int32).length = 0 from rfl), hI_n _ _ _ (by decide), hI_s]
  · intro z
    have e39 : sL (wSI (wSI (wSL (wSL S 39 0 (sL S 33 0)) 33 0 []) 38 0 1) 41 0 0) 39 0 = sL S 33 0 := by
      show sL (wSL (wSL S 39 0 (sL S 33 0)) 33 0 []) 39 0 = sL S 33 0
      rw [sL_L, if_neg (fun z => absurd z.1 (by decide)), sL_L, if_pos ⟨rfl, rfl⟩]
    have e41 : sI (wSI (wSI (wSL (wSL S 39 0 (sL S 33 0)) 33 0 []) 38 0 1) 41 0 0) 41 0 = 0 := by rw [sI_I, if_pos ⟨rfl, rfl⟩]
    have e38 : sI (wSI (wSI (wSL (wSL S 39 0 (sL S 33 0)) 33 0 []) 38 0 1) 41 0 0) 38 0 = 1 := by rw [sI_N (by decide), sI_I, if_pos ⟨rfl, rfl⟩]
    rw [e39, e41, hI_n _ _ _ (by decide), hI_n _ _ _ (by decide), hI_s, Int32.add_zero]
    exact ⟨w3, rfl, fun z => absurd e38 z⟩
  · rw [hI_s, sI_N (by decide), sI_I, if_pos ⟨rfl, rfl⟩]
  · rw [hI_n _ _ _ (by decide), hI_n _ _ _ (by decide), hI_n _ _ _ (by decide), i12]; exact v2
  · rw [hI_n _ _ _ (by decide), hI_n _ _ _ (by decide), hI_n _ _ _ (by decide), i12]; exact v3
theorem v_begin (x : VS B S h) (h38 : sI S 38 0 = -1) : ∃ h', fX9_begin (B + 12) h = some ((), h') ∧ VS B (bgn S) h' ∧ Ag (vas B) h h' := by
  obtain ⟨v1, v2, v3⟩ := x.2.2
  have t12 := x.1.t 12 9 (by decide)
  obtain ⟨x1, g1⟩ := x.i12 (S' := S) 6 0 rfl rfl (fun l k hA => ⟨k, by
    unfold AC at *
    rw [hI_n _ _ _ (by decide), hI_n _ _ _ (by decide)]; exact hA⟩) (fun l k hP => ⟨k, fun z => absurd h38 z⟩) ⟨by rw [hI_n _ _ _ (by decide)]; exact v1, by rw [hI_n _ _ _ (by decide)]; exact v2, by rw [hI_n _ _ _ (by decide)]; exact v3⟩
  have h6 : hI (wI h (B + 12) 6 0) (B + 12) 6 = 0 := hI_s _ _ _ _
  generalize hh1 : wI h (B + 12) 6 0 = h1 at *
  have fl := x1.flag
  have e1 : oGR 8 1 (some (B + 12)) h1 = some (some (B + 27)) := hgR (x1.1.t 12 9 (by decide)) (x1.1.p 12 1 27 (by decide))
  have e0 : oGR 8 0 (some (B + 12)) h1 = some (some (B + 13)) := hgR (x1.1.t 12 9 (by decide)) (x1.1.p 12 0 13 (by decide))
  obtain ⟨p, b1⟩ := x1.2.1.1
  obtain ⟨p2, b2⟩ := x1.2.1.2.1
  have n1 := b1.2.1
  have n2 := b2.2.1
  unfold fX9_begin bgn bgn1
  rw [oPI_ok t12, sb, hh1, e1, sb, x1.1.q2.ob, sb, q_size b2 x1.1.q2, sb]
  cases hq : sQ S 35 with
  | cons t q =>
    rw [if_neg (show ¬ nI (t :: q).length ≤ 0 from nI_nle (by simp) (by rw [hq] at n2; omega))]
    obtain ⟨h', k1, k2, k3⟩ := v_takeA x1 h38 h6 hq
    rw [e1, sb] at k1
    exact ⟨h', k1, k2, g1.tr k3⟩
  | nil =>
    rw [if_pos (show nI ([] : List (List Int32)).length ≤ 0 by decide), x1.g 4, sb, fl]
    by_cases q : (sL S 33 0).length = 0
    · rw [if_pos q, if_pos q, if_pos rfl, e0, sb, x1.1.q1.ob, sb, q_size b1 x1.1.q1, sb]
      cases hn : sQ S 30 with
      | cons t q =>
        rw [if_neg (show ¬ nI (t :: q).length ≤ 0 from nI_nle (by simp) (by rw [hn] at n1; omega))]
        obtain ⟨h', k1, k2, k3⟩ := v_takeN x1 h38 h6 hn
        rw [e0, sb] at k1
        exact ⟨h', k1, k2, g1.tr k3⟩
      | nil =>
        rw [if_pos (show nI ([] : List (List Int32)).length ≤ 0 by decide)]
        refine ⟨h1, rfl, ?_, g1⟩
        obtain ⟨f, ⟨c1, c2, c3, ⟨l', k2, d1, d2⟩⟩, vn⟩ := x1
        exact ⟨f, ⟨c1, c2, c3, ⟨l', k2, d1, fun z => absurd h38 z⟩⟩, vn⟩
    · rw [if_neg q, if_neg q, if_neg (by decide)]
      obtain ⟨h', k1, k2, k3⟩ := v_takeW x1 h38 q
      exact ⟨h', k1, k2, g1.tr k3⟩
end VB2

/-! ===== the class's voice: what is spoken next ===== -/
section VZ
variable {B : Nat} {S : SS} {h : hp}
theorem v_takeA (x : VS B S h) (h38 : sI S 38 0 = -1) (h6 : hI h (B + 12) 6 = 0) {t : List Int32} {q : List (List Int32)} (hq : sQ S 35 = t :: q) : ∃ h', ((oGR 8 1 (some (B + 12)) h).bind fun x20 => (oGR 8 5 (some (B + 12)) h).bind fun x21 => (oOb 3 x20 h).bind fun b => o2 (fX4_moveFirst b x21 h) fun _ h23 => (oPI 8 7 (some (B + 12)) (2 : Int32) h23).bind fun h24 => some (((), h24))) = some ((), h') ∧ VS B (wSI (wSI (wSQ (wSL S 39 0 t) 35 q) 38 0 2) 41 0 0) h' ∧ Ag (vas B) h h' := by
  obtain ⟨fx, ⟨⟨p, b1⟩, ⟨p2, b2⟩, ⟨l, k0, b3, b4⟩, ⟨l', k2, c1, c2⟩⟩, v1, v2, v3⟩ := x
  have t12 := fx.t 12 9 (by decide)
  have hlen : 0 < (sQ S 35).length := by rw [hq]; exact Nat.succ_pos _
  obtain ⟨h2, p', a2, u2, d2, g2, f2⟩ := q_move b2 fx.q2 (by omega) (by omega) (by omega) (by omega) hlen c1 (by omega)
  have m2 : ∀ a ∈ [B + 27, B + 28, B + 73, B + 73 + 1], a = B + 27 ∨ a = B + 28 ∨ a = B + 73 ∨ a = B + 74 := by
    intro a ha
    simp only [List.mem_cons, List.not_mem_nil, or_false] at ha
    omega
  have nn : ∀ a, a ≠ B + 27 → a ≠ B + 28 → a ≠ B + 73 → a ≠ B + 74 → a ∉ [B + 27, B + 28, B + 73, B + 73 + 1] := fun a w1 w2 w3 w4 z => by have := m2 a z; omega
  have fx2 : FX B h2 := fx.ag' g2 (fun q hq hm => by
    have w := fx_13 q hq
    have := m2 _ hm
    have q13 : q.1 = 27 := by omega
    obtain ⟨qa, qb, qc⟩ := q
    simp only at q13 w
    have := w.2.1 q13
    rw [Prod.mk.injEq] at this
    obtain ⟨rfl, rfl⟩ := this
    subst q13
    exact f2.2.1)
  have t12' := fx2.t 12 9 (by decide)
  have i12 : hI h2 (B + 12) = hI h (B + 12) := g2.I (nn _ (by omega) (by omega) (by omega) (by omega))
  have y : Ag [B + 12] h2 (wI h2 (B + 12) 7 2) := Ag.wI (List.mem_singleton.mpr rfl)
  have my : ∀ a ∈ [B + 12], a = B + 12 := fun a ha => List.mem_singleton.mp ha
  have ny : ∀ a, a ≠ B + 12 → a ∉ [B + 12] := fun a w z => w (my a z)
  have oq : QU (B + 13) (B + 14) (B + 15) 6 p (sQ S 30) (wI h2 (B + 12) 7 2) := (b1.ag g2 (fun a ha => by have := m2 a ha; omega)).ag y (fun a ha => by have := my a ha; omega)
  replace u2 := u2.ag y (fun a ha => by have := my a ha; omega)
  rw [hq] at u2 d2
  have e1 : oGR 8 1 (some (B + 12)) h = some (some (B + 27)) := hgR t12 (fx.p 12 1 27 (by decide))
  have e5 : oGR 8 5 (some (B + 12)) h = some (some (B + 73)) := hgR t12 (fx.p 12 5 73 (by decide))
  refine ⟨wI h2 (B + 12) 7 2, ?_, ⟨⟨fx2.1, fx2.2.1, fx2.2.2⟩, ⟨⟨p, oq⟩, ⟨p', u2⟩, ⟨l, k0, (b3.ag g2 (nn _ (by omega) (by omega) (by omega) (by omega)) (nn _ (by omega) (by omega) (by omega) (by omega))).ag y (ny _ (by omega)) (ny _ (by omega)), ?_⟩, ⟨t, 0, d2.ag y (ny _ (by omega)) (ny _ (by omega)), ?_⟩⟩, ?_, ?_, ?_⟩, (g2.vas (fun a ha => by have := m2 a ha; omega)).tr (y.vas (fun a ha => by have := my a ha; omega))⟩
  · rw [e1, sb, e5, sb, fx.q2.ob, sb, a2, o2s, oPI_ok t12', sb]
  · rw [hI_n _ _ _ (by decide), hI_n _ _ _ (by decide), i12]; exact b4
  · intro z
    have e39 : sL (wSI (wSI (wSQ (wSL S 39 0 t) 35 q) 38 0 2) 41 0 0) 39 0 = t := by
      show sL (wSL S 39 0 t) 39 0 = t
      rw [sL_L, if_pos ⟨rfl, rfl⟩]
    have e41 : sI (wSI (wSI (wSQ (wSL S 39 0 t) 35 q) 38 0 2) 41 0 0) 41 0 = 0 := by rw [sI_I, if_pos ⟨rfl, rfl⟩]
    rw [e39, e41, hI_n _ _ _ (by decide), i12, h6]
    exact ⟨⟨Nat.zero_le _, rfl, Or.inl rfl⟩, by decide, fun _ => rfl⟩
  · rw [hI_s, sI_N (by decide), sI_I, if_pos ⟨rfl, rfl⟩]
  · rw [hI_n _ _ _ (by decide), i12]; exact v2
  · rw [hI_n _ _ _ (by decide), i12]; exact v3
theorem v_takeN (x : VS B S h) (h38 : sI S 38 0 = -1) (h6 : hI h (B + 12) 6 = 0) {t : List Int32} {q : List (List Int32)} (hq : sQ S 30 = t :: q) : ∃ h', ((oGR 8 0 (some (B + 12)) h).bind fun x20 => (oGR 8 5 (some (B + 12)) h).bind fun x21 => (oOb 3 x20 h).bind fun b => o2 (fX4_moveFirst b x21 h) fun _ h23 => (oPI 8 7 (some (B + 12)) (0 : Int32) h23).bind fun h24 => some (((), h24))) = some ((), h') ∧ VS B (wSI (wSI (wSQ (wSL S 39 0 t) 30 q) 38 0 0) 41 0 0) h' ∧ Ag (vas B) h h' := by
  obtain ⟨fx, ⟨⟨p, b1⟩, ⟨p2, b2⟩, ⟨l, k0, b3, b4⟩, ⟨l', k2, c1, c2⟩⟩, v1, v2, v3⟩ := x
  have t12 := fx.t 12 9 (by decide)
  have hlen : 0 < (sQ S 30).length := by rw [hq]; exact Nat.succ_pos _
  obtain ⟨h2, p', a2, u2, d2, g2, f2⟩ := q_move b1 fx.q1 (by omega) (by omega) (by omega) (by omega) hlen c1 (by omega)
  have m2 : ∀ a ∈ [B + 13, B + 14, B + 73, B + 73 + 1], a = B + 13 ∨ a = B + 14 ∨ a = B + 73 ∨ a = B + 74 := by
    intro a ha
    simp only [List.mem_cons, List.not_mem_nil, or_false] at ha
    omega
  have nn : ∀ a, a ≠ B + 13 → a ≠ B + 14 → a ≠ B + 73 → a ≠ B + 74 → a ∉ [B + 13, B + 14, B + 73, B + 73 + 1] := fun a w1 w2 w3 w4 z => by have := m2 a z; omega
  have fx2 : FX B h2 := fx.ag' g2 (fun q hq hm => by
    have w := fx_13 q hq
    have := m2 _ hm
    have q13 : q.1 = 13 := by omega
    obtain ⟨qa, qb, qc⟩ := q
    simp only at q13 w
    have := w.1 q13
    rw [Prod.mk.injEq] at this
    obtain ⟨rfl, rfl⟩ := this
    subst q13
    exact f2.2.1)
  have t12' := fx2.t 12 9 (by decide)
  have i12 : hI h2 (B + 12) = hI h (B + 12) := g2.I (nn _ (by omega) (by omega) (by omega) (by omega))
  have y : Ag [B + 12] h2 (wI h2 (B + 12) 7 0) := Ag.wI (List.mem_singleton.mpr rfl)
  have my : ∀ a ∈ [B + 12], a = B + 12 := fun a ha => List.mem_singleton.mp ha
  have ny : ∀ a, a ≠ B + 12 → a ∉ [B + 12] := fun a w z => w (my a z)
  have oq : QU (B + 27) (B + 28) (B + 29) 21 p2 (sQ S 35) (wI h2 (B + 12) 7 0) := (b2.ag g2 (fun a ha => by have := m2 a ha; omega)).ag y (fun a ha => by have := my a ha; omega)
  replace u2 := u2.ag y (fun a ha => by have := my a ha; omega)
  rw [hq] at u2 d2
  have e1 : oGR 8 0 (some (B + 12)) h = some (some (B + 13)) := hgR t12 (fx.p 12 0 13 (by decide))
  have e5 : oGR 8 5 (some (B + 12)) h = some (some (B + 73)) := hgR t12 (fx.p 12 5 73 (by decide))
  refine ⟨wI h2 (B + 12) 7 0, ?_, ⟨⟨fx2.1, fx2.2.1, fx2.2.2⟩, ⟨⟨p', u2⟩, ⟨p2, oq⟩, ⟨l, k0, (b3.ag g2 (nn _ (by omega) (by omega) (by omega) (by omega)) (nn _ (by omega) (by omega) (by omega) (by omega))).ag y (ny _ (by omega)) (ny _ (by omega)), ?_⟩, ⟨t, 0, d2.ag y (ny _ (by omega)) (ny _ (by omega)), ?_⟩⟩, ?_, ?_, ?_⟩, (g2.vas (fun a ha => by have := m2 a ha; omega)).tr (y.vas (fun a ha => by have := my a ha; omega))⟩
  · rw [e1, sb, e5, sb, fx.q1.ob, sb, a2, o2s, oPI_ok t12', sb]
  · rw [hI_n _ _ _ (by decide), hI_n _ _ _ (by decide), i12]; exact b4
  · intro z
    have e39 : sL (wSI (wSI (wSQ (wSL S 39 0 t) 30 q) 38 0 0) 41 0 0) 39 0 = t := by
      show sL (wSL S 39 0 t) 39 0 = t
      rw [sL_L, if_pos ⟨rfl, rfl⟩]
    have e41 : sI (wSI (wSI (wSQ (wSL S 39 0 t) 30 q) 38 0 0) 41 0 0) 41 0 = 0 := by rw [sI_I, if_pos ⟨rfl, rfl⟩]
    rw [e39, e41, hI_n _ _ _ (by decide), i12, h6]
    exact ⟨⟨Nat.zero_le _, rfl, Or.inl rfl⟩, by decide, fun _ => rfl⟩
  · rw [hI_s, sI_N (by decide), sI_I, if_pos ⟨rfl, rfl⟩]
  · rw [hI_n _ _ _ (by decide), i12]; exact v2
  · rw [hI_n _ _ _ (by decide), i12]; exact v3
end VZ

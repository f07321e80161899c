/-! ===== the class's voice ===== -/
def vas (B : Nat) : List Nat := (List.range 63).map (fun k => B + 12 + k)
theorem mem_vas {B a : Nat} : a ∈ vas B ↔ B + 12 ≤ a ∧ a < B + 75 := by
  unfold vas
  rw [List.mem_map]
  constructor
  · rintro ⟨k, k1, rfl⟩
    have := List.mem_range.mp k1
    omega
  · intro q
    exact ⟨a - (B + 12), List.mem_range.mpr (by omega), by omega⟩
theorem Ag.vas {B : Nat} {as : List Nat} {h h' : hp} (x : Ag as h h') (ha : ∀ a ∈ as, B + 12 ≤ a ∧ a < B + 75) : Ag (vas B) h h' := x.mono (fun a z => mem_vas.mpr (ha a z))
theorem FX.ag' {B : Nat} {h h' : hp} {as : List Nat} (x : FX B h) (y : Ag as h h') (ha : ∀ p ∈ fxP, B + p.1 ∈ as → hR h' (B + p.1) p.2.1 = some (B + p.2.2)) : FX B h' :=
  ⟨fun p hp => by rw [y.T]; exact x.1 p hp, fun p hp => by rw [y.T]; exact x.2.1 p hp, fun p hp => by
    by_cases z : B + p.1 ∈ as
    · exact ha p hp z
    · rw [y.R z]; exact x.2.2 p hp⟩
theorem fx_13 : ∀ p ∈ fxP, (p.1 = 13 → p.2 = (0, 14)) ∧ (p.1 = 27 → p.2 = (0, 28)) ∧ (p.1 < 12 ∨ p.1 = 12 ∨ p.1 = 13 ∨ p.1 = 27 ∨ 75 < p.1) := by decide
theorem FX.q1 {B : Nat} {h : hp} (x : FX B h) : QF (B + 13) (B + 14) 6 h := ⟨x.t 13 4 (by decide), x.p 13 0 14 (by decide), x.a 14 23 6 (by decide), by decide⟩
theorem FX.q2 {B : Nat} {h : hp} (x : FX B h) : QF (B + 27) (B + 28) 21 h := ⟨x.t 27 4 (by decide), x.p 27 0 28 (by decide), x.a 28 23 21 (by decide), by decide⟩
def VN (B : Nat) (S : SS) (h : hp) : Prop := hI h (B + 12) 7 = sI S 38 0 ∧ hI h (B + 12) 9 = sI S 43 0 ∧ hI h (B + 12) 10 = sI S 44 0
def VS (B : Nat) (S : SS) (h : hp) : Prop := FX B h ∧ VO B S h ∧ VN B S h
theorem VN.ag {B : Nat} {S : SS} {h h' : hp} {as : List Nat} (x : VN B S h) (y : Ag as h h') (ha : B + 12 ∉ as) : VN B S h' := by
  unfold VN at *
  rw [y.I ha]; exact x
section VV
variable {B : Nat} {S : SS} {h : hp}
theorem VS.dropped (x : VS B S h) : ∃ h', ((oGI 8 10 (some (B + 12)) h).bind fun x10 => oPI 8 10 (some (B + 12)) (x10 + (1 : Int32)) h) = some h' ∧ VS B (drop1 S) h' ∧ Ag (vas B) h h' := by
  obtain ⟨f, ⟨⟨p, b1⟩, ⟨p2, b2⟩, ⟨l, k0, b3, b4⟩, ⟨l', k2, c1, c2⟩⟩, v1, v2, v3⟩ := x
  have t12 := f.t 12 9 (by decide)
  have y : Ag [B + 12] h (wI h (B + 12) 10 (sI S 44 0 + 1)) := Ag.wI (List.mem_singleton.mpr rfl)
  have nn : ∀ a, a ≠ B + 12 → a ∉ [B + 12] := fun a q z => q (List.mem_singleton.mp z)
  refine ⟨wI h (B + 12) 10 (sI S 44 0 + 1), ?_, ⟨⟨f.1, f.2.1, f.2.2⟩, ⟨⟨p, b1.ag y (fun a ha => by rw [List.mem_singleton.mp ha]; omega)⟩, ⟨p2, b2.ag y (fun a ha => by rw [List.mem_singleton.mp ha]; omega)⟩, ⟨l, k0, b3.ag y (nn _ (by omega)) (nn _ (by omega)), ?_⟩, ⟨l', k2, c1.ag y (nn _ (by omega)) (nn _ (by omega)), ?_⟩⟩, ?_, ?_, ?_⟩, y.vas (fun a ha => by rw [List.mem_singleton.mp ha]; omega)⟩
  · rw [hgI t12 v3, sb, oPI_ok t12]
  · rw [hI_n _ _ _ (by decide), hI_n _ _ _ (by decide)]; exact b4
  · rw [hI_n _ _ _ (by decide)]; exact c2
  · rw [hI_n _ _ _ (by decide)]; exact v1
  · rw [hI_n _ _ _ (by decide)]; exact v2
  · rw [hI_s]
    unfold drop1
    rw [sI_I, if_pos ⟨rfl, rfl⟩]
theorem v_news (x : VS B S h) (h5 : (sQ S 30).length ≤ 5) {b2 n2 : Nat} {t : List Int32} (y : Cd h b2 n2 t) (hb : b2 + 1 < B + 12 ∨ B + 75 ≤ b2) (h0 : 0 < t.length) (ht : t.length ≤ 80) : ∃ h', fX9_comeNews (B + 12) (some b2) h = some ((), h') ∧ VS B (cNews S t) h' ∧ Ag (vas B) h h' := by
  obtain ⟨f, ⟨⟨p, b1⟩, ⟨p2, b2'⟩, ⟨l, k0, b3, b4⟩, ⟨l', k2, c1, c2⟩⟩, vn⟩ := x
  have t12 := f.t 12 9 (by decide)
  have nb := y.2.2.2.2.2.1
  have nl := y.2.2.2.2.1
  have e0 : oGR 8 0 (some (B + 12)) h = some (some (B + 13)) := hgR t12 (f.p 12 0 13 (by decide))
  obtain ⟨h1, a1, u1, g1, f1⟩ := q_put b1 f.q1 (by omega) (by omega) (by omega) y (by omega) ht (by omega)
  have pj := (b1.2.2.1 (sQ S 30).length (by omega)).1
  have m1 : ∀ a ∈ [B + 13, B + 15 + 2 * p (sQ S 30).length, B + 15 + 2 * p (sQ S 30).length + 1], a = B + 13 ∨ (B + 15 ≤ a ∧ a < B + 27) := by
    intro a ha
    simp only [List.mem_cons, List.not_mem_nil, or_false] at ha
    omega
  have fx1 : FX B h1 := f.ag' g1 (fun q hq hm => by
    obtain ⟨w1, w2, w3⟩ := fx_13 q hq
    have := m1 _ hm
    have q13 : q.1 = 13 := by omega
    obtain ⟨qa, qb, qc⟩ := q
    simp only at q13 w1
    have := w1 q13
    rw [Prod.mk.injEq] at this
    obtain ⟨rfl, rfl⟩ := this
    subst q13
    exact f1.2.1)
  have t12' := fx1.t 12 9 (by decide)
  have nn1 : ∀ a, a ≠ B + 13 → (a < B + 15 ∨ B + 27 ≤ a) → a ∉ [B + 13, B + 15 + 2 * p (sQ S 30).length, B + 15 + 2 * p (sQ S 30).length + 1] := fun a w1 w2 z => by have := m1 a z; omega
  have e1 : oGR 8 0 (some (B + 12)) h1 = some (some (B + 13)) := hgR t12' (fx1.p 12 0 13 (by decide))
  have vn1 : VN B S h1 := vn.ag g1 (nn1 _ (by omega) (by omega))
  have o2' : QU (B + 27) (B + 28) (B + 29) 21 p2 (sQ S 35) h1 := b2'.ag g1 (fun a ha => by have := m1 a ha; omega)
  have b3' := b3.ag g1 (nn1 _ (by omega) (by omega)) (nn1 _ (by omega) (by omega))
  have c1' := c1.ag g1 (nn1 _ (by omega) (by omega)) (nn1 _ (by omega) (by omega))
  have i12 : hI h1 (B + 12) = hI h (B + 12) := g1.I (nn1 _ (by omega) (by omega))
  have hlen : (sQ S 30 ++ [t]).length = (sQ S 30).length + 1 := by rw [List.length_append]; rfl
  have pre : fX9_comeNews (B + 12) (some b2) h = (if nI ((sQ S 30).length + 1) < (6 : Int32) then (some (((), h1))) else (oGR 8 0 (some (B + 12)) h1).bind fun x7 => (oOb 3 x7 h1).bind fun b => o2 (fX4_dropFirst b h1) fun _ h9 => (oGI 8 10 (some (B + 12)) h9).bind fun x10 => (oPI 8 10 (some (B + 12)) (x10 + (1 : Int32)) h9).bind fun h11 => some (((), h11))) := by
    unfold fX9_comeNews
    rw [y.ob, sb, c_size y, sb, if_neg (nI_ne0 h0 (by omega)), e0, sb, f.q1.ob, sb, a1, o2s, e1, sb, f1.ob, sb, q_size u1 f1, sb, hlen]
  rw [pre]
  unfold cNews
  by_cases q : (sQ S 30).length = 5
  · rw [if_pos q, q, if_neg (show ¬ nI (5 + 1) < (6 : Int32) by decide), e1, sb, f1.ob, sb]
    obtain ⟨h2, p', a2, u2, g2, f2⟩ := q_drop u1 f1 (by omega) (by omega) (by omega) (by rw [hlen]; omega)
    have m2 : ∀ a ∈ [B + 13, B + 14], a = B + 13 ∨ a = B + 14 := by
      intro a ha
      simp only [List.mem_cons, List.not_mem_nil, or_false] at ha
      exact ha
    have nn2 : ∀ a, a ≠ B + 13 → a ≠ B + 14 → a ∉ [B + 13, B + 14] := fun a w1 w2 z => by have := m2 a z; omega
    have fx2 : FX B h2 := fx1.ag' g2 (fun q hq hm => by
      obtain ⟨w1, w2, w3⟩ := fx_13 q hq
      have := m2 _ hm
      have q13 : q.1 = 13 := by omega
      obtain ⟨qa, qb, qc⟩ := q
      simp only at q13 w1
      have := w1 q13
      rw [Prod.mk.injEq] at this
      obtain ⟨rfl, rfl⟩ := this
      subst q13
      exact f2.2.1)
    have x2 : VS B (wSQ S 30 ((sQ S 30 ++ [t]).drop 1)) h2 := by
      refine ⟨fx2, ⟨⟨p', u2⟩, ⟨p2, o2'.ag g2 (fun a ha => by have := m2 a ha; omega)⟩, ⟨l, k0, b3'.ag g2 (nn2 _ (by omega) (by omega)) (nn2 _ (by omega) (by omega)), ?_⟩, ⟨l', k2, c1'.ag g2 (nn2 _ (by omega) (by omega)) (nn2 _ (by omega) (by omega)), ?_⟩⟩, vn1.ag g2 (nn2 _ (by omega) (by omega))⟩
      · rw [g2.I (nn2 _ (by omega) (by omega)), i12]; exact b4
      · rw [g2.I (nn2 _ (by omega) (by omega)), i12]; exact c2
    obtain ⟨h3, a3, x3, g3⟩ := x2.dropped
    refine ⟨h3, ?_, x3, ((g1.vas (fun a ha => by have := m1 a ha; omega)).tr (g2.vas (fun a ha => by have := m2 a ha; omega))).tr g3⟩
    rw [a2, o2s, ← Option.bind_assoc, a3, sb]
  · rw [if_neg q, if_pos (show nI ((sQ S 30).length + 1) < (6 : Int32) from nI_lt (b := 6) (by omega) (by decide))]
    refine ⟨h1, rfl, ⟨fx1, ⟨⟨p, u1⟩, ⟨p2, o2'⟩, ⟨l, k0, b3', ?_⟩, ⟨l', k2, c1', ?_⟩⟩, vn1⟩, g1.vas (fun a ha => by have := m1 a ha; omega)⟩
    · rw [i12]; exact b4
    · rw [i12]; exact c2
end VV

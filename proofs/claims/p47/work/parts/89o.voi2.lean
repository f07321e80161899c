/-! ===== the class's voice: answers ===== -/
def AC (B : Nat) (S : SS) (h : hp) (l : List Int32) (k : Nat) : Prop := if (sL S 33 0).length = 0 then hI h (B + 12) 4 = 0 else hI h (B + 12) 4 = 1 ∧ hI h (B + 12) 3 = nI k ∧ SX l k (sL S 33 0)
def PC (B : Nat) (S : SS) (h : hp) (l : List Int32) (k : Nat) : Prop := sI S 38 0 ≠ -1 → SX l k (sL S 39 0) ∧ hI h (B + 12) 6 = nI k + sI S 41 0 ∧ (sI S 38 0 ≠ 1 → k = 0)
theorem wSL_same {S : SS} {k i : Nat} {l : List Int32} (h : sL S k i = l) : wSL S k i l = S := by
  rw [← h]
  unfold wSL sL
  rw [up2_self]
theorem wSL_two (S : SS) (k i : Nat) (v w : List Int32) : wSL (wSL S k i v) k i w = wSL S k i w := by
  unfold wSL
  have : up2 (up2 S.2.1 k i v) k i w = up2 S.2.1 k i w := by
    funext a j
    rw [up2_g, up2_g, up2_g]
    by_cases q : a = k ∧ j = i
    · rw [if_pos q, if_pos q]
    · rw [if_neg q, if_neg q, if_neg q]
  rw [this]
section VW
variable {B : Nat} {S S' : SS} {h : hp}
theorem VS.i12 (x : VS B S h) (f : Nat) (v : Int32) (h30 : sQ S' 30 = sQ S 30) (h35 : sQ S' 35 = sQ S 35) (hA : ∀ l k, AC B S h l k → ∃ k', AC B S' (wI h (B + 12) f v) l k') (hP : ∀ l k, PC B S h l k → ∃ k', PC B S' (wI h (B + 12) f v) l k') (hN : VN B S' (wI h (B + 12) f v)) : VS B S' (wI h (B + 12) f v) ∧ Ag (vas B) h (wI h (B + 12) f v) := by
  obtain ⟨fx, ⟨⟨p, b1⟩, ⟨p2, b2⟩, ⟨l, k0, b3, b4⟩, ⟨l', k2, c1, c2⟩⟩, vn⟩ := x
  have y : Ag [B + 12] h (wI h (B + 12) f v) := Ag.wI (List.mem_singleton.mpr rfl)
  have nn : ∀ a, a ≠ B + 12 → a ∉ [B + 12] := fun a q z => q (List.mem_singleton.mp z)
  obtain ⟨k', hA'⟩ := hA l k0 b4
  obtain ⟨k'', hP'⟩ := hP l' k2 c2
  refine ⟨⟨⟨fx.1, fx.2.1, fx.2.2⟩, ⟨⟨p, ?_⟩, ⟨p2, ?_⟩, ⟨l, k', b3.ag y (nn _ (by omega)) (nn _ (by omega)), hA'⟩, ⟨l', k'', c1.ag y (nn _ (by omega)) (nn _ (by omega)), hP'⟩⟩, hN⟩, y.vas (fun a ha => by rw [List.mem_singleton.mp ha]; omega)⟩
  · rw [h30]; exact b1.ag y (fun a ha => by rw [List.mem_singleton.mp ha]; omega)
  · rw [h35]; exact b2.ag y (fun a ha => by rw [List.mem_singleton.mp ha]; omega)
theorem VS.ob (x : VS B S h) : oOb 8 (some (B + 12)) h = some (B + 12) := hgO (x.1.t 12 9 (by decide))
theorem VS.g (x : VS B S h) (f : Nat) : oGI 8 f (some (B + 12)) h = some (hI h (B + 12) f) := hgI (x.1.t 12 9 (by decide)) rfl
theorem VS.flag (x : VS B S h) : hI h (B + 12) 4 = (if (sL S 33 0).length = 0 then 0 else 1) := by
  obtain ⟨l, k, -, b4⟩ := x.2.1.2.2.1
  by_cases q : (sL S 33 0).length = 0
  · rw [if_pos q] at b4 ⊢; exact b4
  · rw [if_neg q] at b4 ⊢; exact b4.1
theorem oPZ_ok {ci j a : Nat} {v : Int32} (ht : (hT h a).1 = ci + 1) (hv : v = 0 ∨ v = 1) : oPZ ci j (some a) v h = some (wI h a j v) := by
  show (if (hT h a).1 = ci + 1 ∧ (v = 0 ∨ v = 1) then some _ else none) = _
  rw [if_pos ⟨ht, hv⟩]
theorem v_dropA (x : VS B S h) : ∃ h', fX9_dropAnswerThatWaits (B + 12) h = some ((), h') ∧ VS B (wSL (hshA S) 33 0 []) h' ∧ Ag (vas B) h h' := by
  have hf := x.flag
  unfold fX9_dropAnswerThatWaits hshA
  rw [x.g 4, sb, hf]
  by_cases q : (sL S 33 0).length = 0
  · rw [if_pos q, if_pos q, if_pos rfl, wSL_same (List.eq_nil_of_length_eq_zero q)]
    exact ⟨h, rfl, x, Ag.rf⟩
  · rw [if_neg q, if_neg q, if_neg (by decide), oPZ_ok (x.1.t 12 9 (by decide)) (Or.inl rfl), sb]
    obtain ⟨x1, g1⟩ := x.i12 (S' := wSL S 33 0 []) 4 0 rfl rfl (fun l k hA => ⟨k, by
      unfold AC
      rw [if_pos (by rw [sL_L, if_pos ⟨rfl, rfl⟩]; rfl), hI_s]⟩) (fun l k hP => ⟨k, fun z => by
      have := hP z
      rw [hI_n _ _ _ (by decide)]; exact this⟩) (by
      obtain ⟨v1, v2, v3⟩ := x.2.2
      exact ⟨by rw [hI_n _ _ _ (by decide)]; exact v1, by rw [hI_n _ _ _ (by decide)]; exact v2, by rw [hI_n _ _ _ (by decide)]; exact v3⟩)
    obtain ⟨h2, a2, x2, g2⟩ := x1.dropped
    rw [← Option.bind_assoc, a2, sb]
    exact ⟨h2, rfl, x2, g1.tr g2⟩
theorem v_dropS (x : VS B S h) : ∃ h', fX9_dropSpokenBelowAlert (B + 12) h = some ((), h') ∧ VS B (hshS S) h' ∧ Ag (vas B) h h' := by
  obtain ⟨v1, v2, v3⟩ := x.2.2
  have e7 : oGI 8 7 (some (B + 12)) h = some (sI S 38 0) := by rw [x.g 7, v1]
  have key : ∃ h', ((oPI 8 7 (some (B + 12)) (-1 : Int32) h).bind fun h2 => (oGI 8 10 (some (B + 12)) h2).bind fun x3 => (oPI 8 10 (some (B + 12)) (x3 + (1 : Int32)) h2).bind fun h4 => some (((), h4))) = some ((), h') ∧ VS B (drop1 (wSI S 38 0 (-1))) h' ∧ Ag (vas B) h h' := by
    obtain ⟨x1, g1⟩ := x.i12 (S' := wSI S 38 0 (-1)) 7 (-1) rfl rfl (fun l k hA => ⟨k, by
      unfold AC at *
      rw [hI_n _ _ _ (by decide), hI_n _ _ _ (by decide)]; exact hA⟩) (fun l k hP => ⟨k, fun z => absurd (show sI (wSI S 38 0 (-1)) 38 0 = -1 by rw [sI_I, if_pos ⟨rfl, rfl⟩]) z⟩) ⟨by rw [hI_s, sI_I, if_pos ⟨rfl, rfl⟩], by rw [hI_n _ _ _ (by decide)]; exact v2, by rw [hI_n _ _ _ (by decide)]; exact v3⟩
    obtain ⟨h2, a2, x2, g2⟩ := x1.dropped
    refine ⟨h2, ?_, x2, g1.tr g2⟩
    rw [oPI_ok (x.1.t 12 9 (by decide)), sb, ← Option.bind_assoc, a2, sb]
  obtain ⟨h', k1, k2, k3⟩ := key
  unfold fX9_dropSpokenBelowAlert hshS
  rw [e7, sb]
  by_cases q0 : sI S 38 0 = 0
  · rw [if_pos q0, if_pos (Or.inl q0)]
    exact ⟨h', k1, k2, k3⟩
  · rw [if_neg q0, sb]
    by_cases q1 : sI S 38 0 = 1
    · rw [if_pos q1, if_pos (Or.inr q1)]
      exact ⟨h', k1, k2, k3⟩
    · rw [if_neg q1, if_neg (fun z => z.elim q0 q1)]
      exact ⟨h, rfl, x, Ag.rf⟩
theorem v_ans (x : VS B S h) {b2 n2 : Nat} {t : List Int32} (y : Cd h b2 n2 t) (hb : b2 + 1 < B + 12 ∨ B + 75 ≤ b2) (ht : t.length ≤ 80) : ∃ h', fX9_comeAnswer (B + 12) (some b2) h = some ((), h') ∧ VS B (cAns S t) h' ∧ Ag (vas B) h h' := by
  have y6 := y.2.2.2.2.2.1
  have y5 := y.2.2.2.2.1
  unfold fX9_comeAnswer cAns
  rw [y.ob, sb, c_size y, sb]
  by_cases q : t.length = 0
  · rw [q, if_pos (show nI 0 = 0 from rfl), if_pos rfl]
    exact ⟨h, rfl, x, Ag.rf⟩
  · rw [if_neg (nI_ne0 (by omega) (by omega)), if_neg q, x.ob, sb]
    obtain ⟨h1, a1, x1, g1⟩ := v_dropA x
    obtain ⟨h2, a2, x2, g2⟩ := v_dropS x1
    have nv : ∀ a, (a < B + 12 ∨ B + 75 ≤ a) → a ∉ vas B := fun a w z => by have := mem_vas.mp z; omega
    have y2 := (y.ag g1 (nv _ (by omega)) (nv _ (by omega))).ag g2 (nv _ (by omega)) (nv _ (by omega))
    rw [a1, o2s, x1.ob, sb, a2, o2s]
    obtain ⟨fx, ⟨⟨p, b1⟩, ⟨p2, b2'⟩, ⟨l, k0, b3, b4⟩, ⟨l', k2, c1, c2⟩⟩, v1, v2, v3⟩ := x2
    obtain ⟨h3, a3, c3, g3⟩ := c_copy b3 y2 (by omega) ht
    have t12 := fx.t 12 9 (by decide)
    have m3 : ∀ a ∈ [B + 71, B + 71 + 1], a = B + 71 ∨ a = B + 72 := by
      intro a ha
      simp only [List.mem_cons, List.not_mem_nil, or_false] at ha
      omega
    have nn3 : ∀ a, a ≠ B + 71 → a ≠ B + 72 → a ∉ [B + 71, B + 71 + 1] := fun a w1 w2 z => by have := m3 a z; omega
    have fx3 : FX B h3 := fx.ag g3 (fun a ha q hq => by
      obtain ⟨w1, w2, w3⟩ := fx_13 q hq
      have := m3 a ha
      omega)
    have t12' := fx3.t 12 9 (by decide)
    have e2 : oGR 8 2 (some (B + 12)) h2 = some (some (B + 71)) := hgR t12 (fx.p 12 2 71 (by decide))
    have g4 : Ag [B + 12] h3 (wI h3 (B + 12) 3 0) := Ag.wI (List.mem_singleton.mpr rfl)
    have g5 : Ag [B + 12] (wI h3 (B + 12) 3 0) (wI (wI h3 (B + 12) 3 0) (B + 12) 4 1) := Ag.wI (List.mem_singleton.mpr rfl)
    have g45 := g4.tr g5
    have nn : ∀ a, a ≠ B + 12 → a ∉ [B + 12] := fun a q z => q (List.mem_singleton.mp z)
    have i12 : hI h3 (B + 12) = hI h2 (B + 12) := g3.I (nn3 _ (by omega) (by omega))
    have ih : ∀ f, f ≠ 3 → f ≠ 4 → hI (wI (wI h3 (B + 12) 3 0) (B + 12) 4 1) (B + 12) f = hI h2 (B + 12) f := fun f w1 w2 => by
      rw [hI_n _ _ _ w2, hI_n _ _ _ w1, i12]
    have es : wSL (hshS (wSL (hshA S) 33 0 [])) 33 0 t = wSL (hshS (hshA S)) 33 0 t := by
      have : hshS (wSL (hshA S) 33 0 []) = wSL (hshS (hshA S)) 33 0 [] := by
        unfold hshS
        by_cases w : sI (hshA S) 38 0 = 0 ∨ sI (hshA S) 38 0 = 1
        · rw [if_pos w, if_pos (show sI (wSL (hshA S) 33 0 []) 38 0 = 0 ∨ sI (wSL (hshA S) 33 0 []) 38 0 = 1 from w)]; rfl
        · rw [if_neg w, if_neg (show ¬ (sI (wSL (hshA S) 33 0 []) 38 0 = 0 ∨ sI (wSL (hshA S) 33 0 []) 38 0 = 1) from w)]
      rw [this, wSL_two]
    rw [← es]
    refine ⟨wI (wI h3 (B + 12) 3 0) (B + 12) 4 1, ?_, ⟨⟨fx3.1, fx3.2.1, fx3.2.2⟩, ⟨⟨p, ?_⟩, ⟨p2, ?_⟩, ⟨t, 0, c3.ag g45 (nn _ (by omega)) (nn _ (by omega)), ?_⟩, ⟨l', k2, (c1.ag g3 (nn3 _ (by omega) (by omega)) (nn3 _ (by omega) (by omega))).ag g45 (nn _ (by omega)) (nn _ (by omega)), ?_⟩⟩, ?_, ?_, ?_⟩, ((g1.tr g2).tr (g3.vas (fun a ha => by have := m3 a ha; omega))).tr (g45.vas (fun a ha => by rw [List.mem_singleton.mp ha]; omega))⟩
    · rw [e2, sb, b3.ob, sb, a3, o2s, oPI_ok t12', sb, oPZ_ok (show (hT (wI h3 (B + 12) 3 0) (B + 12)).1 = 8 + 1 from t12') (Or.inr rfl), sb]
    · exact (b1.ag g3 (fun a ha => by have := m3 a ha; omega)).ag g45 (fun a ha => by rw [List.mem_singleton.mp ha]; omega)
    · exact (b2'.ag g3 (fun a ha => by have := m3 a ha; omega)).ag g45 (fun a ha => by rw [List.mem_singleton.mp ha]; omega)
    · have e33 : sL (wSL (hshS (wSL (hshA S) 33 0 [])) 33 0 t) 33 0 = t := by rw [sL_L, if_pos ⟨rfl, rfl⟩]
      rw [e33, if_neg q, hI_s]
      refine ⟨rfl, by rw [hI_n _ _ _ (by decide), hI_s]; rfl, Nat.zero_le _, rfl, Or.inl rfl⟩
    · intro z
      rw [ih 6 (by decide) (by decide)]
      exact c2 z
    · rw [ih 7 (by decide) (by decide)]; exact v1
    · rw [ih 9 (by decide) (by decide)]; exact v2
    · rw [ih 10 (by decide) (by decide)]; exact v3
end VW

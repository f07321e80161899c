/-! ===== the class makes an element ===== -/
def Gw (h h' : hp) : Prop := hN h ≤ hN h' ∧ (∀ a, a < hN h → hT h' a = hT h a ∧ (∀ k, hI h' a k = hI h a k) ∧ ∀ k, hR h' a k = hR h a k) ∧ ∀ a, a < hN h → ∀ k, hJ h' a k = hJ h a k
theorem Cd.gw {h h' : hp} {b n : Nat} {l : List Int32} (x : Cd h b n l) (g : Gw h h') (hb : b + 1 < hN h) : Cd h' b n l := by
  obtain ⟨a1, a2, a3, a4, a5, a6, a7⟩ := x
  have f0 := g.2.1 b (by omega)
  have f1 := g.2.1 (b + 1) hb
  exact ⟨by rw [f0.1]; exact a1, by rw [f0.2.2]; exact a2, by rw [f1.1]; exact a3, by rw [f0.2.1]; exact a4, a5, a6, Sl_eq a7 (fun k _ => f1.2.1 _)⟩
theorem EL.gw {S : SS} {E : Nat → Nat} {i : Nat} {h h' : hp} (x : EL S E i h) (g : Gw h h') (hb : E i + 8 ≤ hN h) : EL S E i h' := by
  obtain ⟨a1, a2, a3, a4, a5, a6, a7⟩ := x
  have f0 := g.2.1 (E i) (by omega)
  have f1 := g.2.1 (E i + 1) (by omega)
  refine ⟨by rw [f0.1]; exact a1, by rw [f1.1]; exact a2, ?_, ?_, a5.gw g (by omega), a6.gw g (by omega), a7.gw g (by omega)⟩
  · unfold EI at *
    rw [f0.2.1, f0.2.1, f0.2.1, f0.2.1, f0.2.1, f0.2.1, f0.2.1, f0.2.1, f0.2.1, f0.2.1]; exact a3
  · unfold ER at *
    rw [f0.2.2, f0.2.2, f0.2.2, f0.2.2, f0.2.2]
    exact ⟨a4.1, a4.2.1, a4.2.2.1, a4.2.2.2.1, a4.2.2.2.2.1, fun k hk => by rw [f1.2.2]; exact a4.2.2.2.2.2 k hk⟩
theorem QU.gw {o r c n : Nat} {p : Nat → Nat} {q : List (List Int32)} {h h' : hp} (x : QU o r c n p q h) (g : Gw h h') (ho : o < hN h) (hr : r < hN h) (hc : c + 2 * n ≤ hN h) : QU o r c n p q h' := by
  obtain ⟨a1, a2, a3, a4, a5, a6⟩ := x
  refine ⟨by rw [(g.2.1 o ho).2.1]; exact a1, a2, fun j hj => by rw [(g.2.1 r hr).2.2]; exact a3 j hj, a4, fun j hj => ?_, fun j hj => (a6 j hj).gw g (by have := (a3 j (by omega)).1; omega)⟩
  obtain ⟨l, hl⟩ := a5 j hj
  exact ⟨l, hl.gw g (by have := (a3 j hj).1; omega)⟩
section MK
variable {B : Nat} {E E' : Nat → Nat} {S S' : SS} {li : List Int32} {od : List Nat} {h h' : hp}
theorem EA.top {n N : Nat} (x : EA B E n N) {i : Nat} (hi : i < n) : E i + 8 ≤ N := by
  rcases Nat.eq_zero_or_pos i with z | z
  · subst z
    have := x.1
    have := x.2.1
    omega
  · exact (x.2.2.1 i z hi).2
theorem RW.grow (x : RW B E S li od h) (g : Gw h h') : RW B E S li od h' := by
  obtain ⟨⟨f1, f2, f3⟩, a2, ⟨i1, i2, i3, i4⟩, a4, ⟨t1, t2, t3, t4⟩, ⟨o1, o2⟩, ⟨⟨p, b1⟩, ⟨p2, b2⟩, ⟨l, k, b3, b4⟩, ⟨l', k', c1, c2⟩⟩, ⟨r1, r2⟩, ⟨⟨l1, s1⟩, ⟨l2, s2⟩, ⟨l3, s3⟩⟩, a10, a11, d1⟩ := x
  have hB : B + 96 ≤ hN h := a2.2.1
  have f := fun a (ha : a < B + 96) => g.2.1 a (by omega)
  have hT' : ∀ p ∈ fxT, p.1 < 90 := by decide
  have hA' : ∀ p ∈ fxA, p.1 < 90 := by decide
  have hP' : ∀ p ∈ fxP, p.1 < 90 := by decide
  have hI' : ∀ p ∈ fxI, p.1 < 90 := by decide
  refine ⟨⟨fun p hp => by rw [(f _ (by have := hT' p hp; omega)).1]; exact f1 p hp, fun p hp => by rw [(f _ (by have := hA' p hp; omega)).1]; exact f2 p hp, fun p hp => by rw [(f _ (by have := hP' p hp; omega)).2.2]; exact f3 p hp⟩, ⟨a2.1, by have := g.1; omega, fun i i0 i1 => ⟨(a2.2.2.1 i i0 i1).1, Nat.le_trans (a2.2.2.1 i i0 i1).2 g.1⟩, a2.2.2.2⟩, ⟨fun p hp => by rw [(f _ (by have := hI' p hp; omega)).2.1]; exact i1 p hp, fun z => by rw [(f _ (by omega)).2.1, (f _ (by omega)).2.1]; exact i2 z, fun z => by rw [(f _ (by omega)).2.1]; exact i3 z, fun k hk => by rw [(f _ (by omega)).2.1]; exact i4 k hk⟩, fun i hi => (a4 i hi).gw g (a2.top hi), ⟨by rw [(f _ (by omega)).2.1]; exact t1, by rw [(f _ (by omega)).2.1]; exact t2, fun i hi => by rw [(f _ (by omega)).2.2]; exact t3 i hi, fun i hi hj => by rw [(f _ (by omega)).2.2]; exact t4 i hi hj⟩, ⟨by rw [(f _ (by omega)).2.1]; exact o1, fun k hk => by rw [(f _ (by omega)).2.2]; exact o2 k hk⟩, ⟨⟨p, b1.gw g (by omega) (by omega) (by omega)⟩, ⟨p2, b2.gw g (by omega) (by omega) (by omega)⟩, ⟨l, k, b3.gw g (by omega), ?_⟩, ⟨l', k', c1.gw g (by omega), fun z => ?_⟩⟩, ⟨by rw [(f _ (by omega)).2.2]; exact r1, by rw [(f _ (by omega)).2.2]; exact r2⟩, ⟨⟨l1, s1.gw g (by omega)⟩, ⟨l2, s2.gw g (by omega)⟩, ⟨l3, s3.gw g (by omega)⟩⟩, a10.gw g (by omega), a11.gw g (by omega), (fun j hj => ?_)⟩
  · rw [(f _ (by omega)).2.1, (f _ (by omega)).2.1]; exact b4
  · rw [(f _ (by omega)).2.1]; exact c2 z
  · obtain ⟨u1, u2, u3⟩ := d1 j hj
    exact ⟨by rw [(f _ (by omega)).1]; exact u1, fun k => by rw [(f _ (by omega)).2.1]; exact u2 k, fun k => by rw [g.2.2 _ (by omega)]; exact u3 k⟩
theorem RW.ext (x : RW B E S li od h) (h0 : 0 < made S) (he : ∀ i, i < made S → E' i = E i) (hk : ∀ i, i < made S → ∀ j ∈ sK S i, j < made S) (hd : ∀ i, 0 < i → i < made S → dpar S i < made S) (hc : cur S < made S) (hf : sI S 21 0 = -1 ∨ nth (sI S 21 0) < made S) (ho : ∀ j ∈ od, j < made S) : RW B E' S li od h := by
  obtain ⟨a1, a2, a3, a4, ⟨t1, t2, t3, t4⟩, a6, a7, ⟨r1, r2⟩, a9, a10, a11, a12⟩ := x
  refine ⟨a1, ⟨by rw [he 0 h0]; exact a2.1, a2.2.1, fun i i0 i1 => by rw [he i i1]; exact a2.2.2.1 i i0 i1, fun i j hij i0 hj => by rw [he i (by omega), he j hj]; exact a2.2.2.2 i j hij i0 hj⟩, a3, fun i hi => ?_, ⟨t1, t2, fun i hi => by rw [he i hi]; exact t3 i hi, t4⟩, ⟨a6.1, fun k hk' => by rw [he _ (ho _ (gn_mem hk'))]; exact a6.2 k hk'⟩, a7, ⟨by rw [he _ hc]; exact r1, ?_⟩, a9, a10, a11, a12⟩
  · obtain ⟨b1, b2, b3, b4, b5, b6, b7⟩ := a4 i hi
    unfold EL
    rw [he i hi]
    refine ⟨b1, b2, b3, ?_, b5, b6, b7⟩
    unfold ER at *
    refine ⟨?_, b4.2.1, b4.2.2.1, b4.2.2.2.1, b4.2.2.2.2.1, fun k hk' => by rw [he _ (hk i hi _ (gn_mem hk'))]; exact b4.2.2.2.2.2 k hk'⟩
    rw [b4.1]
    by_cases q : i = 0
    · rw [if_pos q, if_pos q]
    · rw [if_neg q, if_neg q, he _ (hd i (by omega) hi)]
  · rw [r2]
    by_cases q : sI S 21 0 = -1
    · rw [if_pos q, if_pos q]
    · rw [if_neg q, if_neg q, he _ (hf.elim (fun z => absurd z q) id)]
theorem EL.sdp {i : Nat} (x : EL S E i h) (hi : ∀ k, k ∈ [2, 3, 10, 11, 12, 13, 14, 15] → sI S' k i = sI S k i) (hl : ∀ k, k ∈ [6, 8, 17] → sL S' k i = sL S k i) (hK : sK S' i = sK S i) : EL S' E i h := by
  obtain ⟨a1, a2, a3, a4, a5, a6, a7⟩ := x
  have e : ∀ k, decide (k ∈ [2, 3, 10, 11, 12, 13, 14, 15]) = true → sI S' k i = sI S k i := fun k hk => hi k (of_decide_eq_true hk)
  have el : ∀ k, decide (k ∈ [6, 8, 17]) = true → sL S' k i = sL S k i := fun k hk => hl k (of_decide_eq_true hk)
  have hd : dpar S' i = dpar S i := by unfold dpar; rw [e 3 rfl]
  refine ⟨a1, a2, ?_, ?_, by rw [el 6 rfl]; exact a5, ?_, ?_⟩
  · unfold EI at *
    rw [e 2 rfl, e 10 rfl, e 11 rfl, e 12 rfl, e 13 rfl, e 14 rfl, e 15 rfl, hK]; exact a3
  · unfold ER at *
    rw [hd, hK]; exact a4
  · unfold capC at *
    rw [e 2 rfl, el 8 rfl]; exact a6
  · unfold capK at *
    rw [e 2 rfl, el 17 rfl]; exact a7
/-- the desk with the new element, not yet below another -/
def addA (S : SS) (p : Nat) (k : Int32) : SS := wSL (add7 S p k) 6 (made S) (sL S 18 0)
theorem aA_i (p : Nat) (k : Int32) {f j : Nat} (h1 : f ∉ [0, 1, 2, 3, 13, 14, 15] ∨ (j ≠ made S ∧ f ≠ 0)) : sI (addA S p k) f j = sI S f j := by
  show sI (add7 S p k) f j = _
  unfold add7
  rw [sI_I, if_neg, sI_I, if_neg, sI_I, if_neg, sI_I, if_neg, sI_I, if_neg, sI_I, if_neg, sI_I, if_neg]
  all_goals
    rintro ⟨rfl, rfl⟩
    rcases h1 with h1 | h1
    · exact h1 (by decide)
    · first
      | exact h1.1 rfl
      | exact h1.2 rfl
theorem aA_made (hm : made S < 40) (p : Nat) (k : Int32) : made (addA S p k) = made S + 1 := a1_made (S := S) hm p 0 k
theorem aA_n (p : Nat) (k : Int32) : sI (addA S p k) 1 (made S) = 1 ∧ sI (addA S p k) 2 (made S) = k ∧ sI (addA S p k) 3 (made S) = nI p ∧ sI (addA S p k) 13 (made S) = -1 ∧ sI (addA S p k) 14 (made S) = 1 ∧ sI (addA S p k) 15 (made S) = -1 := a1_n p 0 k
theorem nTh_A (hm : made S < 40) (p : Nat) (k : Int32) : nTh (addA S p k) = nTh S + 1 := by
  unfold nTh
  rw [aA_made hm, List.range_succ, List.countP_append, List.countP_singleton, (aA_n p k).1, if_pos (by decide)]
  congr 1
  refine List.countP_congr (fun j hj => ?_)
  have := List.mem_range.mp hj
  rw [aA_i p k (Or.inr ⟨by omega, by decide⟩)]
theorem RW.reg (x : RW B E S li od h) (hm : made S < 40) {p : Nat} {k : Int32} (el : EL (addA S p k) E (made S) h) (ea : EA B E (made S + 1) (hN h)) : RW B E (addA S p k) li od (wI (wI (wR h (B + 10) (made S) (some (E (made S)))) (B + 1) 2 (nI (made S + 1))) (B + 1) 3 (nI (nTh S + 1))) := by
  have y : Ag [B + 1, B + 10] h (wI (wI (wR h (B + 10) (made S) (some (E (made S)))) (B + 1) 2 (nI (made S + 1))) (B + 1) 3 (nI (nTh S + 1))) := ((Ag.wR (by simp)).tr (Ag.wI (by simp))).tr (Ag.wI (by simp))
  obtain ⟨a1, a2, a3, a4, ⟨t1, t2, t3, t4⟩, a6, a7, a8, a9, a10, a11, a12⟩ := x
  have m : ∀ a ∈ [B + 1, B + 10], a = B + 1 ∨ a = B + 10 := by
    intro a ha
    simp only [List.mem_cons, List.not_mem_nil, or_false] at ha
    exact ha
  have nn : ∀ a, a ≠ B + 1 → a ≠ B + 10 → a ∉ [B + 1, B + 10] := fun a q1 q2 z => by have := m a z; omega
  have hf : ∀ f, f ∉ [0, 1, 2, 3, 13, 14, 15] → sI (addA S p k) f = sI S f := fun f hf' => funext fun j => aA_i p k (Or.inl hf')
  have farE : ∀ i, i < made S + 1 → ∀ a ∈ [B + 1, B + 10], a < E i ∨ E i + 8 ≤ a := fun i hi a ha => by
    rcases m a ha with rfl | rfl
    · rcases Nat.eq_zero_or_pos i with z | z
      · subst z
        have := ea.1
        omega
      · have := (ea.2.2.1 i z hi).1
        omega
    · exact ea.far hi (by omega) (by omega)
  have hR1 : ∀ a, a ≠ B + 10 → hR (wI (wI (wR h (B + 10) (made S) (some (E (made S)))) (B + 1) 2 (nI (made S + 1))) (B + 1) 3 (nI (nTh S + 1))) a = hR h a := fun a ha => hR_o h _ _ ha
  have hR10 : ∀ i, hR (wI (wI (wR h (B + 10) (made S) (some (E (made S)))) (B + 1) 2 (nI (made S + 1))) (B + 1) 3 (nI (nTh S + 1))) (B + 10) i = if i = made S then some (E (made S)) else hR h (B + 10) i := fun i => by
    by_cases q : i = made S
    · rw [if_pos q, q]
      exact hR_s h (B + 10) _ _
    · rw [if_neg q]
      exact hR_n h (B + 10) _ q
  generalize hh' : wI (wI (wR h (B + 10) (made S) (some (E (made S)))) (B + 1) 2 (nI (made S + 1))) (B + 1) 3 (nI (nTh S + 1)) = h2 at *
  have i2 : hI h2 (B + 1) 2 = nI (made S + 1) := by rw [← hh', hI_n _ _ _ (by decide), hI_s]
  have i3 : hI h2 (B + 1) 3 = nI (nTh S + 1) := by rw [← hh', hI_s]
  have i5 : hI h2 (B + 1) 5 = hI h (B + 1) 5 := by rw [← hh', hI_n _ _ _ (by decide), hI_n _ _ _ (by decide)]; rfl
  refine ⟨⟨fun q hq => by rw [y.T]; exact a1.1 q hq, fun q hq => by rw [y.T]; exact a1.2.1 q hq, fun q hq => ?_⟩, by rw [aA_made hm, y.1]; exact ea, ⟨fun q hq => ?_, fun z => ?_, fun z => ?_, fun j hj => ?_⟩, fun i hi => ?_, ⟨?_, ?_, fun i hi => ?_, fun i hi hj => ?_⟩, ⟨by rw [i5]; exact a6.1, fun j hj => by rw [y.R (nn _ (by omega) (by omega))]; exact a6.2 j hj⟩, (a7.ag y (fun a ha => by have := m a ha; omega)).sd (fun f hf' => hf f ?_) (fun f hf' => ?_) (fun _ _ => rfl), (a8.ag y (nn _ (by omega) (by omega))).sd (hf 20 (by decide)) (hf 21 (by decide)), a9.ag y (fun a ha => by have := m a ha; omega), a10.ag y (nn _ (by omega) (by omega)) (nn _ (by omega) (by omega)), ?_, a12.ag y (fun a ha => by have := m a ha; omega) (fun f hf' => hf f (fun z => by simp at z; omega))⟩
  · have h2' : ∀ p ∈ fxP, p.1 ≠ 10 := by decide
    have := h2' q hq
    rw [hR1 _ (by omega)]
    exact a1.2.2 q hq
  · have : ∀ p ∈ fxI, p.1 ≠ 1 ∧ p.1 ≠ 10 ∧ p.2.2 ∉ [0, 1, 2, 3, 13, 14, 15] := by decide
    obtain ⟨u1, u2, u3⟩ := this q hq
    rw [y.I (nn _ (by omega) (by omega)), hf _ u3]
    exact a3.1 q hq
  · rw [hf 22 (by decide)] at z
    rw [y.I (nn _ (by omega) (by omega)), hf 23 (by decide), hf 24 (by decide)]
    exact a3.2.1 z
  · rw [hf 26 (by decide)] at z
    rw [y.I (nn _ (by omega) (by omega)), hf 27 (by decide)]
    exact a3.2.2.1 z
  · rw [y.I (nn _ (by omega) (by omega)), hf 42 (by decide)]
    exact a3.2.2.2 j hj
  · rw [aA_made hm] at hi
    by_cases q : i = made S
    · rw [q]
      exact el.ag y (farE _ (by omega))
    · refine ((a4 i (by omega)).ag y (farE i hi)).sdp (fun f hf' => aA_i p k (Or.inr ⟨q, fun z => by rw [z] at hf'; exact absurd hf' (by decide)⟩)) (fun f hf' => ?_) rfl
      show sL (wSL (add7 S p k) 6 (made S) (sL S 18 0)) f i = _
      rw [sL_L, if_neg (fun z => q z.2)]; rfl
  · rw [i2, aA_made hm]
  · rw [i3, nTh_A hm]
  · rw [aA_made hm] at hi
    rw [hR10]
    by_cases q : i = made S
    · rw [if_pos q, q, (aA_n p k).1, if_neg (by decide)]
    · rw [if_neg q, aA_i p k (Or.inr ⟨q, by decide⟩)]
      exact t3 i (by omega)
  · rw [aA_made hm] at hi
    rw [hR10, if_neg (by omega)]
    exact t4 i (by omega) hj
  · simp only [List.mem_cons, List.not_mem_nil, or_false] at hf' ⊢
    omega
  · show sL (wSL (add7 S p k) 6 (made S) (sL S 18 0)) f = _
    refine up2_ne (add7 S p k).2.1 _ _ (fun z => ?_)
    rw [z] at hf'
    exact absurd hf' (by decide)
  · have : sL (addA S p k) 18 0 = sL S 18 0 := by
      show sL (wSL (add7 S p k) 6 (made S) (sL S 18 0)) 18 0 = _
      rw [sL_L, if_neg (fun z => absurd z.1 (by decide))]; rfl
    rw [this]
    exact a11.ag y (nn _ (by omega) (by omega)) (nn _ (by omega) (by omega))
end MK

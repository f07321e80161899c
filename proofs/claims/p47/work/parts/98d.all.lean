/-! ===== the law: the new desk, its turns, and the last comparison ===== -/
section ALL
variable {B : Nat} {h : hp}
def mSt0 : LY := lu (lu (lu (lSt (wml S00 m0y)) 0 0 1) 1 1 (-1)) 1 3 1
theorem st_0 {j : Nat} (hj : j < 6) (k : Nat) : (lSt (wml S00 m0y)).1 j k = 0 ∧ (lSt (wml S00 m0y)).2 j k = 0 := ⟨by rw [wm_1 S00 m0y hj]; rfl, by rw [wm_2 S00 m0y hj]; rfl⟩
theorem LB_00 : LB S00 mSt0 := by
  have e1 : ∀ j k, j < 6 → ¬ (j = 0 ∧ k = 0) → ¬ (j = 1 ∧ k = 1) → ¬ (j = 1 ∧ k = 3) → mSt0.1 j k = 0 := fun j k hj a b d => by
    unfold mSt0
    rw [lu_f d, lu_f b, lu_f a]
    exact (st_0 hj k).1
  have e2 : ∀ j k, j < 6 → mSt0.2 j k = 0 := fun j k hj => (st_0 hj k).2
  have n0 : mSt0.1 0 0 = 1 := by
    unfold mSt0
    rw [lu_f (by decide), lu_f (by decide), lu_s]
  have n1 : mSt0.1 1 1 = -1 := by
    unfold mSt0
    rw [lu_f (by decide), lu_s]
  have n3 : mSt0.1 1 3 = 1 := by
    unfold mSt0
    rw [lu_s]
  refine ⟨by rw [n0, made_00]; rfl, by rw [e1 0 1 (by decide) (by decide) (by decide) (by decide)]; decide +kernel, by rw [e1 0 2 (by decide) (by decide) (by decide) (by decide)]; decide +kernel, by rw [e1 0 3 (by decide) (by decide) (by decide) (by decide)]; decide +kernel, by rw [e1 0 4 (by decide) (by decide) (by decide) (by decide)]; decide +kernel, fun z => absurd (by decide +kernel) z, fun j hj => ?_, fun j hj hj2 => ?_⟩
  · rw [made_00] at hj
    have : j = 0 := by omega
    subst this
    refine ⟨by rw [e1 1 _ (by decide) (by decide) (by decide) (by decide)]; decide +kernel, by rw [show 6 * 0 + 1 = 1 from rfl, n1]; decide +kernel, fun z => absurd z (Nat.lt_irrefl 0), by rw [show 6 * 0 + 3 = 3 from rfl, n3]; decide +kernel, by rw [e1 1 _ (by decide) (by decide) (by decide) (by decide)]; decide +kernel, by rw [e1 1 _ (by decide) (by decide) (by decide) (by decide)]; decide +kernel, by rw [e2 2 _ (by decide)]; rfl, by rw [e2 3 _ (by decide)]; rfl, by rw [e2 3 _ (by decide)]; rfl, by rw [e1 4 _ (by decide) (by decide) (by decide) (by decide)]; rfl⟩
  · rw [made_00] at hj
    exact ⟨e1 1 _ (by decide) (by omega) (by omega) (by omega), e1 1 _ (by decide) (by omega) (by omega) (by omega), e1 4 _ (by decide) (by omega) (by omega) (by omega), e2 3 _ (by decide), e2 3 _ (by decide)⟩
theorem VK_00 : VK S00 := by
  refine ⟨by rw [made_00]; decide, fun j hj => ?_⟩
  rw [made_00] at hj
  have : j = 0 := by omega
  subst this
  refine ⟨⟨0, by decide, by decide +kernel⟩, ⟨0, by decide, by decide +kernel⟩, ?_, ?_, ?_⟩
  · show ([] : List Int32).length ≤ 3
    decide
  · exact fun c hc => absurd hc List.not_mem_nil
  · exact fun c hc => absurd hc List.not_mem_nil
theorem Qt_00 : Qt S00 := ⟨fun _ => rfl, rfl, rfl, by decide +kernel⟩
theorem JC_00 {g : hp} (x : Fin0 B g) (hNg : hN g = B + 90) : JC B 0 (wml S00 m0y) (lN6 g) := by
  have l := lo8_m S00 m0y
  refine ⟨⟨_, (law_new x hNg).1⟩, Inv_00.lo8 l, VK_00.lo8 l, ?_, ?_, ?_, ?_⟩
  · intro i hi
    rw [l.l 17] at hi
    exact absurd hi (Nat.lt_irrefl 0)
  · intro i hi j hj
    rw [l.2.2.2] at hj
    exact absurd hj List.not_mem_nil
  · rw [l.l 18]; rfl
  · rw [l.e 26 rfl]; decide +kernel
/-- the loop over the turns -/
theorem t_loop {G : gG} (hG : gxL G < 2 ^ 31) {K : Int32 × hp → Prop} (hK : ∀ S' h', JJ B 13000 S' h' → K (1, h')) {S : SS} (j : JJ B 0 S h) (h0 : made S = 1) : itrW (fL_law_B72 G (some B) (some (B + 90)) (some (B + 91)) (some (B + 92)) (some (B + 93)) (some (B + 94)) (some (B + 95))) 132 (1, 0, h) K := by
  refine itrW_for (fun i a => ∃ S' h', a = (1, nI i, h') ∧ JJ B (100 * i) S' h' ∧ (i = 0 → made S' = 1) ∧ (i = 1 → made S' = 2) ∧ (i = 2 → 2 ≤ made S')) 130 (fun i a hi hX P1 hP => ?_) (fun a hX P1 => ?_) (by decide) ⟨S, h, rfl, j, fun _ => h0, fun z => by omega, fun z => by omega⟩
  · obtain ⟨S', h', rfl, jj, a0, a1, a2⟩ := hX
    exact t_turn hG jj (by omega) hi a0 a1 a2 (fun S2 h2 j2 b0 b1 => hP _ ⟨S2, h2, rfl, by rw [show 100 * (i + 1) = 100 * i + 100 by omega]; exact j2, fun z => by omega, fun z => b0 (by omega), fun z => b1 (by omega)⟩)
  · obtain ⟨S', h', rfl, jj, -⟩ := hX
    unfold fL_law_B72
    dsimp only
    rw [if_pos (show (130 : Int32) ≤ nI 130 by decide)]
    exact hK S' h' jj
/-- THE LAW -/
theorem law_all {G : gG} (hG : gxL G < 2 ^ 31) {K : Int32 → hp → Prop} (hK : ∀ h', K 1 h') : fL_law G h K := by
  obtain ⟨g, e1, e2, e3⟩ := c_new h
  generalize hB : hN h = B at e1 e2 e3
  have n1 : hN (wN g (20, 7)) = B + 91 := by show hN g + 1 = _; omega
  have n2 : hN (wN (wN g (20, 7)) (20, 60)) = B + 92 := by show hN g + 1 + 1 = _; omega
  have n3 : hN (wN (wN (wN g (20, 7)) (20, 60)) (24, 10)) = B + 93 := by show hN g + 1 + 1 + 1 = _; omega
  have n4 : hN (wN (wN (wN (wN g (20, 7)) (20, 60)) (24, 10)) (24, 20)) = B + 94 := by show hN g + 1 + 1 + 1 + 1 = _; omega
  have n5 : hN (wN (wN (wN (wN (wN g (20, 7)) (20, 60)) (24, 10)) (24, 20)) (20, 10)) = B + 95 := by show hN g + 1 + 1 + 1 + 1 + 1 = _; omega
  have jc := JC_00 e2 e3
  obtain ⟨⟨E, x⟩, -⟩ := id jc
  have t := RW.lt6 x
  have hh := RW.lws x
  unfold fL_law
  rw [hB, e1, wHs, e3, n1, n2, n3, n4, n5]
  have w1 : oIS (some (B + 90)) (0 : Int32) (1 : Int32) (wN (wN (wN (wN (wN (wN g (20, 7)) (20, 60)) (24, 10)) (24, 20)) (20, 10)) (20, 64)) = some (lw B (lN6 g) (lu (lSt (wml S00 m0y)) 0 0 1)) := by
    have := t.pn0 (m := lSt (wml S00 m0y)) (v := 1)
    rw [hh] at this
    exact this
  have w2 : oIS (some (B + 91)) (1 : Int32) (-1 : Int32) (lw B (lN6 g) (lu (lSt (wml S00 m0y)) 0 0 1)) = some (lw B (lN6 g) (lu (lu (lSt (wml S00 m0y)) 0 0 1) 1 1 (-1))) := t.pe (k := 1) (by decide)
  have w3 : oIS (some (B + 91)) (3 : Int32) (1 : Int32) (lw B (lN6 g) (lu (lu (lSt (wml S00 m0y)) 0 0 1) 1 1 (-1))) = some (lw B (lN6 g) mSt0) := t.pe (k := 3) (by decide)
  rw [w1, wPs, w2, wPs, w3, wPs]
  have jc1 := jc.lwp mSt0
  have l1 := lo8_m S00 m0y
  have lb1 : LB (wml (wml S00 m0y) mSt0) (lSt (wml (wml S00 m0y) mSt0)) := ((LB_00.lo8 l1).lo8 (lo8_m _ mSt0)).ag5 (fun i hi => lSt_w _ mSt0 i (by omega))
  have qt1 : Qt (wml (wml S00 m0y) mSt0) := (Qt_00.lo8 l1).lo8 (lo8_m _ mSt0)
  have md1 : made (wml (wml S00 m0y) mSt0) = 1 := by
    rw [made_cg ((lo8_m _ mSt0).e 0 rfl), made_cg (l1.e 0 rfl), made_00]
  have j1 : JJ B 0 (wml (wml S00 m0y) mSt0) (lw B (lN6 g) mSt0) := ⟨jc1, lb1, qt1⟩
  generalize wml (wml S00 m0y) mSt0 = S1 at j1 md1
  generalize lw B (lN6 g) mSt0 = h4 at j1
  have dk : ∀ (c : Nat) (S : SS) (h : hp), JJ B c S h → ∀ (dd : Nat), dd < 2 ^ 31 → ∀ (K : Int32 → hp → Prop), (∀ h', JJ B c S h' → K 1 h') → fL_isDesk (some B) (some (B + 90)) (some (B + 91)) (some (B + 92)) (some (B + 93)) (some (B + 94)) (nI dd) h K := fun c S h j dd hd K hK => by
    obtain ⟨E, x, rd⟩ := j.rd
    exact dk_all x j.2.1 j.1.2.2.1 j.1.2.1.1.1 hd (fun h2 x2 => hK h2 ⟨j.1.of x2, j.2⟩)
  refine dk 0 S1 h4 j1 0 (by decide) _ (fun h5 j5 => ?_)
  refine t_loop (K := _) hG (fun S6 h6 j6 => ?_) j5 md1
  dsimp only
  rw [if_neg (show ¬ (1 : Int32) = 0 by decide)]
  refine dk _ S6 h6 j6 5 (by decide) _ (fun h7 j7 => ?_)
  rw [if_neg (show ¬ (1 : Int32) = 0 by decide)]
  exact hK h7
end ALL

/-! ===== the law compares the desk with its arrays: words, line, pins ===== -/
theorem oNz_n {n : Nat} (h0 : 0 < n) (h : n < 2 ^ 31) : oNz (nI n) = some () := by
  unfold oNz
  rw [if_neg (nI_ne0 h0 h)]
section DK2
variable {B : Nat} {E : Nat → Nat} {S : SS} {h : hp} {m : LY}
/-- the desk stands, and a row of the law's bears W -/
def PR (B : Nat) (E : Nat → Nat) (S : SS) (a : Nat) (W : List Int32) (h : hp) : Prop := RC B E S h ∧ hT h a = (20, 64) ∧ Sl (hI h a) 0 W ∧ a < hN h
theorem PR.fr {a : Nat} {W : List Int32} {h' : hp} (x : PR B E S a W h) (ha : B + 90 ≤ a) (y : RC B E S h') (f : Fr B h h') : PR B E S a W h' := ⟨y, by rw [f.2.1]; exact x.2.1, by rw [f.2.2.2 a ha]; exact x.2.2.1, by rw [f.1]; exact x.2.2.2⟩
theorem PR.gw {a : Nat} {W : List Int32} {h' : hp} (x : PR B E S a W h) (g : Gw h h') : PR B E S a W h' := by
  obtain ⟨u1, u2, u3⟩ := g.2.1 a x.2.2.2
  exact ⟨RW.grow x.1 g, by rw [u1]; exact x.2.1, Sl_eq x.2.2.1 (fun k _ => u2 _), Nat.lt_of_lt_of_le x.2.2.2 g.1⟩
/-- the words, one by one -/
theorem dk_wat (hC : Core S) {a i : Nat} (ha : B + 90 ≤ a) (hi : th S i) (hs : shn S i = true) (hl : (wd S i []).length ≤ 60) (x : PR B E S a (wd S i []) h) (c1 c2 c3 c4 c5 : Option Nat) {K : Int32 × hp → Prop} (hK : ∀ h', PR B E S a (wd S i []) h' → K (1, h')) : itrW (fL_isDesk_B478 (some B) c1 c2 c3 c4 c5 (some a) (nI i) (nI (wd S i []).length)) 66 (1, 0, h) K := by
  refine itrW_for (fun j q => ∃ h', q = (1, nI j, h') ∧ PR B E S a (wd S i []) h') (wd S i []).length (fun j q hj hX P1 hP => ?_) (fun q hX P1 => ?_) (by omega) ⟨h, rfl, x⟩
  · obtain ⟨h1, rfl, x1⟩ := hX
    obtain ⟨h2, e1, y2, f2⟩ := a_wAt x1.1 hC hi hs hj (by omega) (by omega)
    have x2 := x1.fr ha y2 f2
    have hP' := hP (1, nI (j + 1), h2) ⟨h2, rfl, x2⟩
    have s2 := x2.2.2.1 j hj
    rw [Nat.zero_add] at s2
    unfold fL_isDesk_B478
    dsimp only
    rw [if_neg (show ¬ nI (wd S i []).length ≤ nI j from nI_ge hj (by omega)), if_neg (show ¬ (1 : Int32) = 0 by decide), RW.ob0 x1.1, sb, e1, wXs, gL1 x2.2.1 (by omega) (by decide), wPs, s2, if_pos rfl, nI_1]
    exact hP'
  · obtain ⟨h1, rfl, x1⟩ := hX
    unfold fL_isDesk_B478
    dsimp only
    rw [if_pos (nI_le (Nat.le_refl _) (by omega))]
    exact hK h1 x1
theorem dk_wat0 {a : Nat} (c1 c2 c3 c4 c5 : Option Nat) (v : Int32) {K : Int32 × hp → Prop} (hK : K (1, h)) : itrW (fL_isDesk_B478 (some B) c1 c2 c3 c4 c5 (some a) v 0) 66 (1, 0, h) K := by
  show fL_isDesk_B478 (some B) c1 c2 c3 c4 c5 (some a) v 0 (1, 0, h) _ K
  unfold fL_isDesk_B478
  dsimp only
  rw [if_pos (show (0 : Int32) ≤ 0 by decide)]
  exact hK
/-- the pins -/
theorem dk_pin (hC : Core S) (hl : LB S (lSt S)) {a : Nat} (ha : B + 90 ≤ a) (x : PR B E S a (ln S) h) {K : Int32 × hp → Prop} (hK : ∀ h', PR B E S a (ln S) h' → K (1, h')) : itrW (fL_isDesk_B557 (some B) (some (B + 90)) (some a) (nI (ln S).length)) 12 (1, 0, h) K := by
  have hln := ln_len hC.l
  obtain ⟨o, o1, o2⟩ := hC.xo
  refine itrW_for (fun j q => ∃ h', q = (1, nI j, h') ∧ PR B E S a (ln S) h') 10 (fun j q hj hX P1 hP => ?_) (fun q hX P1 => ?_) (by omega) ⟨h, rfl, x⟩
  · obtain ⟨h1, rfl, x1⟩ := hX
    obtain ⟨h2, e1, y2, f2⟩ := a_pinA x1.1 hC (j := j) (by omega)
    have x2 := x1.fr ha y2 f2
    have hP' := hP (1, nI (j + 1), h2) ⟨h2, rfl, x2⟩
    have q := RW.lq x1.1
    have hp : cPin S (nI j) = rt (if nI (ln S).length ≤ sI S 25 0 + nI j then 0 else ge (ln S) (nth (sI S 25 0 + nI j))) S := by
      unfold cPin
      rw [if_neg (fun z => z ⟨nI_pos' (by omega), nI_le (b := 9) (by omega) (by decide)⟩)]
    have q1 := (C_pin x1.1 hC.xo (nI j)).v (by decide) hp
    unfold fL_isDesk_B557
    dsimp only
    rw [if_neg (show ¬ (10 : Int32) ≤ nI j from nI_ge (b := 10) hj (by decide)), if_neg (show ¬ (1 : Int32) = 0 by decide), q.n3, hl.2.2.2.1, wPs, wMs]
    by_cases c1 : nI (ln S).length ≤ sI S 25 0 + nI j
    · rw [if_pos c1] at e1 q1
      rw [if_pos c1]
      dsimp only
      rw [RW.ob0 x1.1, sb, q1, wCs, if_pos rfl, sb, e1, wXs, if_pos rfl, nI_1]
      exact hP'
    · rw [if_neg c1] at e1 q1
      have hlt : 10 * o + j < (ln S).length := by
        rw [o2, nI_add] at c1
        exact Nat.not_le.mp (fun z => c1 (nI_le z (by omega)))
      have s1 := x1.2.2.1 (10 * o + j) hlt
      rw [Nat.zero_add] at s1
      rw [if_neg c1, wPs, o2, nI_add, gL1 x1.2.1 (show 10 * o + j < 64 by omega) (by decide), wPs, s1]
      rw [o2, nI_add, nth_nI (by omega)] at e1 q1
      rw [RW.ob0 x1.1, sb, q1, wCs, if_pos rfl, sb, e1, wXs, if_pos rfl, nI_1]
      exact hP'
  · obtain ⟨h1, rfl, x1⟩ := hX
    unfold fL_isDesk_B557
    dsimp only
    rw [if_pos (show (10 : Int32) ≤ nI 10 by decide)]
    exact hK h1 x1
theorem wd_60 (y : RD B h m S) (hC : Core S) {i : Nat} (hi : th S i) : (wd S i []).length ≤ 60 := by
  have n1 := q_wd1 y hi.lt
  have n2 := q_wd2 (S := S) i (wd1 S i [])
  have n3 := q_pt (wd2 S i (wd1 S i [])) (sL S 8 i)
  have h12 := (hC.l i).2.1
  unfold wd
  split
  · unfold wd3
    have m1 := q_pt (pt (wd2 S i (wd1 S i [])) (sL S 8 i)) (dg (vis S ((sK S (dpar S i)).take (plc S i + 1))))
    have m2 := q_pt (pt (pt (wd2 S i (wd1 S i [])) (sL S 8 i)) (dg (vis S ((sK S (dpar S i)).take (plc S i + 1))))) [111, 102]
    have m3 := q_dg (vis S ((sK S (dpar S i)).take (plc S i + 1)))
    have m4 : ([111, 102] : List Int32).length = 2 := rfl
    have m5 := q_pt (pt (pt (pt (wd2 S i (wd1 S i [])) (sL S 8 i)) (dg (vis S ((sK S (dpar S i)).take (plc S i + 1))))) [111, 102]) (dg (vis S (sK S (dpar S i))))
    have m6 := q_dg (vis S (sK S (dpar S i)))
    omega
  · omega
/-- IS DESK -/
theorem dk_all (x : RC B E S h) (hl : LB S (lSt S)) (hv : VK S) (hC : Core S) {dd : Nat} (hd : dd < 2 ^ 31) {K : Int32 → hp → Prop} (hK : ∀ h', RC B E S h' → K 1 h') : fL_isDesk (some B) (some (B + 90)) (some (B + 91)) (some (B + 92)) (some (B + 93)) (some (B + 94)) (nI dd) h K := by
  have x0 : RC B E S (wN h (20, 64)) := RW.grow x (gw_N _)
  have hb := RW.hb x
  have he := RW.e8 x
  have y0 : RD B (wN h (20, 64)) (lSt S) S := ⟨RW.lq x0, hl, hC.t, hC.b, hv⟩
  have l10 := y0.m10
  have m1 := hC.t.2.1.lt
  have ta : hT (wN h (20, 64)) (hN h) = (20, 64) := if_pos rfl
  have na : hN h < hN (wN h (20, 64)) := Nat.lt_succ_self _
  have il : dd % made S < made S := Nat.mod_lt _ (by omega)
  unfold fL_isDesk
  rw [RW.ob0 x0, sb, C_cursor x0 hC.c, wPs, y0.q.n1, hl.2.1, wPs, wMs, if_pos rfl, sb, C_focus x0 hC.t.pw hC.xf, wPs, y0.q.n2, hl.2.2.1, wPs, Int32.add_sub_cancel, if_pos rfl, sb, C_offset x0, wPs, y0.q.n3, hl.2.2.2.1, wPs, if_pos rfl, sb, C_isTyping x0 hC.b, wPs, y0.q.n4, hl.2.2.2.2.1, wPs, wMs]
  have t22 : ∀ P Z : Prop, P → (if sI S 22 0 = (1 : Int32) then (if sI S 22 0 = (1 : Int32) then P else Z) else (if sI S 22 0 = (0 : Int32) then P else Z)) := fun P Z hP => by
    rcases hC.b 22 (by decide) 0 with z | z
    · rw [z, if_neg (show ¬ (0 : Int32) = 1 by decide), if_pos (show (0 : Int32) = 0 from rfl)]; exact hP
    · rw [z, if_pos (show (1 : Int32) = 1 from rfl), if_pos (show (1 : Int32) = 1 from rfl)]; exact hP
  refine t22 _ _ ?_
  refine dk_ord (K := _) x0 y0 _ _ _ _ _ _ ?_
  dsimp only
  refine dk_el (K := _) x0 y0 hd _ _ _ ?_
  dsimp only
  rw [y0.n0, wPs, oNz_n (by omega) (by omega), wPs, nI_rem hd (by omega), r_gon y0 il, wPs]
  have hg : gonA S (nI (dd % made S)) = (decide (sI S 1 (dd % made S) = 0) || !shn S (dd % made S)) := by
    unfold gonA
    rw [nth_nI (by omega), decide_eq_true (show nI (dd % made S) ≠ -1 from nI_m1 (by omega)), Bool.true_and]
  -- the end, once the words have been compared
  have ende : ∀ (W : List Int32) (h2 : hp), PR B E S (hN h) W h2 → wH (fL_line (some (B + 90)) (some (B + 91)) (some (B + 92)) (some (B + 93)) (some (B + 94)) (some (hN h)) h2) fun x27 h28 =>
    wM (fun (K29 : Int32 → Prop) =>
    if (1 : Int32) = 0 then
    (K29 (0 : Int32))
    else
    wP ((oOb 9 (some B) h28).bind fun b => fX10_lineLength b h28) fun x30 =>
    if x30 = x27 then
    (K29 (1 : Int32))
    else
    K29 (0 : Int32))
    fun q29 =>
    wM (itrW (fL_isDesk_B557 (some B) (some (B + 90)) (some (hN h)) x27) 12 (q29, (0 : Int32), h28))
    fun q31 =>
    wP (oBo q31.1) fun _ =>
    K q31.1 q31.2 := by
    intro W h2 x2
    have y2 : RD B h2 (lSt S) S := ⟨RW.lq x2.1, hl, hC.t, hC.b, hv⟩
    have b2 := RW.hb x2.1
    obtain ⟨f', g', e1, s1⟩ := rl_line y2 hC.c hC.l (a := hN h) (by omega) x2.2.1 (by omega) x2.2.2.2
    have gw : Gw h2 (sw (wN h2 (20, 12)) (hN h2) g') := ⟨Nat.le_succ _, fun b hb => by
      have nb : ¬ b = hN h2 := by omega
      exact ⟨if_neg nb, fun k => (sw_Io (wN h2 (20, 12)) g' nb k).trans (if_neg nb), fun k => if_neg nb⟩, fun b hb k => if_neg (show ¬ b = hN h2 by omega)⟩
    have x3 : RC B E S (sw (wN h2 (20, 12)) (hN h2) g') := RW.grow x2.1 gw
    have x4 : RC B E S (sw (sw (wN h2 (20, 12)) (hN h2) g') (hN h) f') := RW.sw x3 hb he (by have : hN h2 ≤ hN (sw (wN h2 (20, 12)) (hN h2) g') := gw.1; have := x2.2.2.2; omega) f'
    have p4 : PR B E S (hN h) (ln S) (sw (sw (wN h2 (20, 12)) (hN h2) g') (hN h) f') := ⟨x4, by
      show hT (wN h2 (20, 12)) (hN h) = _
      rw [wn_T, if_neg (by have := x2.2.2.2; omega)]; exact x2.2.1, fun k hk => by rw [sw_Is]; exact s1 k hk, by have : hN h2 ≤ hN (sw (wN h2 (20, 12)) (hN h2) g') := gw.1; have := x2.2.2.2; show hN h < hN (sw (wN h2 (20, 12)) (hN h2) g'); omega⟩
    rw [e1, wHs, wMs, if_neg (show ¬ (1 : Int32) = 0 by decide), RW.ob0 x4, sb, C_lineLen x4, wPs, if_pos rfl]
    refine dk_pin (K := _) hC hl (by omega) p4 (fun h5 p5 => ?_)
    dsimp only
    rw [show oBo (1 : Int32) = some () from rfl, wPs]
    exact hK h5 p5.1
  cases hsh : gonA S (nI (dd % made S))
  · rw [hg, Bool.or_eq_false_iff] at hsh
    have ti : th S (dd % made S) := ⟨il, of_decide_eq_false hsh.1⟩
    have si : shn S (dd % made S) = true := by simpa using hsh.2
    have w60 := wd_60 y0 hC ti
    obtain ⟨f, e1, s1⟩ := rl_words y0 ti (hC.l _).2.1 (show B + 95 ≤ hN h by omega) ta (hI (wN h (20, 64)) (hN h))
    rw [sw_self] at e1
    have x1 : RC B E S (sw (wN h (20, 64)) (hN h) f) := RW.sw x0 hb he (by omega) f
    have p1 : PR B E S (hN h) (wd S (dd % made S) []) (sw (wN h (20, 64)) (hN h) f) := ⟨x1, ta, fun k hk => by rw [sw_Is]; exact s1 k hk, na⟩
    rw [wMs, if_neg (show ¬ bI (!false) = 0 by decide), e1, wHs]
    dsimp only
    rw [wMs, if_neg (show ¬ (1 : Int32) = 0 by decide), RW.ob0 x1, sb, C_elements x1, wPs, if_pos rfl, sb, C_reading x1, wPs, if_pos rfl]
    obtain ⟨h2, e2, x2, f2⟩ := a_wLen x1 hC ti si
    have p2 := p1.fr (by omega) x2 f2
    have y2 : RD B h2 (lSt S) S := ⟨RW.lq x2, hl, hC.t, hC.b, hv⟩
    have ed : fL_does (some B) 6 (nI (dd % made S)) 0 0 (sw (wN h (20, 64)) (hN h) f) = some (.inl (nI (wd S (dd % made S) []).length), h2) := by
      unfold fL_does
      rw [if_neg (by decide), if_neg (by decide), if_neg (by decide), if_neg (by decide), if_neg (by decide), if_neg (by decide), if_pos rfl, RW.ob0 x1, sb, e2]
    rw [ed]
    refine wE_l ?_
    rw [r_thereY y2 ti, wPs, wMs, if_neg (show ¬ (1 : Int32) = 0 by decide), r_shown y2 ti, wPs, si, if_neg (show ¬ bI true = 0 by decide)]
    dsimp only
    rw [if_pos rfl]
    refine dk_wat (K := _) hC (by omega) ti si w60 p2 _ _ _ _ _ (fun h3 p3 => ?_)
    exact ende _ h3 p3
  · have p1 : PR B E S (hN h) [] (wN h (20, 64)) := ⟨x0, ta, Sl_nil, na⟩
    rw [wMs, if_pos (show bI (!true) = 0 by decide)]
    dsimp only
    rw [wMs, if_neg (show ¬ (1 : Int32) = 0 by decide), RW.ob0 x0, sb, C_elements x0, wPs, if_pos rfl, sb, C_reading x0, wPs, if_pos rfl]
    by_cases ti : th S (dd % made S)
    · have si : shn S (dd % made S) = false := by
        rw [hg, decide_eq_false ti.2, Bool.false_or] at hsh
        simpa using hsh
      have ed : fL_does (some B) 6 (nI (dd % made S)) 0 0 (wN h (20, 64)) = some (.inr exS, wN h (20, 64)) := by
        unfold fL_does
        rw [if_neg (by decide), if_neg (by decide), if_neg (by decide), if_neg (by decide), if_neg (by decide), if_neg (by decide), if_pos rfl, RW.ob0 x0, sb, a_wLenS x0 hC ti si]
      rw [ed]
      refine wE_r (Or.inr (Or.inr rfl)) (fun n hn => ?_)
      have p2 := p1.gw (gw_S hn)
      have y2 : RD B (wS (wN h (20, 64)) n) (lSt S) S := ⟨RW.lq p2.1, hl, hC.t, hC.b, hv⟩
      rw [r_thereY y2 ti, wPs, wMs, if_neg (show ¬ (1 : Int32) = 0 by decide), r_shown y2 ti, wPs, si, if_pos (show bI false = 0 from rfl)]
      dsimp only
      rw [if_pos (show thC exS = -13 by decide)]
      refine dk_wat0 (K := _) _ _ _ _ _ _ ?_
      exact ende [] _ p2
    · have ed : fL_does (some B) 6 (nI (dd % made S)) 0 0 (wN h (20, 64)) = some (.inr exI, wN h (20, 64)) := by
        unfold fL_does
        rw [if_neg (by decide), if_neg (by decide), if_neg (by decide), if_neg (by decide), if_neg (by decide), if_neg (by decide), if_pos rfl, RW.ob0 x0, sb, a_wLenI x0 hC (by omega) ti]
      rw [ed]
      refine wE_r (Or.inl rfl) (fun n hn => ?_)
      have p2 := p1.gw (gw_S hn)
      have y2 : RD B (wS (wN h (20, 64)) n) (lSt S) S := ⟨RW.lq p2.1, hl, hC.t, hC.b, hv⟩
      rw [r_thereN y2 il ti, wPs, wMs, if_pos (show (0 : Int32) = 0 from rfl)]
      dsimp only
      rw [if_pos (show thC exI = -11 by decide)]
      refine dk_wat0 (K := _) _ _ _ _ _ _ ?_
      exact ende [] _ p2
end DK2

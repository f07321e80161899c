/-! ===== the law compares the desk with its arrays: the order, each element ===== -/
theorem CQ.v {S : SS} {es : List String} {f : Option (Int32 ⊕ String)} {r : aS} {v : Int32} (q : CQ S es f r) (hl : es.length < 2 ^ 30) (hr : r = rt v S) : f = some (.inl v) := by
  have := q.w hl (by rw [hr]; rfl)
  rw [hr] at this
  exact this
section DK1
variable {B : Nat} {E : Nat → Nat} {S : SS} {h : hp} {m : LY}
theorem ord_10 (x : RD B h m S) : (ord S).length ≤ made S := by
  have := len_sub (l := ord S) (r := List.range (made S)) (ord_nd x.t) (fun j hj => List.mem_range.mpr (ord_in x.t hj).1.lt)
  rw [List.length_range] at this
  exact this
/-- the reading order -/
theorem dk_ord (x : RC B E S h) (y : RD B h m S) (c3 c4 c5 : Option Nat) (c6 : Int32) (c7 : Option Nat) (c8 : Int32) {K : Int32 × Int32 → Prop} (hK : K (nI (ord S).length, 1)) : itrW (fL_isDesk_B73 (some B) (some (B + 90)) (some (B + 91)) c3 c4 c5 c6 c7 c8 h) 12 (0, 1, 0) K := by
  have l10 := y.m10
  have o10 := ord_10 y
  refine itrW_for (fun j a => a = (nI j, 1, oIx S j)) (ord S).length (fun j a hj hX P1 hP => ?_) (fun a hX P1 => ?_) (by omega) (by rw [oI_0 y]; rfl)
  · subst hX
    have hP' := hP _ rfl
    have g10 := ord_l40 y hj
    have e0 : oIx S j = nI (gn (ord S) j) := if_pos hj
    have hr : cReadingAt S (nI j) = rt (nI (gn (ord S) j)) S := by
      unfold cReadingAt
      rw [if_pos (inb_nI hj (by omega)), nth_nI (by omega)]
    have q := (C_readingAt x y.t (nI j)).v (by decide) hr
    unfold fL_isDesk_B73
    dsimp only
    rw [e0, if_neg (nI_pos (by omega)), if_neg (show ¬ (1 : Int32) = 0 by decide), RW.ob0 x, sb, q, wCs]
    rw [wMs, if_pos rfl]
    dsimp only
    rw [r_next y hj, wPs, nI_1]
    exact hP'
  · subst hX
    unfold fL_isDesk_B73
    dsimp only
    rw [show oIx S (ord S).length = -1 from if_neg (Nat.lt_irrefl _), if_pos (show (-1 : Int32) < 0 by decide)]
    exact hK
/-- presses, shown, level -/
theorem dk_tail2 (x : RC B E S h) (y : RD B h m S) {j : Nat} (hj : th S j) {P Z : Prop} (hP : P) : wC ((oOb 9 (some B) h).bind fun b => fX10_presses b (nI j) h) fun x18 =>
  wP (oIL (some (B + 91)) (((6 : Int32) * nI j) + (5 : Int32)) h) fun x19 =>
  if x18 = x19 then
  (wC ((oOb 9 (some B) h).bind fun b => fX10_isShown b (nI j) h) fun x20 =>
  wP (fL_isShown (some (B + 91)) (nI j) h) fun x21 =>
  if x20 = x21 then
  (wC ((oOb 9 (some B) h).bind fun b => fX10_level b (nI j) h) fun x22 =>
  wP (fL_level (some (B + 91)) (nI j) h) fun x23 =>
  if x22 = x23 then P else Z)
  else Z)
  else Z := by
  have l10 := y.m10
  have jl := hj.lt
  have ha : ∀ a : Nat → Int32, ask S (nI j) a = rt (a j) S := fun a => by
    unfold ask
    rw [elt_y hj (by omega), if_neg (by decide), nth_nI (by omega)]
  have q4 := (C_presses x y.t (nI j)).v (by decide) (ha _)
  have q5 := (C_isShown x y.t (nI j)).v (by decide) (ha _)
  have q6 := (C_level x y.t (nI j)).v (by decide) (ha _)
  rw [RW.ob0 x, sb, q4, wCs, y.ps jl, wPs, if_pos rfl, sb, q5, wCs, r_shown y hj, wPs, if_pos rfl, sb, q6, wCs, r_lev y jl, wPs, if_pos rfl]
  exact hP
/-- names, contents, flags, presses, shown, level -/
theorem dk_tail (x : RC B E S h) (y : RD B h m S) {j : Nat} (hj : th S j) {P Z : Prop} (hP : P) : wC ((oOb 9 (some B) h).bind fun b => fX10_nameLength b (nI j) h) fun x10 =>
  wP (oJL (some (B + 92)) (nI j) h) fun x11 =>
  wP (fL_nameMany x11) fun x12 =>
  if x10 = x12 then
  (wC ((oOb 9 (some B) h).bind fun b => fX10_contentLength b (nI j) h) fun x13 =>
  wP (oIL (some (B + 94)) (nI j) h) fun x14 =>
  if x13 = x14 then
  (wC ((oOb 9 (some B) h).bind fun b => fX10_isOn b (nI j) h) fun x15 =>
  wP (oIL (some (B + 91)) (((6 : Int32) * nI j) + (3 : Int32)) h) fun x16 =>
  wM (fun (K17 : Int32 → Prop) =>
  if (x16 &&& (4 : Int32)) = (4 : Int32) then
  (K17 (1 : Int32))
  else
  K17 (0 : Int32))
  fun q17 =>
  if x15 = q17 then
  (wC ((oOb 9 (some B) h).bind fun b => fX10_presses b (nI j) h) fun x18 =>
  wP (oIL (some (B + 91)) (((6 : Int32) * nI j) + (5 : Int32)) h) fun x19 =>
  if x18 = x19 then
  (wC ((oOb 9 (some B) h).bind fun b => fX10_isShown b (nI j) h) fun x20 =>
  wP (fL_isShown (some (B + 91)) (nI j) h) fun x21 =>
  if x20 = x21 then
  (wC ((oOb 9 (some B) h).bind fun b => fX10_level b (nI j) h) fun x22 =>
  wP (fL_level (some (B + 91)) (nI j) h) fun x23 =>
  if x22 = x23 then P else Z)
  else Z)
  else Z)
  else Z)
  else Z)
  else Z := by
  have l10 := y.m10
  have jl := hj.lt
  have ha : ∀ a : Nat → Int32, ask S (nI j) a = rt (a j) S := fun a => by
    unfold ask
    rw [elt_y hj (by omega), if_neg (by decide), nth_nI (by omega)]
  have q1 := (C_nameLen x y.t (nI j)).v (by decide) (ha _)
  have q2 := (C_contLen x y.t (nI j)).v (by decide) (ha _)
  have q3 := (C_isOn x y.t y.b (nI j)).v (by decide) (ha _)
  have tl := dk_tail2 x y hj (Z := Z) hP
  rw [RW.ob0 x] at tl ⊢
  rw [sb, q1, wCs, y.nm jl, wPs, r_nmany (y.ok6 jl).1 (y.ok6 jl).2, wPs, if_pos rfl, sb, q2, wCs, y.ct jl, wPs, if_pos rfl, sb, q3, wCs, y.fg jl, wPs, wMs, fl_4 S hj.2]
  by_cases w : sI S 10 j = 0
  · rw [if_pos w, if_neg (show ¬ (0 : Int32) = 4 by decide), if_pos w]
    dsimp only
    rw [if_pos (show (0 : Int32) = 0 from rfl)]
    exact tl
  · rw [if_neg w, if_pos (show (4 : Int32) = 4 from rfl), if_neg w]
    dsimp only
    rw [if_pos (show (1 : Int32) = 1 from rfl)]
    exact tl
def thB (S : SS) (j : Nat) : Bool := decide (sI S 1 j ≠ 0)
/-- each element -/
theorem dk_el (x : RC B E S h) (y : RD B h m S) {dd : Nat} (hd : dd < 2 ^ 31) (c4 : Option Nat) (c7 : Option Nat) (c9 : Int32) {K : Int32 × Int32 → Prop} (hK : K (nI (nTh S), 1)) : itrW (fL_isDesk_B119 (some B) (some (B + 90)) (some (B + 91)) (some (B + 92)) c4 (some (B + 94)) (nI dd) c7 c9 h) 12 (0, 1, 0) K := by
  have l10 := y.m10
  refine itrW_for (fun j a => a = (nI ((List.range j).countP (thB S)), 1, nI j)) (made S) (fun j a hj hX P1 hP => ?_) (fun a hX P1 => ?_) (by omega) rfl
  · subst hX
    have hP' := hP _ rfl
    rw [List.range_succ, List.countP_append, List.countP_singleton] at hP'
    unfold fL_isDesk_B119
    dsimp only
    rw [y.n0, wPs, if_neg (show ¬ nI (made S) ≤ nI j from nI_ge hj (by omega)), if_neg (show ¬ (1 : Int32) = 0 by decide)]
    by_cases t : th S j
    · have tb : thB S j = true := decide_eq_true t.2
      rw [tb, if_pos rfl, ← nI_1] at hP'
      have ha : ∀ a : Nat → Int32, ask S (nI j) a = rt (a j) S := fun a => by
        unfold ask
        rw [elt_y t (by omega), if_neg (by decide), nth_nI (by omega)]
      have q1 := (C_kind x y.t (nI j)).v (by decide) (ha _)
      have q2 := (C_parent x y.t (nI j)).v (by decide) (ha _)
      have q3 := (C_children x y.t (nI j)).v (by decide) (ha _)
      have k10 := (y.t.kids t).2.1
      rw [r_thereY y t, wPs, if_neg (show ¬ (1 : Int32) = 0 by decide), show oNz (11 : Int32) = some () from rfl, wPs, show (11 : Int32) = nI 11 from rfl, nI_rem hd (by decide), r_kid y t (by omega), wPs, kidL_any y.t (by decide), RW.ob0 x, sb, q1, wCs, y.kd hj, wPs, if_pos rfl, sb, q2, wCs, y.pr hj, wPs, if_pos rfl, sb, q3, wCs, r_kids y t, wPs, if_pos rfl]
      by_cases s : dd % 11 < (sK S j).length
      · obtain ⟨u1, u2, u3⟩ := (y.t.kids t).2.2 _ (gn_mem s)
        have ul := u1.lt
        have ep : plc S (gn (sK S j) (dd % 11)) = dd % 11 := by
          rw [plc_of u3, idx_gk (y.t.kids t).1 s]
        rw [if_pos s]
        show (if rI (some (gn (sK S j) (dd % 11))) < 0 then _ else _)
        rw [show rI (some (gn (sK S j) (dd % 11))) = nI (gn (sK S j) (dd % 11)) from rfl, if_neg (nI_pos (by omega)), y.pl u2 u1, wPs, ep, if_pos rfl]
        have hc : ask2 S (nI j) (nI (dd % 11)) (fun i => (sK S i).length) (fun i k => nI (gn (sK S i) k)) = rt (nI (gn (sK S j) (dd % 11))) S := by
          unfold ask2
          rw [nth_nI (by omega), nth_nI (by omega), if_pos ⟨elt_y t (by omega), inb_nI (n := (sK S j).length) s (by omega)⟩]
        have q4 := (C_childAt x y.t (nI j) (nI (dd % 11))).v (by decide) hc
        rw [sb, q4, wCs, if_pos rfl]
        have tl := dk_tail x y t (P := P1 (nI (List.countP (thB S) (List.range j)) + 1, 1, nI j + 1)) (Z := P1 (nI (List.countP (thB S) (List.range j)) + 1, 0, nI j + 1)) (by rw [nI_1 j]; exact hP')
        rw [RW.ob0 x] at tl
        exact tl
      · rw [if_neg s]
        show (if rI none < 0 then _ else _)
        rw [if_pos (show rI none < 0 by decide)]
        have tl := dk_tail x y t (P := P1 (nI (List.countP (thB S) (List.range j)) + 1, 1, nI j + 1)) (Z := P1 (nI (List.countP (thB S) (List.range j)) + 1, 0, nI j + 1)) (by rw [nI_1 j]; exact hP')
        rw [RW.ob0 x] at tl
        exact tl
    · have tb : thB S j = false := by
        unfold thB
        exact decide_eq_false (fun w => t ⟨hj, w⟩)
      rw [tb, if_neg (by decide), Nat.add_zero] at hP'
      rw [r_thereN y hj t, wPs, if_pos rfl, nI_1]
      exact hP'
  · subst hX
    unfold fL_isDesk_B119
    dsimp only
    rw [y.n0, wPs, if_pos (nI_le (Nat.le_refl _) (by omega))]
    exact hK
end DK1

/-! ===== the law's line ===== -/
theorem sw_comm (h : hp) {a w : Nat} (hne : w ≠ a) (f g : Nat → Int32) : sw (sw h w g) a f = sw (sw h a f) w g := by
  refine Prod.ext rfl (Prod.ext rfl (Prod.ext (funext fun b => funext fun k => ?_) rfl))
  show (if b = a then f k else if b = w then g k else h.2.2.1 b k) = if b = w then g k else if b = a then f k else h.2.2.1 b k
  by_cases q : b = a
  · rw [if_pos q, if_neg (fun z => hne (z.symm.trans q)), if_pos q]
  · rw [if_neg q, if_neg q]
theorem sw_over (h : hp) (a : Nat) (f g : Nat → Int32) : sw (sw h a f) a g = sw h a g := by
  refine Prod.ext rfl (Prod.ext rfl (Prod.ext (funext fun b => funext fun k => ?_) rfl))
  show (if b = a then g k else if b = a then f k else h.2.2.1 b k) = if b = a then g k else h.2.2.1 b k
  by_cases q : b = a
  · rw [if_pos q, if_pos q]
  · rw [if_neg q, if_neg q, if_neg q]
section LIN
variable {B : Nat} {h : hp} {m : LY} {S : SS}
theorem LQ.wn (x : LQ B h m) (hn : B + 95 ≤ hN h) (t : Nat × Nat) : LQ B (wN h t) m := fun j hj => by
  obtain ⟨h1, h2, h3⟩ := x j hj
  refine ⟨?_, fun k => ?_, fun k => ?_⟩
  · rw [wn_T, if_neg (by omega)]; exact h1
  · rw [wn_I, if_neg (by omega)]; exact h2 k
  · show (if B + 90 + j = hN h then 0 else hJ h (B + 90 + j) k) = _
    rw [if_neg (by omega)]; exact h3 k
theorem RD.wn (x : RD B h m S) (hn : B + 95 ≤ hN h) (t : Nat × Nat) : RD B (wN h t) m S := x.at (x.q.wn hn t)
theorem l_fpt : ∀ k, k ≤ 6 → k ≠ 1 → fL_points (ge (kw (nI k)) 0 - 97) = some (fpt (nI k)) ∧ 0 < (kw (nI k)).length := by
  intro k hk h1
  rcases (show k = 0 ∨ k = 2 ∨ k = 3 ∨ k = 4 ∨ k = 5 ∨ k = 6 by omega) with rfl | rfl | rfl | rfl | rfl | rfl <;> decide +kernel
/-- the kind's cell -/
theorem l_1 (x : RD B h m S) {i a : Nat} (hi : i < made S) (ht : hT h a = (20, 64)) : ∃ f', (if lvl S i ≤ 0 then
  (some ((0 : Int32), h))
  else
  if sI S 2 i = (1 : Int32) then
  (some ((0 : Int32), h))
  else
  o2 (fL_saysKind (some a) (0 : Int32) (sI S 2 i) h) fun x6 h7 =>
  (oIL (some a) (0 : Int32) h7).bind fun x8 =>
  (fL_points (x8 - (97 : Int32))).bind fun x9 =>
  (oIS (some a) (0 : Int32) (x9 + (192 : Int32)) h7).bind fun h10 =>
  some ((1 : Int32), h10)) = some (nI (ln1 S i).length, sw h a f') ∧ Sl f' 0 (ln1 S i) := by
  obtain ⟨k, k1, k2⟩ := (x.k.2 i hi).1
  unfold ln1
  by_cases q : lvl S i = 0
  · rw [if_pos (show lvl S i ≤ 0 by rw [q]; decide), if_pos (show lvl S i = 0 ∨ sI S 2 i = 1 from Or.inl q)]
    exact ⟨hI h a, by rw [sw_self]; rfl, Sl_nil⟩
  · have h0 : ¬ lvl S i ≤ 0 := by
      rcases lvl_rng x.k x.t.pw hi with z | z | z
      · exact absurd z q
      · rw [z]; decide
      · rw [z]; decide
    rw [if_neg h0]
    by_cases r : sI S 2 i = 1
    · rw [if_pos r, if_pos (show lvl S i = 0 ∨ sI S 2 i = 1 from Or.inr r)]
      exact ⟨hI h a, by rw [sw_self]; rfl, Sl_nil⟩
    · rw [if_neg r, if_neg (show ¬ (lvl S i = 0 ∨ sI S 2 i = 1) from fun z => z.elim q r)]
      obtain ⟨p1, p2⟩ := l_fpt k k1 (fun z => r (by rw [k2, z]; rfl))
      obtain ⟨g, e1, e2⟩ := r_sKind (h := h) (a := a) (t := []) ht (by decide) (f := hI h a) Sl_nil k1
      rw [pt_nil, sw_self] at e1
      rw [pt_nil] at e2
      rw [show (0 : Int32) = nI ([] : List Int32).length from rfl, k2, e1, o2s, show nI ([] : List Int32).length = nI 0 from rfl, gSW ht (by decide) (by decide), sb]
      have := e2 0 p2
      rw [Nat.zero_add] at this
      rw [this, p1, sb, pSW ht (by decide) (by decide), sb]
      refine ⟨_, rfl, fun j hj => ?_⟩
      have : j = 0 := by have : j < 1 := hj; omega
      subst this
      rfl
/-- the name into the fresh row -/
theorem l_name (x : RD B h m S) {i w : Nat} (hi : i < made S) (hw : B + 95 ≤ w) (ht : hT h w = (20, 12)) (c5 : Option Nat) (c8 c9 : Int32) : ∃ g, itr (fL_line_B72 (some (B + 90)) (some (B + 91)) (some (B + 92)) (some (B + 93)) (some (B + 94)) c5 (some w) (nI i) c8 c9) FU (0, h) = some (sw h w g) ∧ Sl g 0 (sL S 6 i) := by
  have hn := (x.ok6 hi).1
  obtain ⟨r, e1, f', e2, e3⟩ := itr_for (F := fL_line_B72 (some (B + 90)) (some (B + 91)) (some (B + 92)) (some (B + 93)) (some (B + 94)) c5 (some w) (nI i) c8 c9) (R := fun r => ∃ g, r = sw h w g ∧ Sl g 0 (sL S 6 i)) (fun j q => ∃ g, q = (nI j, sw h w g) ∧ Sl g 0 ((sL S 6 i).take j)) (sL S 6 i).length (fun j q hj hX => by
    obtain ⟨g, rfl, hg⟩ := hX
    have y := x.sw hw g
    unfold fL_line_B72
    dsimp only
    rw [y.nm hi, sb, r_nmany (x.ok6 hi).1 (x.ok6 hi).2, sb, if_neg (show ¬ nI (sL S 6 i).length ≤ nI j from nI_ge hj (by omega)), sb, nm_at (x.ok6 hi).1 (x.ok6 hi).2 hj, pSW ht (by omega) (by decide), sb]
    refine ⟨_, rfl, _, by rw [nI_1], ?_⟩
    rw [take_succ_ge hj]
    have hl : ((sL S 6 i).take j).length = j := by rw [List.length_take]; omega
    refine Sl_push hg ?_ (fun k hk2 => ?_)
    · show (if 0 + ((sL S 6 i).take j).length = j then _ else _) = _
      rw [if_pos (by omega)]
    · show (if 0 + k = j then _ else _) = _
      rw [if_neg (by omega)]) (fun q hX => by
    obtain ⟨g, rfl, hg⟩ := hX
    have y := x.sw hw g
    rw [take_all] at hg
    refine ⟨_, ?_, g, rfl, hg⟩
    unfold fL_line_B72
    dsimp only
    rw [y.nm hi, sb, r_nmany (x.ok6 hi).1 (x.ok6 hi).2, sb, if_pos (nI_le (Nat.le_refl _) (by omega))]) (fu := FU) (a := (0, h)) (by unfold FU; omega) ⟨hI h w, by rw [sw_self]; rfl, Sl_nil⟩
  subst e2
  exact ⟨f', e1, e3⟩
theorem l_cont (x : RD B h m S) {i w : Nat} (hi : i < made S) (h12 : (sL S 8 i).length ≤ 12) (hw : B + 95 ≤ w) (ht : hT h w = (20, 12)) (c5 : Option Nat) (c9 : Int32) : ∃ g, itr (fL_line_B192 (some (B + 90)) (some (B + 93)) (some (B + 94)) c5 (some w) (nI i) c9) FU (0, h) = some (sw h w g) ∧ Sl g 0 (sL S 8 i) := by
  obtain ⟨r, e1, f', e2, e3⟩ := itr_for (F := fL_line_B192 (some (B + 90)) (some (B + 93)) (some (B + 94)) c5 (some w) (nI i) c9) (R := fun r => ∃ g, r = sw h w g ∧ Sl g 0 (sL S 8 i)) (fun j q => ∃ g, q = (nI j, sw h w g) ∧ Sl g 0 ((sL S 8 i).take j)) (sL S 8 i).length (fun j q hj hX => by
    obtain ⟨g, rfl, hg⟩ := hX
    have y := x.sw hw g
    unfold fL_line_B192
    dsimp only
    rw [y.ct hi, sb, if_neg (show ¬ nI (sL S 8 i).length ≤ nI j from nI_ge hj (by omega)), rl_typed y hi h12 hj, sb, pSW ht (by omega) (by decide), sb]
    refine ⟨_, rfl, _, by rw [nI_1], ?_⟩
    rw [take_succ_ge hj]
    have hl : ((sL S 8 i).take j).length = j := by rw [List.length_take]; omega
    refine Sl_push hg ?_ (fun k hk2 => ?_)
    · show (if 0 + ((sL S 8 i).take j).length = j then _ else _) = _
      rw [if_pos (by omega)]
    · show (if 0 + k = j then _ else _) = _
      rw [if_neg (by omega)]) (fun q hX => by
    obtain ⟨g, rfl, hg⟩ := hX
    have y := x.sw hw g
    rw [take_all] at hg
    refine ⟨_, ?_, g, rfl, hg⟩
    unfold fL_line_B192
    dsimp only
    rw [y.ct hi, sb, if_pos (nI_le (Nat.le_refl _) (by omega))]) (fu := FU) (a := (0, h)) (by unfold FU; omega) ⟨hI h w, by rw [sw_self]; rfl, Sl_nil⟩
  subst e2
  exact ⟨f', e1, e3⟩
theorem l_2 (x : RD B h m S) {i a : Nat} (hi : th S i) (ha : B + 95 ≤ a) (ht : hT h a = (20, 64)) {T : List Int32} (hT : T.length + 2 < 64) {f : Nat → Int32} (hf : Sl f 0 T) : ∃ f', (if sI S 2 i = (3 : Int32) then
  ((oIS (some a) (nI T.length) (0 : Int32) (sw h a f)).bind fun h18 =>
  (oIL (some (B + 91)) (((6 : Int32) * nI i) + (3 : Int32)) h18).bind fun x19 =>
  if (x19 &&& (4 : Int32)) = (4 : Int32) then
  ((oIS (some a) (nI T.length + (1 : Int32)) (63 : Int32) h18).bind fun h21 =>
  some (nI T.length + (2 : Int32), h21))
  else
  (oIS (some a) (nI T.length + (1 : Int32)) (36 : Int32) h18).bind fun h20 =>
  some (nI T.length + (2 : Int32), h20))
  else
  some (nI T.length, sw h a f)) = some (nI (T ++ ln2 S i).length, sw h a f') ∧ Sl f' 0 (T ++ ln2 S i) := by
  unfold ln2
  by_cases q : sI S 2 i = 3
  · obtain ⟨g, g1, g2⟩ := sw_push ht (u := T) (by omega) hf 0
    have e2 : ∀ v, nI T.length + 2 = nI (T ++ [0, v]).length := fun v => by rw [show (2 : Int32) = nI 2 from rfl, nI_add, List.length_append]; rfl
    rw [if_pos q, if_pos q, g1, sb, (x.sw ha g).fg hi.lt, sb, fl_4 S hi.2, len1 T 0]
    by_cases w : sI S 10 i = 0
    · obtain ⟨g', g3, g4⟩ := sw_push ht (u := T ++ [0]) (by rw [List.length_append, List.length_singleton]; omega) g2 36
      rw [if_pos w, if_neg (show ¬ (0 : Int32) = 4 by decide), if_pos w, g3, sb, e2 36]
      rw [List.append_assoc] at g4
      exact ⟨g', rfl, g4⟩
    · obtain ⟨g', g3, g4⟩ := sw_push ht (u := T ++ [0]) (by rw [List.length_append, List.length_singleton]; omega) g2 63
      rw [if_neg w, if_pos (show (4 : Int32) = 4 from rfl), if_neg w, g3, sb, e2 63]
      rw [List.append_assoc] at g4
      exact ⟨g', rfl, g4⟩
  · rw [if_neg q, if_neg q, List.append_nil]
    exact ⟨f, rfl, hf⟩
/-- LINE -/
theorem rl_line (x : RD B h m S) (hcc : WC S) (hcl : WL S) {a : Nat} (ha : B + 95 ≤ a) (ht : hT h a = (20, 64)) (hn : B + 95 ≤ hN h) (haN : a < hN h) : ∃ f' g', fL_line (some (B + 90)) (some (B + 91)) (some (B + 92)) (some (B + 93)) (some (B + 94)) (some a) h = some (nI (ln S).length, sw (sw (wN h (20, 12)) (hN h) g') a f') ∧ Sl f' 0 (ln S) := by
  have lc := hcc.2.lt
  have l10 := Nat.lt_of_lt_of_le lc x.m10
  have h12 := (hcl (cur S)).2.1
  have hn6 := (x.ok6 lc).1
  have x1 := x.wn hn (20, 12)
  have hne : hN h ≠ a := by omega
  have ht1 : hT (wN h (20, 12)) a = (20, 64) := by rw [wn_T, if_neg (by omega)]; exact ht
  have tw1 : hT (wN h (20, 12)) (hN h) = (20, 12) := by rw [wn_T, if_pos rfl]
  have e20 := x.l.2.1
  rw [hcc.1] at e20
  have len_1 : (ln1 S (cur S)).length ≤ 1 := by unfold ln1; split <;> simp
  have len_w := wrt_len (sL S 6 (cur S))
  have len_2 : (ln2 S (cur S)).length ≤ 2 := by unfold ln2; split <;> simp
  have len_c := wrt_len (sL S 8 (cur S))
  obtain ⟨f1, a1, a2⟩ := l_1 x1 lc ht1
  obtain ⟨g1, b1, b2⟩ := l_name (x1.sw ha f1) lc hn tw1 (some a) (sI S 2 (cur S)) (nI (ln1 S (cur S)).length)
  rw [← sw_comm _ hne] at b1
  have y1 : GW (sw (wN h (20, 12)) (hN h) g1) (hN h) a (sL S 6 (cur S)) := GW_of tw1 (by omega) hne (fun k hk => by rw [sw_Is]; exact b2 k hk)
  obtain ⟨f2, c1, c2⟩ := r_writes y1 (by omega) ht1 (show (ln1 S (cur S)).length + 31 < 64 by omega) a2
  have xg := x1.sw hn g1
  obtain ⟨f3, d1, d2⟩ := l_2 xg hcc.2 ha ht1 (show (ln1 S (cur S) ++ wrt (sL S 6 (cur S))).length + 2 < 64 by rw [List.length_append]; omega) c2
  have hU : (ln1 S (cur S) ++ wrt (sL S 6 (cur S)) ++ ln2 S (cur S)).length ≤ 9 := by rw [List.length_append, List.length_append]; omega
  generalize hT3 : ln1 S (cur S) ++ wrt (sL S 6 (cur S)) ++ ln2 S (cur S) = T3 at d1 d2 hU
  have e3 : ∃ f' g', (if nI (sL S 8 (cur S)).length ≤ 0 then
      (some (nI T3.length, sw (sw (wN h (20, 12)) (hN h) g1) a f3))
      else
      (oIS (some a) (nI T3.length) (0 : Int32) (sw (sw (wN h (20, 12)) (hN h) g1) a f3)).bind fun h25 =>
      Option.bind (α := hp)
      (itr (fL_line_B192 (some (B + 90)) (some (B + 93)) (some (B + 94)) (some a) (some (hN h)) (nI (cur S)) (nI T3.length + (1 : Int32))) FU ((0 : Int32), h25))
      fun q26 =>
      (oIL (some (B + 94)) (nI (cur S)) q26).bind fun x27 =>
      o2 (fL_writes (some (hN h)) x27 (some a) (nI T3.length + (1 : Int32)) q26) fun x28 h29 =>
      some (x28, h29)) = some (nI (T3 ++ ln3 S (cur S)).length, sw (sw (wN h (20, 12)) (hN h) g') a f') ∧ Sl f' 0 (T3 ++ ln3 S (cur S)) := by
    unfold ln3
    rcases Nat.eq_zero_or_pos (sL S 8 (cur S)).length with z | z
    · rw [if_pos (show nI (sL S 8 (cur S)).length ≤ 0 by rw [z]; decide), if_pos z, List.append_nil]
      exact ⟨f3, g1, rfl, d2⟩
    · rw [if_neg (nI_nle z (by omega)), if_neg (show ¬ (sL S 8 (cur S)).length = 0 by omega)]
      obtain ⟨f4, p1, p2⟩ := sw_push (h := sw (wN h (20, 12)) (hN h) g1) ht1 (u := T3) (by omega) d2 0
      obtain ⟨g2, q1, q2⟩ := l_cont (xg.sw ha f4) lc h12 hn tw1 (some a) (nI T3.length + (1 : Int32))
      rw [← sw_comm _ hne, sw_over] at q1
      have y2 : GW (sw (wN h (20, 12)) (hN h) g2) (hN h) a (sL S 8 (cur S)) := GW_of tw1 (by omega) hne (fun k hk => by rw [sw_Is]; exact q2 k hk)
      obtain ⟨f5, r1, r2⟩ := r_writes y2 h12 ht1 (show (T3 ++ [0]).length + 31 < 64 by rw [List.length_append, List.length_singleton]; omega) p2
      rw [p1, sb, q1, sb, ((x1.sw hn g2).sw ha f4).ct lc, sb, len1 T3 0, r1, o2s]
      rw [List.append_assoc] at r2 ⊢
      exact ⟨f5, g2, rfl, r2⟩
  obtain ⟨f4, g2, i1, i2⟩ := e3
  have len_3 : (ln3 S (cur S)).length ≤ 25 := by
    unfold ln3
    split
    · simp
    · rw [List.length_cons]; omega
  have e22 := x.l.2.2.2.2.1
  have e4 : ∃ f', (if sI S 22 0 = (1 : Int32) then
      ((oIS (some a) (nI (T3 ++ ln3 S (cur S)).length) (192 : Int32) (sw (sw (wN h (20, 12)) (hN h) g2) a f4)).bind fun h32 =>
      some ((nI (T3 ++ ln3 S (cur S)).length + (1 : Int32), h32)))
      else
      some ((nI (T3 ++ ln3 S (cur S)).length, sw (sw (wN h (20, 12)) (hN h) g2) a f4))) = some (nI (ln S).length, sw (sw (wN h (20, 12)) (hN h) g2) a f') ∧ Sl f' 0 (ln S) := by
    unfold ln
    rw [hT3]
    rcases x.b 22 (by decide) 0 with z | z
    · rw [z, if_neg (show ¬ (0 : Int32) = 1 by decide), if_pos (show (0 : Int32) = 0 from rfl), List.append_nil]
      exact ⟨f4, rfl, i2⟩
    · rw [z, if_pos (show (1 : Int32) = 1 from rfl), if_neg (show ¬ (1 : Int32) = 0 by decide)]
      obtain ⟨f5, p1, p2⟩ := sw_push (h := sw (wN h (20, 12)) (hN h) g2) ht1 (u := T3 ++ ln3 S (cur S)) (by rw [List.length_append]; omega) i2 192
      rw [p1, sb, len1 (T3 ++ ln3 S (cur S)) 192]
      exact ⟨f5, rfl, p2⟩
  obtain ⟨f5, j1, j2⟩ := e4
  refine ⟨f5, g2, ?_, j2⟩
  unfold fL_line
  rw [x1.q.n1, e20, sb, x1.kd lc, sb, r_lev x1 lc, sb, a1, sb]
  dsimp only
  rw [b1, sb, ((x1.sw hn g1).sw ha f1).nm lc, sb, r_nmany (x.ok6 lc).1 (x.ok6 lc).2, sb, c1, o2s, d1, sb]
  dsimp only
  rw [((x1.sw hn g1).sw ha f3).ct lc, sb, i1, sb]
  dsimp only
  rw [((x1.sw hn g2).sw ha f4).q.n4, e22, sb]
  exact j1
end LIN

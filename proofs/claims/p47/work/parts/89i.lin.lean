/-! ===== the class's line ===== -/
theorem rngI {x : Int32} {a b : Nat} (hb : b < 2 ^ 31) (h1 : nI a ≤ x) (h2 : x ≤ nI b) (ha : a < 2 ^ 31) : ∃ c, a ≤ c ∧ c ≤ b ∧ x = nI c := by
  obtain ⟨c, c1, rfl⟩ := nI_of2 (n := b) (M := nI b) (nI_toInt hb) (not_neg (nI_pos' ha) h1) h2
  exact ⟨c, (nI_leI ha (by omega)).mp h1, c1, rfl⟩
theorem isS_rng {x : Int32} (h : isS x = true) : ∃ c, 97 ≤ c ∧ c ≤ 122 ∧ x = nI c := by
  have := of_decide_eq_true h
  exact rngI (a := 97) (b := 122) (by decide) this.1 this.2 (by decide)
theorem isG_rng {x : Int32} (h : isG x = true) : ∃ c, 65 ≤ c ∧ c ≤ 90 ∧ x = nI c := by
  have := of_decide_eq_true h
  exact rngI (a := 65) (b := 90) (by decide) this.1 this.2 (by decide)
theorem isD_rng {x : Int32} (h : isD x = true) : ∃ c, 48 ≤ c ∧ c ≤ 57 ∧ x = nI c := by
  have := of_decide_eq_true h
  exact rngI (a := 48) (b := 57) (by decide) this.1 this.2 (by decide)
theorem isS_nG {x : Int32} (h : isS x = true) : isG x = false := by
  obtain ⟨c, c1, c2, rfl⟩ := isS_rng h
  unfold isG
  refine decide_eq_false (fun z => ?_)
  exact nI_ge (a := 90) (b := c) (by omega) (by omega) z.2
section LI
variable {h : hp}
theorem b_rep {b : Nat} {g : List Int32} (c : Cd h b 64 g) (c1 : Option Nat) (c2 c3 : Int32) (s : Nat) (hs : g.length + s ≤ 64) : ∃ h', itr (fX0_write_B83 (some b) c1 c2 c3 (nI s)) FU ((0 : Int32), h) = some h' ∧ Cd h' b 64 (g ++ List.replicate s 32) ∧ Ag [b, b + 1] h h' := by
  refine itr_for (R := fun h' => Cd h' b 64 (g ++ List.replicate s 32) ∧ Ag [b, b + 1] h h') (fun j a => ∃ h', a = (nI j, h') ∧ Cd h' b 64 (g ++ List.replicate j 32) ∧ Ag [b, b + 1] h h') s (fun j a hj hX => ?_) (fun a hX => ?_) (FU_lt (by omega)) ⟨h, rfl, by rw [List.replicate_zero, List.append_nil]; exact c, Ag.rf⟩
  · obtain ⟨h', rfl, z1, z2⟩ := hX
    obtain ⟨h2, p1, p2, p3⟩ := c_put z1 (by rw [List.length_append, List.length_replicate]; omega) 32
    refine ⟨(nI (j + 1), h2), ?_, h2, rfl, by rw [List.replicate_succ', ← List.append_assoc]; exact p2, z2.tr p3⟩
    unfold fX0_write_B83
    rw [if_neg (show ¬ nI s ≤ nI j from nI_ge hj (by omega)), z1.ob, sb]
    show o2 (fX1_put b 32 h') _ = _
    rw [p1, o2s]
    show some (Sum.inl (nI j + 1, h2)) = _
    rw [nI_1]
  · obtain ⟨h', rfl, z1, z2⟩ := hX
    refine ⟨h', ?_, z1, z2⟩
    unfold fX0_write_B83
    rw [if_pos (show nI s ≤ nI s from Int32.le_refl _)]
theorem b_put {b : Nat} {g : List Int32} (c : Cd h b 64 g) (hl : g.length < 64) (v : Int32) : ∃ h', ((oOb 0 (some b) h).bind fun b => o2 (fX1_put b v h) fun _ h14 => some h14) = some h' ∧ Cd h' b 64 (g ++ [v]) ∧ Ag [b, b + 1] h h' := by
  obtain ⟨h', p1, p2, p3⟩ := c_put c hl v
  exact ⟨h', by rw [c.ob, sb, p1, o2s], p2, p3⟩
theorem b_write_s {b b2 n k : Nat} {g l : List Int32} (c : Cd h b 64 g) (y : Cd h b2 n l) (hd : b + 1 < b2 ∨ b2 + 1 < b) (hk : k < l.length) (hl : g.length + 3 ≤ 64) : ∃ h', fX0_write_B2 (some b) (some b2) (nI k, h) = some (.inl (nI (k + 1), h')) ∧ Cd h' b 64 (g ++ cl1 l k) ∧ Ag [b, b + 1] h h' := by
  have y5 := y.2.2.2.2.1
  have y6 := y.2.2.2.2.2.1
  have hprev : ∃ v, fX1_at b2 (nI k - 1) h = some v ∧ isD v = decide (0 < k ∧ isD (ge l (k - 1)) = true) := by
    cases k with
    | zero => exact ⟨-1, c_atN y (i := nI 0 - 1) (inb_m1 _), by rw [decide_eq_false (fun z => absurd z.1 (Nat.lt_irrefl 0))]; decide⟩
    | succ k =>
      refine ⟨ge l k, by rw [nI_pred]; exact c_at y (by omega), ?_⟩
      show isD (ge l k) = decide (0 < k + 1 ∧ isD (ge l k) = true)
      by_cases z : isD (ge l k) = true
      · rw [decide_eq_true ⟨by omega, z⟩, z]
      · rw [decide_eq_false (fun w => z w.2)]
        exact Bool.eq_false_iff.mpr z
  obtain ⟨v, v1, v2⟩ := hprev
  unfold fX0_write_B2 cl1
  rw [y.ob, sb, c_size y, sb, if_neg (show ¬ nI l.length ≤ nI k from nI_ge hk (by omega)), sb]
  show ∃ h', ((fX1_at b2 (nI k) h).bind _ = _) ∧ _
  rw [c_at y hk, sb, sb]
  show ∃ h', ((fX1_at b2 (nI k - 1) h).bind _ = _) ∧ _
  rw [v1, sb, b_isD, sb, b_isS, sb, bI_i, v2]
  by_cases qS : isS (ge l k) = true
  · obtain ⟨x, x1, x2, x3⟩ := isS_rng qS
    rw [if_pos qS, if_neg (show ¬ isG (ge l k) = true by rw [isS_nG qS]; decide), if_pos qS]
    have key : ∃ h1, (if (106 : Int32) < ge l k then (some h) else if bI (decide (0 < k ∧ isD (ge l (k - 1)) = true)) = 0 then (some h) else (oOb 0 (some b) h).bind fun b => o2 (fX1_put b (48 : Int32) h) fun _ h29 => some h29) = some h1 ∧ Cd h1 b 64 (g ++ (if (0 < k ∧ isD (ge l (k - 1)) = true) ∧ ge l k ≤ 106 then [48] else [])) ∧ Ag [b, b + 1] h h1 := by
      by_cases a : (106 : Int32) < ge l k
      · rw [if_pos a, if_neg (fun z => (Int32.not_le.mpr a) z.2), List.append_nil]
        exact ⟨h, rfl, c, Ag.rf⟩
      · rw [if_neg a, bI_i]
        by_cases d : 0 < k ∧ isD (ge l (k - 1)) = true
        · rw [decide_eq_true d, if_pos rfl, if_pos ⟨d, Int32.not_lt.mp a⟩]
          exact b_put c (by omega) 48
        · rw [decide_eq_false d, if_neg (by decide), if_neg (fun z => d z.1), List.append_nil]
          exact ⟨h, rfl, c, Ag.rf⟩
    obtain ⟨h1, e1, e2, e3⟩ := key
    have l1 : (g ++ (if (0 < k ∧ isD (ge l (k - 1)) = true) ∧ ge l k ≤ 106 then ([48] : List Int32) else [])).length < 64 := by
      rw [List.length_append]
      have : (if (0 < k ∧ isD (ge l (k - 1)) = true) ∧ ge l k ≤ 106 then ([48] : List Int32) else []).length ≤ 1 := by split <;> simp
      omega
    have hp : ge l k - 97 = nI (x - 97) := by rw [x3, show (97 : Int32) = nI 97 from rfl, nI_sub x1]
    obtain ⟨h2, p1, p2, p3⟩ := c_put e2 l1 (ptsN (ge l k - 97).toNatClampNeg)
    rw [hp, nI_clamp (by omega)] at p1 p2
    refine ⟨h2, ?_, ?_, e3.tr p3⟩
    · show Option.bind (if (106 : Int32) < ge l k then _ else _) _ = _
      rw [e1, sb, hp, b_points (by omega), sb, e2.ob, sb, p1, o2s]
      show some (Sum.inl (nI k + 1, h2)) = _
      rw [nI_1]
    · rw [hp, nI_clamp (by omega), ← List.append_assoc]
      exact p2
  · rw [if_neg qS, b_isG, sb, bI_i]
    by_cases qG : isG (ge l k) = true
    · obtain ⟨x, x1, x2, x3⟩ := isG_rng qG
      rw [if_pos qG, if_pos qG]
      have hg2 : gsg l k ≤ 2 := by unfold gsg; split; split <;> decide; decide
      obtain ⟨h1, e1, e2, e3⟩ := b_rep c (some b2) (nI k) (ge l k) (gsg l k) (by omega)
      have hp : ge l k - 65 = nI (x - 65) := by rw [x3, show (65 : Int32) = nI 65 from rfl, nI_sub x1]
      obtain ⟨h2, p1, p2, p3⟩ := c_put e2 (by rw [List.length_append, List.length_replicate]; omega) (ptsN (ge l k - 65).toNatClampNeg)
      rw [hp, nI_clamp (by omega)] at p1 p2
      refine ⟨h2, ?_, ?_, e3.tr p3⟩
      · show (fX0_capitalSigns (some b2) (nI k) h).bind _ = _
        rw [b_caps y hk qG, sb]
        show Option.bind (itr (fX0_write_B83 (some b) (some b2) (nI k) (ge l k) (nI (gsg l k))) FU ((0 : Int32), h)) _ = _
        rw [e1, sb, hp, b_points (by omega), sb, e2.ob, sb, p1, o2s]
        show some (Sum.inl (nI k + 1, h2)) = _
        rw [nI_1]
      · rw [hp, nI_clamp (by omega), ← List.append_assoc]
        exact p2
    · rw [if_neg qG, if_neg qG, if_neg qS, b_isD, sb, bI_i]
      by_cases qD : isD (ge l k) = true
      · obtain ⟨x, x1, x2, x3⟩ := isD_rng qD
        rw [if_pos qD, if_pos qD]
        have key : ∃ h1, (if bI (decide (0 < k ∧ isD (ge l (k - 1)) = true)) = 0 then ((oOb 0 (some b) h).bind fun b => o2 (fX1_put b (60 : Int32) h) fun _ h14 => some h14) else some h) = some h1 ∧ Cd h1 b 64 (g ++ (if 0 < k ∧ isD (ge l (k - 1)) = true then [] else [60])) ∧ Ag [b, b + 1] h h1 := by
          rw [bI_i]
          by_cases d : 0 < k ∧ isD (ge l (k - 1)) = true
          · rw [decide_eq_true d, if_pos rfl, if_pos d, List.append_nil]
            exact ⟨h, rfl, c, Ag.rf⟩
          · rw [decide_eq_false d, if_neg (by decide), if_neg d]
            exact b_put c (by omega) 60
        obtain ⟨h1, e1, e2, e3⟩ := key
        have l1 : (g ++ (if 0 < k ∧ isD (ge l (k - 1)) = true then ([] : List Int32) else [60])).length < 64 := by
          rw [List.length_append]
          have : (if 0 < k ∧ isD (ge l (k - 1)) = true then ([] : List Int32) else [60]).length ≤ 1 := by split <;> simp
          omega
        have hpt : ∃ j, j < 26 ∧ (if ge l k = 48 then some (9 : Int32) else some (ge l k - 49)) = some (nI j) ∧ ptsN j = (if ge l k = 48 then 26 else ptsN (ge l k - 49).toNatClampNeg) := by
          by_cases z : ge l k = 48
          · exact ⟨9, by decide, by rw [if_pos z]; rfl, by rw [if_pos z]; decide +kernel⟩
          · have x4 : 49 ≤ x := by
              rcases Nat.lt_or_ge x 49 with w | w
              · have : x = 48 := by omega
                rw [this] at x3
                exact absurd x3 z
              · exact w
            have hp : ge l k - 49 = nI (x - 49) := by rw [x3, show (49 : Int32) = nI 49 from rfl, nI_sub x4]
            exact ⟨x - 49, by omega, by rw [if_neg z, hp], by rw [if_neg z, hp, nI_clamp (by omega)]⟩
        obtain ⟨j, j1, j2, j3⟩ := hpt
        rw [← j3]
        obtain ⟨h2, p1, p2, p3⟩ := c_put e2 l1 (ptsN j)
        refine ⟨h2, ?_, ?_, e3.tr p3⟩
        · show Option.bind (if bI (decide (0 < k ∧ isD (ge l (k - 1)) = true)) = 0 then _ else _) _ = _
          rw [e1, sb]
          show Option.bind (if ge l k = 48 then some (9 : Int32) else some (ge l k - 49)) _ = _
          rw [j2, sb, b_points j1, sb, e2.ob, sb, p1, o2s]
          show some (Sum.inl (nI k + 1, h2)) = _
          rw [nI_1]
        · rw [← List.append_assoc]
          exact p2
      · rw [if_neg qD, if_neg qD, b_sign, sb]
        obtain ⟨h2, p1, p2, p3⟩ := c_put c (by omega) (sgn (ge l k))
        refine ⟨h2, ?_, p2, p3⟩
        show (oOb 0 (some b) h).bind _ = _
        rw [c.ob, sb]
        show o2 (fX1_put b (sgn (ge l k)) h) _ = _
        rw [p1, o2s]
        show some (Sum.inl (nI k + 1, h2)) = _
        rw [nI_1]
theorem b_write {b b2 n : Nat} {g l : List Int32} (c : Cd h b 64 g) (y : Cd h b2 n l) (hd : b + 1 < b2 ∨ b2 + 1 < b) (hl : g.length + 2 * l.length + 4 ≤ 64) : CU (fX0_write (some b) (some b2) h) h b 64 (g ++ wrt l) := by
  have y5 := y.2.2.2.2.1
  have y6 := y.2.2.2.2.2.1
  have key : ∃ h', itr (fX0_write_B2 (some b) (some b2)) FU ((0 : Int32), h) = some h' ∧ Cd h' b 64 (g ++ wrtN l l.length) ∧ Ag [b, b + 1] h h' := by
    refine itr_for (R := fun h' => Cd h' b 64 (g ++ wrtN l l.length) ∧ Ag [b, b + 1] h h') (fun j a => ∃ h', a = (nI j, h') ∧ Cd h' b 64 (g ++ wrtN l j) ∧ Ag [b, b + 1] h h') l.length (fun j a hj hX => ?_) (fun a hX => ?_) (FU_lt (by omega)) ⟨h, rfl, by show Cd h b 64 (g ++ []); rw [List.append_nil]; exact c, Ag.rf⟩
    · obtain ⟨h', rfl, z1, z2⟩ := hX
      have w := y.ag z2 (by simp; omega) (by simp; omega)
      have hn := wrtN_le l (n := j) (by omega)
      obtain ⟨h2, p1, p2, p3⟩ := b_write_s z1 w hd hj (by rw [List.length_append]; have := wrtN_le l (n := j) (by omega); omega)
      exact ⟨_, p1, h2, rfl, by rw [wrtN_s, ← List.append_assoc]; exact p2, z2.tr p3⟩
    · obtain ⟨h', rfl, z1, z2⟩ := hX
      have w := y.ag z2 (by simp; omega) (by simp; omega)
      refine ⟨h', ?_, z1, z2⟩
      unfold fX0_write_B2
      rw [w.ob, sb, c_size w, sb, if_pos (show nI l.length ≤ nI l.length from Int32.le_refl _)]
  obtain ⟨h', k1, k2, k3⟩ := key
  refine ⟨h', ?_, k2, k3⟩
  unfold fX0_write
  rw [k1, sb]
end LI

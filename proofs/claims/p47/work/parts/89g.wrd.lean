/-! ===== the class's elements: their words ===== -/
theorem EL.ag {S : SS} {E : Nat → Nat} {i : Nat} {h h' : hp} {as : List Nat} (x : EL S E i h) (y : Ag as h h') (ha : ∀ a ∈ as, a < E i ∨ E i + 8 ≤ a) : EL S E i h' := by
  have n : ∀ d, d < 8 → E i + d ∉ as := fun d hd z => by have := ha _ z; omega
  obtain ⟨a1, a2, a3, a4, a5, a6, a7⟩ := x
  have n0 : E i ∉ as := n 0 (by decide)
  refine ⟨by rw [y.T]; exact a1, by rw [y.T]; exact a2, ?_, ?_, a5.ag y (n 2 (by decide)) (n 3 (by decide)), a6.ag y (n 4 (by decide)) (n 5 (by decide)), a7.ag y (n 6 (by decide)) (n 7 (by decide))⟩
  · unfold EI at *
    rw [y.I n0]; exact a3
  · unfold ER at *
    rw [y.R n0, y.R (n 1 (by decide))]; exact a4
def Out (E : Nat → Nat) (n b : Nat) : Prop := ∀ j, j < n → b + 1 < E j ∨ E j + 8 ≤ b
theorem ES.ag {S : SS} {E : Nat → Nat} {h h' : hp} {b : Nat} (x : ES S E h) (y : Ag [b, b + 1] h h') (ho : Out E (made S) b) : ES S E h' :=
  ⟨fun i hi => (x.1 i hi).ag y (fun a ha => by
    have := ho i hi
    simp only [List.mem_cons, List.not_mem_nil, or_false] at ha
    omega), x.2⟩
theorem kw_txt (k : Int32) : ∃ w, fX2_kindWord k = some w ∧ w < 45 ∧ txt w = kw k := by
  unfold fX2_kindWord kw
  by_cases q0 : k = 0
  · exact ⟨0, by rw [if_pos q0], by decide, by rw [if_pos q0]; decide +kernel⟩
  · rw [if_neg q0, if_neg q0]
    by_cases q2 : k = 2
    · exact ⟨1, by rw [if_pos q2], by decide, by rw [if_pos q2]; decide +kernel⟩
    · rw [if_neg q2, if_neg q2]
      by_cases q3 : k = 3
      · exact ⟨2, by rw [if_pos q3], by decide, by rw [if_pos q3]; decide +kernel⟩
      · rw [if_neg q3, if_neg q3]
        by_cases q4 : k = 4
        · exact ⟨3, by rw [if_pos q4], by decide, by rw [if_pos q4]; decide +kernel⟩
        · rw [if_neg q4, if_neg q4]
          by_cases q5 : k = 5
          · exact ⟨4, by rw [if_pos q5], by decide, by rw [if_pos q5]; decide +kernel⟩
          · rw [if_neg q5, if_neg q5]
            by_cases q6 : k = 6
            · exact ⟨5, by rw [if_pos q6], by decide, by rw [if_pos q6]; decide +kernel⟩
            · rw [if_neg q6, if_neg q6]
              by_cases q7 : k = 7
              · exact ⟨6, by rw [if_pos q7], by decide, by rw [if_pos q7]; decide +kernel⟩
              · rw [if_neg q7, if_neg q7]
                exact ⟨7, rfl, by decide, by decide +kernel⟩
section EW
variable {S : SS} {E : Nat → Nat} {h : hp}
theorem e_upto (x : ES S E h) (hW : WT S) {p k : Nat} (hp : th S p) (hk : k ≤ 10) : fX2_shownUpTo (E p) (nI k) h = some (nI (vis S ((sK S p).take (k + 1)))) := by
  have h10 := (hW.kids hp).2.1
  have hkm : ∀ k, k < (sK S p).length → gn (sK S p) k < made S := fun k hk => ((hW.kids hp).2.2 _ (gn_mem hk)).1.lt
  have key : ∃ q, itr (fX2_shownUpTo_B4 (E p) (nI k) h) FU ((0 : Int32), (0 : Int32)) = some q ∧ q = nI (vis S ((sK S p).take (k + 1))) := by
    refine itr_brk (R := fun q => q = nI (vis S ((sK S p).take (k + 1)))) (fun j a => a = (nI (vis S ((sK S p).take j)), nI j)) (k + 1) (fun j a hj hX => ?_) (fun a hX => ?_) (FU_lt (by omega)) rfl
    · subst hX
      unfold fX2_shownUpTo_B4
      rw [if_neg (show ¬ nI k < nI j from nI_nlt (by omega) (by omega)), x.cnt hp.lt, sb]
      by_cases q : j < (sK S p).length
      · refine Or.inl ⟨_, ?_, rfl⟩
        rw [if_neg (show ¬ nI (sK S p).length ≤ nI j from nI_ge q (by omega)), x.ob hp.lt, sb]
        show (fX2_shownChild (E p) (nI j) h).bind _ = _
        rw [e_shCh x hp.lt h10 q (hkm j q), sb, List.take_add_one, List.getElem?_eq_getElem q, ← gn_of q]
        unfold vis
        rw [List.countP_append]
        show _ = some (Sum.inl (nI (_ + [gn (sK S p) j].countP _), _))
        by_cases w : hid S (gn (sK S p) j) = false
        · rw [if_pos w, if_neg (by simp)]
          have : [gn (sK S p) j].countP (fun j => !hid S j) = 1 := by simp [w]
          rw [this, nI_1, nI_1]
        · rw [if_neg w, if_pos rfl]
          rw [Bool.not_eq_false] at w
          have : [gn (sK S p) j].countP (fun j => !hid S j) = 0 := by simp [w]
          rw [this, nI_1]; rfl
      · refine Or.inr ⟨_, ?_, rfl⟩
        rw [if_pos (show nI (sK S p).length ≤ nI j from nI_le (by omega) (by omega)), List.take_of_length_le (by omega), List.take_of_length_le (by omega)]
    · subst hX
      refine ⟨_, ?_, rfl⟩
      unfold fX2_shownUpTo_B4
      rw [if_pos (show nI k < nI (k + 1) from nI_lt (by omega) (by omega))]
  obtain ⟨q, k1, k2⟩ := key
  unfold fX2_shownUpTo
  rw [k1, sb, k2]
theorem e_words (x : ES S E h) (hW : WT S) (hL : WL S) {i b : Nat} (hi : th S i) (ho : Out E (made S) b) {l : List Int32} (c : Cd h b 80 l) (hl : l.length ≤ 30) : CU (fX2_putWords (E i) (some b) h) h b 80 (wd S i l) := by
  have il := hi.lt
  have oi := ho i il
  have hLi := hL i
  -- the name
  obtain ⟨h1, a1, c1, g1⟩ := c_part c (x.cn il) (by omega) (show l.length + 1 + (sL S 6 i).length ≤ 80 by omega)
  have x1 := x.ag g1 ho
  have p1 := pt_len l (sL S 6 i)
  -- the kind
  have key2 : ∃ h2, (if lvl S i = 0 then ((oGR 1 5 (some (E i)) h1).bind fun x11 => (oOb 0 x11 h1).bind fun b1 => (fX1_size b1 h1).bind fun x12 => if x12 = 0 then ((oGI 1 1 (some (E i)) h1).bind fun x13 => (fX2_kindWord x13).bind fun x14 => (oOb 0 (some b) h1).bind fun b1 => o2 (fX1_part_ b1 x14 h1) fun _ h16 => some h16) else some h1) else (oGI 1 1 (some (E i)) h1).bind fun x7 => (fX2_kindWord x7).bind fun x8 => (oOb 0 (some b) h1).bind fun b => o2 (fX1_part_ b x8 h1) fun _ h10 => some h10) = some h2 ∧ Cd h2 b 80 (wd1 S i l) ∧ Ag [b, b + 1] h1 h2 := by
    obtain ⟨w, w1, w2, w3⟩ := kw_txt (sI S 2 i)
    have kl := kw_len (sI S 2 i)
    obtain ⟨h2, a2, c2, g2⟩ := c_text c1 w2 (by rw [w3]; omega)
    rw [w3] at c2
    unfold wd1
    by_cases q : lvl S i = 0
    · rw [if_pos q, x1.name il, sb, (x1.cn il).ob, sb, c_size (x1.cn il), sb]
      by_cases z : (sL S 6 i).length = 0
      · rw [if_pos (Or.inr z), z, if_pos (show nI 0 = 0 from rfl), x1.kind il, sb, w1, sb, c1.ob, sb, a2, o2s]
        exact ⟨h2, rfl, c2, g2⟩
      · rw [if_neg (nI_ne0 (by omega) (by omega)), if_neg (show ¬ (lvl S i ≠ 0 ∨ (sL S 6 i).length = 0) from fun y => y.elim (fun w => w q) z)]
        exact ⟨h1, rfl, c1, Ag.rf⟩
    · rw [if_neg q, if_pos (Or.inl q), x1.kind il, sb, w1, sb, c1.ob, sb, a2, o2s]
      exact ⟨h2, rfl, c2, g2⟩
  obtain ⟨h2, a2, c2, g2⟩ := key2
  have x2 := x1.ag g2 ho
  have l2 : (wd1 S i l).length ≤ l.length + 20 := by
    have kl := kw_len (sI S 2 i)
    have p2 := pt_len (pt l (sL S 6 i)) (kw (sI S 2 i))
    unfold wd1
    split <;> omega
  -- on or off
  have key3 : ∃ h3, (if sI S 2 i = (3 : Int32) then ((oGI 1 8 (some (E i)) h2).bind fun x20 => if x20 = 0 then ((oOb 0 (some b) h2).bind fun b => o2 (fX1_part_ b 15 h2) fun _ h22 => some h22) else (oOb 0 (some b) h2).bind fun b => o2 (fX1_part_ b 14 h2) fun _ h24 => some h24) else some h2) = some h3 ∧ Cd h3 b 80 (wd2 S i (wd1 S i l)) ∧ Ag [b, b + 1] h2 h3 := by
    unfold wd2
    have e8 : oGI 1 8 (some (E i)) h2 = some (sI S 10 i) := hgI (x2.t il) (x2.1 i il).2.2.1.2.2.2.1
    have t15 : txt 15 = [111, 102, 102] := by decide +kernel
    have t14 : txt 14 = [111, 110] := by decide +kernel
    by_cases q : sI S 2 i = 3
    · rw [if_pos q, if_pos q, e8, sb]
      unfold onw
      by_cases z : sI S 10 i = 0
      · obtain ⟨h3, a3, c3, g3⟩ := c_text c2 (i := 15) (by decide) (by rw [t15]; show _ + 1 + 3 ≤ 80; omega)
        rw [t15] at c3
        rw [if_pos z, if_pos z, c2.ob, sb, a3, o2s]
        exact ⟨h3, rfl, c3, g3⟩
      · obtain ⟨h3, a3, c3, g3⟩ := c_text c2 (i := 14) (by decide) (by rw [t14]; show _ + 1 + 2 ≤ 80; omega)
        rw [t14] at c3
        rw [if_neg z, if_neg z, c2.ob, sb, a3, o2s]
        exact ⟨h3, rfl, c3, g3⟩
    · rw [if_neg q, if_neg q]
      exact ⟨h2, rfl, c2, Ag.rf⟩
  obtain ⟨h3, a3, c3, g3⟩ := key3
  have x3 := x2.ag g3 ho
  have l3 : (wd2 S i (wd1 S i l)).length ≤ l.length + 24 := by
    have p2 := pt_len (wd1 S i l) (onw (sI S 10 i))
    have o2 : (onw (sI S 10 i)).length ≤ 3 := by unfold onw; split <;> simp
    unfold wd2
    split <;> omega
  -- the content
  obtain ⟨h4, a4, c4, g4⟩ := c_part c3 (x3.cc il) (by omega) (show _ + 1 + (sL S 8 i).length ≤ 80 by omega)
  have x4 := x3.ag g4 ho
  have l4 := pt_len (wd2 S i (wd1 S i l)) (sL S 8 i)
  have gg := ((g1.tr g2).tr g3).tr g4
  have pre : fX2_putWords (E i) (some b) h = (if lvl S i = (2 : Int32) then ((oGR 1 2 (some (E i)) h4).bind fun x28 => if x28 = none then (some (((), h4))) else (oGR 1 2 (some (E i)) h4).bind fun x29 => (oGR 1 2 (some (E i)) h4).bind fun x30 => (oOb 1 x30 h4).bind fun b1 => (fX2_placeOf b1 (some (E i)) h4).bind fun x31 => (oOb 1 x29 h4).bind fun b1 => (fX2_shownUpTo b1 x31 h4).bind fun x32 => (oOb 0 (some b) h4).bind fun b1 => o2 (fX1_part__ b1 x32 h4) fun _ h34 => (oOb 0 (some b) h34).bind fun b1 => o2 (fX1_part_ b1 16 h34) fun _ h36 => (oGR 1 2 (some (E i)) h36).bind fun x37 => (oOb 1 x37 h36).bind fun b1 => (fX2_shownUpTo b1 (10 : Int32) h36).bind fun x38 => (oOb 0 (some b) h36).bind fun b1 => o2 (fX1_part__ b1 x38 h36) fun _ h40 => some (((), h40))) else some (((), h4))) := by
    unfold fX2_putWords
    rw [x.ob il, sb, e_level x hW.pw il, sb, x.name il, sb, c.ob, sb, a1, o2s, a2, sb, x2.kind il, sb, a3, sb, x3.cont il, sb, c3.ob, sb, a4, o2s]
  unfold CU wd
  rw [pre]
  by_cases q : lvl S i = 2
  · rw [if_pos q, x4.up il]
    by_cases z : i = 0
    · rw [if_pos z, sb, if_pos rfl, if_neg (fun w => w.2 z)]
      exact ⟨h4, rfl, c4, gg⟩
    · obtain ⟨u1, u2⟩ := hW.up (by omega) hi
      have h10 := (hW.kids u1).2.1
      have hpl : plc S i < (sK S (dpar S i)).length := List.idxOf_lt_length_of_mem u2
      have hplc : fX2_placeOf (E (dpar S i)) (some (E i)) h4 = some (nI (plc S i)) := e_place x4 hW u1 u2
      have v1 := vis_le S ((sK S (dpar S i)).take (plc S i + 1))
      rw [List.length_take] at v1
      have v2 := vis_le S ((sK S (dpar S i)).take (10 + 1))
      rw [List.length_take] at v2
      have t16 : txt 16 = [111, 102] := by decide +kernel
      have d1 : ∀ n, n ≤ 10 → (dg n).length ≤ 2 := fun n _ => by unfold dg; split <;> simp
      obtain ⟨h5, a5, c5, g5⟩ := c_num c4 (k := vis S ((sK S (dpar S i)).take (plc S i + 1))) (by omega) (by omega)
      have l5 := pt_len (pt (wd2 S i (wd1 S i l)) (sL S 8 i)) (dg (vis S ((sK S (dpar S i)).take (plc S i + 1))))
      have l5' := d1 (vis S ((sK S (dpar S i)).take (plc S i + 1))) (by omega)
      obtain ⟨h6, a6, c6, g6⟩ := c_text c5 (i := 16) (by decide) (by rw [t16]; show _ + 1 + 2 ≤ 80; omega)
      rw [t16] at c6
      have l6 := pt_len (pt (pt (wd2 S i (wd1 S i l)) (sL S 8 i)) (dg (vis S ((sK S (dpar S i)).take (plc S i + 1))))) [111, 102]
      have l6' : ([111, 102] : List Int32).length = 2 := rfl
      have x6 := (x4.ag g5 ho).ag g6 ho
      obtain ⟨h7, a7, c7, g7⟩ := c_num c6 (k := vis S ((sK S (dpar S i)).take (10 + 1))) (by omega) (by omega)
      rw [List.take_of_length_le (show (sK S (dpar S i)).length ≤ 10 + 1 by omega)] at c7 a7
      have e10 := e_upto x6 hW u1 (k := 10) (by decide)
      rw [List.take_of_length_le (show (sK S (dpar S i)).length ≤ 10 + 1 by omega)] at e10
      rw [if_neg z, sb, if_neg (by simp), sb, sb, x4.ob u1.lt, sb, hplc, sb, sb, e_upto x4 hW u1 (by omega), sb, c4.ob, sb, a5, o2s, c5.ob, sb, a6, o2s, x6.up il, sb, if_neg z, x6.ob u1.lt, sb]
      rw [show (10 : Int32) = nI 10 from rfl, e10, sb, c6.ob, sb, a7, o2s, if_pos ⟨q, z⟩]
      exact ⟨h7, rfl, c7, ((gg.tr g5).tr g6).tr g7⟩
  · rw [if_neg q, if_neg (fun w => q w.1)]
    exact ⟨h4, rfl, c4, gg⟩
end EW

/-! ===== the class's line of an element ===== -/
theorem b_first : ∀ k, k < 8 → ((fX2_kindWord (nI k)).bind fun w => fX0_firstPoints w) = some (fpt (nI k)) ∧ fpt (nI k) ||| (192 : Int32) = fpt (nI k) + 192 := by decide +kernel
section LJ
variable {S : SS} {E : Nat → Nat} {h : hp}
theorem b_line (x : ES S E h) (hW : WT S) (hL : WL S) (hK : WK S) (hC : WC S) (hT : WXt S) {b : Nat} (ho : Out E (made S) b) {l0 : List Int32} (c0 : Cd h b 64 l0) : CU (fX0_writeLine (some b) (some (E (cur S))) (sI S 22 0) h) h b 64 (ln S) := by
  have hi := hC.2
  generalize hcu : cur S = i at *
  have il := hi.lt
  have oi := ho i il
  have hLi := hL i
  obtain ⟨kk, k7, hk⟩ := hK i hi
  obtain ⟨h1, a1, c1, g1⟩ := c_clear c0
  have x1 := x.ag g1 ho
  obtain ⟨f1, f2⟩ := b_first kk (by omega)
  rw [← hk] at f1 f2
  have k1 : ∀ j, j ≤ 7 → (sI S 2 i = nI j ↔ kk = j) := fun j hj => by rw [hk]; exact nI_eq (by omega) (by omega)
  -- the kind
  have key2 : ∃ h2, (if lvl S i = 0 then (some h1) else (oGI 1 1 (some (E i)) h1).bind fun x6 => if x6 = (1 : Int32) then (some h1) else (oGI 1 1 (some (E i)) h1).bind fun x7 => (fX2_kindWord x7).bind fun x8 => (fX0_firstPoints x8).bind fun x9 => (oOb 0 (some b) h1).bind fun b1 => o2 (fX1_put b1 (x9 ||| (192 : Int32)) h1) fun _ h11 => some h11) = some h2 ∧ Cd h2 b 64 (ln1 S i) ∧ Ag [b, b + 1] h1 h2 := by
    unfold ln1
    by_cases q : lvl S i = 0
    · rw [if_pos q, if_pos (Or.inl q)]
      exact ⟨h1, rfl, c1, Ag.rf⟩
    · rw [if_neg q, x1.kind il, sb]
      by_cases z : sI S 2 i = 1
      · rw [if_pos z, if_pos (Or.inr z)]
        exact ⟨h1, rfl, c1, Ag.rf⟩
      · rw [if_neg z, if_neg (fun w => w.elim q z), sb, ← Option.bind_assoc, f1, sb, f2, c1.ob, sb]
        obtain ⟨h2, p1, p2, p3⟩ := c_put c1 (by decide) (fpt (sI S 2 i) + 192)
        rw [p1, o2s]
        exact ⟨h2, rfl, p2, p3⟩
  obtain ⟨h2, a2, c2, g2⟩ := key2
  have l1 : (ln1 S i).length ≤ 1 := by unfold ln1; split <;> simp
  have x2 := x1.ag g2 ho
  -- the name
  obtain ⟨h3, a3, c3, g3⟩ := b_write c2 (x2.cn il) (by omega) (by omega)
  have x3 := x2.ag g3 ho
  have w1 := wrt_len (sL S 6 i)
  have l3 : (ln1 S i ++ wrt (sL S 6 i)).length ≤ 25 := by rw [List.length_append]; omega
  -- on or off
  have key4 : ∃ h4, (if sI S 2 i = (3 : Int32) then ((oOb 0 (some b) h3).bind fun b1 => o2 (fX1_put b1 (0 : Int32) h3) fun _ h19 => (oGI 1 8 (some (E i)) h19).bind fun x20 => if x20 = 0 then ((oOb 0 (some b) h19).bind fun b1 => o2 (fX1_put b1 (36 : Int32) h19) fun _ h22 => some h22) else (oOb 0 (some b) h19).bind fun b1 => o2 (fX1_put b1 (63 : Int32) h19) fun _ h24 => some h24) else some h3) = some h4 ∧ Cd h4 b 64 (ln1 S i ++ wrt (sL S 6 i) ++ ln2 S i) ∧ Ag [b, b + 1] h3 h4 := by
    unfold ln2
    by_cases q : sI S 2 i = 3
    · rw [if_pos q, if_pos q]
      obtain ⟨h4, p1, p2, p3⟩ := c_put c3 (by omega) 0
      have x4 := x3.ag p3 ho
      have e8 : oGI 1 8 (some (E i)) h4 = some (sI S 10 i) := hgI (x4.t il) (x4.1 i il).2.2.1.2.2.2.1
      rw [c3.ob, sb, p1, o2s, e8, sb]
      have l4 : (ln1 S i ++ wrt (sL S 6 i) ++ [0]).length < 64 := by rw [List.length_append]; show _ + 1 < 64; omega
      by_cases z : sI S 10 i = 0
      · obtain ⟨h5, q1, q2, q3⟩ := c_put p2 l4 36
        rw [if_pos z, if_pos z, p2.ob, sb, q1, o2s]
        rw [List.append_assoc (ln1 S i ++ wrt (sL S 6 i))] at q2
        exact ⟨h5, rfl, q2, p3.tr q3⟩
      · obtain ⟨h5, q1, q2, q3⟩ := c_put p2 l4 63
        rw [if_neg z, if_neg z, p2.ob, sb, q1, o2s]
        rw [List.append_assoc (ln1 S i ++ wrt (sL S 6 i))] at q2
        exact ⟨h5, rfl, q2, p3.tr q3⟩
    · rw [if_neg q, if_neg q, List.append_nil]
      exact ⟨h3, rfl, c3, Ag.rf⟩
  obtain ⟨h4, a4, c4, g4⟩ := key4
  have x4 := x3.ag g4 ho
  have l2 : (ln2 S i).length ≤ 2 := by unfold ln2; split <;> simp
  have l4 : (ln1 S i ++ wrt (sL S 6 i) ++ ln2 S i).length ≤ 27 := by rw [List.length_append]; omega
  -- the content
  have key5 : ∃ h5, (if nI (sL S 8 i).length ≤ 0 then (some h4) else (oOb 0 (some b) h4).bind fun b1 => o2 (fX1_put b1 (0 : Int32) h4) fun _ h30 => (oGR 1 6 (some (E i)) h30).bind fun x31 => o2 (fX0_write (some b) x31 h30) fun _ h33 => some h33) = some h5 ∧ Cd h5 b 64 (ln1 S i ++ wrt (sL S 6 i) ++ ln2 S i ++ ln3 S i) ∧ Ag [b, b + 1] h4 h5 := by
    unfold ln3
    by_cases q : (sL S 8 i).length = 0
    · rw [q, if_pos (show nI 0 ≤ 0 by decide), if_pos rfl, List.append_nil]
      exact ⟨h4, rfl, c4, Ag.rf⟩
    · rw [if_neg (nI_nle (by omega) (by omega)), if_neg q]
      obtain ⟨h5, p1, p2, p3⟩ := c_put c4 (by omega) 0
      have x5 := x4.ag p3 ho
      obtain ⟨h6, q1, q2, q3⟩ := b_write p2 (x5.cc il) (by omega) (by rw [List.length_append]; show _ + 1 + _ + 4 ≤ 64; omega)
      rw [c4.ob, sb, p1, o2s, x5.cont il, sb, q1, o2s]
      refine ⟨h6, rfl, ?_, p3.tr q3⟩
      rw [List.append_assoc (ln1 S i ++ wrt (sL S 6 i) ++ ln2 S i)] at q2
      exact q2
  obtain ⟨h5, a5, c5, g5⟩ := key5
  have x5 := x4.ag g5 ho
  have w2 := wrt_len (sL S 8 i)
  have l5 : (ln3 S i).length ≤ 25 := by
    unfold ln3
    split
    · simp
    · rw [List.length_cons]; omega
  have gg := (((g1.tr g2).tr g3).tr g4).tr g5
  have eln : ln S = ln1 S i ++ wrt (sL S 6 i) ++ ln2 S i ++ ln3 S i ++ (if sI S 22 0 = 0 then [] else [192]) := by unfold ln; rw [hcu]
  have pre : fX0_writeLine (some b) (some (E i)) (sI S 22 0) h = (if sI S 2 i = (4 : Int32) then (if sI S 22 0 = 0 then (some (((), h5))) else (oOb 0 (some b) h5).bind fun b1 => o2 (fX1_put b1 (192 : Int32) h5) fun _ h36 => some (((), h36))) else some (((), h5))) := by
    unfold fX0_writeLine
    rw [c0.ob, sb, a1, o2s, x1.ob il, sb, e_level x1 hW.pw il, sb, a2, sb, x2.name il, sb, a3, o2s, x3.kind il, sb, a4, sb, x4.cont il, sb, (x4.cc il).ob, sb, c_size (x4.cc il), sb, a5, sb, x5.kind il, sb]
  unfold CU
  rw [pre, eln]
  by_cases q : sI S 22 0 = 0
  · rw [if_pos q, if_pos q, List.append_nil]
    refine ⟨h5, ?_, c5, gg⟩
    split <;> rfl
  · have h4' : sI S 2 i = 4 := by
      have := (hT.resolve_left q).1
      rw [hcu] at this
      exact this
    rw [if_pos h4', if_neg q, if_neg q, c5.ob, sb]
    obtain ⟨h6, p1, p2, p3⟩ := c_put c5 (by rw [List.length_append]; omega) 192
    exact ⟨h6, by rw [p1, o2s], p2, gg.tr p3⟩
end LJ

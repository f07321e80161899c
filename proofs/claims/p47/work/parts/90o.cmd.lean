/-! ===== the class's reader: commands ===== -/
theorem drop1_c {S : SS} {k : Nat} (v : Int32) (h44 : k ≠ 44) : drop1 (wSI S k 0 v) = wSI (drop1 S) k 0 v := by
  unfold drop1
  rw [sI_N (show (44 : Nat) ≠ k from fun z => h44 z.symm), wSI_cc S 0 0 _ _ h44]
theorem hshA_c {S : SS} {k : Nat} (v : Int32) (h44 : k ≠ 44) : hshA (wSI S k 0 v) = wSI (hshA S) k 0 v := by
  unfold hshA
  by_cases q : (sL S 33 0).length = 0
  · rw [if_pos q, if_pos (show (sL (wSI S k 0 v) 33 0).length = 0 from q)]
  · rw [if_neg q, if_neg (show ¬ (sL (wSI S k 0 v) 33 0).length = 0 from q), drop1_c v h44]
theorem hshS_c {S : SS} {k : Nat} (v : Int32) (h38 : k ≠ 38) (h44 : k ≠ 44) : hshS (wSI S k 0 v) = wSI (hshS S) k 0 v := by
  unfold hshS
  rw [sI_N (show (38 : Nat) ≠ k from fun z => h38 z.symm)]
  by_cases q : sI S 38 0 = 0 ∨ sI S 38 0 = 1
  · rw [if_pos q, if_pos q, wSI_cc S 0 0 _ _ h38, drop1_c v h44]
  · rw [if_neg q, if_neg q]
theorem cAns_c {S : SS} {k : Nat} (v : Int32) (t : List Int32) (h38 : k ≠ 38) (h44 : k ≠ 44) : cAns (wSI S k 0 v) t = wSI (cAns S t) k 0 v := by
  unfold cAns
  by_cases q : t.length = 0
  · rw [if_pos q, if_pos q]
  · rw [if_neg q, if_neg q, hshA_c v h44, hshS_c v h38 h44]; rfl
theorem hds_cg {S S' : SS} (h2 : sI S' 2 = sI S 2) (h3 : sI S' 3 = sI S 3) (h13 : sI S' 13 = sI S 13) (h6 : sL S' 6 = sL S 6) (hK : sK S' = sK S) (f u : Nat) : hds S' f u = hds S f u := by
  unfold hds hdB hd2 hd1 tbl kid
  rw [h2, h6, hK, plc_cg h3 hK u, plc_cg h3 hK f, dpar_cg h3 u, dpar_cg h3 f, dpar_cg h3, dpar_cg h3, lvl_cg h3 h13 u]
theorem go_21 {S : SS} (x : Nat) (v : Int32) : go (wSI S 21 0 v) x = wSI (go S x) 21 0 v := by
  have hs : Sd [21] [] [] S (wSI S 21 0 v) := Sd.I (by decide)
  have e1 : cur (wSI S 21 0 v) = cur S := cur_cg (hs.i 20 rfl)
  unfold go
  rw [hds_cg (hs.i 2 rfl) (hs.i 3 rfl) (hs.i 13 rfl) (hs.l 6 rfl) hs.2.2.2, wd_cg (hs.i 2 rfl) (hs.i 3 rfl) (hs.i 10 rfl) (hs.i 12 rfl) (hs.i 13 rfl) (hs.l 6 rfl) (hs.l 8 rfl) hs.2.2.2, e1, hs.i 25 rfl, wSI_cc S 0 0 _ _ (show (21 : Nat) ≠ 22 by decide), wSI_cc (wSI S 22 0 0) 0 0 _ _ (show (21 : Nat) ≠ 25 by decide), wSI_cc _ 0 0 _ _ (show (21 : Nat) ≠ 20 by decide), cAns_c v _ (by decide) (by decide)]
theorem go_cur {S : SS} (hW : WT S) {x : Nat} (hx : th S x) : sI (go S x) 20 0 = nI x ∧ cur (go S x) = x := by
  have h40 := hx.l40 hW
  have e : sI (go S x) 20 0 = nI x := by
    unfold go
    rw [(sd_cAns _ _).i 20 rfl, sI_I, if_pos ⟨rfl, rfl⟩]
  exact ⟨e, by unfold cur; rw [e, nI_clamp (by omega)]⟩
theorem cmd_v (S : SS) : cmd S 1 = gPrev S ∧ cmd S 8 = gNext S ∧ cmd S 4 = gOut S ∧ cmd S 32 = gIn S ∧ cmd S 2 = gUp S ∧ cmd S 16 = gDown S ∧ cmd S 30 = gTab S ∧ cmd S 128 = act S ∧ cmd S 64 = hush S ∧ cmd S 7 = gLeft S ∧ cmd S 56 = gRight S ∧ cmd S 23 = again S := by
  refine ⟨rfl, rfl, rfl, rfl, rfl, rfl, rfl, rfl, rfl, rfl, rfl, rfl⟩
section CD2
variable {B : Nat} {E : Nat → Nat} {S : SS} {h h' : hp}
theorem r_cmd (x : RW B E S (ln S) (ord S) h) {c : Nat} (hI : Inv0 S c) (p : Int32) : ∃ h', fX5_command (B + 79) p h = some ((), h') ∧ RW B E (cmd S p) (ln S) (ord S) h' := by
  have hCo := hI.1
  have hW := hCo.t
  have hL := hCo.l
  have hC := hCo.c
  have hV := hI.2.1
  have ho40 := ord_len hW
  have hom : ∀ j ∈ ord S, j < made S := fun j hj => (ord_in hW hj).1.lt
  have hco : cur S ∈ ord S := ord_shn hW _ hC.2.lt hC.2 hCo.xs
  have hcp := cpl_lt hCo
  have epl : fX7_placeInOrder (B + 1) (some (E (cur S))) h = some (nI (cpl S)) := t_plO x ho40 hom hco
  obtain ⟨w1, w2, -, -, -, -, -, -⟩ := tx_w
  obtain ⟨v1, v8, v4, v32, v2, v16, v30, v128, v64, v7, v56, v23⟩ := cmd_v S
  have e0 : oGR 4 0 (some (B + 79)) h = some (some (B + 1)) := x.fp (by decide) (by decide)
  have e1 : oGR 4 1 (some (B + 79)) h = some (some (B + 12)) := x.fp (by decide) (by decide)
  have e2 : oGR 4 2 (some (B + 79)) h = some (some (B + 80)) := x.fp (by decide) (by decide)
  have o1 : oOb 6 (some (B + 1)) h = some (B + 1) := x.fo (by decide)
  have o80 : oOb 2 (some (B + 80)) h = some (B + 80) := x.fo (by decide)
  unfold fX5_command
  by_cases q1 : p = 1
  · have e : fX7_inOrder (B + 1) (nI (cpl S) - 1) h = some ((if cpl S = 0 then none else some (gn (ord S) (cpl S - 1))).map E) := by
      by_cases z : cpl S = 0
      · rw [if_pos z, z]
        exact t_inON x ho40 (by rw [show nI 0 - 1 = (-1 : Int32) from by decide]; exact inb_m1 _)
      · rw [if_neg z, show (1 : Int32) = nI 1 from rfl, nI_sub (by omega)]
        exact t_inO x ho40 (by omega)
    obtain ⟨h1, a1, x1⟩ := r_goO x hW hL hC (o := if cpl S = 0 then none else some (gn (ord S) (cpl S - 1))) (fun t ht => by
      by_cases z : cpl S = 0
      · rw [if_pos z] at ht; cases ht
      · rw [if_neg z] at ht
        rw [← Option.some.inj ht]
        exact (ord_at hW (by omega)).1) (w := 30) (by decide) (by decide)
    rw [w1] at x1
    rw [if_pos q1, e0, sb, sb, x.cu, sb, o1, sb, epl, sb, sb, e, sb, x.ob79, sb, a1, o2s, q1, v1]
    exact ⟨h1, rfl, x1⟩
  rw [if_neg q1]
  by_cases q2 : p = 2
  · have hg : gUp S = goO S (if inRow S = true then rwF S ((rws S).take (plc S (dpar S (cur S)))).reverse else none) (txt (if inRow S = true then 30 else 31)) := by
      unfold gUp
      by_cases z : inRow S = true
      · rw [if_pos z, if_pos z, if_pos z, w1]
      · rw [if_neg z, if_neg z, if_neg z, w2]; rfl
    have hq : (if bI (inRow S) = 0 then (some 31 : Option Nat) else some 30) = some (if inRow S = true then 30 else 31) := by
      rw [bI_i]
      by_cases z : inRow S = true
      · rw [if_pos z, if_pos z]
      · rw [if_neg z, if_neg z]
    obtain ⟨h1, a1, x1⟩ := r_goO x hW hL hC (o := if inRow S = true then rwF S ((rws S).take (plc S (dpar S (cur S)))).reverse else none) (fun t ht => by
      by_cases z : inRow S = true
      · rw [if_pos z] at ht
        exact (rwF_in hCo z (fun j hj => List.mem_of_mem_take (List.mem_reverse.mp hj)) t ht).1
      · rw [if_neg z] at ht; cases ht) (w := if inRow S = true then 30 else 31) (by split <;> decide) (by split <;> decide)
    rw [if_pos q2, x.ob79, sb, (r_cell x hW hC).1, sb, sb, r_inRow x hW hC, sb, hq, sb, sb, a1, o2s, q2, v2, hg]
    exact ⟨h1, rfl, x1⟩
  rw [if_neg q2]
  by_cases q4 : p = 4
  · have e : (if cur S = 0 then none else some (E (dpar S (cur S)))) = (if cur S = 0 then none else some (dpar S (cur S))).map E := by split <;> rfl
    obtain ⟨h1, a1, x1⟩ := r_goO x hW hL hC (o := if cur S = 0 then none else some (dpar S (cur S))) (fun t ht => by
      by_cases z : cur S = 0
      · rw [if_pos z] at ht; cases ht
      · rw [if_neg z] at ht
        rw [← Option.some.inj ht]
        exact (hW.up (by omega) hC.2).1) (w := 31) (by decide) (by decide)
    rw [w2] at x1
    rw [if_pos q4, x.cu, sb, x.es.up hC.2.lt, sb, e, x.ob79, sb, a1, o2s, q4, v4]
    exact ⟨h1, rfl, x1⟩
  rw [if_neg q4]
  by_cases q7 : p = 7
  · obtain ⟨h1, a1, x1⟩ := p_left x
    rw [if_pos q7, e2, sb, o80, sb, a1, o2s, q7, v7]
    exact ⟨h1, rfl, x1⟩
  rw [if_neg q7]
  by_cases q8 : p = 8
  · have e : fX7_inOrder (B + 1) (nI (cpl S) + 1) h = some ((if cpl S + 1 < (ord S).length then some (gn (ord S) (cpl S + 1)) else none).map E) := by
      rw [nI_1]
      by_cases z : cpl S + 1 < (ord S).length
      · rw [if_pos z]
        exact t_inO x ho40 z
      · rw [if_neg z]
        exact t_inON x ho40 (inb_ge (by omega) (by omega))
    obtain ⟨h1, a1, x1⟩ := r_goO x hW hL hC (o := if cpl S + 1 < (ord S).length then some (gn (ord S) (cpl S + 1)) else none) (fun t ht => by
      by_cases z : cpl S + 1 < (ord S).length
      · rw [if_pos z] at ht
        rw [← Option.some.inj ht]
        exact (ord_at hW z).1
      · rw [if_neg z] at ht; cases ht) (w := 30) (by decide) (by decide)
    rw [w1] at x1
    rw [if_pos q8, e0, sb, sb, x.cu, sb, o1, sb, epl, sb, sb, e, sb, x.ob79, sb, a1, o2s, q8, v8]
    exact ⟨h1, rfl, x1⟩
  rw [if_neg q8]
  by_cases q16 : p = 16
  · have hg : gDown S = goO S (if inRow S = true then rwF S ((rws S).drop (plc S (dpar S (cur S)) + 1)) else none) (txt (if inRow S = true then 30 else 31)) := by
      unfold gDown
      by_cases z : inRow S = true
      · rw [if_pos z, if_pos z, if_pos z, w1]
      · rw [if_neg z, if_neg z, if_neg z, w2]; rfl
    have hq : (if bI (inRow S) = 0 then (some 31 : Option Nat) else some 30) = some (if inRow S = true then 30 else 31) := by
      rw [bI_i]
      by_cases z : inRow S = true
      · rw [if_pos z, if_pos z]
      · rw [if_neg z, if_neg z]
    obtain ⟨h1, a1, x1⟩ := r_goO x hW hL hC (o := if inRow S = true then rwF S ((rws S).drop (plc S (dpar S (cur S)) + 1)) else none) (fun t ht => by
      by_cases z : inRow S = true
      · rw [if_pos z] at ht
        exact (rwF_in hCo z (fun j hj => List.mem_of_mem_drop hj) t ht).1
      · rw [if_neg z] at ht; cases ht) (w := if inRow S = true then 30 else 31) (by split <;> decide) (by split <;> decide)
    rw [if_pos q16, x.ob79, sb, (r_cell x hW hC).2, sb, sb, r_inRow x hW hC, sb, hq, sb, sb, a1, o2s, q16, v16, hg]
    exact ⟨h1, rfl, x1⟩
  rw [if_neg q16]
  by_cases q23 : p = 23
  · obtain ⟨h1, a1, x1, c1⟩ := r_words x hW hL hC.2
    obtain ⟨h2, a2, x2⟩ := r_ans x1 c1
    rw [if_pos q23, e1, sb, x.cu, sb, x.ob79, sb, a1, o2s, x1.vs.ob, sb, a2, o2s, q23, v23]
    exact ⟨h2, rfl, x2⟩
  rw [if_neg q23]
  by_cases q30 : p = 30
  · have e := t_nextF x ho40 hom hco
    have e' : fX7_nextForFocus (B + 1) (some (E (cur S))) h = some ((tbF S).map E) := e
    have htb : ∀ t, tbF S = some t → th S t ∧ canF (sI S 2 t) = true := fun t ht => by
      unfold tbF at ht
      have hm := List.mem_of_find?_eq_some ht
      have hp := List.find?_some ht
      refine ⟨?_, hp⟩
      rcases List.mem_append.mp hm with z | z
      · exact (ord_in hW (List.mem_of_mem_drop z)).1
      · exact (ord_in hW (List.mem_of_mem_take z)).1
    obtain ⟨h1, a1, x1⟩ := r_goO x hW hL hC (o := tbF S) (fun t ht => (htb t ht).1) (w := 31) (by decide) (by decide)
    rw [w2] at x1
    rw [if_pos q30, e0, sb, x.cu, sb, o1, sb, e', sb, x.ob79, sb, a1, o2s, x1.ob79, sb, q30, v30]
    unfold gTab
    cases hq : tbF S with
    | some t =>
      rw [hq] at x1
      have x1' : RW B E (go S t) (ln S) (ord S) h1 := x1
      obtain ⟨u1, u2⟩ := htb t hq
      obtain ⟨g1, g2⟩ := go_cur hW u1
      have hIg : Inv0 (go S t) c := hI.go u1 (by
        unfold tbF at hq
        have hm := List.mem_of_find?_eq_some hq
        rcases List.mem_append.mp hm with z | z
        · exact (ord_in hW (List.mem_of_mem_drop z)).2
        · exact (ord_in hW (List.mem_of_mem_take z)).2)
      obtain ⟨h2, a2, x2⟩ := r_focus x1' hIg.1.t hIg.1.c
      have e2g : sI (go S t) 2 = sI S 2 := by
        unfold go
        rw [(sd_cAns _ _).i 2 rfl]; rfl
      rw [g2, e2g, if_pos u2] at x2
      unfold act2 at x2
      rw [g1, ← go_21] at x2
      rw [a2, o2s]
      exact ⟨h2, rfl, x2⟩
    | none =>
      rw [hq] at x1
      have x1' : RW B E (cAns S wNone) (ln S) (ord S) h1 := x1
      have hIg : Inv0 (cAns S wNone) c := hI.cAns (by decide)
      obtain ⟨h2, a2, x2⟩ := r_focus x1' hIg.1.t hIg.1.c
      have hs := sd_cAns S wNone
      have hnf : ¬ canF (sI S 2 (cur S)) = true := by
        unfold tbF at hq
        have hn := List.find?_eq_none.mp hq (cur S) (by
          have : cur S ∈ (ord S).drop (cpl S + 1) ++ (ord S).take (cpl S + 1) := by
            rw [List.mem_append]
            rw [← List.take_append_drop (cpl S + 1) (ord S)] at hco
            rcases List.mem_append.mp hco with z | z
            · exact Or.inr z
            · exact Or.inl z
          exact this)
        exact hn
      rw [hs.i 2 rfl, cur_cg (hs.i 20 rfl), if_neg hnf] at x2
      rw [a2, o2s]
      exact ⟨h2, rfl, x2⟩
  rw [if_neg q30]
  by_cases q32 : p = 32
  · have e := r_first x hW hC
    obtain ⟨k1, k2, k3⟩ := hW.kids hC.2
    obtain ⟨h1, a1, x1⟩ := r_goO x hW hL hC (o := fnd S (sK S (cur S))) (fun t ht => (k3 _ (List.mem_of_find?_eq_some ht)).1) (w := 31) (by decide) (by decide)
    rw [w2] at x1
    rw [if_pos q32, x.ob79, sb, e, sb, sb, a1, o2s, q32, v32]
    exact ⟨h1, rfl, x1⟩
  rw [if_neg q32]
  by_cases q56 : p = 56
  · obtain ⟨h1, a1, x1⟩ := p_right x hL
    rw [if_pos q56, e2, sb, o80, sb, a1, o2s, q56, v56]
    exact ⟨h1, rfl, x1⟩
  rw [if_neg q56]
  by_cases q64 : p = 64
  · obtain ⟨h1, a1, y1, g1⟩ := v_hush x.vs hV.2.2.2.2.2.1
    rw [if_pos q64, e1, sb, x.vs.ob, sb, a1, o2s, q64, v64]
    exact ⟨h1, rfl, x.voice y1 g1 ((sd_hush S).mono (by decide))⟩
  rw [if_neg q64]
  by_cases q128 : p = 128
  · obtain ⟨h1, a1, x1⟩ := r_act x hW hC (hCo.b 10 (by decide) (cur S))
    rw [if_pos q128, x.ob79, sb, a1, o2s, q128, v128]
    exact ⟨h1, rfl, x1⟩
  rw [if_neg q128]
  refine ⟨h, rfl, ?_⟩
  unfold cmd
  rw [if_neg q1, if_neg q8, if_neg q4, if_neg q32, if_neg q2, if_neg q16, if_neg q30, if_neg q128, if_neg q64, if_neg q7, if_neg q56, if_neg q23]
  exact x
end CD2

/-! ===== the class's calls: names, checks, keys, pins, words, ticks ===== -/
theorem oC_l {α β : Type} (x : α) (e : String → β) (f : α → Option β) : oC (some (.inl x)) e f = f x := rfl
section CS2
variable {B : Nat} {E : Nat → Nat} {S : SS} {li : List Int32} {od : List Nat} {h h' : hp}
theorem RW.w6 (x : RW B E S li od h) {i : Nat} (hi : i < made S) (y : Ag [E i + 2, E i + 2 + 1] h h') {l : List Int32} (c : Cd h' (E i + 2) 12 l) : RW B E (wSL S 6 i l) li od h' := by
  have m : ∀ a ∈ [E i + 2, E i + 2 + 1], a = E i + 2 ∨ a = E i + 3 := by
    intro a ha
    simp only [List.mem_cons, List.not_mem_nil, or_false] at ha
    omega
  have nn : ∀ a, a ≠ E i + 2 → a ≠ E i + 3 → a ∉ [E i + 2, E i + 2 + 1] := fun a q1 q2 z => by have := m a z; omega
  refine x.elm hi (y.toE (fun a ha => by have := m a ha; omega)) (AtE.L (by decide)) ?_
  obtain ⟨a1, a2, a3, a4, a5, a6, a7⟩ := x.2.2.2.1 i hi
  have n0 := nn (E i) (by omega) (by omega)
  have n1 := nn (E i + 1) (by omega) (by omega)
  refine ⟨by rw [y.T]; exact a1, by rw [y.T]; exact a2, ?_, ?_, ?_, ?_, ?_⟩
  · unfold EI at *
    rw [y.I n0]; exact a3
  · unfold ER at *
    rw [y.R n0, y.R n1]; exact a4
  · rw [sL_L, if_pos ⟨rfl, rfl⟩]
    exact c
  · rw [sL_L, if_neg (fun z => absurd z.1 (by decide))]
    exact a6.ag y (nn _ (by omega) (by omega)) (nn _ (by omega) (by omega))
  · rw [sL_L, if_neg (fun z => absurd z.1 (by decide))]
    exact a7.ag y (nn _ (by omega) (by omega)) (nn _ (by omega) (by omega))
theorem C_rename (x : RC B E S h) {c : Nat} (hI : Inv S c) (hc : c < 1000000) (v : Int32) : CS B [exI, exS] (fX10_rename B v h) (cRename S v) := by
  have hC := hI.1.1
  refine t2_c x hC.t.pw hI.2.2 v (g := fun _ => nI (sL S 18 0).length) (G := fun i => ren S i) (fun i hi i0 ha => ?_)
  have cd := x.2.2.2.2.2.2.2.2.2.2.1
  have cn := x.es.cn hi.lt
  have hd : (sL S 18 0).length ≤ 12 := hC.xd
  have far := x.2.1.far hi.lt (a := B + 88) (by omega) (by omega)
  have far2 := x.2.1.far hi.lt (a := B + 89) (by omega) (by omega)
  obtain ⟨h1, a1, c1, g1⟩ := c_copy cn cd (by omega) hd
  have x1 := RW.w6 x hi.lt g1 c1
  have cd1 := cd.ag g1 (by simp; omega) (by simp; omega)
  obtain ⟨h2, a2, c2, g2⟩ := c_clear cd1
  have x2 := x1.drf g2 c2
  have s1 : Sd [] [6, 18] [] S (ren1 S i) := (Sd.L (by decide)).tr (Sd.L (by decide))
  have hC1 : Core (ren1 S i) := (hC.w6 hd).w18 (by decide)
  have hI1 : Inv0 (ren1 S i) c := ⟨hC1, (hI.1.2.1.l (by decide) (by decide)).l (by decide) (by decide), hI.1.2.2.1.sd s1 rfl, hI.2.2⟩
  have hi1 : th (ren1 S i) i := (th_cg (s1.i 0 rfl) (s1.i 1 rfl) i).mpr hi
  have key : ∃ h3, (if (if bI (decide (sL S 6 i = sL S 18 0)) = 0 then (1 : Int32) else 0) = 0 then (some h2) else (oGR 9 2 (some B) h2).bind fun x18 => (oOb 5 x18 h2).bind fun b => o2 (fX6_tellWords b (some (E i)) h2) fun _ h20 => some h20) = some h3 ∧ RW B E (if sL S 6 i = sL S 18 0 then ren1 S i else telW (ren1 S i) i) (ln S) (ord S) h3 ∧ Inv0 (if sL S 6 i = sL S 18 0 then ren1 S i else telW (ren1 S i) i) c := by
    by_cases q : sL S 6 i = sL S 18 0
    · rw [decide_eq_true q, if_neg (show ¬ bI true = 0 by decide), if_pos rfl, if_pos q]
      exact ⟨h2, rfl, x2, hI1⟩
    · rw [decide_eq_false q, if_pos (show bI false = 0 by decide), if_neg (show ¬ (1 : Int32) = 0 by decide), if_neg q]
      obtain ⟨h3, a3, x3⟩ := g_telW x2 hC1.t hC1.l hI1.2.1 hI1.2.2.1 (by omega) (show (sQ S 35).length < 21 by omega) hi1
      exact ⟨h3, by rw [x2.p02, sb, x2.o76, sb, a3, o2s], x3, hI1.kTelW hi1 (show (sQ S 35).length ≤ 20 by omega)⟩
  obtain ⟨h3, a3, x3, hI3⟩ := key
  have hn3 : sL (if sL S 6 i = sL S 18 0 then ren1 S i else telW (ren1 S i) i) 6 i = sL S 18 0 := by
    have e : sL (ren1 S i) 6 i = sL S 18 0 := by
      unfold ren1
      rw [sL_L, if_neg (fun z => absurd z.1 (by decide)), sL_L, if_pos ⟨rfl, rfl⟩]
    by_cases q : sL S 6 i = sL S 18 0
    · rw [if_pos q]; exact e
    · rw [if_neg q, (sd_telW _ _).l 6 rfl]; exact e
  have ho3 : ord (if sL S 6 i = sL S 18 0 then ren1 S i else telW (ren1 S i) i) = ord S := by
    by_cases q : sL S 6 i = sL S 18 0
    · rw [if_pos q]; exact ord_sd s1 rfl
    · rw [if_neg q, ord_sd (sd_telW _ _) rfl]; exact ord_sd s1 rfl
  have hm3 : i < made (if sL S 6 i = sL S 18 0 then ren1 S i else telW (ren1 S i) i) := by
    by_cases q : sL S 6 i = sL S 18 0
    · rw [if_pos q]; exact hi1.lt
    · rw [if_neg q, made_cg ((sd_telW _ _).i 0 rfl)]; exact hi1.lt
  have hC3 := hI3.1
  obtain ⟨h4, a4, x4⟩ := p_refresh x3 hC3.t hC3.l hC3.k hC3.c hC3.xt
  have hm4 : i < made (fit (if sL S 6 i = sL S 18 0 then ren1 S i else telW (ren1 S i) i)) := by rw [made_cg ((sd_fit _).i 0 rfl)]; exact hm3
  have hn4 : sL (fit (if sL S 6 i = sL S 18 0 then ren1 S i else telW (ren1 S i) i)) 6 i = sL S 18 0 := by rw [(sd_fit _).l 6 rfl]; exact hn3
  refine ⟨E, h4, ?_, ?_⟩
  · have cn4 := x4.es.cn hm4
    have hq : (if bI (decide (sL S 6 i = sL S 18 0)) = 0 then (some (1 : Int32)) else some (0 : Int32)) = some (if bI (decide (sL S 6 i = sL S 18 0)) = 0 then (1 : Int32) else 0) := by split <;> rfl
    rw [x.es.name hi.lt, sb, RW.p04 x, sb, cn.ob, sb, c_same cn cd, sb, hq, sb, sb, sb, cn.ob, sb, a1, o2s, x1.p04, sb, cd1.ob, sb, a2, o2s, a3, sb, x3.p03, sb, x3.ob79, sb, a4, o2s, x4.es.name hm4, sb, cn4.ob, sb, c_size cn4, sb, hn4]
  · exact RC.ofK x4 ho3.symm
theorem C_set (x : RC B E S h) {c : Nat} (hI : Inv S c) (hc : c < 1000000) (v w : Int32) (hw : w = 0 ∨ w = 1) : CS B [exI, exS] (fX10_set B v w h) (cSet S v w) := by
  have hC := hI.1.1
  refine ex_c x hC.t.pw v rfl (by decide) (fun i hv hn hi q => ?_) (fun q => by unfold cSet; rw [if_pos q])
  unfold cSet
  rw [q, if_neg (show ¬ true = false by decide), hn, x.es.kind hi.lt, sb]
  by_cases q3 : sI S 2 i = 3
  · rw [if_pos q3, RW.ob0 x, sb, c_ref x hI.2.2]
    by_cases u : 20 ≤ (sQ S 35).length
    · rw [if_pos u, if_pos (Or.inr u)]
      exact CS.thr 1 x (by decide) rfl rfl
    · rw [if_neg u, if_neg (fun z => z.elim (fun z => z q3) u)]
      show CS B [exI, exS] ((oGI 1 8 (some (E i)) h).bind _) _
      have x1 := RW.en x hi.lt (f := 8) (k := 10) (by decide) w
      have hs : Sd [10] [] [] S (wSI S 10 i w) := Sd.I (by decide)
      have hC1 : Core (wSI S 10 i w) := hC.w10 hw hi.lt
      have hI1 : Inv0 (wSI S 10 i w) c := hI.1.core hs hC1 rfl
      have hi1 : th (wSI S 10 i w) i := (th_cg (hs.i 0 rfl) (hs.i 1 rfl) i).mpr hi
      have key : ∃ h3, (if sI S 10 i = w then (some (wI h (E i) 8 w)) else (oGR 9 2 (some B) (wI h (E i) 8 w)).bind fun x8 => (oOb 5 x8 (wI h (E i) 8 w)).bind fun b => o2 (fX6_tellWords b (some (E i)) (wI h (E i) 8 w)) fun _ h10 => some h10) = some h3 ∧ RW B E (if sI S 10 i = w then wSI S 10 i w else telW (wSI S 10 i w) i) (ln S) (ord S) h3 ∧ Inv0 (if sI S 10 i = w then wSI S 10 i w else telW (wSI S 10 i w) i) c := by
        by_cases q : sI S 10 i = w
        · rw [if_pos q, if_pos q]
          exact ⟨_, rfl, x1, hI1⟩
        · rw [if_neg q, if_neg q]
          obtain ⟨h3, a3, x3⟩ := g_telW x1 hC1.t hC1.l hI1.2.1 hI1.2.2.1 (by omega) (show (sQ S 35).length < 21 by omega) hi1
          exact ⟨h3, by rw [x1.p02, sb, x1.o76, sb, a3, o2s], x3, hI1.kTelW hi1 (show (sQ S 35).length ≤ 20 by omega)⟩
      obtain ⟨h3, a3, x3, hI3⟩ := key
      have hC3 := hI3.1
      obtain ⟨h4, a4, x4⟩ := p_refresh x3 hC3.t hC3.l hC3.k hC3.c hC3.xt
      have ho3 : ord (if sI S 10 i = w then wSI S 10 i w else telW (wSI S 10 i w) i) = ord S := by
        by_cases q : sI S 10 i = w
        · rw [if_pos q]; exact ord_sd hs rfl
        · rw [if_neg q, ord_sd (sd_telW _ _) rfl]; exact ord_sd hs rfl
      have eo : oBo (sI S 10 i) = some () := by
        unfold oBo
        rw [if_pos (hC.b 10 (by decide) i)]
      refine CS.ok (E' := E) (h' := h4) (RC.ofK x4 ho3.symm) ?_
      rw [RW.en10 x hi.lt, sb, oPZ_ok (x.es.t hi.lt) hw, sb, a3, sb, x3.p03, sb, x3.ob79, sb, a4, o2s, eo, sb]
  · rw [if_neg q3, if_pos (Or.inl q3)]
    exact CS.thr 1 x (by decide) rfl rfl
theorem C_pinAnew (x : RC B E S h) (hC : Core S) (p : Int32) : CS B [exI] (fX10_pinAnew B p h) (cPin S p) := by
  unfold fX10_pinAnew cPin
  rw [c_noPin]
  by_cases q : 0 ≤ p ∧ p ≤ 9
  · obtain ⟨j, j1, rfl⟩ := nI_of (Int32.not_lt.mpr q.1)
    have hj : j ≤ 9 := by
      rcases Nat.lt_or_ge 9 j with w | w
      · exact absurd q.2 (nI_ge (a := 9) w j1)
      · exact w
    obtain ⟨h1, a1, x1⟩ := p_cellAnew x hC.t hC.l hC.k hC.c hC.xt hC.xo hj
    rw [if_pos q, if_neg (fun z => z q)]
    refine CS.ok (E' := E) (h' := h1) x1 ?_
    show ((oGR 9 3 (some B) h).bind _) = _
    rw [RW.p03 x, sb, RW.ob79 x, sb, a1, o2s]
  · rw [if_neg q, if_pos q]
    exact CS.thr 0 x (by decide) rfl rfl
theorem c_words (x : RC B E S h) (hC : Core S) {i : Nat} (hi : th S i) : (shn S i = false → fX10_wordsOf B (some (E i)) h = some (.inr exS, h)) ∧ (shn S i = true → ∃ h', fX10_wordsOf B (some (E i)) h = some (.inl (some (B + 86)), h') ∧ RC B E S h' ∧ Cd h' (B + 86) 80 (wd S i [])) := by
  constructor
  · intro q
    unfold fX10_wordsOf
    rw [x.es.ob hi.lt, sb, e_shown x.es hC.t.pw hi.lt, sb, q, if_pos (show bI false = 0 by decide)]; rfl
  · intro q
    obtain ⟨h1, a1, x1, c1⟩ := r_words x hC.t hC.l hi
    refine ⟨h1, ?_, x1, c1⟩
    unfold fX10_wordsOf
    rw [x.es.ob hi.lt, sb, e_shown x.es hC.t.pw hi.lt, sb, q, if_neg (show ¬ bI true = 0 by decide), RW.p03 x, sb, RW.ob79 x, sb, a1, o2s]
theorem C_wordsLen (x : RC B E S h) (hC : Core S) (v : Int32) : CS B [exI, exS] (fX10_wordsLength B v h) (cWordsLen S v) := by
  refine ex_c x hC.t.pw v rfl (by decide) (fun i hv hn hi q => ?_) (fun q => by unfold cWordsLen; rw [if_pos q])
  unfold cWordsLen
  rw [q, if_neg (show ¬ true = false by decide), hn, RW.ob0 x, sb]
  obtain ⟨w1, w2⟩ := c_words x hC hi
  cases hs : shn S i with
  | false =>
    rw [w1 hs, if_pos rfl]
    exact CS.thr 1 x (by decide) rfl rfl
  | true =>
    obtain ⟨h1, a1, x1, c1⟩ := w2 hs
    rw [a1, if_neg (by decide)]
    refine CS.ok (E' := E) (h' := h1) x1 ?_
    show (oOb 0 (some (B + 86)) h1).bind _ = _
    rw [c1.ob, sb, c_size c1, sb]
theorem C_wordsAt (x : RC B E S h) (hC : Core S) (v y : Int32) : CS B [exS, exI] (fX10_wordsAt B v y h) (cWordsAt S v y) := by
  unfold fX10_wordsAt
  rw [RW.ob0 x, sb, c_exist x hC.t.pw v]
  by_cases q : elt S v = true
  · obtain ⟨i, rfl, hi⟩ := elt_th hC.t.pw q
    have hn : nth (nI i) = i := nI_clamp (by have := hi.l40' hC.t.pw; omega)
    unfold cWordsAt
    rw [if_pos q, q, if_neg (show ¬ true = false by decide), hn]
    rw [oC_l, sb]
    obtain ⟨w1, w2⟩ := c_words x hC hi
    cases hs : shn S i with
    | false =>
      rw [w1 hs, if_pos rfl]
      exact CS.thr 0 x (by decide) rfl rfl
    | true =>
      obtain ⟨h1, a1, x1, c1⟩ := w2 hs
      rw [a1, if_neg (by decide)]
      show CS B [exS, exI] (oC (fX10_codeAt (some (B + 86)) y h1) (fun E => (.inr E, h1)) fun x4 => some ((.inl x4, h1))) _
      rw [c_codeAt c1 y]
      by_cases u : inb y (wd S i []).length = true
      · rw [if_pos u, if_pos u]
        exact CS.ok (E' := E) (h' := h1) x1 rfl
      · rw [if_neg u, if_neg u]
        exact CS.thr (h := h1) 1 x1 (by decide) rfl rfl
  · have q' : elt S v = false := by
      cases hh : elt S v with
      | true => exact absurd hh q
      | false => rfl
    unfold cWordsAt
    rw [if_neg q, if_pos q']
    exact CS.thr 1 x (by decide) rfl rfl
theorem C_tick (x : RC B E S h) {c : Nat} (hI : Inv S c) (hc : c + 200 < 1000000) (hk : WKN S) (n : Int32) : CS B [exA] (fX10_tick B n h) (cTick S n) := by
  unfold fX10_tick cTick
  by_cases q1 : n < 1
  · rw [if_pos q1, if_pos (fun z => Int32.not_le.mpr q1 z.1)]
    exact CS.thr 0 x (by decide) rfl rfl
  · rw [if_neg q1]
    by_cases q2 : n ≤ 50
    · obtain ⟨k, k1, rfl⟩ := nI_of (show ¬ n < 0 from fun z => q1 (Int32.lt_trans z (by decide)))
      have hk50 : k ≤ 50 := by
        rcases Nat.lt_or_ge 50 k with w | w
        · exact absurd q2 (nI_ge (a := 50) w k1)
        · exact w
      have hnk : nth (nI k) = k := nI_clamp k1
      rw [if_pos q2, if_neg (fun z => z ⟨Int32.not_lt.mp q1, q2⟩), hnk]
      have e9 : oGI 8 9 (some (B + 12)) h = some (sI S 43 0) := RW.fi x (o := 12) (f := 9) (k := 43) (t := 8) (by decide) (by decide)
      have key : ∃ h', itr (fX10_tick_B32 B (nI k) (sI S 43 0)) FU (nI 0, h) = some h' ∧ RW B E (tckN S k) (ln S) (ord S) h' := by
        refine itr_for (R := fun h' => RW B E (tckN S k) (ln S) (ord S) h') (fun j a => ∃ h', a = (nI j, h') ∧ RW B E (tckN S j) (ln S) (ord S) h') k (fun j a hj hX => ?_) (fun a hX => ?_) (FU_lt (by omega)) ⟨h, rfl, x⟩
        · obtain ⟨h1, rfl, x1⟩ := hX
          have hIj := hI.kTick j
          have hkj := hk.ktckN hI j (by omega)
          obtain ⟨h2, h3, a2, x2, a3, x3⟩ := g_tick1 x1 hIj.1.1.t hIj.1.1.l hIj.1.2.1 hIj.1.2.2.1 (by omega) hkj hIj.1.1.xk
          refine ⟨(nI (j + 1), h3), ?_, h3, rfl, x3⟩
          unfold fX10_tick_B32
          rw [if_neg (show ¬ nI k ≤ nI j from nI_ge hj (by omega))]
          show (oGR 9 2 (some B) h1).bind _ = _
          rw [x1.p02, sb]
          show (oOb 5 (some (B + 76)) h1).bind _ = _
          rw [x1.o76, sb]
          show o2 (fX6_passTick (B + 76) h1) _ = _
          rw [a2, o2s, x2.p01, sb, x2.vs.ob, sb, a3, o2s]
          show some (Sum.inl (nI j + 1, h3)) = _
          rw [nI_1]
        · obtain ⟨h1, rfl, x1⟩ := hX
          refine ⟨h1, ?_, x1⟩
          unfold fX10_tick_B32
          rw [if_pos (show nI k ≤ nI k from Int32.le_refl _)]
      obtain ⟨h1, a1, x1⟩ := key
      have hs := sd_tckN S k
      refine CS.ok (E' := E) (h' := h1) ?_ ?_
      · unfold RC
        rw [ln_sd hs rfl, ord_sd hs rfl]
        exact x1
      · rw [RW.p01 x, sb, e9, sb, show (0 : Int32) = nI 0 from rfl, a1, sb, x1.p01, sb, x1.fi (o := 12) (f := 9) (k := 43) (t := 8) (by decide) (by decide), sb]
    · rw [if_neg q2, if_pos (fun z => q2 z.2)]
      exact CS.thr 0 x (by decide) rfl rfl
end CS2

/-! ===== the class's regions ===== -/
theorem inb_ge {j n : Nat} (h : n ≤ j) (hj : j < 2 ^ 31) : inb (nI j) n = false := by
  unfold inb
  rw [nI_toInt hj]
  exact decide_eq_false (by omega)
theorem inb_neg {v : Int32} (n : Nat) (h : v < 0) : inb v n = false := by
  unfold inb
  have : v.toInt < 0 := Int32.lt_iff_toInt_lt.mp h
  exact decide_eq_false (by omega)
def fg1 (x : Nat) (S : SS) (j : Nat) : SS := if sI S 1 j ≠ 0 ∧ wthn S j x = true then swl S j else S
def fgF (S : SS) (x n : Nat) : SS := (List.range n).foldl (fg1 x) S
theorem fgF_s (S : SS) (x n : Nat) : fgF S x (n + 1) = fg1 x (fgF S x n) n := by
  unfold fgF
  rw [List.range_succ, List.foldl_append]; rfl
theorem sd_fg1 (S : SS) (x j : Nat) : Sd [45] [17] [] S (fg1 x S j) := Sd.if (sd_swl S j) Sd.rf
theorem sd_fgF (S : SS) (x : Nat) : ∀ n, Sd [45] [17] [] S (fgF S x n)
  | 0 => Sd.rf
  | n + 1 => by rw [fgF_s]; exact (sd_fgF S x n).tr (sd_fg1 _ _ _)
section RG
variable {B : Nat} {E : Nat → Nat} {S : SS} {li : List Int32} {od : List Nat} {h h' : hp}
theorem t_find (x : RW B E S li od h) {j : Nat} (hj : j < 40) : fX7_find (B + 1) (nI j) h = some (if j < made S ∧ sI S 1 j ≠ 0 then some (E j) else none) := by
  obtain ⟨-, -, t3, t4⟩ := x.2.2.2.2.1
  have e1 : oGR 6 1 (some (B + 1)) h = some (some (B + 10)) := x.fp (by decide) (by decide)
  unfold fX7_find
  rw [if_neg (nI_pos (by omega)), e1, sb, hgL (x.1.a 10 22 40 (by decide)) (by decide), sb, if_neg (nI_ge hj (by omega)), sb, hgA (x.1.a 10 22 40 (by decide)) hj (by decide), sb]
  by_cases q : j < made S
  · rw [t3 j q]
    by_cases w : sI S 1 j = 0
    · rw [if_pos w, if_neg (fun z => z.2 w)]
    · rw [if_neg w, if_pos ⟨q, w⟩]
  · rw [t4 j (by omega) hj, if_neg (fun z => q z.1)]
theorem t_findV (x : RW B E S li od h) (hP : PW S) (v : Int32) : fX7_find (B + 1) v h = some (if elt S v = true then some (E (nth v)) else none) := by
  have h40 := hP.2.1
  by_cases q : v < 0
  · unfold fX7_find elt
    rw [if_pos q, inb_neg _ q, Bool.false_and]; rfl
  · obtain ⟨j, j1, rfl⟩ := nI_of q
    have hn : nth (nI j) = j := nI_clamp j1
    by_cases w : j < 40
    · rw [t_find x w, hn]
      unfold elt
      rw [nI_clamp j1]
      by_cases u : j < made S
      · rw [inb_nI u (by omega), Bool.true_and]
        by_cases t : sI S 1 j = 0
        · rw [if_neg (fun z => z.2 t), if_neg (show ¬ decide (sI S 1 j ≠ 0) = true from fun z => absurd t (of_decide_eq_true z))]
        · rw [if_pos ⟨u, t⟩, if_pos (decide_eq_true t)]
      · rw [inb_ge (by omega) j1, Bool.false_and, if_neg (fun z => u z.1)]; rfl
    · have e1 : oGR 6 1 (some (B + 1)) h = some (some (B + 10)) := x.fp (by decide) (by decide)
      unfold fX7_find elt
      rw [if_neg q, e1, sb, hgL (x.1.a 10 22 40 (by decide)) (by decide), sb, if_pos (nI_le (by omega) j1), inb_ge (by omega) j1, Bool.false_and]; rfl
theorem RW.e76 (x : RW B E S li od h) {r : Nat} (hr : r < made S) : B + 76 ≠ E r := by
  have := x.2.1.far hr (a := B + 76) (by omega) (by omega)
  omega
theorem g_swl (x : RW B E S li od h) {r : Nat} (hr : r < made S) : ∃ h', fX6_swallow (B + 76) (some (E r)) h = some ((), h') ∧ RW B E (swl S r) li od h' ∧ Ag [E r + 6, E r + 6 + 1, B + 76] h h' := by
  have c := x.es.ck hr
  have l80 := c.2.2.2.2.1
  have n80 := c.2.2.2.2.2.1
  unfold fX6_swallow swl
  rw [x.es.kept hr, sb, c.ob, sb, c_size c, sb]
  by_cases q : (sL S 17 r).length = 0
  · rw [q, if_pos (show nI 0 ≤ 0 by decide), if_pos rfl]
    exact ⟨h, rfl, x, Ag.rf⟩
  · obtain ⟨h1, a1, c1, g1⟩ := c_clear c
    have x1 := x.w17 hr g1 c1
    have x2 := x1.num (o := 76) (f := 4) (k := 45) (by decide) (by decide) (sI S 45 0 + 1)
    have e4 : oGI 5 4 (some (B + 76)) h1 = some (sI S 45 0) := x1.fi (o := 76) (f := 4) (k := 45) (by decide) (by decide)
    refine ⟨wI h1 (B + 76) 4 (sI S 45 0 + 1), ?_, ?_, (g1.mono (by simp)).tr (Ag.wI (by simp))⟩
    · rw [if_neg (nI_nle (by omega) (by omega)), sb, c.ob, sb, a1, o2s, e4, sb, oPI_ok (x1.1.t 76 6 (by decide)), sb]
    · rw [if_neg q]
      exact x2
theorem g_news (x : RW B E S li od h) (h5 : (sQ S 30).length ≤ 5) {n : Nat} (hn : n < 2 ^ 31) (hN : sI S 46 0 = nI n) {r : Nat} (hr : r < made S) {b2 n2 : Nat} {t : List Int32} (y : Cd h b2 n2 t) (hb : b2 + 1 < B + 12 ∨ B + 75 ≤ b2) (hne : b2 ≠ E r ∧ b2 + 1 ≠ E r) (h0 : 0 < t.length) (ht : t.length ≤ 80) : ∃ h', fX6_tellNews (B + 76) (some (E r)) (some b2) h = some ((), h') ∧ RW B E (cNews (wSI S 15 r (sI S 46 0)) t) li od h' := by
  have x1 := x.told hr (v := sI S 46 0) (by rw [hN]; exact nI_m1 hn)
  have e3 : oGI 5 3 (some (B + 76)) (wI h (E r) 13 1) = some (sI S 46 0) := hgI (show (hT (wI h (E r) 13 1) (B + 76)).1 = 5 + 1 from x.1.t 76 6 (by decide)) (by rw [hI_o _ _ _ (x.e76 hr)]; exact x.2.2.1.n 76 3 46 (by decide))
  have e1 : oGR 5 1 (some (B + 76)) (wI (wI h (E r) 13 1) (E r) 14 (sI S 46 0)) = some (some (B + 12)) := x1.fp (by decide) (by decide)
  have y1 : Cd (wI (wI h (E r) 13 1) (E r) 14 (sI S 46 0)) b2 n2 t := y.ag ((Ag.wI (as := [E r]) (List.mem_singleton.mpr rfl)).tr (Ag.wI (List.mem_singleton.mpr rfl))) (fun z => hne.1 (List.mem_singleton.mp z)) (fun z => hne.2 (List.mem_singleton.mp z))
  obtain ⟨h', a1, v1, g1⟩ := v_news x1.vs (show (sQ (wSI S 15 r (sI S 46 0)) 30).length ≤ 5 from h5) y1 hb h0 ht
  refine ⟨h', ?_, x1.voice v1 g1 ((sd_cNews _ _).mono (by decide))⟩
  unfold fX6_tellNews
  rw [oPZ_ok (x.es.t hr) (Or.inr rfl), sb, e3, sb, oPI_ok (show (hT (wI h (E r) 13 1) (E r)).1 = 1 + 1 from x.es.t hr), sb, e1, sb, x1.vs.ob, sb, a1, o2s]
theorem RW.e13 (x : RW B E S li od h) {r : Nat} (hr : r < made S) (h7 : sI S 2 r = 7) : oGI 1 13 (some (E r)) h = some (if sI S 15 r = -1 then 0 else 1) := by
  refine hgI (x.es.t hr) ?_
  have := (x.2.2.2.1 r hr).2.2.1.2.2.2.2.2.2.2.2 h7
  by_cases q : sI S 15 r = -1
  · rw [if_pos q] at this ⊢; exact this
  · rw [if_neg q] at this ⊢; exact this.1
theorem g_may (x : RW B E S li od h) {r : Nat} (hr : r < made S) (h7 : sI S 2 r = 7) (q : sI S 15 r ≠ -1) : fX6_mayTellAgain (B + 76) (some (E r)) h = some (bI (canN S r)) := by
  have e14 : oGI 1 14 (some (E r)) h = some (sI S 15 r) := by
    refine hgI (x.es.t hr) ?_
    have := (x.2.2.2.1 r hr).2.2.1.2.2.2.2.2.2.2.2 h7
    rw [if_neg q] at this
    exact this.2
  have e3 : oGI 5 3 (some (B + 76)) h = some (sI S 46 0) := x.fi (o := 76) (f := 3) (k := 46) (by decide) (by decide)
  unfold fX6_mayTellAgain canN
  rw [e3, sb, e14, sb]
  by_cases w : 5 ≤ sI S 46 0 - sI S 15 r
  · rw [if_neg (fun z => Int32.not_lt.mpr w z), decide_eq_true (Or.inr w)]; rfl
  · rw [if_pos (Int32.not_le.mp w), decide_eq_false (fun z => z.elim q w)]; rfl
theorem g_tell (x : RW B E S li od h) (hV : WV S) {c : Nat} (hN : WN S c) (hc : c < 2000000) (h21 : (sQ S 35).length < 21) {o : Option Nat} (ho : ∀ r, o = some r → r < made S ∧ sI S 2 r = 7) {t : List Int32} (y : Cd h (B + 77) 80 t) : ∃ h', fX6_tell (B + 76) (o.map E) h = some ((), h') ∧ RW B E (tel S o t) li od h' := by
  have l80 := y.2.2.2.2.1
  cases o with
  | none => exact ⟨h, rfl, x⟩
  | some r =>
    obtain ⟨hr, h7⟩ := ho r rfl
    obtain ⟨n, n1, n2⟩ := hN.1
    have e11 : oGI 1 11 (some (E r)) h = some (sI S 14 r) := hgI (x.es.t hr) ((x.2.2.2.1 r hr).2.2.1.2.2.2.2.2.2.1 h7)
    have e2 : oGR 5 2 (some (B + 76)) h = some (some (B + 77)) := x.fp (by decide) (by decide)
    have e1 : oGR 5 1 (some (B + 76)) h = some (some (B + 12)) := x.fp (by decide) (by decide)
    have e0 : oOb 5 (some (B + 76)) h = some (B + 76) := x.fo (by decide)
    have far := x.2.1.far hr (a := B + 77) (by omega) (by omega)
    have far2 := x.2.1.far hr (a := B + 78) (by omega) (by omega)
    rw [show (some r).map E = some (E r) from rfl, show tel S (some r) t = (if t.length = 0 ∨ sI S 14 r = 0 then S else if sI S 14 r = 2 then cAl S t else if canN S r = true then cNews (wSI S 15 r (sI S 46 0)) t else wSL (swl S r) 17 r t) from rfl]
    unfold fX6_tell
    rw [if_neg (Option.some_ne_none _), e11, sb]
    by_cases q0 : sI S 14 r = 0
    · rw [if_pos q0, if_pos (Or.inr q0)]
      exact ⟨h, rfl, x⟩
    · rw [if_neg q0, e2, sb, y.ob, sb, c_size y, sb]
      by_cases q1 : t.length = 0
      · rw [q1, if_pos (show nI 0 = 0 from rfl), if_pos (Or.inl rfl)]
        exact ⟨h, rfl, x⟩
      · rw [if_neg (nI_ne0 (by omega) (by omega)), if_neg (fun z => z.elim q1 q0), sb]
        by_cases q2 : sI S 14 r = 2
        · obtain ⟨h', a1, v1, g1⟩ := v_alert x.vs hV h21 y (by omega) (by omega) l80
          rw [if_pos q2, if_pos q2, e1, sb, sb, x.vs.ob, sb, a1, o2s]
          exact ⟨h', rfl, x.voice v1 g1 ((sd_cAl _ _).mono (by decide))⟩
        · rw [if_neg q2, if_neg q2, x.e13 hr h7, sb]
          by_cases q3 : sI S 15 r = -1
          · obtain ⟨h', a1, x1⟩ := g_news x hV.1 (by omega) n2 hr y (by omega) ⟨by omega, by omega⟩ (by omega) l80
            have hcn : canN S r = true := decide_eq_true (Or.inl q3)
            rw [if_pos q3, if_pos rfl, sb, e0, sb, a1, o2s, if_pos hcn]
            exact ⟨h', rfl, x1⟩
          · rw [if_neg q3, if_neg (show ¬ (1 : Int32) = 0 by decide), e0, sb, g_may x hr h7 q3, sb, bI_i]
            by_cases q4 : canN S r = true
            · obtain ⟨h', a1, x1⟩ := g_news x hV.1 (by omega) n2 hr y (by omega) ⟨by omega, by omega⟩ (by omega) l80
              rw [if_pos q4, if_pos q4, sb, sb, a1, o2s]
              exact ⟨h', rfl, x1⟩
            · rw [if_neg q4, if_neg q4, sb]
              obtain ⟨h1, a1, x1, g1⟩ := g_swl x hr
              have hs := sd_swl S r
              have hr1 : r < made (swl S r) := by rw [made_cg (hs.i 0 rfl)]; exact hr
              have y1 : Cd h1 (B + 77) 80 t := y.ag g1 (by simp; omega) (by simp; omega)
              have ck := x1.es.ck hr1
              have hcap : capK (swl S r) r = 80 := by
                unfold capK
                rw [hs.i 2 rfl, if_pos h7]
              obtain ⟨h2, a2, c2, g2⟩ := c_copy ck y1 (by omega) (by rw [hcap]; exact l80)
              have e2' : oGR 5 2 (some (B + 76)) h1 = some (some (B + 77)) := x1.fp (by decide) (by decide)
              rw [a1, o2s, x1.es.kept hr1, sb, e2', sb, ck.ob, sb, a2, o2s]
              exact ⟨h2, rfl, x1.w17 hr1 g2 c2⟩
theorem g_telW (x : RW B E S li od h) (hW : WT S) (hL : WL S) (hV : WV S) {c : Nat} (hN : WN S c) (hc : c < 2000000) (h21 : (sQ S 35).length < 21) {i : Nat} (hi : th S i) : ∃ h', fX6_tellWords (B + 76) (some (E i)) h = some ((), h') ∧ RW B E (telW S i) li od h' := by
  unfold fX6_tellWords telW
  rw [x.es.ob hi.lt, sb, e_shown x.es hW.pw hi.lt, sb, bI_i]
  by_cases q : shn S i = true
  · rw [if_pos q, if_pos q]
    obtain ⟨l, c0⟩ := x.2.2.2.2.2.2.2.2.1.1
    have e2 := fun {h} (y : RW B E S li od h) => y.fp (o := 76) (f := 2) (q := 77) (t := 5) (by decide) (by decide)
    obtain ⟨h1, a1, c1, g1⟩ := c_clear c0
    have x1 := x.scr g1 c1 (Or.inl ⟨rfl, rfl⟩)
    obtain ⟨h2, a2, c2, g2⟩ := e_words x1.es hW hL hi (x1.out (b := B + 77) (by omega) (by omega)) c1 (by decide)
    have x2 := x1.scr g2 c2 (Or.inl ⟨rfl, rfl⟩)
    obtain ⟨h3, a3, x3⟩ := g_tell x2 hV hN hc h21 (o := rgn S i) (fun r hr => by
      have := rgn_th hW hi hr
      exact ⟨this.2.lt, this.1⟩) c2
    refine ⟨h3, ?_, x3⟩
    rw [e2 x, sb, c0.ob, sb, a1, o2s, e2 x1, sb, x1.es.ob hi.lt, sb, a2, o2s, x2.es.ob hi.lt, sb, e_region x2.es hW.pw hi.lt, sb, x2.fo (o := 76) (t := 5) (by decide), sb, a3, o2s]
  · rw [if_neg q, if_neg q]
    exact ⟨h, rfl, x⟩
theorem g_gone (x : RW B E S li od h) (hP : PW S) (hL : WL S) (hV : WV S) {c : Nat} (hN : WN S c) (hc : c < 2000000) (h21 : (sQ S 35).length < 21) {i : Nat} (hi : i < made S) (ho : ∀ r, rgn S i = some r → r < made S ∧ sI S 2 r = 7) : ∃ h', fX6_tellGone (B + 76) (some (E i)) h = some ((), h') ∧ RW B E (tel S (rgn S i) (gone S i)) li od h' := by
  obtain ⟨l, c0⟩ := x.2.2.2.2.2.2.2.2.1.1
  have e2 := fun {h} (y : RW B E S li od h) => y.fp (o := 76) (f := 2) (q := 77) (t := 5) (by decide) (by decide)
  obtain ⟨h1, a1, c1, g1⟩ := c_clear c0
  have x1 := x.scr g1 c1 (Or.inl ⟨rfl, rfl⟩)
  obtain ⟨h2, a2, c2, g2⟩ := c_text c1 (i := 18) (by decide) (by show 0 + 1 + 4 ≤ 80; decide)
  have x2 := x1.scr g2 c2 (Or.inl ⟨rfl, rfl⟩)
  rw [show pt [] (txt 18) = [103, 111, 110, 101] from by decide] at c2
  have cn := x2.es.cn hi
  have n12 := (hL i).1
  have key : ∃ h3, (if nI (sL S 6 i).length ≤ 0 then ((oGR 5 2 (some (B + 76)) h2).bind fun x11 => (oGI 1 1 (some (E i)) h2).bind fun x12 => (fX2_kindWord x12).bind fun x13 => (oOb 0 x11 h2).bind fun b => o2 (fX1_part_ b x13 h2) fun _ h15 => some h15) else (oGR 5 2 (some (B + 76)) h2).bind fun x16 => (oGR 1 5 (some (E i)) h2).bind fun x17 => (oOb 0 x16 h2).bind fun b => o2 (fX1_part b x17 h2) fun _ h19 => some h19) = some h3 ∧ Cd h3 (B + 77) 80 (gone S i) ∧ Ag [B + 77, B + 77 + 1] h2 h3 := by
    unfold gone
    by_cases q : (sL S 6 i).length = 0
    · obtain ⟨w, w1, w2, w3⟩ := kw_txt (sI S 2 i)
      have h6 := kw_len (sI S 2 i)
      obtain ⟨h3, a3, c3, g3⟩ := c_text c2 w2 (by rw [w3]; show 4 + 1 + _ ≤ 80; omega)
      rw [w3] at c3
      refine ⟨h3, ?_, by rw [if_pos q]; exact c3, g3⟩
      rw [q, if_pos (show nI 0 ≤ 0 by decide), e2 x2, sb, x2.es.kind hi, sb, w1, sb, c2.ob, sb, a3, o2s]
    · obtain ⟨h3, a3, c3, g3⟩ := c_part c2 cn (by have := x2.2.1.far hi (a := B + 77) (by omega) (by omega); have := x2.2.1.far hi (a := B + 78) (by omega) (by omega); omega) (by show 4 + 1 + _ ≤ 80; omega)
      refine ⟨h3, ?_, by rw [if_neg q]; exact c3, g3⟩
      rw [if_neg (nI_nle (by omega) (by omega)), e2 x2, sb, x2.es.name hi, sb, c2.ob, sb, a3, o2s]
  obtain ⟨h3, a3, c3, g3⟩ := key
  have x3 := x2.scr g3 c3 (Or.inl ⟨rfl, rfl⟩)
  obtain ⟨h4, a4, x4⟩ := g_tell x3 hV hN hc h21 (o := rgn S i) ho c3
  refine ⟨h4, ?_, x4⟩
  unfold fX6_tellGone
  rw [e2 x, sb, c0.ob, sb, a1, o2s, e2 x1, sb, c1.ob, sb, a2, o2s, x2.es.name hi, sb, cn.ob, sb, c_size cn, sb]
  have a3' := a3
  rw [x2.es.name hi] at a3'
  rw [a3', sb, x3.es.ob hi, sb, e_region x3.es hP hi, sb, x3.fo (o := 76) (t := 5) (by decide), sb, a4, o2s]
theorem g_forget (x : RW B E S li od h) (hP : PW S) {y : Nat} (hy : y < made S) : ∃ h', fX6_forgetWithin (B + 76) (some (E y)) h = some ((), h') ∧ RW B E (fgF S y (made S)) li od h' := by
  have h40 := hP.2.1
  have key : ∃ h', itr (fX6_forgetWithin_B2 (B + 76) (some (E y))) FU (nI 0, h) = some h' ∧ RW B E (fgF S y (made S)) li od h' := by
    refine itr_for (R := fun h' => RW B E (fgF S y (made S)) li od h') (fun j a => ∃ h', a = (nI j, h') ∧ RW B E (fgF S y (min j (made S))) li od h') 40 (fun j a hj hX => ?_) (fun a hX => ?_) (FU_lt (by omega)) ⟨h, rfl, by rw [Nat.zero_min]; exact x⟩
    · obtain ⟨h', rfl, x1⟩ := hX
      have hs := sd_fgF S y (min j (made S))
      have hm : made (fgF S y (min j (made S))) = made S := made_cg (hs.i 0 rfl)
      have e0 : oGR 5 0 (some (B + 76)) h' = some (some (B + 1)) := x1.fp (by decide) (by decide)
      unfold fX6_forgetWithin_B2
      rw [if_neg (show ¬ (40 : Int32) ≤ nI j from nI_ge (b := 40) hj (by decide))]
      show ∃ a', ((oGR 5 0 (some (B + 76)) h').bind _ = _) ∧ _
      rw [e0, sb]
      show ∃ a', ((oOb 6 (some (B + 1)) h').bind _ = _) ∧ _
      rw [x1.fo (o := 1) (t := 6) (by decide), sb]
      show ∃ a', ((fX7_find (B + 1) (nI j) h').bind _ = _) ∧ _
      rw [t_find x1 hj, sb, hm, (hs.i 1 rfl)]
      by_cases q : j < made S ∧ sI S 1 j ≠ 0
      · have hmin : min j (made S) = j := Nat.min_eq_left (by omega)
        have hmin2 : min (j + 1) (made S) = j + 1 := Nat.min_eq_left (by omega)
        rw [hmin] at x1 hs hm
        rw [if_pos q, if_neg (Option.some_ne_none _)]
        show ∃ a', ((oOb 1 (some (E j)) h').bind _ = _) ∧ _
        have hj1 : j < made (fgF S y j) := by rw [hm]; exact q.1
        rw [x1.es.ob hj1, sb]
        show ∃ a', ((fX2_isWithin (E j) (some (E y)) h').bind _ = _) ∧ _
        rw [e_within x1.es (PW.cg (hs.i 0 rfl) (hs.i 3 rfl) hP) hj1 (by rw [hm]; exact hy), sb, bI_i, wthn_cg (hs.i 3 rfl), hmin2, fgF_s]
        unfold fg1
        rw [hs.i 1 rfl, wthn_cg (hs.i 3 rfl)]
        by_cases w : wthn S j y = true
        · obtain ⟨h2, a2, x2, -⟩ := g_swl x1 hj1
          rw [if_pos w, if_pos ⟨q.2, w⟩]
          refine ⟨(nI (j + 1), h2), ?_, h2, rfl, x2⟩
          show (oOb 5 (some (B + 76)) h').bind _ = _
          rw [x1.fo (o := 76) (t := 5) (by decide), sb]
          show o2 (fX6_swallow (B + 76) (some (E j)) h') _ = _
          rw [a2, o2s]
          show some (Sum.inl (nI j + 1, h2)) = _
          rw [nI_1]
        · rw [if_neg w, if_neg (fun z => w z.2)]
          refine ⟨(nI (j + 1), h'), ?_, h', rfl, x1⟩
          show some (Sum.inl (nI j + 1, h')) = _
          rw [nI_1]
      · rw [if_neg q, if_pos rfl]
        refine ⟨(nI (j + 1), h'), ?_, h', rfl, ?_⟩
        · show some (Sum.inl (nI j + 1, h')) = _
          rw [nI_1]
        · by_cases w : j < made S
          · have w0 : sI S 1 j = 0 := Classical.byContradiction (fun z => q ⟨w, z⟩)
            have hmin : min j (made S) = j := Nat.min_eq_left (by omega)
            have hmin2 : min (j + 1) (made S) = j + 1 := Nat.min_eq_left (by omega)
            rw [hmin] at x1 hs
            rw [hmin2, fgF_s]
            unfold fg1
            rw [hs.i 1 rfl, if_neg (fun z => z.1 w0)]
            exact x1
          · rw [Nat.min_eq_right (show made S ≤ j + 1 by omega)]
            rw [Nat.min_eq_right (show made S ≤ j by omega)] at x1
            exact x1
    · obtain ⟨h', rfl, x1⟩ := hX
      rw [Nat.min_eq_right h40] at x1
      refine ⟨h', ?_, x1⟩
      unfold fX6_forgetWithin_B2
      rw [if_pos (show (40 : Int32) ≤ nI 40 from Int32.le_refl _)]
  obtain ⟨h', k1, k2⟩ := key
  refine ⟨h', ?_, k2⟩
  unfold fX6_forgetWithin
  rw [show (0 : Int32) = nI 0 from rfl, k1, sb]
end RG

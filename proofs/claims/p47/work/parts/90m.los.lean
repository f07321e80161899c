/-! ===== the class's reader: losing, the focus, acting, rows ===== -/
theorem wd_pos1 (S : SS) (i : Nat) : 0 < (wd S i [108, 111, 115, 116]).length := by
  have hp : ∀ t p : List Int32, t.length ≤ (pt t p).length := fun t p => by unfold pt; rw [List.length_append]; omega
  have h1 : ∀ S : SS, ∀ i, ∀ t : List Int32, t.length ≤ (wd1 S i t).length := fun S i t => by unfold wd1; split; exact Nat.le_trans (hp _ _) (hp _ _); exact hp _ _
  have h2 : ∀ S : SS, ∀ i, ∀ t : List Int32, t.length ≤ (wd2 S i t).length := fun S i t => by unfold wd2; split; exact hp _ _; exact Nat.le_refl _
  have h3 : ∀ S : SS, ∀ i, ∀ t : List Int32, t.length ≤ (wd3 S i t).length := fun S i t => by unfold wd3; exact Nat.le_trans (hp _ _) (Nat.le_trans (hp _ _) (hp _ _))
  have h4 : ([108, 111, 115, 116] : List Int32).length ≤ (wd S i [108, 111, 115, 116]).length := by
    unfold wd
    split
    · exact Nat.le_trans (h1 _ _ _) (Nat.le_trans (h2 _ _ _) (Nat.le_trans (hp _ _) (h3 _ _ _)))
    · exact Nat.le_trans (h1 _ _ _) (Nat.le_trans (h2 _ _ _) (hp _ _))
  have h5 : ([108, 111, 115, 116] : List Int32).length = 4 := rfl
  omega
section RL
variable {B : Nat} {E : Nat → Nat} {S : SS} {li : List Int32} {od : List Nat} {h h' : hp}
theorem RW.foc (x : RW B E S li od h) : oGR 4 6 (some (B + 79)) h = some (if sI S 21 0 = -1 then none else some (E (nth (sI S 21 0)))) := hgR (x.1.t 79 5 (by decide)) x.2.2.2.2.2.2.2.1.2
theorem RW.wfoc (x : RW B E S li od h) {v : Int32} : RW B E (wSI S 21 0 v) li od (wR h (B + 79) 6 (if v = -1 then none else some (E (nth v)))) := by
  refine x.rdr (Ag.wR (List.mem_singleton.mpr rfl)) (fun f _ q6 => hR_n _ _ _ q6) (Sd.I (by decide)) ⟨?_, ?_⟩
  · rw [hR_n _ _ _ (by decide), cur_cg (show sI (wSI S 21 0 v) 20 = sI S 20 from up2_ne S.1 0 v (show (20 : Nat) ≠ 21 by decide))]
    exact x.2.2.2.2.2.2.2.1.1
  · rw [hR_s, sI_I, if_pos (show 21 = 21 ∧ 0 = 0 from ⟨rfl, rfl⟩)]
theorem r_los1 (x : RW B E S li od h) (hP : PW S) {y : Nat} (hy : y < made S) (hf : sI S 21 0 = -1 ∨ ∃ f, f < made S ∧ sI S 21 0 = nI f ∧ gonA S (nI f) = wthn S f y) : ∃ h1, ((oGR 4 6 (some (B + 79)) h).bind fun x1 => (if x1 = none then (some h) else (oGR 4 6 (some (B + 79)) h).bind fun x4 => (oOb 1 x4 h).bind fun b => (fX2_isWithin b (some (E y)) h).bind fun x5 => if x5 = 0 then (some h) else (oPR 4 6 (some (B + 79)) (none : Option Nat) h).bind fun h6 => (oGR 4 3 (some (B + 79)) h6).bind fun x7 => (oOb 7 x7 h6).bind fun b => o2 (fX8_end b h6) fun _ h9 => some h9)) = some h1 ∧ RW B E (los1 S) li od h1 := by
  have h40 := hP.2.1
  rw [x.foc, sb]
  unfold los1
  rcases hf with q | ⟨f, f1, f2, f3⟩
  · have hg : ¬ gonA S (sI S 21 0) = true := by
      unfold gonA
      rw [q, decide_eq_false (by decide), Bool.false_and]; decide
    rw [if_pos q, if_pos rfl, if_neg hg]
    exact ⟨h, rfl, x⟩
  · have hn : ¬ sI S 21 0 = -1 := by rw [f2]; exact nI_m1 (by omega)
    have hnt : nth (sI S 21 0) = f := by unfold nth; rw [f2, nI_clamp (by omega)]
    rw [if_neg hn, if_neg (Option.some_ne_none _), sb, hnt, x.es.ob f1, sb, e_within x.es hP f1 hy, sb, bI_i, f2, f3]
    by_cases w : wthn S f y = true
    · have x1 := x.wfoc (v := -1)
      rw [if_pos (show (-1 : Int32) = -1 from rfl)] at x1
      obtain ⟨h2, a2, x2⟩ := r_end x1
      rw [if_pos w, if_pos w, oPR_ok (x.1.t 79 5 (by decide)), sb, x1.fp (o := 79) (f := 3) (q := 85) (t := 4) (by decide) (by decide), sb, x1.fo (o := 85) (t := 7) (by decide), sb, a2, o2s]
      exact ⟨h2, rfl, x2⟩
    · rw [if_neg w, if_neg w]
      exact ⟨h, rfl, x⟩
theorem r_los3 (x : RW B E S li od h) (hW : WT S) (hL : WL S) (hV : WV S) (h21 : (sQ S 35).length < 21) {r : Nat} (hc : cur S < made S) (hr : th S r) (hne : r ≠ cur S) : ∃ h1, ((oOb 4 (some (B + 79)) h).bind fun b => o2 (fX5_moveTo b (some (E r)) h) fun _ h15 => (oGR 4 4 (some (B + 79)) h15).bind fun x16 => (oOb 0 x16 h15).bind fun b => o2 (fX1_clear b h15) fun _ h18 => (oGR 4 4 (some (B + 79)) h18).bind fun x19 => (oOb 0 x19 h18).bind fun b => o2 (fX1_part_ b 19 h18) fun _ h21 => (oGR 4 5 (some (B + 79)) h21).bind fun x22 => (oGR 4 4 (some (B + 79)) h21).bind fun x23 => (oOb 1 x22 h21).bind fun b => o2 (fX2_putWords b x23 h21) fun _ h25 => (oGR 4 1 (some (B + 79)) h25).bind fun x26 => (oGR 4 4 (some (B + 79)) h25).bind fun x27 => (oOb 8 x26 h25).bind fun b => o2 (fX9_comeAlert b x27 h25) fun _ h29 => some h29) = some h1 ∧ RW B E (cAl (los2 S r) (wd (los2 S r) r [108, 111, 115, 116])) li od h1 := by
  obtain ⟨h1, a1, x1⟩ := r_mvT x hW.m40 hc hr.lt
  have s1 := sd_los2 S r
  have e1 : mvT S r = los2 S r := by unfold mvT los2; rw [if_neg hne]
  rw [e1] at x1
  have hcu : cur (los2 S r) = r := by
    unfold los2 cur
    have := hr.l40 hW
    rw [sI_N (by decide), sI_I, if_pos ⟨rfl, rfl⟩, nI_clamp (by omega)]
  have hW1 : WT (los2 S r) := hW.cg (s1.i 0 rfl) (s1.i 1 rfl) (s1.i 2 rfl) (s1.i 3 rfl) (s1.i 12 rfl) s1.2.2.2
  have hL1 : WL (los2 S r) := hL.sd s1 rfl rfl rfl
  have hV1 : WV (los2 S r) := hV.cg (s1.q 30 rfl) (s1.q 35 rfl) (s1.l 33 rfl) (s1.l 39 rfl) (s1.i 38 rfl) (s1.i 41 rfl)
  have ht1 : th (los2 S r) r := (th_cg (s1.i 0 rfl) (s1.i 1 rfl) r).mpr hr
  have h21' : (sQ (los2 S r) 35).length < 21 := by rw [s1.q 35 rfl]; exact h21
  generalize los2 S r = T at *
  obtain ⟨l, c0⟩ := x1.2.2.2.2.2.2.2.2.1.2.1
  obtain ⟨h2, a2, c2, g2⟩ := c_clear c0
  have x2 := x1.scr g2 c2 (Or.inr (Or.inl ⟨rfl, rfl⟩))
  obtain ⟨h3, a3, c3, g3⟩ := c_text c2 (i := 19) (by decide) (by show 0 + 1 + 4 ≤ 80; decide)
  rw [show pt [] (txt 19) = [108, 111, 115, 116] from by decide] at c3
  have x3 := x2.scr g3 c3 (Or.inr (Or.inl ⟨rfl, rfl⟩))
  obtain ⟨h4, a4, c4, g4⟩ := e_words x3.es hW1 hL1 ht1 (x3.out (b := B + 86) (by omega) (by omega)) c3 (by decide)
  have x4 := x3.scr g4 c4 (Or.inr (Or.inl ⟨rfl, rfl⟩))
  have hw0 := wd_len0 T hL1 r [108, 111, 115, 116]
  have hwp := wd_pos1 T r
  obtain ⟨h5, a5, v5, g5⟩ := v_alert x4.vs hV1 h21' c4 (by omega) hwp c4.2.2.2.2.1
  have x5 := x4.voice v5 g5 ((sd_cAl _ _).mono (by decide))
  have e4 := fun {h} (y : RW B E T li od h) => y.fp (o := 79) (f := 4) (q := 86) (t := 4) (by decide) (by decide)
  have ecu := x3.cu
  rw [hcu] at ecu
  refine ⟨h5, ?_, x5⟩
  rw [x.ob79, sb, a1, o2s, e4 x1, sb, c0.ob, sb, a2, o2s, e4 x2, sb, c2.ob, sb, a3, o2s, ecu, sb, e4 x3, sb, x3.es.ob ht1.lt, sb, a4, o2s, x4.fp (o := 79) (f := 1) (q := 12) (t := 4) (by decide) (by decide), sb, e4 x4, sb, x4.vs.ob, sb, a5, o2s]
theorem r_lose (x : RW B E S li od h) (hW : WT S) (hL : WL S) (hV : WV S) (h21 : (sQ S 35).length < 21) {y r : Nat} (hy : y < made S) (hf : sI S 21 0 = -1 ∨ ∃ f, f < made S ∧ sI S 21 0 = nI f ∧ gonA S (nI f) = wthn S f y) (hc1 : sI S 20 0 = nI (cur S)) (hc2 : cur S < made S) (hc3 : gonA S (nI (cur S)) = wthn S (cur S) y) (hr : gonA S (sI S 20 0) = true → th S r ∧ shn S r = true) {c : Nat} (hI : Inv0 (los S r) c) : ∃ h', fX5_lose (B + 79) (some (E y)) (some (E r)) h = some ((), h') ∧ RW B E (fit (los S r)) (ln (los S r)) od h' := by
  obtain ⟨h1, a1, x1⟩ := r_los1 x hW.pw hy hf
  have s1 := sd_los1 S
  have hW1 : WT (los1 S) := hW.cg (s1.i 0 rfl) (s1.i 1 rfl) (s1.i 2 rfl) (s1.i 3 rfl) (s1.i 12 rfl) s1.2.2.2
  have hL1 : WL (los1 S) := hL.sd s1 rfl rfl rfl
  have hV1 : WV (los1 S) := hV.cg (s1.q 30 rfl) (s1.q 35 rfl) (s1.l 33 rfl) (s1.l 39 rfl) (s1.i 38 rfl) (s1.i 41 rfl)
  have hcu : cur (los1 S) = cur S := cur_cg (s1.i 20 rfl)
  have hm : made (los1 S) = made S := made_cg (s1.i 0 rfl)
  have hg : gonA (los1 S) (sI (los1 S) 20 0) = wthn S (cur S) y := by
    rw [gon_cg (s1.i 1 rfl) (s1.i 3 rfl) (s1.i 12 rfl), s1.i 20 rfl, hc1, hc3]
  have key : ∃ h2, (if bI (wthn S (cur S) y) = 0 then (some h1) else ((oOb 4 (some (B + 79)) h1).bind fun b => o2 (fX5_moveTo b (some (E r)) h1) fun _ h15 => (oGR 4 4 (some (B + 79)) h15).bind fun x16 => (oOb 0 x16 h15).bind fun b => o2 (fX1_clear b h15) fun _ h18 => (oGR 4 4 (some (B + 79)) h18).bind fun x19 => (oOb 0 x19 h18).bind fun b => o2 (fX1_part_ b 19 h18) fun _ h21 => (oGR 4 5 (some (B + 79)) h21).bind fun x22 => (oGR 4 4 (some (B + 79)) h21).bind fun x23 => (oOb 1 x22 h21).bind fun b => o2 (fX2_putWords b x23 h21) fun _ h25 => (oGR 4 1 (some (B + 79)) h25).bind fun x26 => (oGR 4 4 (some (B + 79)) h25).bind fun x27 => (oOb 8 x26 h25).bind fun b => o2 (fX9_comeAlert b x27 h25) fun _ h29 => some h29)) = some h2 ∧ RW B E (los S r) li od h2 := by
    unfold los los3
    rw [bI_i, hg]
    by_cases w : wthn S (cur S) y = true
    · rw [if_pos w, if_pos w]
      have hgt : gonA S (sI S 20 0) = true := by rw [hc1, hc3]; exact w
      obtain ⟨u1, u2⟩ := hr hgt
      have hne : r ≠ cur (los1 S) := fun z => by
        rw [hcu] at z
        have hcl := u1.l40 hW
        rw [hc1, ← z, gon_nI hcl, u2, decide_eq_false u1.2] at hgt
        simp at hgt
      exact r_los3 x1 hW1 hL1 hV1 (by rw [s1.q 35 rfl]; exact h21) (by rw [hcu, hm]; exact hc2) ((th_cg (s1.i 0 rfl) (s1.i 1 rfl) r).mpr u1) hne
    · rw [if_neg w, if_neg w]
      exact ⟨h1, rfl, x1⟩
  obtain ⟨h2, a2, x2⟩ := key
  have hC := hI.1
  obtain ⟨h3, a3, x3⟩ := p_keep x2 hC.t hC.l hC.k hC.c hC.xt
  refine ⟨h3, ?_, x3⟩
  have ecu := x1.cu
  rw [hcu] at ecu
  have ew := e_within x1.es hW1.pw (i := cur S) (y := y) (by rw [hm]; exact hc2) (by rw [hm]; exact hy)
  rw [wthn_cg (s1.i 3 rfl)] at ew
  unfold fX5_lose
  rw [← Option.bind_assoc, a1, sb, ecu, sb, x1.es.ob (show cur S < made (los1 S) by rw [hm]; exact hc2), sb, ew, sb, a2, sb, x2.fp (o := 79) (f := 2) (q := 80) (t := 4) (by decide) (by decide), sb, x2.cu, sb, x2.fp (o := 79) (f := 3) (q := 85) (t := 4) (by decide) (by decide), sb, x2.fi (o := 85) (f := 0) (k := 22) (t := 7) (by decide) (by decide), sb, x2.fo (o := 80) (t := 2) (by decide), sb, a3, o2s]
theorem r_focus (x : RW B E S li od h) (hW : WT S) (hC : WC S) : ∃ h', fX5_takeFocus (B + 79) h = some ((), h') ∧ RW B E (if canF (sI S 2 (cur S)) = true then act2 S else S) li od h' := by
  have c40 := hC.2.l40 hW
  unfold fX5_takeFocus
  rw [x.cu, sb, x.es.ob hC.2.lt, sb, e_canF x.es hC.2.lt, sb, bI_i]
  by_cases q : canF (sI S 2 (cur S)) = true
  · rw [if_pos q, if_pos q, sb, oPR_ok (x.1.t 79 5 (by decide)), sb]
    have x1 := x.wfoc (v := sI S 20 0)
    rw [hC.1, if_neg (nI_m1 (by omega)), show nth (nI (cur S)) = cur S from nI_clamp (by omega), ← hC.1] at x1
    exact ⟨_, rfl, x1⟩
  · rw [if_neg q, if_neg q]
    exact ⟨h, rfl, x⟩
theorem r_begin (x : RW B E S li od h) : ∃ h', fX8_begin (B + 85) h = some ((), h') ∧ RW B E (wSI (wSI (wSI S 22 0 1) 23 0 0) 24 0 0) li od h' := by
  have t := x.1.t 85 8 (by decide)
  refine ⟨wI (wI (wI h (B + 85) 0 1) (B + 85) 1 0) (B + 85) 2 0, ?_, x.tpy (((Ag.wI (List.mem_singleton.mpr rfl)).tr (Ag.wI (List.mem_singleton.mpr rfl))).tr (Ag.wI (List.mem_singleton.mpr rfl))) (((Sd.I (by decide)).tr (Sd.I (by decide))).tr (Sd.I (by decide))) ?_ (fun _ => ⟨?_, ?_⟩)⟩
  · unfold fX8_begin
    rw [oPZ_ok t (Or.inr rfl), sb, oPZ_ok (show (hT (wI h (B + 85) 0 1) (B + 85)).1 = 7 + 1 from t) (Or.inl rfl), sb, oPZ_ok (show (hT (wI (wI h (B + 85) 0 1) (B + 85) 1 0) (B + 85)).1 = 7 + 1 from t) (Or.inl rfl), sb]
  · rw [hI_n _ _ _ (by decide), hI_n _ _ _ (by decide), hI_s, sI_N (by decide), sI_N (by decide), sI_I, if_pos ⟨rfl, rfl⟩]
  · rw [hI_n _ _ _ (by decide), hI_s, sI_N (by decide), sI_I, if_pos ⟨rfl, rfl⟩]
  · rw [hI_s, sI_I, if_pos ⟨rfl, rfl⟩]
theorem RW.en11 (x : RW B E S li od h) {i : Nat} (hi : i < made S) : oGI 1 9 (some (E i)) h = some (sI S 11 i) := hgI (x.es.t hi) (x.2.2.2.1 i hi).2.2.1.2.2.2.2.1
theorem RW.en10 (x : RW B E S li od h) {i : Nat} (hi : i < made S) : oGI 1 8 (some (E i)) h = some (sI S 10 i) := hgI (x.es.t hi) (x.2.2.2.1 i hi).2.2.1.2.2.2.1
theorem tx_w : txt 30 = wEnd ∧ txt 31 = wNone ∧ txt 32 = [112, 114, 101, 115, 115, 101, 100] ∧ txt 33 = [111, 110] ∧ txt 34 = [111, 102, 102] ∧ txt 35 = [116, 121, 112, 101] ∧ txt 36 = [115, 112, 97, 99, 101] ∧ txt 37 = [102, 117, 108, 108] := by decide
theorem r_act (x : RW B E S li od h) (hW : WT S) (hC : WC S) (h10 : sI S 10 (cur S) = 0 ∨ sI S 10 (cur S) = 1) : ∃ h', fX5_act (B + 79) h = some ((), h') ∧ RW B E (act S) li od h' := by
  obtain ⟨w1, w2, w3, w4, w5, w6, -, -⟩ := tx_w
  obtain ⟨h1, a1, x1⟩ := r_focus x hW hC
  unfold fX5_act act
  rw [x.ob79, sb, a1, o2s]
  by_cases q : canF (sI S 2 (cur S)) = true
  · rw [if_pos q] at x1 ⊢
    have s1 : Sd [21] [] [] S (act2 S) := Sd.I (by decide)
    have hcu : cur (act2 S) = cur S := cur_cg (s1.i 20 rfl)
    have hm : cur S < made (act2 S) := by rw [made_cg (s1.i 0 rfl)]; exact hC.2.lt
    have ecu := x1.cu
    rw [hcu] at ecu
    rw [ecu, sb, x1.es.kind hm, sb, s1.i 2 rfl]
    by_cases q2 : sI S 2 (cur S) = 2
    · have x2 := x1.en hm (f := 9) (k := 11) (by decide) (sI S 11 (cur S) + 1)
      obtain ⟨h3, a3, x3⟩ := r_say x2 (i := 32) (by decide) (by decide)
      rw [w3] at x3
      rw [if_pos q2, if_pos q2, sb, x1.en11 hm, sb, s1.i 11 rfl, oPI_ok (x1.es.t hm), sb, x2.ob79, sb, a3, o2s]
      exact ⟨h3, rfl, x3⟩
    · rw [if_neg q2, if_neg q2]
      by_cases q3 : sI S 2 (cur S) = 3
      · rw [if_pos q3, if_pos q3, sb, sb, x1.en10 hm, sb, s1.i 10 rfl]
        have hv : (if sI S 10 (cur S) = 0 then (1 : Int32) else 0) = 0 ∨ (if sI S 10 (cur S) = 0 then (1 : Int32) else 0) = 1 := by split <;> simp
        have hsm : (if sI S 10 (cur S) = 0 then some (1 : Int32) else some 0) = some (if sI S 10 (cur S) = 0 then (1 : Int32) else 0) := by split <;> rfl
        generalize (if sI S 10 (cur S) = 0 then (1 : Int32) else 0) = v at *
        have x2 := x1.en hm (f := 8) (k := 10) (by decide) v
        have hcu2 : cur (wSI (act2 S) 10 (cur S) v) = cur S := by rw [cur_cg (show sI (wSI (act2 S) 10 (cur S) v) 20 = sI (act2 S) 20 from up2_ne (act2 S).1 (cur S) v (show (20 : Nat) ≠ 10 by decide)), hcu]
        have ecu2 := x2.cu
        rw [hcu2] at ecu2
        have hm2 : cur S < made (wSI (act2 S) 10 (cur S) v) := hm
        have e10 := x2.en10 hm2
        rw [sI_I, if_pos ⟨rfl, rfl⟩] at e10
        have hsay : ∃ h3, (Option.bind (α := Nat) (if v = 0 then (some 34) else some 33) fun q18 => (oOb 4 (some (B + 79)) (wI h1 (E (cur S)) 8 v)).bind fun b => o2 (fX5_say b q18 (wI h1 (E (cur S)) 8 v)) fun _ h21 => some (((), h21))) = some ((), h3) ∧ RW B E (cAns (wSI (act2 S) 10 (cur S) v) (onw v)) li od h3 := by
          unfold onw
          by_cases u : v = 0
          · obtain ⟨h3, a3, x3⟩ := r_say x2 (i := 34) (by decide) (by decide)
            rw [w5] at x3
            rw [if_pos u, if_pos u, sb, x2.ob79, sb, a3, o2s]
            exact ⟨h3, rfl, x3⟩
          · obtain ⟨h3, a3, x3⟩ := r_say x2 (i := 33) (by decide) (by decide)
            rw [w4] at x3
            rw [if_neg u, if_neg u, sb, x2.ob79, sb, a3, o2s]
            exact ⟨h3, rfl, x3⟩
        obtain ⟨h3, a3, x3⟩ := hsay
        rw [hsm, sb, oPZ_ok (x1.es.t hm) hv, sb, ecu2, sb, e10, sb, a3]
        exact ⟨h3, rfl, x3⟩
      · have q4 : sI S 2 (cur S) = 4 := by
          have : ∀ k : Int32, canF k = true → k = 2 ∨ k = 3 ∨ k = 4 := fun k hk => by
            have hk2 := of_decide_eq_true hk
            obtain ⟨c, c1, c2, c3⟩ := rngI (a := 2) (b := 4) (by decide) hk2.1 hk2.2 (by decide)
            rcases (show c = 2 ∨ c = 3 ∨ c = 4 by omega) with e | e | e
            · exact Or.inl (by rw [c3, e]; rfl)
            · exact Or.inr (Or.inl (by rw [c3, e]; rfl))
            · exact Or.inr (Or.inr (by rw [c3, e]; rfl))
          rcases this _ q with e | e | e
          · exact absurd e q2
          · exact absurd e q3
          · exact e
        obtain ⟨h2, a2, x2⟩ := r_begin x1
        obtain ⟨h3, a3, x3⟩ := r_say x2 (i := 35) (by decide) (by decide)
        rw [w6] at x3
        rw [if_neg q3, if_neg q3, if_pos q4, x1.fp (o := 79) (f := 3) (q := 85) (t := 4) (by decide) (by decide), sb, x1.fo (o := 85) (t := 7) (by decide), sb, a2, o2s, x2.ob79, sb, a3, o2s]
        exact ⟨h3, rfl, x3⟩
  · rw [if_neg q] at x1 ⊢
    have hn : ∀ k : Int32, sI S 2 (cur S) = k → canF k = true → False := fun k e z => q (by rw [e]; exact z)
    obtain ⟨h3, a3, x3⟩ := r_say x1 (i := 31) (by decide) (by decide)
    rw [w2] at x3
    rw [x1.cu, sb, x1.es.kind hC.2.lt, sb, if_neg (fun z => hn 2 z (by decide)), if_neg (fun z => hn 3 z (by decide)), if_neg (fun z => hn 4 z (by decide)), x1.ob79, sb, a3, o2s]
    exact ⟨h3, rfl, x3⟩
theorem r_first (x : RW B E S li od h) (hW : WT S) (hC : WC S) : fX5_firstShownChild (B + 79) h = some ((fnd S (sK S (cur S))).map E) := by
  obtain ⟨k1, k2, k3⟩ := hW.kids hC.2
  have hlt := hC.2.lt
  have key : ∃ q, itr (fX5_firstShownChild_B2 (B + 79) h) FU (nI 0) = some q ∧ q = (match fnd S (sK S (cur S)) with
      | some j => Sum.inl (some (E j))
      | none => Sum.inr ()) := by
    refine itr_brk (R := fun (q : Option Nat ⊕ Unit) => q = (match fnd S (sK S (cur S)) with
      | some j => Sum.inl (some (E j))
      | none => Sum.inr ())) (fun j a => a = nI j ∧ fnd S (sK S (cur S)) = fnd S ((sK S (cur S)).drop j)) (sK S (cur S)).length (fun j a hj hX => ?_) (fun a hX => ?_) (FU_lt (by omega)) ⟨rfl, rfl⟩
    · obtain ⟨rfl, h2⟩ := hX
      have hg := (k3 _ (gn_mem hj)).1.lt
      have pre : fX5_firstShownChild_B2 (B + 79) h (nI j) = (if (if hid S (gn (sK S (cur S)) j) = false then some (E (gn (sK S (cur S)) j)) else none) = none then some (.inl (nI j + 1)) else some (.inr (.inl (if hid S (gn (sK S (cur S)) j) = false then some (E (gn (sK S (cur S)) j)) else none)))) := by
        unfold fX5_firstShownChild_B2
        rw [x.cu, sb, x.es.ob hlt, sb, e_size x.es hlt, sb, if_neg (nI_ge hj (by omega)), sb, x.es.ob hlt, sb, e_shCh x.es hlt k2 hj hg, sb]
      unfold fnd at h2
      rw [drop_gn hj, List.find?_cons] at h2
      by_cases q : hid S (gn (sK S (cur S)) j) = false
      · rw [q] at h2
        refine Or.inr ⟨_, by rw [pre, if_pos q, if_neg (Option.some_ne_none _)], ?_⟩
        unfold fnd
        rw [h2]; rfl
      · have q' : hid S (gn (sK S (cur S)) j) = true := by
          cases hh : hid S (gn (sK S (cur S)) j) with
          | true => rfl
          | false => exact absurd hh q
        rw [q'] at h2
        exact Or.inl ⟨nI (j + 1), by rw [pre, if_neg q, if_pos rfl, nI_1], rfl, h2⟩
    · obtain ⟨rfl, h2⟩ := hX
      rw [List.drop_length] at h2
      refine ⟨_, ?_, rfl⟩
      unfold fX5_firstShownChild_B2
      rw [x.cu, sb, x.es.ob hlt, sb, e_size x.es hlt, sb, if_pos (Int32.le_refl _), h2]; rfl
  obtain ⟨q, b1, b2⟩ := key
  unfold fX5_firstShownChild
  rw [show (0 : Int32) = nI 0 from rfl, b1, b2]
  cases fnd S (sK S (cur S)) with
  | none => rfl
  | some j => rfl
end RL

/-! ===== the class's reader goes to an element ===== -/
section RT
variable {B : Nat} {E : Nat → Nat} {S S' : SS} {li : List Int32} {od : List Nat} {h h' : hp}
theorem r_end (x : RW B E S li od h) : ∃ h', fX8_end (B + 85) h = some ((), h') ∧ RW B E (wSI S 22 0 0) li od h' := by
  refine ⟨wI h (B + 85) 0 0, ?_, x.tpy (Ag.wI (List.mem_singleton.mpr rfl)) (Sd.I (by decide)) (by rw [hI_s, sI_I, if_pos ⟨rfl, rfl⟩]) (fun z => absurd (show sI (wSI S 22 0 0) 22 0 = 0 by rw [sI_I, if_pos ⟨rfl, rfl⟩]) z)⟩
  unfold fX8_end
  rw [oPZ_ok (x.1.t 85 8 (by decide)) (Or.inl rfl), sb]
theorem oPR_ok {h : hp} {ci j a : Nat} {v : Option Nat} (ht : (hT h a).1 = ci + 1) : oPR ci j (some a) v h = some (wR h a j v) := by
  show (if (hT h a).1 = ci + 1 then some _ else none) = _
  rw [if_pos ht]
def mvT (S : SS) (t : Nat) : SS := if t = cur S then S else wSI (wSI S 20 0 (nI t)) 25 0 0
theorem sd_mvT (S : SS) (t : Nat) : Sd [20, 25] [] [] S (mvT S t) := Sd.if Sd.rf ((Sd.I (by decide)).tr (Sd.I (by decide)))
theorem RW.ob79 (x : RW B E S li od h) : oOb 4 (some (B + 79)) h = some (B + 79) := x.fo (by decide)
theorem r_mvT (x : RW B E S li od h) (hm : made S ≤ 40) (hc : cur S < made S) {t : Nat} (ht : t < made S) : ∃ h', fX5_moveTo (B + 79) (some (E t)) h = some ((), h') ∧ RW B E (mvT S t) li od h' := by
  unfold fX5_moveTo mvT
  rw [x.cu, sb]
  by_cases q : t = cur S
  · rw [if_pos (by rw [q]), if_pos q]
    exact ⟨h, rfl, x⟩
  · rw [if_neg (fun z => q ((x.es.eq ht hc).mp z)), if_neg q]
    have hcu : cur (wSI S 20 0 (nI t)) = t := by
      unfold cur
      rw [sI_I, if_pos ⟨rfl, rfl⟩, nI_clamp (by omega)]
    have x1 : RW B E (wSI S 20 0 (nI t)) li od (wR h (B + 79) 5 (some (E t))) := by
      refine x.rdr (Ag.wR (List.mem_singleton.mpr rfl)) (fun f q5 _ => hR_n _ _ _ q5) (Sd.I (by decide)) ⟨?_, ?_⟩
      · rw [hR_s, hcu]
      · rw [hR_n _ _ _ (by decide), sI_N (by decide)]
        exact x.2.2.2.2.2.2.2.1.2
    have x2 := x1.num (o := 80) (f := 2) (k := 25) (by decide) (by decide) 0
    refine ⟨wI (wR h (B + 79) 5 (some (E t))) (B + 80) 2 0, ?_, x2⟩
    rw [oPR_ok (x.1.t 79 5 (by decide)), sb, x1.fp (o := 79) (f := 2) (q := 80) (t := 4) (by decide) (by decide), sb, oPI_ok (x1.1.t 80 3 (by decide)), sb]
theorem r_head1 (x : RW B E S li od h) (hW : WT S) (hL : WL S) {f t : Nat} (hf : th S f) (ht : th S t) (f0 : 0 < f) (t0 : 0 < t) (c : Cd h (B + 86) 80 []) : ∃ h', (if (some (E (dpar S t))) = (some (E (dpar S f)) : Option Nat) then (some h) else if (some (E (kid S (dpar S t) 0)) : Option Nat) = none then (some h) else if some (E (kid S (dpar S t) 0)) = some (E t) then (some h) else (oGR 4 4 (some (B + 79)) h).bind fun x11 => (oGR 1 5 (some (E (kid S (dpar S t) 0))) h).bind fun x12 => (oOb 0 x11 h).bind fun b => o2 (fX1_part b x12 h) fun _ h14 => some h14) = some h' ∧ Cd h' (B + 86) 80 (hd1 S f t) ∧ Ag [B + 86, B + 86 + 1] h h' := by
  obtain ⟨p1, p2⟩ := hW.up t0 ht
  obtain ⟨q1, q2⟩ := hW.up f0 hf
  obtain ⟨k1, k2, k3⟩ := hW.kids p1
  have hlen : 0 < (sK S (dpar S t)).length := List.length_pos_of_mem p2
  have hk : th S (kid S (dpar S t) 0) := (k3 _ (gn_mem hlen)).1
  unfold hd1
  by_cases w1 : dpar S t = dpar S f
  · rw [if_pos (by rw [w1]), if_pos (Or.inl w1)]
    exact ⟨h, rfl, c, Ag.rf⟩
  · rw [if_neg (fun z => w1 ((x.es.eq p1.lt q1.lt).mp z)), if_neg (Option.some_ne_none _)]
    by_cases w2 : kid S (dpar S t) 0 = t
    · rw [if_pos (by rw [w2]), if_pos (Or.inr w2)]
      exact ⟨h, rfl, c, Ag.rf⟩
    · rw [if_neg (fun z => w2 ((x.es.eq hk.lt ht.lt).mp z)), if_neg (fun z => z.elim w1 w2)]
      have cn := x.es.cn hk.lt
      have n12 := (hL (kid S (dpar S t) 0)).1
      have u1 := x.2.1.far hk.lt (a := B + 86) (by omega) (by omega)
      have u2 := x.2.1.far hk.lt (a := B + 87) (by omega) (by omega)
      obtain ⟨h1, a1, c1, g1⟩ := c_part c cn (by omega) (by show 0 + 1 + _ ≤ 80; omega)
      refine ⟨h1, ?_, c1, g1⟩
      rw [x.fp (o := 79) (f := 4) (q := 86) (t := 4) (by decide) (by decide), sb, x.es.name hk.lt, sb, c.ob, sb, a1, o2s]
theorem r_heads (x : RW B E S li od h) (hW : WT S) (hL : WL S) {f t : Nat} (hf : th S f) (ht : th S t) (c : Cd h (B + 86) 80 []) : ∃ h', fX5_putHeads (B + 79) (some (E f)) (some (E t)) h = some ((), h') ∧ Cd h' (B + 86) 80 (hds S f t) ∧ Ag [B + 86, B + 86 + 1] h h' := by
  have hz : ¬ (f ≠ t ∧ t ≠ 0 ∧ f ≠ 0 ∧ sI S 2 (dpar S t) = 6 ∧ sI S 2 (dpar S f) = 6 ∧ dpar S (dpar S t) = dpar S (dpar S f) ∧ lvl S t ≠ 0) → hds S f t = [] := fun hn => by
    unfold hds hdB
    rw [decide_eq_false hn, if_neg (by decide)]
  unfold fX5_putHeads
  rw [x.es.up ht.lt, sb, x.es.up hf.lt, sb]
  by_cases w1 : f = t
  · rw [if_pos (by rw [w1]), hz (fun z => z.1 w1)]
    exact ⟨h, rfl, c, Ag.rf⟩
  rw [if_neg (fun z => w1 ((x.es.eq hf.lt ht.lt).mp z))]
  by_cases w2 : t = 0
  · rw [if_pos w2, if_pos rfl, hz (fun z => z.2.1 w2)]
    exact ⟨h, rfl, c, Ag.rf⟩
  rw [if_neg w2, if_neg (Option.some_ne_none _)]
  by_cases w3 : f = 0
  · rw [if_pos w3, if_pos rfl, hz (fun z => z.2.2.1 w3)]
    exact ⟨h, rfl, c, Ag.rf⟩
  obtain ⟨p1, p2⟩ := hW.up (by omega) ht
  obtain ⟨q1, q2⟩ := hW.up (by omega) hf
  rw [if_neg w3, if_neg (Option.some_ne_none _), x.es.kind p1.lt, sb]
  by_cases w4 : sI S 2 (dpar S t) = 6
  case neg =>
    rw [if_neg w4, hz (fun z => w4 z.2.2.2.1)]
    exact ⟨h, rfl, c, Ag.rf⟩
  rw [if_pos w4, x.es.kind q1.lt, sb]
  by_cases w5 : sI S 2 (dpar S f) = 6
  case neg =>
    rw [if_neg w5, hz (fun z => w5 z.2.2.2.2.1)]
    exact ⟨h, rfl, c, Ag.rf⟩
  have k0 : sI S 2 0 = 0 := hW.2.2.1
  have t1 : dpar S t ≠ 0 := fun z => by rw [z, k0] at w4; cases w4
  have t2 : dpar S f ≠ 0 := fun z => by rw [z, k0] at w5; cases w5
  obtain ⟨p3, p4⟩ := hW.up (Nat.pos_of_ne_zero t1) p1
  obtain ⟨q3, q4⟩ := hW.up (Nat.pos_of_ne_zero t2) q1
  rw [if_pos w5, x.es.up p1.lt, sb, if_neg t1, if_neg (Option.some_ne_none _), x.es.up q1.lt, sb, if_neg t2]
  by_cases w6 : dpar S (dpar S t) = dpar S (dpar S f)
  case neg =>
    rw [if_neg (fun z => w6 ((x.es.eq p3.lt q3.lt).mp z)), hz (fun z => w6 z.2.2.2.2.2.1)]
    exact ⟨h, rfl, c, Ag.rf⟩
  rw [if_pos (by rw [w6]), x.es.ob ht.lt, sb, e_level x.es hW.pw ht.lt, sb]
  by_cases w7 : lvl S t = 0
  · rw [if_pos w7, hz (fun z => z.2.2.2.2.2.2 w7)]
    exact ⟨h, rfl, c, Ag.rf⟩
  have hb : hds S f t = hd2 S f t := by
    unfold hds hdB
    rw [decide_eq_true ⟨w1, w2, w3, w4, w5, w6, w7⟩, if_pos rfl]
  obtain ⟨k1, k2, k3⟩ := hW.kids p1
  obtain ⟨j1, j2, j3⟩ := hW.kids p3
  have hlen : 0 < (sK S (dpar S t)).length := List.length_pos_of_mem p2
  have hlen2 : 0 < (sK S (dpar S (dpar S t))).length := List.length_pos_of_mem p4
  have e8 : fX2_child (E (dpar S t)) (0 : Int32) h = some (some (E (kid S (dpar S t) 0))) := e_child x.es p1.lt k2 hlen
  obtain ⟨h1, a1, c1, g1⟩ := r_head1 x hW hL hf ht (by omega) (by omega) c
  have x1 := x.scr g1 c1 (Or.inr (Or.inl ⟨rfl, rfl⟩))
  have htb : th S (tbl S t) := (j3 _ (gn_mem hlen2)).1
  have e16 : fX2_child (E (dpar S (dpar S t))) (0 : Int32) h1 = some (some (E (tbl S t))) := e_child x1.es p3.lt j2 hlen2
  have ep : fX2_placeOf (E (dpar S t)) (some (E t)) h1 = some (nI (plc S t)) := e_place x1.es hW p1 p2
  have epf : fX2_placeOf (E (dpar S f)) (some (E f)) h1 = some (nI (plc S f)) := e_place x1.es hW q1 q2
  have lpt : plc S t < 40 := by have := List.idxOf_lt_length_of_mem p2; unfold plc; omega
  have lpf : plc S f < 40 := by have := List.idxOf_lt_length_of_mem q2; have := (hW.kids q1).2.1; unfold plc; omega
  rw [if_neg w7, x.es.ob p1.lt, sb, e8, sb, a1, sb, x1.es.ob p1.lt, sb, ep, sb, x1.es.ob p3.lt, sb, e16, sb, if_neg (Option.some_ne_none _), x1.es.ob htb.lt, sb, hb]
  obtain ⟨b1, b2, b3⟩ := hW.kids htb
  have l13 := hd1_len hL f t
  unfold hd2
  by_cases w8 : (sK S (tbl S t)).length ≤ plc S t
  · rw [e_childN x1.es htb.lt b2 (inb_ge w8 (by omega)), sb, sb, x1.es.ob q1.lt, sb, epf, sb, if_pos (Or.inr (Or.inl w8))]
    by_cases w9 : plc S t = plc S f
    · rw [if_pos (by rw [w9])]
      exact ⟨h1, rfl, c1, g1⟩
    · rw [if_neg (fun z => w9 ((nI_eq (by omega) (by omega)).mp z)), if_pos rfl]
      exact ⟨h1, rfl, c1, g1⟩
  · have w8' : plc S t < (sK S (tbl S t)).length := by omega
    have hkk : th S (kid S (tbl S t) (plc S t)) := (b3 _ (gn_mem w8')).1
    have ek : fX2_child (E (tbl S t)) (nI (plc S t)) h1 = some (some (E (kid S (tbl S t) (plc S t)))) := e_child x1.es htb.lt b2 w8'
    rw [ek, sb, sb, x1.es.ob q1.lt, sb, epf, sb]
    by_cases w9 : plc S t = plc S f
    · rw [if_pos (show nI (plc S t) = nI (plc S f) by rw [w9]), if_pos (Or.inl w9)]
      exact ⟨h1, rfl, c1, g1⟩
    · rw [if_neg (fun z => w9 ((nI_eq (by omega) (by omega)).mp z)), if_neg (Option.some_ne_none _)]
      by_cases w10 : kid S (tbl S t) (plc S t) = t
      · rw [if_pos (show some (E (kid S (tbl S t) (plc S t))) = some (E t) by rw [w10]), if_pos (Or.inr (Or.inr w10))]
        exact ⟨h1, rfl, c1, g1⟩
      · have cn := x1.es.cn hkk.lt
        have n12 := (hL (kid S (tbl S t) (plc S t))).1
        have u1 := x1.2.1.far hkk.lt (a := B + 86) (by omega) (by omega)
        have u2 := x1.2.1.far hkk.lt (a := B + 87) (by omega) (by omega)
        obtain ⟨h2, a2, c2, g2⟩ := c_part c1 cn (by omega) (by omega)
        rw [if_neg (show ¬ some (E (kid S (tbl S t) (plc S t))) = some (E t) from fun z => w10 ((x1.es.eq hkk.lt ht.lt).mp z)), if_neg (fun z => z.elim w9 (fun z => z.elim w8 w10))]
        refine ⟨h2, ?_, c2, g1.tr g2⟩
        rw [x1.fp (o := 79) (f := 4) (q := 86) (t := 4) (by decide) (by decide), sb]
        show (oGR 1 5 (some (E (kid S (tbl S t) (plc S t)))) h1).bind _ = _
        rw [x1.es.name hkk.lt, sb, c1.ob, sb, a2, o2s]
theorem go_mv (hC : sI S 20 0 = nI (cur S)) (x : Nat) : wSI (wSI (wSI S 22 0 0) 25 0 (if x = cur S then sI S 25 0 else 0)) 20 0 (nI x) = mvT (wSI S 22 0 0) x := by
  have hcu : cur (wSI S 22 0 0) = cur S := rfl
  unfold mvT
  rw [hcu]
  by_cases q : x = cur S
  · rw [if_pos q, if_pos q, wSI_same (S := wSI S 22 0 0) (k := 25) (i := 0) (show sI (wSI S 22 0 0) 25 0 = sI S 25 0 from sI_N (by decide)), wSI_same]
    rw [sI_N (by decide), hC, q]
  · rw [if_neg q, if_neg q, wSI_cc (wSI S 22 0 0) 0 0 _ _ (show (25 : Nat) ≠ 20 by decide)]
theorem r_go (x : RW B E S li od h) (hW : WT S) (hL : WL S) (hC : WC S) {t : Nat} (ht : th S t) (w : Nat) : ∃ h', fX5_goTo (B + 79) (some (E t)) w h = some ((), h') ∧ RW B E (go S t) li od h' := by
  obtain ⟨h1, a1, x1⟩ := r_end x
  have s1 : Sd [22] [] [] S (wSI S 22 0 0) := Sd.I (by decide)
  have c1 : cur (wSI S 22 0 0) = cur S := cur_cg (s1.i 20 rfl)
  have m1 : made (wSI S 22 0 0) = made S := made_cg (s1.i 0 rfl)
  obtain ⟨h2, a2, x2⟩ := r_mvT x1 (by rw [m1]; exact hW.m40) (by rw [c1, m1]; exact hC.2.lt) (t := t) (by rw [m1]; exact ht.lt)
  have s2 : Sd [20, 22, 25] [] [] S (mvT (wSI S 22 0 0) t) := (s1.mono (by decide)).tr ((sd_mvT _ t).mono (by decide))
  unfold go
  rw [go_mv hC.1]
  have hW2 : WT (mvT (wSI S 22 0 0) t) := hW.cg (s2.i 0 rfl) (s2.i 1 rfl) (s2.i 2 rfl) (s2.i 3 rfl) (s2.i 12 rfl) s2.2.2.2
  have hL2 : WL (mvT (wSI S 22 0 0) t) := hL.sd s2 rfl rfl rfl
  have t2 : ∀ i, th S i → th (mvT (wSI S 22 0 0) t) i := fun i hi => (th_cg (s2.i 0 rfl) (s2.i 1 rfl) i).mpr hi
  have hh : ∀ f u, hds (mvT (wSI S 22 0 0) t) f u = hds S f u := fun f u => by
    unfold hds hdB hd2 hd1 tbl kid
    rw [s2.i 2 rfl, s2.l 6 rfl, s2.2.2.2, plc_cg (s2.i 3 rfl) s2.2.2.2 u, plc_cg (s2.i 3 rfl) s2.2.2.2 f, dpar_cg (s2.i 3 rfl) u, dpar_cg (s2.i 3 rfl) f, dpar_cg (s2.i 3 rfl), dpar_cg (s2.i 3 rfl), lvl_cg (s2.i 3 rfl) (s2.i 13 rfl) u]
  have hw : ∀ l, wd (mvT (wSI S 22 0 0) t) t l = wd S t l := fun l => wd_cg (s2.i 2 rfl) (s2.i 3 rfl) (s2.i 10 rfl) (s2.i 12 rfl) (s2.i 13 rfl) (s2.l 6 rfl) (s2.l 8 rfl) s2.2.2.2 t l
  generalize mvT (wSI S 22 0 0) t = T at *
  obtain ⟨l, c0⟩ := x2.2.2.2.2.2.2.2.2.1.2.1
  obtain ⟨h3, a3, c3, g3⟩ := c_clear c0
  have x3 := x2.scr g3 c3 (Or.inr (Or.inl ⟨rfl, rfl⟩))
  obtain ⟨h4, a4, c4, g4⟩ := r_heads x3 hW2 hL2 (t2 _ hC.2) (t2 _ ht) c3
  rw [hh] at c4
  have x4 := x3.scr g4 c4 (Or.inr (Or.inl ⟨rfl, rfl⟩))
  have l26 := hds_len hL (cur S) t
  obtain ⟨h5, a5, c5, g5⟩ := e_words x4.es hW2 hL2 (t2 _ ht) (x4.out (b := B + 86) (by omega) (by omega)) c4 (by omega)
  rw [hw] at c5
  have x5 := x4.scr g5 c5 (Or.inr (Or.inl ⟨rfl, rfl⟩))
  obtain ⟨h6, a6, x6⟩ := r_ans x5 c5
  refine ⟨h6, ?_, x6⟩
  have e4 := fun {T h} (y : RW B E T li od h) => y.fp (o := 79) (f := 4) (q := 86) (t := 4) (by decide) (by decide)
  unfold fX5_goTo
  rw [if_neg (Option.some_ne_none _), x.cu, sb, x.fp (o := 79) (f := 3) (q := 85) (t := 4) (by decide) (by decide), sb, x.fo (o := 85) (t := 7) (by decide), sb, a1, o2s, x1.ob79, sb, a2, o2s, e4 x2, sb, c0.ob, sb, a3, o2s, x3.ob79, sb, a4, o2s, e4 x4, sb, x4.es.ob (t2 _ ht).lt, sb, a5, o2s, x5.fp (o := 79) (f := 1) (q := 12) (t := 4) (by decide) (by decide), sb, e4 x5, sb, x5.vs.ob, sb, a6, o2s]
theorem r_goO (x : RW B E S li od h) (hW : WT S) (hL : WL S) (hC : WC S) {o : Option Nat} (ho : ∀ t, o = some t → th S t) {w : Nat} (hw : w < 45) (hl : (txt w).length ≤ 70) : ∃ h', fX5_goTo (B + 79) (o.map E) w h = some ((), h') ∧ RW B E (goO S o (txt w)) li od h' := by
  cases o with
  | some t => exact r_go x hW hL hC (ho t rfl) w
  | none =>
    obtain ⟨h1, a1, x1⟩ := r_say x hw hl
    refine ⟨h1, ?_, x1⟩
    unfold fX5_goTo
    rw [if_pos (show Option.map E none = none from rfl), x.ob79, sb, a1, o2s]
end RT

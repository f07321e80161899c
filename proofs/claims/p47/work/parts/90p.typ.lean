/-! ===== the class's reader: typing, kinds, obeying ===== -/
theorem b_lto (p : Int32) : fX0_letterOf p = some (rI (lto p)) := by
  have hg : ∀ j, j < 26 → gn (List.range 26) j = j := fun j hj => by
    rw [gn_of (by rw [List.length_range]; exact hj), List.getElem_range]
  have key : ∃ q, itr (fX0_letterOf_B2 p) FU (nI 0) = some q ∧ q = (match lto p with
      | some j => Sum.inl (nI j)
      | none => Sum.inr ()) := by
    refine itr_brk (R := fun (q : Int32 ⊕ Unit) => q = (match lto p with
      | some j => Sum.inl (nI j)
      | none => Sum.inr ())) (fun j a => a = nI j ∧ lto p = ((List.range 26).drop j).find? (fun j => decide (ptsN j = p))) 26 (fun j a hj hX => ?_) (fun a hX => ?_) (FU_lt (by decide)) ⟨rfl, rfl⟩
    · obtain ⟨rfl, h2⟩ := hX
      have hL : oLt (nI j) = some (ptsN j) := by
        unfold oLt
        rw [if_pos (inb_nI hj (by decide)), nI_clamp (by omega)]; rfl
      have pre : fX0_letterOf_B2 p (nI j) = (if ptsN j = p then some (.inr (.inl (nI j))) else some (.inl (nI j + 1))) := by
        unfold fX0_letterOf_B2
        rw [if_neg (show ¬ (26 : Int32) ≤ nI j from nI_ge (b := 26) hj (by decide)), hL, sb]
      rw [drop_gn (by rw [List.length_range]; exact hj), hg j hj, List.find?_cons] at h2
      by_cases q : ptsN j = p
      · rw [decide_eq_true q] at h2
        exact Or.inr ⟨_, by rw [pre, if_pos q], by rw [h2]⟩
      · rw [decide_eq_false q] at h2
        exact Or.inl ⟨nI (j + 1), by rw [pre, if_neg q, nI_1], rfl, h2⟩
    · obtain ⟨rfl, h2⟩ := hX
      rw [List.drop_eq_nil_of_le (by rw [List.length_range]; exact Nat.le_refl _), List.find?_nil] at h2
      refine ⟨_, ?_, rfl⟩
      unfold fX0_letterOf_B2
      rw [if_pos (show (26 : Int32) ≤ nI 26 from Int32.le_refl _), h2]
  obtain ⟨q, b1, b2⟩ := key
  unfold fX0_letterOf
  rw [show (0 : Int32) = nI 0 from rfl, b1, b2]
  cases lto p with
  | none => rfl
  | some j => rfl
def tpd (S : SS) (c : Int32) : SS := if isS c = true ∨ isG c = true then wSI (wSI S 23 0 0) 24 0 0 else if c = 32 then wSI S 24 0 0 else S
section TP
variable {B : Nat} {E : Nat → Nat} {S : SS} {li : List Int32} {od : List Nat} {h h' : hp}
theorem RW.w8 (x : RW B E S li od h) {i : Nat} (hi : i < made S) (y : Ag [E i + 4, E i + 4 + 1] h h') {l : List Int32} (c : Cd h' (E i + 4) (capC S i) l) : RW B E (wSL S 8 i l) li od h' := by
  have m : ∀ a ∈ [E i + 4, E i + 4 + 1], a = E i + 4 ∨ a = E i + 5 := by
    intro a ha
    simp only [List.mem_cons, List.not_mem_nil, or_false] at ha
    omega
  have nn : ∀ a, a ≠ E i + 4 → a ≠ E i + 5 → a ∉ [E i + 4, E i + 4 + 1] := fun a q1 q2 z => by have := m a z; omega
  refine x.elm hi (y.toE (fun a ha => by have := m a ha; omega)) (AtE.L (by decide)) ?_
  obtain ⟨a1, a2, a3, a4, a5, a6, a7⟩ := x.2.2.2.1 i hi
  have n0 := nn (E i) (by omega) (by omega)
  have n1 := nn (E i + 1) (by omega) (by omega)
  refine ⟨by rw [y.T]; exact a1, by rw [y.T]; exact a2, ?_, ?_, ?_, ?_, ?_⟩
  · unfold EI at *
    rw [y.I n0]; exact a3
  · unfold ER at *
    rw [y.R n0, y.R n1]; exact a4
  · rw [sL_L, if_neg (fun z => absurd z.1 (by decide))]
    exact a5.ag y (nn _ (by omega) (by omega)) (nn _ (by omega) (by omega))
  · rw [sL_L, if_pos ⟨rfl, rfl⟩]
    exact c
  · rw [sL_L, if_neg (fun z => absurd z.1 (by decide))]
    exact a7.ag y (nn _ (by omega) (by omega)) (nn _ (by omega) (by omega))
theorem r_sayC (x : RW B E S li od h) (c : Int32) : ∃ h', fX5_sayCharacter (B + 79) c h = some ((), h') ∧ RW B E (sayC S c) li od h' := by
  obtain ⟨l, c0⟩ := x.2.2.2.2.2.2.2.2.1.2.1
  obtain ⟨h1, a1, c1, g1⟩ := c_clear c0
  have x1 := x.scr g1 c1 (Or.inr (Or.inl ⟨rfl, rfl⟩))
  have e4 := fun {h} (y : RW B E S li od h) => y.fp (o := 79) (f := 4) (q := 86) (t := 4) (by decide) (by decide)
  have key : ∃ h2, (if c = (32 : Int32) then ((oGR 4 4 (some (B + 79)) h1).bind fun x9 => (oOb 0 x9 h1).bind fun b => o2 (fX1_part_ b 36 h1) fun _ h11 => some h11) else (oGR 4 4 (some (B + 79)) h1).bind fun x6 => (oOb 0 x6 h1).bind fun b => o2 (fX1_put b c h1) fun _ h8 => some h8) = some h2 ∧ Cd h2 (B + 86) 80 (if c = 32 then [115, 112, 97, 99, 101] else [c]) ∧ Ag [B + 86, B + 86 + 1] h1 h2 := by
    by_cases q : c = 32
    · obtain ⟨h2, a2, c2, g2⟩ := c_text c1 (i := 36) (by decide) (by show 0 + 1 + 5 ≤ 80; decide)
      rw [show pt [] (txt 36) = [115, 112, 97, 99, 101] from by decide] at c2
      refine ⟨h2, ?_, by rw [if_pos q]; exact c2, g2⟩
      rw [if_pos q, e4 x1, sb, c1.ob, sb, a2, o2s]
    · obtain ⟨h2, a2, c2, g2⟩ := c_put c1 (by decide) c
      refine ⟨h2, ?_, by rw [if_neg q]; exact c2, g2⟩
      rw [if_neg q, e4 x1, sb, c1.ob, sb, a2, o2s]
  obtain ⟨h2, a2, c2, g2⟩ := key
  have x2 := x1.scr g2 c2 (Or.inr (Or.inl ⟨rfl, rfl⟩))
  obtain ⟨h3, a3, x3⟩ := r_ans x2 c2
  refine ⟨h3, ?_, x3⟩
  unfold fX5_sayCharacter
  rw [e4 x, sb, c0.ob, sb, a1, o2s, a2, sb, x2.fp (o := 79) (f := 1) (q := 12) (t := 4) (by decide) (by decide), sb, e4 x2, sb, x2.vs.ob, sb, a3, o2s]
theorem RW.w24 (x : RW B E S li od h) (v : Int32) : RW B E (wSI S 24 0 v) li od (wI h (B + 85) 2 v) := by
  refine x.tpy (Ag.wI (List.mem_singleton.mpr rfl)) (Sd.I (by decide)) ?_ (fun z => ⟨?_, ?_⟩)
  · rw [hI_n _ _ _ (by decide), sI_N (by decide)]
    exact x.2.2.1.n 85 0 22 (by decide)
  · rw [sI_N (by decide)] at z
    rw [hI_n _ _ _ (by decide), sI_N (by decide)]
    exact (x.2.2.1.2.1 z).1
  · rw [hI_s, sI_I, if_pos ⟨rfl, rfl⟩]
theorem RW.w23 (x : RW B E S li od h) (v : Int32) : RW B E (wSI S 23 0 v) li od (wI h (B + 85) 1 v) := by
  refine x.tpy (Ag.wI (List.mem_singleton.mpr rfl)) (Sd.I (by decide)) ?_ (fun z => ⟨?_, ?_⟩)
  · rw [hI_n _ _ _ (by decide), sI_N (by decide)]
    exact x.2.2.1.n 85 0 22 (by decide)
  · rw [hI_s, sI_I, if_pos ⟨rfl, rfl⟩]
  · rw [sI_N (by decide)] at z
    rw [hI_n _ _ _ (by decide), sI_N (by decide)]
    exact (x.2.2.1.2.1 z).2
theorem r_typed (x : RW B E S li od h) (c : Int32) : ∃ h', fX8_typed (B + 85) c h = some ((), h') ∧ RW B E (tpd S c) li od h' := by
  have t := x.1.t 85 8 (by decide)
  have x1 := x.w23 0
  have x2 := x1.w24 0
  have hc : oPZ 7 1 (some (B + 85)) (0 : Int32) h = some (wI h (B + 85) 1 0) := oPZ_ok t (Or.inl rfl)
  have hc2 : oPZ 7 2 (some (B + 85)) (0 : Int32) (wI h (B + 85) 1 0) = some (wI (wI h (B + 85) 1 0) (B + 85) 2 0) := oPZ_ok t (Or.inl rfl)
  unfold fX8_typed tpd
  rw [b_isS, sb, bI_i]
  by_cases q1 : isS c = true
  · rw [if_pos q1, if_pos (Or.inl q1), hc, sb, hc2, sb]
    exact ⟨_, rfl, x2⟩
  · rw [if_neg q1, b_isG, sb, bI_i]
    by_cases q2 : isG c = true
    · rw [if_pos q2, if_pos (Or.inr q2), hc, sb, hc2, sb]
      exact ⟨_, rfl, x2⟩
    · rw [if_neg q2, if_neg (show ¬ (isS c = true ∨ isG c = true) from fun z => z.elim q1 q2)]
      by_cases q3 : c = 32
      · rw [if_pos q3, if_pos q3, oPZ_ok t (Or.inl rfl), sb]
        exact ⟨_, rfl, x.w24 0⟩
      · rw [if_neg q3, if_neg q3]
        exact ⟨h, rfl, x⟩
theorem r_typeC (x : RW B E S li od h) (hL : WL S) (hC : WC S) (h4 : sI S 2 (cur S) = 4) {c : Int32} (hc : c ≠ -1) : ∃ h', fX5_typeCharacter (B + 79) c h = some ((), h') ∧ RW B E (if full S = true then cAns S [102, 117, 108, 108] else sayC (tpd (wSL S 8 (cur S) (sL S 8 (cur S) ++ [c])) c) c) li od h' := by
  have hlt := hC.2.lt
  have cc := x.es.cc hlt
  have hcap : capC S (cur S) = 12 := by unfold capC; rw [if_pos h4]
  rw [hcap] at cc
  have l12 := (hL (cur S)).2.1
  unfold fX5_typeCharacter full
  rw [if_neg hc, x.cu, sb, x.es.cont hlt, sb, cc.ob, sb, c_size cc, sb]
  by_cases q : (sL S 8 (cur S)).length = 12
  · obtain ⟨h1, a1, x1⟩ := r_say x (i := 37) (by decide) (by decide)
    rw [tx_w.2.2.2.2.2.2.2] at x1
    rw [q, if_neg (show ¬ nI 12 < (12 : Int32) by decide), decide_eq_true rfl, if_pos rfl, x.ob79, sb, a1, o2s]
    exact ⟨h1, rfl, x1⟩
  · obtain ⟨h1, a1, c1, g1⟩ := c_put cc (by omega) c
    have x1 := x.w8 hlt g1 (by rw [hcap]; exact c1)
    obtain ⟨h2, a2, x2⟩ := r_typed x1 c
    obtain ⟨h3, a3, x3⟩ := r_sayC x2 c
    rw [if_pos (show nI (sL S 8 (cur S)).length < (12 : Int32) from nI_lt (b := 12) (by omega) (by decide)), decide_eq_false q, if_neg (by decide), sb, x.es.cont hlt, sb, cc.ob, sb, a1, o2s, x1.fp (o := 79) (f := 3) (q := 85) (t := 4) (by decide) (by decide), sb, x1.fo (o := 85) (t := 7) (by decide), sb, a2, o2s, x2.ob79, sb, a3, o2s]
    exact ⟨h3, rfl, x3⟩
theorem r_takeB (x : RW B E S li od h) (hL : WL S) (hC : WC S) : ∃ h', fX5_takeBack (B + 79) h = some ((), h') ∧ RW B E (tkB S) li od h' := by
  have hlt := hC.2.lt
  have cc := x.es.cc hlt
  have l12 := (hL (cur S)).2.1
  unfold fX5_takeBack tkB
  rw [x.cu, sb, x.es.cont hlt, sb, cc.ob, sb, c_size cc, sb]
  by_cases q : (sL S 8 (cur S)).length = 0
  · obtain ⟨h1, a1, x1⟩ := r_say x (i := 31) (by decide) (by decide)
    rw [tx_w.2.1] at x1
    rw [q, if_pos (show nI 0 = 0 from rfl), if_pos rfl, x.ob79, sb, a1, o2s]
    exact ⟨h1, rfl, x1⟩
  · obtain ⟨h1, a1, c1, g1⟩ := c_takeLast cc (by omega)
    have x1 := x.w8 hlt g1 c1
    obtain ⟨h3, a3, x3⟩ := r_sayC x1 (ge (sL S 8 (cur S)) ((sL S 8 (cur S)).length - 1))
    have ea : fX1_at (E (cur S) + 4) (nI (sL S 8 (cur S)).length - 1) h = some (ge (sL S 8 (cur S)) ((sL S 8 (cur S)).length - 1)) := by
      rw [show (1 : Int32) = nI 1 from rfl, nI_sub (by omega)]
      exact c_at cc (by omega)
    rw [if_neg (nI_ne0 (by omega) (by omega)), if_neg q, sb, x.es.cont hlt, sb, cc.ob, sb, ea, sb, sb, x.es.cont hlt, sb, cc.ob, sb, a1, o2s, x1.ob79, sb, a3, o2s]
    exact ⟨h3, rfl, x3⟩
theorem sayC_c {k : Nat} (v c : Int32) (h38 : k ≠ 38) (h44 : k ≠ 44) : sayC (wSI S k 0 v) c = wSI (sayC S c) k 0 v := by
  unfold sayC
  exact cAns_c v _ h38 h44
theorem r_charOf (x : RW B E S li od h) (hz : sI S 22 0 ≠ 0) (p : Int32) : fX8_characterOf (B + 85) p h = some (if p = 256 then 32 else match lto p with
    | some j => if sI S 23 0 = 0 then (if sI S 24 0 = 0 then 97 + nI j else if 10 ≤ nI j then 97 + nI j else if nI j = 9 then 48 else 49 + nI j) else 65 + nI j
    | none => if p = 2 then 44 else if p = 36 then 45 else if p = 38 then 63 else if p = 50 then 46 else -1) := by
  obtain ⟨f1, f2⟩ := x.2.2.1.2.1 hz
  have t := x.1.t 85 8 (by decide)
  have e1 : oGI 7 1 (some (B + 85)) h = some (sI S 23 0) := hgI t f1
  have e2 : oGI 7 2 (some (B + 85)) h = some (sI S 24 0) := hgI t f2
  unfold fX8_characterOf
  by_cases q : p = 256
  · rw [if_pos q, if_pos q]
  · rw [if_neg q, if_neg q, b_lto, sb]
    cases hl : lto p with
    | none =>
      show (if (-1 : Int32) = -1 then _ else _) = _
      rw [if_pos rfl]
      unfold fX0_characterOfSign
      by_cases q2 : p = 2
      · rw [if_pos q2, sb]
        show _ = some (if p = 2 then _ else _)
        rw [if_pos q2]
      · rw [if_neg q2]
        show _ = some (if p = 2 then _ else _)
        rw [if_neg q2]
        by_cases q3 : p = 36
        · rw [if_pos q3, sb, if_pos q3]
        · rw [if_neg q3, if_neg q3]
          by_cases q4 : p = 38
          · rw [if_pos q4, sb, if_pos q4]
          · rw [if_neg q4, if_neg q4]
            by_cases q5 : p = 50
            · rw [if_pos q5, sb, if_pos q5]
            · rw [if_neg q5, sb, if_neg q5]
    | some j =>
      have hj := lto_lt hl
      rw [show rI (some j) = nI j from rfl]
      show (if nI j = -1 then _ else _) = some (if sI S 23 0 = 0 then (if sI S 24 0 = 0 then 97 + nI j else if 10 ≤ nI j then 97 + nI j else if nI j = 9 then 48 else 49 + nI j) else 65 + nI j)
      rw [if_neg (nI_m1 (by omega)), e1, sb]
      by_cases q1 : sI S 23 0 = 0
      · rw [if_pos q1, if_pos q1, e2, sb]
        by_cases q2 : sI S 24 0 = 0
        · rw [if_pos q2, if_pos q2]
        · rw [if_neg q2, if_neg q2]
          by_cases q3 : (10 : Int32) ≤ nI j
          · rw [if_pos q3, if_pos q3]
          · rw [if_neg q3, if_neg q3]
            by_cases q4 : nI j = 9
            · rw [if_pos q4, if_pos q4]
            · rw [if_neg q4, if_neg q4]
      · rw [if_neg q1, if_neg q1]
theorem lt_facts : ∀ j, j < 26 → (isS (97 + nI j) = true ∧ isG (65 + nI j) = true ∧ (97 : Int32) + nI j ≠ -1 ∧ (65 : Int32) + nI j ≠ -1) ∧ (j < 10 → isS (49 + nI j) = false ∧ isG (49 + nI j) = false ∧ (49 : Int32) + nI j ≠ 32 ∧ (49 : Int32) + nI j ≠ -1) := by decide +kernel
theorem tpd_n (T : SS) {c : Int32} (h1 : isS c = false) (h2 : isG c = false) (h3 : c ≠ 32) : tpd T c = T := by
  unfold tpd
  rw [if_neg (fun z => z.elim (by rw [h1]; decide) (by rw [h2]; decide)), if_neg h3]
theorem typ_of (S : SS) (c : Int32) : typ S c = (if full S = true then cAns S [102, 117, 108, 108] else sayC (wSL S 8 (cur S) (sL S 8 (cur S) ++ [c])) c) := by
  unfold typ full
  by_cases q : (sL S 8 (cur S)).length = 12
  · rw [if_pos q, decide_eq_true q, if_pos rfl]
  · rw [if_neg q, decide_eq_false q, if_neg (by decide)]
theorem r_tnum (x : RW B E S li od h) (hL : WL S) (hC : WC S) (h4 : sI S 2 (cur S) = 4) {c : Int32} (hc : c ≠ -1) (h1 : isS c = false) (h2 : isG c = false) (h3 : c ≠ 32) : ∃ h', fX5_typeCharacter (B + 79) c h = some ((), h') ∧ RW B E (typ S c) li od h' := by
  have := r_typeC x hL hC h4 hc
  rw [tpd_n _ h1 h2 h3, ← typ_of] at this
  exact this
theorem r_tlet (x : RW B E S li od h) (hL : WL S) (hC : WC S) (h4 : sI S 2 (cur S) = 4) {c : Int32} (hc : c ≠ -1) (h1 : isS c = true ∨ isG c = true) : ∃ h', fX5_typeCharacter (B + 79) c h = some ((), h') ∧ RW B E (if full S = true then typ S 0 else wSI (wSI (typ S c) 23 0 0) 24 0 0) li od h' := by
  have := r_typeC x hL hC h4 hc
  have e : (if full S = true then typ S 0 else wSI (wSI (typ S c) 23 0 0) 24 0 0) = (if full S = true then cAns S [102, 117, 108, 108] else sayC (tpd (wSL S 8 (cur S) (sL S 8 (cur S) ++ [c])) c) c) := by
    rw [typ_of, typ_of]
    by_cases q : full S = true
    · rw [if_pos q, if_pos q, if_pos q]
    · rw [if_neg q, if_neg q, if_neg q]
      unfold tpd
      rw [if_pos h1, sayC_c 0 c (by decide) (by decide), sayC_c 0 c (by decide) (by decide)]
  rw [e]; exact this
theorem r_tspc (x : RW B E S li od h) (hL : WL S) (hC : WC S) (h4 : sI S 2 (cur S) = 4) : ∃ h', fX5_typeCharacter (B + 79) 32 h = some ((), h') ∧ RW B E (if full S = true then typ S 32 else wSI (typ S 32) 24 0 0) li od h' := by
  have := r_typeC x hL hC h4 (c := 32) (by decide)
  have e : (if full S = true then typ S 32 else wSI (typ S 32) 24 0 0) = (if full S = true then cAns S [102, 117, 108, 108] else sayC (tpd (wSL S 8 (cur S) (sL S 8 (cur S) ++ [32])) 32) 32) := by
    rw [typ_of]
    by_cases q : full S = true
    · rw [if_pos q, if_pos q, if_pos q]
    · rw [if_neg q, if_neg q, if_neg q]
      have : tpd (wSL S 8 (cur S) (sL S 8 (cur S) ++ [32])) 32 = wSI (wSL S 8 (cur S) (sL S 8 (cur S) ++ [32])) 24 0 0 := by
        unfold tpd
        rw [if_neg (by decide), if_pos rfl]
      rw [this, sayC_c 0 32 (by decide) (by decide)]
  rw [e]; exact this
theorem r_type (x : RW B E S li od h) {c : Nat} (hI : Inv0 S c) (hz : sI S 22 0 ≠ 0) (p : Int32) : ∃ h', fX5_type (B + 79) p h = some ((), h') ∧ RW B E (typS S p) li od h' := by
  have hCo := hI.1
  have hW := hCo.t
  have hL := hCo.l
  have hC := hCo.c
  have h4 : sI S 2 (cur S) = 4 := hCo.xt.elim (fun z => absurd z hz) (fun z => z.1)
  have t := x.1.t 85 8 (by decide)
  have e3 : oGR 4 3 (some (B + 79)) h = some (some (B + 85)) := x.fp (by decide) (by decide)
  have o85 : oOb 7 (some (B + 85)) h = some (B + 85) := x.fo (by decide)
  have pre : ∀ q1 : p ≠ 32, p ≠ 48 → p ≠ 60 → fX8_takesSign (B + 85) p h = some (0, h) := fun q1 q2 q3 => by
    unfold fX8_takesSign
    rw [if_neg q1, if_neg q2, if_neg q3]
  unfold fX5_type
  rw [e3, sb, o85, sb]
  by_cases q32 : p = 32
  · have hl : lto 32 = none := by decide +kernel
    unfold fX8_takesSign typS
    rw [if_pos q32, oPZ_ok t (Or.inr rfl), sb, o2s, if_neg (by decide), q32, hl]
    show ∃ h', _ ∧ RW B E (if (32 : Int32) = 32 then _ else _) li od h'
    rw [if_pos rfl]
    exact ⟨_, rfl, x.w23 1⟩
  by_cases q48 : p = 48
  · have hl : lto 48 = none := by decide +kernel
    unfold fX8_takesSign typS
    rw [if_neg q32, if_pos q48, oPZ_ok t (Or.inl rfl), sb, o2s, if_neg (by decide), q48, hl]
    show ∃ h', _ ∧ RW B E (if (48 : Int32) = 32 then _ else if (48 : Int32) = 60 then _ else if (48 : Int32) = 48 then _ else _) li od h'
    rw [if_neg (by decide), if_neg (by decide), if_pos rfl]
    exact ⟨_, rfl, x.w24 0⟩
  by_cases q60 : p = 60
  · have hl : lto 60 = none := by decide +kernel
    unfold fX8_takesSign typS
    rw [if_neg q32, if_neg q48, if_pos q60, oPZ_ok t (Or.inr rfl), sb, o2s, if_neg (by decide), q60, hl]
    show ∃ h', _ ∧ RW B E (if (60 : Int32) = 32 then _ else if (60 : Int32) = 60 then _ else _) li od h'
    rw [if_neg (by decide), if_pos rfl]
    exact ⟨_, rfl, x.w24 1⟩
  rw [pre q32 q48 q60, o2s, if_pos rfl]
  by_cases q64 : p = 64
  · have hl : lto 64 = none := by decide +kernel
    obtain ⟨h1, a1, x1⟩ := r_takeB x hL hC
    have es : typS S 64 = tkB S := by
      unfold typS
      rw [hl]; rfl
    rw [if_pos q64, x.ob79, sb, a1, o2s, q64, es]
    exact ⟨h1, rfl, x1⟩
  rw [if_neg q64]
  by_cases q128 : p = 128
  · have hl : lto 128 = none := by decide +kernel
    have es : typS S 128 = cAns (wSI S 22 0 0) (wd S (cur S) []) := by
      unfold typS
      rw [hl]; rfl
    obtain ⟨h1, a1, x1⟩ := r_end x
    have s1 : Sd [22] [] [] S (wSI S 22 0 0) := Sd.I (by decide)
    have hW1 : WT (wSI S 22 0 0) := hW.cg (s1.i 0 rfl) (s1.i 1 rfl) (s1.i 2 rfl) (s1.i 3 rfl) (s1.i 12 rfl) s1.2.2.2
    obtain ⟨h2, a2, x2, c2⟩ := r_words x1 hW1 (hL.sd s1 rfl rfl rfl) (i := cur S) ((th_cg (s1.i 0 rfl) (s1.i 1 rfl) _).mpr hC.2)
    rw [wd_cg (s1.i 2 rfl) (s1.i 3 rfl) (s1.i 10 rfl) (s1.i 12 rfl) (s1.i 13 rfl) (s1.l 6 rfl) (s1.l 8 rfl) s1.2.2.2] at c2
    obtain ⟨h3, a3, x3⟩ := r_ans x2 c2
    have ecu := x1.cu
    rw [cur_cg (s1.i 20 rfl)] at ecu
    rw [if_pos q128, e3, sb, o85, sb, a1, o2s, x1.fp (o := 79) (f := 1) (q := 12) (t := 4) (by decide) (by decide), sb, ecu, sb, x1.ob79, sb, a2, o2s, x2.vs.ob, sb, a3, o2s, q128, es]
    exact ⟨h3, rfl, x3⟩
  rw [if_neg q128, e3, sb, o85, sb, r_charOf x hz, sb, x.ob79, sb]
  by_cases q256 : p = 256
  · have hl : lto 256 = none := by decide +kernel
    have es : typS S 256 = (if full S = true then typ S 32 else wSI (typ S 32) 24 0 0) := by
      unfold typS
      rw [hl]; rfl
    obtain ⟨h1, a1, x1⟩ := r_tspc x hL hC h4
    rw [if_pos q256, a1, o2s, q256, es]
    exact ⟨h1, rfl, x1⟩
  rw [if_neg q256]
  cases hl : lto p with
  | some j =>
    have hj := lto_lt hl
    obtain ⟨⟨f1, f2, f3, f4⟩, f5⟩ := lt_facts j hj
    have es : typS S p = typL S j := by unfold typS; rw [hl]
    rw [es]
    unfold typL
    show ∃ h', o2 (fX5_typeCharacter (B + 79) (if sI S 23 0 = 0 then (if sI S 24 0 = 0 then 97 + nI j else if 10 ≤ nI j then 97 + nI j else if nI j = 9 then 48 else 49 + nI j) else 65 + nI j) h) _ = _ ∧ _
    by_cases q1 : sI S 23 0 = 0
    · rw [if_pos q1]
      by_cases q2 : sI S 24 0 = 0
      · obtain ⟨h1, a1, x1⟩ := r_tlet x hL hC h4 f3 (Or.inl f1)
        rw [if_pos q2, if_neg (fun z => z.1 q2), if_pos q1, a1, o2s]
        exact ⟨h1, rfl, x1⟩
      · rw [if_neg q2]
        by_cases q3 : j < 10
        · obtain ⟨u1, u2, u3, u4⟩ := f5 q3
          rw [if_neg (show ¬ (10 : Int32) ≤ nI j from nI_ge (b := 10) q3 (by decide)), if_pos (show sI S 24 0 ≠ 0 ∧ sI S 23 0 = 0 ∧ j < 10 from ⟨q2, q1, q3⟩)]
          by_cases q4 : j = 9
          · obtain ⟨h1, a1, x1⟩ := r_tnum x hL hC h4 (c := 48) (by decide) (by decide) (by decide) (by decide)
            rw [if_pos (show nI j = 9 by rw [q4]; rfl), if_pos q4, a1, o2s]
            exact ⟨h1, rfl, x1⟩
          · obtain ⟨h1, a1, x1⟩ := r_tnum x hL hC h4 u4 u1 u2 u3
            rw [if_neg (show ¬ nI j = 9 from fun z => q4 ((nI_eq (b := 9) (by omega) (by decide)).mp z)), if_neg q4, a1, o2s]
            refine ⟨h1, rfl, ?_⟩
            rw [← nI_add]; exact x1
        · obtain ⟨h1, a1, x1⟩ := r_tlet x hL hC h4 f3 (Or.inl f1)
          rw [if_pos (show (10 : Int32) ≤ nI j from nI_le (a := 10) (by omega) (by omega)), if_neg (fun z => q3 z.2.2), if_pos q1, a1, o2s]
          exact ⟨h1, rfl, x1⟩
    · obtain ⟨h1, a1, x1⟩ := r_tlet x hL hC h4 f4 (Or.inr f2)
      rw [if_neg q1, if_neg (fun z => q1 z.2.1), if_neg q1, a1, o2s]
      exact ⟨h1, rfl, x1⟩
  | none =>
    have es : typS S p = (if p = 32 then wSI S 23 0 1 else if p = 60 then wSI S 24 0 1 else if p = 48 then wSI S 24 0 0 else if p = 50 then typ S 46 else if p = 2 then typ S 44 else if p = 38 then typ S 63 else if p = 36 then typ S 45 else if p = 256 then (if full S = true then typ S 32 else wSI (typ S 32) 24 0 0) else if p = 64 then tkB S else if p = 128 then cAns (wSI S 22 0 0) (wd S (cur S) []) else S) := by
      unfold typS; rw [hl]
    rw [es, if_neg q32, if_neg q60, if_neg q48]
    show ∃ h', o2 (fX5_typeCharacter (B + 79) (if p = 2 then 44 else if p = 36 then 45 else if p = 38 then 63 else if p = 50 then 46 else -1) h) _ = _ ∧ _
    by_cases u2 : p = 2
    · obtain ⟨h1, a1, x1⟩ := r_tnum x hL hC h4 (c := 44) (by decide) (by decide) (by decide) (by decide)
      rw [if_pos u2, if_neg (by rw [u2]; decide), if_pos u2, a1, o2s]
      exact ⟨h1, rfl, x1⟩
    by_cases u36 : p = 36
    · obtain ⟨h1, a1, x1⟩ := r_tnum x hL hC h4 (c := 45) (by decide) (by decide) (by decide) (by decide)
      rw [if_neg u2, if_pos u36, if_neg (by rw [u36]; decide), if_neg u2, if_neg (by rw [u36]; decide), if_pos u36, a1, o2s]
      exact ⟨h1, rfl, x1⟩
    by_cases u38 : p = 38
    · obtain ⟨h1, a1, x1⟩ := r_tnum x hL hC h4 (c := 63) (by decide) (by decide) (by decide) (by decide)
      rw [if_neg u2, if_neg u36, if_pos u38, if_neg (by rw [u38]; decide), if_neg u2, if_pos u38, a1, o2s]
      exact ⟨h1, rfl, x1⟩
    by_cases u50 : p = 50
    · obtain ⟨h1, a1, x1⟩ := r_tnum x hL hC h4 (c := 46) (by decide) (by decide) (by decide) (by decide)
      rw [if_neg u2, if_neg u36, if_neg u38, if_pos u50, if_pos u50, a1, o2s]
      exact ⟨h1, rfl, x1⟩
    rw [if_neg u2, if_neg u36, if_neg u38, if_neg u50, if_neg u50, if_neg u2, if_neg u38, if_neg u36, if_neg q256, if_neg q64, if_neg q128]
    unfold fX5_typeCharacter
    rw [if_pos rfl, o2s]
    exact ⟨h, rfl, x⟩
end TP

/-! ===== the law asks the desk ===== -/
theorem wCs {ρ : Type} {x : ρ} {K : ρ → Prop} : wC (some (.inl x)) K = K x := propext ⟨fun h => okB_some (P := fun q : ρ ⊕ String => match q with
  | .inl x => K x
  | .inr _ => False) h, fun h => ⟨.inl x, rfl, h⟩⟩
theorem wXs {ρ : Type} {x : ρ} {h : hp} {K : ρ → hp → Prop} : wX (some (.inl x, h)) K = K x h := propext ⟨fun z => okB_some (P := fun p : (ρ ⊕ String) × hp => match p.1 with
  | .inl x => K x p.2
  | .inr _ => False) (b := (.inl x, h)) z, fun z => ⟨(.inl x, h), rfl, z⟩⟩
theorem wE_l {x : Int32} {h : hp} {K : Int32 → hp → Prop} (z : K x h) : wE (some (.inl x, h)) K := ⟨(.inl x, h), rfl, z⟩
theorem wE_r {E : String} {h : hp} {K : Int32 → hp → Prop} (hE : E = exI ∨ E = exA ∨ E = exS) (z : ∀ n, hN h ≤ n → K (thC E) (wS h n)) : wE (some (.inr E, h)) K := ⟨(.inr E, h), rfl, hE, z⟩
theorem elt_y {S : SS} {i : Nat} (hi : th S i) (hl : i < 2 ^ 31) : elt S (nI i) = true := by
  unfold elt
  rw [show (nI i).toNatClampNeg = i from nI_clamp hl, decide_eq_true hi.2, Bool.and_true]
  have := hi.lt
  unfold inb
  rw [nI_toInt hl]
  exact decide_eq_true ⟨by omega, by omega⟩
theorem elt_n {S : SS} {i : Nat} (hi : ¬ th S i) (hl : i < 2 ^ 31) : elt S (nI i) = false := by
  cases h : elt S (nI i)
  · rfl
  · refine absurd ?_ hi
    unfold elt at h
    simp only [Bool.and_eq_true, decide_eq_true_eq] at h
    have h2 := h.2
    rw [nI_clamp hl] at h2
    refine ⟨?_, h2⟩
    have h1 := h.1
    unfold inb at h1
    have := (of_decide_eq_true h1).2
    rw [nI_toInt hl] at this
    omega
/-- an ask that is answered -/
theorem CQ.w {S : SS} {es : List String} {f : Option (Int32 ⊕ String)} {r : aS} (q : CQ S es f r) (hl : es.length < 2 ^ 30) (h0 : r.1 = 0) : f = some (.inl r.2.1) := by
  obtain ⟨⟨a, h1, h2⟩, -⟩ := q
  rcases h2 with ⟨-, h3⟩ | ⟨k, k1, k2, -⟩
  · rw [h1, h3]
  · rw [h0] at k2
    exact absurd k2.symm (nI_ne0 (by omega) (by omega))
theorem CS.w {B : Nat} {es : List String} {f : Option ((Int32 ⊕ String) × hp)} {r : aS} (q : CS B es f r) (hl : es.length < 2 ^ 30) (h0 : r.1 = 0) : ∃ E' h', f = some (.inl r.2.1, h') ∧ RC B E' r.2.2 h' := by
  obtain ⟨E', a, h', h1, h2, h3⟩ := q
  rcases h2 with ⟨-, h4⟩ | ⟨k, k1, k2, -⟩
  · exact ⟨E', h', by rw [h1, h4], h3⟩
  · rw [h0] at k2
    exact absurd k2.symm (nI_ne0 (by omega) (by omega))
theorem CS.v {B : Nat} {es : List String} {f : Option ((Int32 ⊕ String) × hp)} {r : aS} {v : Int32} {S' : SS} (q : CS B es f r) (hl : es.length < 2 ^ 30) (hr : r = rt v S') : ∃ E' h', f = some (.inl v, h') ∧ RC B E' S' h' := by
  have := q.w hl (by rw [hr]; rfl)
  rw [hr] at this
  exact this
/-- a call that may be refused -/
theorem CS.e {B : Nat} {es : List String} {f : Option ((Int32 ⊕ String) × hp)} {r : aS} (q : CS B es f r) (hes : ∀ e ∈ es, e = exI ∨ e = exA ∨ e = exS) {K : Int32 → hp → Prop} (h0 : r.1 = 0 → ∀ E' h', RC B E' r.2.2 h' → K r.2.1 h') (h1 : ∀ k, k < es.length → r.1 = nI (k + 1) → ∀ E' h' n, RC B E' r.2.2 h' → hN h' ≤ n → K (thC (es.getD k "")) (wS h' n)) : wE f K := by
  obtain ⟨E', a, h', e1, e2, e3⟩ := q
  rw [e1]
  rcases e2 with ⟨z, rfl⟩ | ⟨k, k1, k2, rfl⟩
  · exact wE_l (h0 z E' h' e3)
  · refine wE_r (hes _ ?_) (fun n hn => h1 k k1 k2 E' h' n e3 hn)
    rw [List.getD_eq_getElem?_getD, List.getElem?_eq_getElem k1]
    exact List.getElem_mem k1
section GR
variable {B : Nat} {E : Nat → Nat} {S : SS} {li : List Int32} {od : List Nat} {h h' : hp}
theorem gw_S {n : Nat} (hn : hN h ≤ n) : Gw h (wS h n) := ⟨hn, fun a _ => ⟨rfl, fun _ => rfl, fun _ => rfl⟩, fun a _ k => rfl⟩
theorem gw_N (t : Nat × Nat) : Gw h (wN h t) := by
  refine ⟨?_, fun a ha => ⟨?_, fun k => ?_, fun k => ?_⟩, fun a ha k => ?_⟩
  · show h.1 ≤ h.1 + 1
    omega
  · exact if_neg (show ¬ a = h.1 by have : a < h.1 := ha; omega)
  · exact if_neg (show ¬ a = h.1 by have : a < h.1 := ha; omega)
  · exact if_neg (show ¬ a = h.1 by have : a < h.1 := ha; omega)
  · exact if_neg (show ¬ a = h.1 by have : a < h.1 := ha; omega)
theorem Gw.tr {h1 h2 : hp} (x : Gw h h1) (y : Gw h1 h2) : Gw h h2 := ⟨Nat.le_trans x.1 y.1, fun a ha => by
  have h1 := x.2.1 a ha
  have h2 := y.2.1 a (Nat.lt_of_lt_of_le ha x.1)
  exact ⟨h2.1.trans h1.1, fun k => (h2.2.1 k).trans (h1.2.1 k), fun k => (h2.2.2 k).trans (h1.2.2 k)⟩, fun a ha k => (y.2.2 a (Nat.lt_of_lt_of_le ha x.1) k).trans (x.2.2 a ha k)⟩
/-- the class's cells all lie below n -/
theorem RW.shr (x : RW B E S li od h) {n : Nat} (hn : B + 96 ≤ n) (he : ∀ i, 0 < i → i < made S → E i + 8 ≤ n) : RW B E S li od (wS h n) := by
  obtain ⟨a1, ⟨b1, b2, b3, b4⟩, a3⟩ := x
  exact ⟨a1, ⟨b1, hn, fun i h1 h2 => ⟨(b3 i h1 h2).1, he i h1 h2⟩, b4⟩, a3⟩
theorem gw_sw {a : Nat} (ha : a ≤ hN h) (f : Nat → Int32) : Gw (wS h a) (sw h a f) := ⟨ha, fun b hb => ⟨rfl, fun k => sw_Io h f (by have : b < a := hb; omega) k, fun k => rfl⟩, fun b _ k => rfl⟩
/-- a row of the law's that lies behind all cells of the class -/
theorem RW.sw (x : RW B E S li od h) {a : Nat} (ha : B + 96 ≤ a) (he : ∀ i, 0 < i → i < made S → E i + 8 ≤ a) (hN' : a ≤ hN h) (f : Nat → Int32) : RW B E S li od (sw h a f) := (x.shr ha he).grow (gw_sw hN' f)
theorem RW.e8 (x : RW B E S li od h) : ∀ i, 0 < i → i < made S → E i + 8 ≤ hN h := fun i h1 h2 => (x.2.1.2.2.1 i h1 h2).2
theorem RW.hb (x : RW B E S li od h) : B + 96 ≤ hN h := x.2.1.2.1
/-- what these asks leave alone -/
def Fr (B : Nat) (h h' : hp) : Prop := hN h' = hN h ∧ (∀ a, hT h' a = hT h a) ∧ (∀ a k, hJ h' a k = hJ h a k) ∧ ∀ a, B + 90 ≤ a → hI h' a = hI h a
theorem Ag.fr {as : List Nat} (x : Ag as h h') (ha : ∀ a ∈ as, a < B + 90) : Fr B h h' := ⟨x.1, fun a => by rw [x.T], fun a k => by unfold hJ; rw [x.2.2.1], fun a h1 => (x.2.2.2 a (fun z => by have := ha a z; omega)).1⟩
theorem Fr.rf : Fr B h h := ⟨rfl, fun _ => rfl, fun _ _ => rfl, fun _ _ => rfl⟩
theorem Fr.tr {h1 h2 : hp} (x : Fr B h h1) (y : Fr B h1 h2) : Fr B h h2 := ⟨y.1.trans x.1, fun a => (y.2.1 a).trans (x.2.1 a), fun a k => (y.2.2.1 a k).trans (x.2.2.1 a k), fun a ha => (y.2.2.2 a ha).trans (x.2.2.2 a ha)⟩
theorem Fr.lq {m : LY} (x : Fr B h h') (q : LQ B h m) : LQ B h' m := fun j hj => by
  obtain ⟨a, b, c⟩ := q j hj
  refine ⟨by rw [x.2.1]; exact a, fun k => by rw [x.2.2.2 _ (by omega)]; exact b k, fun k => by rw [x.2.2.1]; exact c k⟩
theorem r_wordsA (x : RW B E S li od h) (hW : WT S) (hL : WL S) {i : Nat} (hi : th S i) : ∃ h', fX5_wordsOf (B + 79) (some (E i)) h = some (some (B + 86), h') ∧ RW B E S li od h' ∧ Cd h' (B + 86) 80 (wd S i []) ∧ Fr B h h' := by
  obtain ⟨l, c0⟩ := x.2.2.2.2.2.2.2.2.1.2.1
  obtain ⟨h1, a1, c1, g1⟩ := c_clear c0
  have x1 := x.scr g1 c1 (Or.inr (Or.inl ⟨rfl, rfl⟩))
  have e4 := fun {h} (y : RW B E S li od h) => y.fp (o := 79) (f := 4) (q := 86) (t := 4) (by decide) (by decide)
  obtain ⟨h2, a2, c2, g2⟩ := e_words x1.es hW hL hi (x1.out (b := B + 86) (by omega) (by omega)) c1 (by decide)
  have x2 := x1.scr g2 c2 (Or.inr (Or.inl ⟨rfl, rfl⟩))
  refine ⟨h2, ?_, x2, c2, (g1.tr g2).fr (fun a ha => by simp only [List.mem_cons, List.not_mem_nil, or_false] at ha; omega)⟩
  unfold fX5_wordsOf
  rw [e4 x, sb, c0.ob, sb, a1, o2s, e4 x1, sb, x1.es.ob hi.lt, sb, a2, o2s, e4 x2, sb]
theorem c_wordsA (x : RC B E S h) (hC : Core S) {i : Nat} (hi : th S i) (q : shn S i = true) : ∃ h', fX10_wordsOf B (some (E i)) h = some (.inl (some (B + 86)), h') ∧ RC B E S h' ∧ Cd h' (B + 86) 80 (wd S i []) ∧ Fr B h h' := by
  obtain ⟨h1, a1, x1, c1, f1⟩ := r_wordsA x hC.t hC.l hi
  refine ⟨h1, ?_, x1, c1, f1⟩
  unfold fX10_wordsOf
  rw [x.es.ob hi.lt, sb, e_shown x.es hC.t.pw hi.lt, sb, q, if_neg (show ¬ bI true = 0 by decide), RW.p03 x, sb, RW.ob79 x, sb, a1, o2s]
theorem a_wLen (x : RC B E S h) (hC : Core S) {i : Nat} (hi : th S i) (q : shn S i = true) : ∃ h', fX10_wordsLength B (nI i) h = some (.inl (nI (wd S i []).length), h') ∧ RC B E S h' ∧ Fr B h h' := by
  have l40 := hi.l40 hC.t
  obtain ⟨h1, a1, x1, c1, f1⟩ := c_wordsA x hC hi q
  refine ⟨h1, ?_, x1, f1⟩
  unfold fX10_wordsLength
  rw [RW.ob0 x, sb, c_exist x hC.t.pw, if_pos (elt_y hi (by omega)), nth_nI (by omega), oC_l, sb, a1]
  show (oOb 0 (some (B + 86)) h1).bind _ = _
  rw [c1.ob, sb, c_size c1, sb]
theorem a_wLenI (x : RC B E S h) (hC : Core S) {i : Nat} (hl : i < 40) (hi : ¬ th S i) : fX10_wordsLength B (nI i) h = some (.inr exI, h) := by
  unfold fX10_wordsLength
  rw [RW.ob0 x, sb, c_exist x hC.t.pw, elt_n hi (by omega), if_neg (by decide)]
  rfl
theorem a_wLenS (x : RC B E S h) (hC : Core S) {i : Nat} (hi : th S i) (q : shn S i = false) : fX10_wordsLength B (nI i) h = some (.inr exS, h) := by
  have l40 := hi.l40 hC.t
  have w := (c_words x hC hi).1 q
  unfold fX10_wordsLength
  rw [RW.ob0 x, sb, c_exist x hC.t.pw, if_pos (elt_y hi (by omega)), nth_nI (by omega), oC_l, sb, w]
  rfl
theorem a_wAt (x : RC B E S h) (hC : Core S) {i k : Nat} (hi : th S i) (q : shn S i = true) (hk : k < (wd S i []).length) (hk2 : k < 2 ^ 31) (hw : (wd S i []).length < 2 ^ 31) : ∃ h', fX10_wordsAt B (nI i) (nI k) h = some (.inl (ge (wd S i []) k), h') ∧ RC B E S h' ∧ Fr B h h' := by
  have l40 := hi.l40 hC.t
  obtain ⟨h1, a1, x1, c1, f1⟩ := c_wordsA x hC hi q
  refine ⟨h1, ?_, x1, f1⟩
  unfold fX10_wordsAt
  rw [RW.ob0 x, sb, c_exist x hC.t.pw, if_pos (elt_y hi (by omega)), nth_nI (by omega), oC_l, sb, a1]
  show oC (fX10_codeAt (some (B + 86)) (nI k) h1) (fun E => (Sum.inr (α := Int32) E, h1)) (fun x4 => some ((Sum.inl (β := String) x4, h1))) = _
  rw [c_codeAt c1 (nI k), if_pos (inb_nI hk hw), oC_l, nth_nI hk2]
theorem a_pinA (x : RC B E S h) (hC : Core S) {j : Nat} (hj : j ≤ 9) : ∃ h', fX10_pinAnew B (nI j) h = some (.inl (if nI (ln S).length ≤ sI S 25 0 + nI j then 0 else ge (ln S) (nth (sI S 25 0 + nI j))), h') ∧ RC B E S h' ∧ Fr B h h' := by
  obtain ⟨l, c0⟩ := x.2.2.2.2.2.2.2.2.1.2.2
  obtain ⟨h1, a1, c1, g1⟩ := b_line x.es hC.t hC.l hC.k hC.c hC.xt (RW.out x (b := B + 83) (by omega) (by omega)) c0
  have x1 : RC B E S h1 := RW.scr x g1 c1 (Or.inr (Or.inr ⟨rfl, rfl⟩))
  refine ⟨h1, ?_, x1, g1.fr (fun a ha => by simp only [List.mem_cons, List.not_mem_nil, or_false] at ha; omega)⟩
  unfold fX10_pinAnew
  rw [c_noPin, if_pos ⟨nI_pos' (by omega), nI_le (b := 9) hj (by decide)⟩, oC_l, RW.p03 x, sb, RW.ob79 x, sb]
  have e : fX5_cellAnew (B + 79) (nI j) h = some ((if nI (ln S).length ≤ sI S 25 0 + nI j then 0 else ge (ln S) (nth (sI S 25 0 + nI j))), h1) := by
    unfold fX5_cellAnew fX3_cellAnew
    rw [RW.fp x (o := 79) (f := 2) (q := 80) (t := 4) (by decide) (by decide), sb, RW.cu x, sb, RW.fp x (o := 79) (f := 3) (q := 85) (t := 4) (by decide) (by decide), sb, RW.fi x (o := 85) (f := 0) (k := 22) (t := 7) (by decide) (by decide), sb, RW.fo x (o := 80) (t := 2) (by decide), sb, RW.fp x (o := 80) (f := 1) (q := 83) (t := 2) (by decide) (by decide), sb, a1, o2s, RW.fp x1 (o := 80) (f := 1) (q := 83) (t := 2) (by decide) (by decide), sb, RW.fo x1 (o := 80) (t := 2) (by decide), sb, p_cellOf x1 hC.xo c1 hj, sb, o2s]
  rw [e, o2s]
/-- the law's arrays, out of the desk's cells -/
theorem RW.lt6 (x : RW B E S li od h) : LT6 B h := fun j hj => (x.2.2.2.2.2.2.2.2.2.2.2 j hj).1
theorem RW.lq (x : RW B E S li od h) : LQ B h (lSt S) := fun j hj => x.2.2.2.2.2.2.2.2.2.2.2 j (by omega)
theorem RW.lws (x : RW B E S li od h) : lw B h (lSt S) = h := lw_of (fun j hj => (x.2.2.2.2.2.2.2.2.2.2.2 j hj).2)
end GR

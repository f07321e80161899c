/-! ===== the class's calls that change something: the simpler ones ===== -/
/-- the call is answered as r says, and leaves the desk as r says -/
def CS (B : Nat) (es : List String) (f : Option ((Int32 ⊕ String) × hp)) (r : aS) : Prop := ∃ E' a h', f = some (a, h') ∧ An es a r ∧ RC B E' r.2.2 h'
theorem ln_fit (S : SS) : ln (fit S) = ln S := by
  have hs := sd_fit S
  exact ln_cg (hs.i 2 rfl) (hs.i 3 rfl) (hs.i 10 rfl) (hs.i 13 rfl) (hs.i 20 rfl) (hs.i 22 rfl) (hs.l 6 rfl) (hs.l 8 rfl)
theorem ord_fit (S : SS) : ord (fit S) = ord S := by
  have hs := sd_fit S
  exact ord_cg (hs.i 12 rfl) hs.2.2.2
theorem ln_sd {S S' : SS} {ki kl kq : List Nat} (hs : Sd ki kl kq S S') (h1 : (dsj [2, 3, 10, 13, 20, 22] ki && dsj [6, 8] kl) = true) : ln S' = ln S := by
  rw [Bool.and_eq_true] at h1
  have e : ∀ k, decide (k ∈ [2, 3, 10, 13, 20, 22]) = true → sI S' k = sI S k := fun k hk => hs.i k (dsj_of h1.1 (of_decide_eq_true hk))
  have el : ∀ k, decide (k ∈ [6, 8]) = true → sL S' k = sL S k := fun k hk => hs.l k (dsj_of h1.2 (of_decide_eq_true hk))
  exact ln_cg (e 2 rfl) (e 3 rfl) (e 10 rfl) (e 13 rfl) (e 20 rfl) (e 22 rfl) (el 6 rfl) (el 8 rfl)
theorem ord_sd {S S' : SS} {ki kl kq : List Nat} (hs : Sd ki kl kq S S') (h1 : decide (12 ∉ ki) = true) : ord S' = ord S := ord_cg (hs.i 12 h1) hs.2.2.2
section CS
variable {B : Nat} {E : Nat → Nat} {S : SS} {li : List Int32} {od : List Nat} {h h' : hp}
theorem CS.thr {es : List String} (k : Nat) (x : RC B E S h) {f : Option ((Int32 ⊕ String) × hp)} {e : String} (hk : k < es.length) (he : es.getD k "" = e) (hf : f = some (.inr e, h)) : CS B es f (tw (nI (k + 1)) S) := ⟨E, .inr e, h, hf, An.t k hk he, x⟩
theorem CS.ok {es : List String} {v : Int32} {S' : SS} {f : Option ((Int32 ⊕ String) × hp)} {E' : Nat → Nat} (x : RC B E' S' h') (hf : f = some (.inl v, h')) : CS B es f (rt v S') := ⟨E', .inl v, h', hf, An.ok, x⟩
theorem RC.ofK (x : RW B E (fit S) (ln S) od h) (ho : od = ord S) : RC B E (fit S) h := by
  unfold RC
  rw [ln_fit, ord_fit, ← ho]
  exact x
theorem c_isC (ch : Int32) : fX10_isCharacter ch = some (bI (isC ch)) := by
  unfold fX10_isCharacter isC
  by_cases q1 : ch < 32
  · rw [if_pos q1, decide_eq_false (fun z : (32 : Int32) ≤ ch ∧ ch ≤ 126 => Int32.not_le.mpr q1 z.1), Bool.false_or]
    have q2 : ch < 119040 := Int32.lt_of_lt_of_le q1 (by decide)
    rw [if_pos q2, decide_eq_false (fun z : (119040 : Int32) ≤ ch ∧ ch ≤ 119295 => Int32.not_le.mpr q2 z.1)]; rfl
  · rw [if_neg q1]
    by_cases q2 : ch ≤ 126
    · rw [if_pos q2, decide_eq_true (show (32 : Int32) ≤ ch ∧ ch ≤ 126 from ⟨Int32.not_lt.mp q1, q2⟩), Bool.true_or]; rfl
    · rw [if_neg q2, decide_eq_false (fun z : (32 : Int32) ≤ ch ∧ ch ≤ 126 => q2 z.2), Bool.false_or]
      by_cases q3 : ch < 119040
      · rw [if_pos q3, decide_eq_false (fun z : (119040 : Int32) ≤ ch ∧ ch ≤ 119295 => Int32.not_le.mpr q3 z.1)]; rfl
      · rw [if_neg q3]
        by_cases q4 : 119295 < ch
        · rw [if_pos q4, decide_eq_false (fun z : (119040 : Int32) ≤ ch ∧ ch ≤ 119295 => Int32.not_le.mpr q4 z.2)]; rfl
        · rw [if_neg q4, decide_eq_true (show (119040 : Int32) ≤ ch ∧ ch ≤ 119295 from ⟨Int32.not_lt.mp q3, Int32.not_lt.mp q4⟩)]; rfl
theorem C_draft (x : RC B E S h) (hd : WXd S) (ch : Int32) : CS B [exA, exS] (fX10_draft B ch h) (cDraft S ch) := by
  have hdl : (sL S 18 0).length ≤ 12 := hd
  have c := x.2.2.2.2.2.2.2.2.2.2.1
  unfold fX10_draft cDraft
  rw [c_isC, sb, bI_i]
  by_cases q : isC ch = true
  · rw [if_pos q, if_neg (by rw [q]; decide), x.p04, sb, c.ob, sb, c_size c, sb]
    by_cases w : (sL S 18 0).length = 12
    · rw [w, if_neg (show ¬ nI 12 < (12 : Int32) by decide), if_pos rfl]
      exact CS.thr 1 x (by decide) rfl rfl
    · obtain ⟨h1, a1, c1, g1⟩ := c_put c (by omega) ch
      have x1 := RW.drf x g1 c1
      rw [if_pos (show nI (sL S 18 0).length < (12 : Int32) from nI_lt (b := 12) (by omega) (by decide)), if_neg w, sb, c.ob, sb, a1, o2s, x1.p04, sb, c1.ob, sb, c_size c1, sb]
      refine CS.ok (E' := E) (h' := h1) ?_ (by rw [List.length_append]; rfl)
      have hs : Sd [] [18] [] S (wSL S 18 0 (sL S 18 0 ++ [ch])) := Sd.L (by decide)
      unfold RC
      rw [ln_sd hs rfl, ord_sd hs rfl]
      exact x1
  · have q' : isC ch = false := by
      cases hh : isC ch with
      | true => exact absurd hh q
      | false => rfl
    rw [if_neg q, if_pos q']
    exact CS.thr 0 x (by decide) rfl rfl
theorem c_ref (x : RW B E S li od h) (h21 : (sQ S 35).length ≤ 21) : fX10_refuseManyAlerts B h = some (if 20 ≤ (sQ S 35).length then .inr exS else .inl ()) := by
  unfold fX10_refuseManyAlerts
  rw [x.p01, sb, x.vs.ob, sb, v_wait x.vs, sb, if_neg (show ¬ (2 : Int32) = 0 by decide), if_neg (show ¬ (2 : Int32) = 1 by decide)]
  by_cases q : 20 ≤ (sQ S 35).length
  · rw [if_neg (show ¬ nI (sQ S 35).length < (20 : Int32) from nI_nlt (b := 20) (by omega) (by omega)), if_pos q]; rfl
  · rw [if_pos (show nI (sQ S 35).length < (20 : Int32) from nI_lt (b := 20) (by omega) (by decide)), if_neg q]
theorem c_scr (x : RW B E S li od h) {i : Nat} (hi : i < made S) : fX10_refuseScreen (some (E i)) h = some (if i = 0 then .inr exS else .inl ()) := by
  unfold fX10_refuseScreen
  rw [x.es.up hi, sb]
  by_cases q : i = 0
  · rw [if_pos q, if_pos rfl, if_pos q]; rfl
  · rw [if_neg q, if_neg (Option.some_ne_none _), if_neg q]
/-- an element that is there, or the throw -/
theorem ex_c (x : RC B E S h) (hP : PW S) (v : Int32) {es : List String} (he : es.getD 0 "" = exI) (hl : 0 < es.length) {F : Option Nat → Option ((Int32 ⊕ String) × hp)} {r : aS} (hF : ∀ i, v = nI i → nth v = i → th S i → elt S v = true → CS B es (F (some (E i))) r) (hr : elt S v = false → r = tw 1 S) : CS B es ((oOb 9 (some B) h).bind fun b => oC (fX10_existing b v h) (fun E => (.inr E, h)) F) r := by
  rw [RW.ob0 x, sb, c_exist x hP v]
  by_cases q : elt S v = true
  · obtain ⟨i, rfl, hi⟩ := elt_th hP q
    have hn : nth (nI i) = i := nI_clamp (by have := hi.l40' hP; omega)
    rw [if_pos q, hn]
    exact hF i rfl hn hi q
  · have q' : elt S v = false := by
      cases hh : elt S v with
      | true => exact absurd hh q
      | false => rfl
    rw [if_neg q, hr q']
    exact CS.thr 0 x hl he rfl
theorem t2_c (x : RC B E S h) (hP : PW S) (h21 : (sQ S 35).length ≤ 21) (v : Int32) {F : Option Nat → Option ((Int32 ⊕ String) × hp)} {g : Nat → Int32} {G : Nat → SS} (hF : ∀ i, th S i → 0 < i → (sQ S 35).length < 20 → ∃ E' h', F (some (E i)) = some (.inl (g i), h') ∧ RC B E' (G i) h') : CS B [exI, exS] ((oOb 9 (some B) h).bind fun b => oC (fX10_existing b v h) (fun E => (.inr E, h)) fun x1 => oC (fX10_refuseScreen x1 h) (fun E => (.inr E, h)) fun _ => (oOb 9 (some B) h).bind fun b => oC (fX10_refuseManyAlerts b h) (fun E => (.inr E, h)) fun _ => F x1) (if elt S v = false then tw 1 S else if v = 0 ∨ 20 ≤ (sQ S 35).length then tw 2 S else rt (g (nth v)) (G (nth v))) := by
  refine ex_c x hP v rfl (by decide) (fun i hv hn hi q => ?_) (fun q => if_pos q)
  rw [q, if_neg (by decide), c_scr x hi.lt]
  have hi40 := hi.l40' hP
  by_cases w : i = 0
  · rw [if_pos w, if_pos (Or.inl (by rw [hv, w]; rfl))]
    exact CS.thr 1 x (by decide) rfl rfl
  · rw [if_neg w]
    show CS B [exI, exS] ((oOb 9 (some B) h).bind _) _
    rw [RW.ob0 x, sb, c_ref x h21]
    by_cases u : 20 ≤ (sQ S 35).length
    · rw [if_pos u, if_pos (Or.inr u)]
      exact CS.thr 1 x (by decide) rfl rfl
    · rw [if_neg u, if_neg (fun z => z.elim (fun z => w ((nI_eq (b := 0) (by omega) (by decide)).mp (by rw [← hv]; exact z))) u), hn]
      obtain ⟨E', h1, a1, x1⟩ := hF i hi (by omega) (by omega)
      exact CS.ok x1 a1
/-! rules, manners -/
theorem C_setRule (x : RC B E S h) (hC : Core S) (v r : Int32) : CS B [exI, exA] (fX10_setRule B v r h) (cSetRule S v r) := by
  refine ex_c x hC.t.pw v rfl (by decide) (fun i hv hn hi q => ?_) (fun q => by unfold cSetRule; rw [if_pos q])
  unfold cSetRule
  rw [q, if_neg (show ¬ true = false by decide), hn]
  have hor : ∀ z : Bool, ∀ f, oR (τ := ((Int32 ⊕ String) × hp)) (σ := Unit) (if r = (-1 : Int32) then (some (.inr ())) else if r < 0 then (some (.inl ((.inr "java/lang/IllegalArgumentException", h)))) else if r ≤ (2 : Int32) then (some (.inr ())) else some (.inl ((.inr "java/lang/IllegalArgumentException", h)))) f = if -1 ≤ r ∧ r ≤ 2 then f () else some (.inr exA, h) := fun _ f => by
    by_cases q1 : r = -1
    · rw [if_pos q1, if_pos (by rw [q1]; decide)]; rfl
    · rw [if_neg q1]
      by_cases q2 : r < 0
      · have q3 : ¬ (-1 : Int32) ≤ r := fun z => by
          have u1 := Int32.le_iff_toInt_le.mp z
          have u2 := Int32.lt_iff_toInt_lt.mp q2
          have u3 : (-1 : Int32).toInt = -1 := by decide
          have u4 : (0 : Int32).toInt = 0 := by decide
          exact q1 (Int32.toInt_inj.mp (by omega))
        rw [if_pos q2, if_neg (fun z => q3 z.1)]; rfl
      · have q3 : (-1 : Int32) ≤ r := Int32.le_trans (by decide) (Int32.not_lt.mp q2)
        rw [if_neg q2]
        by_cases q4 : r ≤ 2
        · rw [if_pos q4, if_pos ⟨q3, q4⟩]; rfl
        · rw [if_neg q4, if_neg (fun z => q4 z.2)]; rfl
  show CS B [exI, exA] (oR _ _) _
  rw [hor true]
  by_cases w : -1 ≤ r ∧ r ≤ 2
  · rw [if_pos w, if_neg (fun z => z w)]
    have x1 := RW.en x hi.lt (f := 10) (k := 13) (by decide) r
    have hs : Sd [13] [] [] S (wSI S 13 i r) := Sd.I (by decide)
    have hC1 : Core (wSI S 13 i r) := hC.sd hs rfl
    have hk := p_refresh x1 hC1.t hC1.l hC1.k hC1.c hC1.xt
    obtain ⟨h2, a2, x2⟩ := hk
    refine CS.ok (E' := E) (h' := h2) (RC.ofK x2 (ord_sd hs rfl).symm) ?_
    rw [x.es.rule hi.lt, sb, oPI_ok (x.es.t hi.lt), sb, x1.p03, sb, x1.ob79, sb, a2, o2s]
  · rw [if_neg w, if_pos w]
    exact CS.thr 1 x (by decide) rfl rfl
end CS

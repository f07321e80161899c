/-! ===== the class's calls: what they answer, what they throw ===== -/
/-- the answer or what is thrown, by the order in which the law's row catches -/
def An (es : List String) (a : Int32 ⊕ String) (r : aS) : Prop := (r.1 = 0 ∧ a = .inl r.2.1) ∨ ∃ k, k < es.length ∧ r.1 = nI (k + 1) ∧ a = .inr (es.getD k "")
theorem An.ok {es : List String} {v : Int32} {S : SS} : An es (.inl v) (rt v S) := Or.inl ⟨rfl, rfl⟩
theorem An.t {es : List String} {S : SS} (k : Nat) {e : String} (hk : k < es.length) (he : es.getD k "" = e) : An es (.inr e) (tw (nI (k + 1)) S) := Or.inr ⟨k, hk, rfl, by rw [he]⟩
/-- a call that changes nothing -/
def CQ (S : SS) (es : List String) (f : Option (Int32 ⊕ String)) (r : aS) : Prop := (∃ a, f = some a ∧ An es a r) ∧ r.2.2 = S
section AK
variable {B : Nat} {E : Nat → Nat} {S : SS} {li : List Int32} {od : List Nat} {h h' : hp}
theorem RW.ob0 (x : RW B E S li od h) : oOb 9 (some B) h = some B := x.fo (o := 0) (t := 9) (by decide)
theorem RW.p00 (x : RW B E S li od h) : oGR 9 0 (some B) h = some (some (B + 1)) := x.fp (o := 0) (f := 0) (q := 1) (t := 9) (by decide) (by decide)
theorem RW.p01 (x : RW B E S li od h) : oGR 9 1 (some B) h = some (some (B + 12)) := x.fp (o := 0) (f := 1) (q := 12) (t := 9) (by decide) (by decide)
theorem RW.p02 (x : RW B E S li od h) : oGR 9 2 (some B) h = some (some (B + 76)) := x.fp (o := 0) (f := 2) (q := 76) (t := 9) (by decide) (by decide)
theorem RW.p03 (x : RW B E S li od h) : oGR 9 3 (some B) h = some (some (B + 79)) := x.fp (o := 0) (f := 3) (q := 79) (t := 9) (by decide) (by decide)
theorem RW.p04 (x : RW B E S li od h) : oGR 9 4 (some B) h = some (some (B + 88)) := x.fp (o := 0) (f := 4) (q := 88) (t := 9) (by decide) (by decide)
theorem RW.o1 (x : RW B E S li od h) : oOb 6 (some (B + 1)) h = some (B + 1) := x.fo (by decide)
theorem RW.o76 (x : RW B E S li od h) : oOb 5 (some (B + 76)) h = some (B + 76) := x.fo (by decide)
theorem c_exist (x : RW B E S li od h) (hP : PW S) (v : Int32) : fX10_existing B v h = some (if elt S v = true then .inl (some (E (nth v))) else .inr exI) := by
  unfold fX10_existing
  rw [x.p00, sb, x.o1, sb, t_findV x hP v, sb]
  by_cases q : elt S v = true
  · rw [if_pos q, if_pos q, if_neg (Option.some_ne_none _)]
  · rw [if_neg q, if_neg q, if_pos rfl]; rfl
theorem ask_c (x : RW B E S li od h) (hP : PW S) (v : Int32) {g : Nat → Int32} {F : Option Nat → Option (Int32 ⊕ String)} (hF : ∀ i, th S i → F (some (E i)) = some (.inl (g i))) : CQ S [exI] ((oOb 9 (some B) h).bind fun b => oC (fX10_existing b v h) (fun E => .inr E) F) (ask S v g) := by
  rw [x.ob0, sb, c_exist x hP v]
  unfold ask
  by_cases q : elt S v = true
  · obtain ⟨i, rfl, hi⟩ := elt_th hP q
    have hn : nth (nI i) = i := nI_clamp (by have := hi.l40' hP; omega)
    rw [if_pos q, q, if_neg (by decide)]
    refine ⟨⟨_, ?_, An.ok⟩, rfl⟩
    show F (some (E (nth (nI i)))) = _
    rw [hn, hF i hi]
  · have q' : elt S v = false := by
      cases hh : elt S v with
      | true => exact absurd hh q
      | false => rfl
    rw [if_neg q, q', if_pos rfl]
    exact ⟨⟨.inr exI, rfl, An.t 0 (by decide) rfl⟩, rfl⟩
theorem ask2_c (x : RW B E S li od h) (hP : PW S) (v y : Int32) {n : Nat → Nat} {g : Nat → Nat → Int32} {F : Option Nat → Option (Int32 ⊕ String)} (hF : ∀ i, th S i → F (some (E i)) = some (if inb y (n i) = true then .inl (g i (nth y)) else .inr exI)) : CQ S [exI] ((oOb 9 (some B) h).bind fun b => oC (fX10_existing b v h) (fun E => .inr E) F) (ask2 S v y n g) := by
  rw [x.ob0, sb, c_exist x hP v]
  unfold ask2
  by_cases q : elt S v = true
  · obtain ⟨i, rfl, hi⟩ := elt_th hP q
    have hn : nth (nI i) = i := nI_clamp (by have := hi.l40' hP; omega)
    rw [if_pos q, hn]
    by_cases w : inb y (n i) = true
    · rw [if_pos ⟨q, w⟩]
      refine ⟨⟨_, ?_, An.ok⟩, rfl⟩
      show F (some (E i)) = _
      rw [hF i hi, if_pos w]
    · rw [if_neg (fun z => w z.2)]
      refine ⟨⟨.inr exI, ?_, An.t 0 (by decide) rfl⟩, rfl⟩
      show F (some (E i)) = _
      rw [hF i hi, if_neg w]
  · rw [if_neg q, if_neg (fun z => q z.1)]
    exact ⟨⟨.inr exI, rfl, An.t 0 (by decide) rfl⟩, rfl⟩
theorem C_kind (x : RW B E S li od h) (hW : WT S) (v : Int32) : CQ S [exI] (fX10_kind B v h) (ask S v (fun i => sI S 2 i)) :=
  ask_c x hW.pw v (fun i hi => by rw [x.es.kind hi.lt, sb])
theorem C_parent (x : RW B E S li od h) (hW : WT S) (v : Int32) : CQ S [exI] (fX10_parent B v h) (ask S v (fun i => sI S 3 i)) :=
  ask_c x hW.pw v (fun i hi => by
    rw [x.es.up hi.lt, sb]
    by_cases q : i = 0
    · rw [if_pos q, if_pos rfl, q, hW.pw.2.2.2.1]
    · obtain ⟨u1, u2⟩ := hW.up (by omega) hi
      rw [if_neg q, if_neg (Option.some_ne_none _), x.es.numb u1.lt, sb, (hW.pw.par (by omega) hi.lt).2])
theorem C_children (x : RW B E S li od h) (hW : WT S) (v : Int32) : CQ S [exI] (fX10_children B v h) (ask S v (fun i => nI (sK S i).length)) :=
  ask_c x hW.pw v (fun i hi => by rw [x.es.ob hi.lt, sb, e_size x.es hi.lt, sb])
theorem C_childAt (x : RW B E S li od h) (hW : WT S) (v y : Int32) : CQ S [exI] (fX10_childAt B v y h) (ask2 S v y (fun i => (sK S i).length) (fun i k => nI (gn (sK S i) k))) :=
  ask2_c x hW.pw v y (fun i hi => by
    obtain ⟨k1, k2, k3⟩ := hW.kids hi
    rw [x.es.ob hi.lt, sb]
    by_cases w : inb y (sK S i).length = true
    · obtain ⟨j, hj, rfl⟩ := inb_of w (by omega)
      rw [e_child x.es hi.lt k2 hj, sb, if_neg (Option.some_ne_none _), x.es.numb (k3 _ (gn_mem hj)).1.lt, sb, if_pos w, show nth (nI j) = j from nI_clamp (by omega)]
    · have w' : inb y (sK S i).length = false := by
        cases hh : inb y (sK S i).length with
        | true => exact absurd hh w
        | false => rfl
      rw [e_childN x.es hi.lt k2 w', sb, if_pos rfl, if_neg w]; rfl)
theorem c_codeAt {b n : Nat} {l : List Int32} (c : Cd h b n l) (y : Int32) : fX10_codeAt (some b) y h = some (if inb y l.length = true then .inl (ge l (nth y)) else .inr exI) := by
  have l5 := c.2.2.2.2.1
  have l6 := c.2.2.2.2.2.1
  unfold fX10_codeAt
  by_cases q : y < 0
  · rw [if_pos q, inb_neg _ q, if_neg (by decide)]; rfl
  · obtain ⟨j, j1, rfl⟩ := nI_of q
    rw [if_neg q, c.ob, sb, c_size c, sb]
    by_cases w : j < l.length
    · rw [if_pos (nI_lt w (by omega)), sb, c_at c w, sb, inb_nI w (by omega), if_pos rfl, show nth (nI j) = j from nI_clamp j1]
    · rw [if_neg (nI_nlt (by omega) j1), inb_ge (by omega) j1, if_neg (by decide)]; rfl
theorem C_nameLen (x : RW B E S li od h) (hW : WT S) (v : Int32) : CQ S [exI] (fX10_nameLength B v h) (ask S v (fun i => nI (sL S 6 i).length)) :=
  ask_c x hW.pw v (fun i hi => by rw [x.es.name hi.lt, sb, (x.es.cn hi.lt).ob, sb, c_size (x.es.cn hi.lt), sb])
theorem C_contLen (x : RW B E S li od h) (hW : WT S) (v : Int32) : CQ S [exI] (fX10_contentLength B v h) (ask S v (fun i => nI (sL S 8 i).length)) :=
  ask_c x hW.pw v (fun i hi => by rw [x.es.cont hi.lt, sb, (x.es.cc hi.lt).ob, sb, c_size (x.es.cc hi.lt), sb])
theorem C_isOn (x : RW B E S li od h) (hW : WT S) (hB : WB S) (v : Int32) : CQ S [exI] (fX10_isOn B v h) (ask S v (fun i => if sI S 10 i = 0 then 0 else 1)) :=
  ask_c x hW.pw v (fun i hi => by
    have e : oBo (sI S 10 i) = some () := by
      unfold oBo
      rw [if_pos (hB 10 (by decide) i)]
    rw [x.en10 hi.lt, sb, e, sb]
    rcases hB 10 (by decide) i with q | q <;> rw [q]
    · rw [if_pos rfl]
    · rw [if_neg (by decide)])
theorem C_presses (x : RW B E S li od h) (hW : WT S) (v : Int32) : CQ S [exI] (fX10_presses B v h) (ask S v (fun i => sI S 11 i)) :=
  ask_c x hW.pw v (fun i hi => by rw [x.en11 hi.lt, sb])
theorem C_isShown (x : RW B E S li od h) (hW : WT S) (v : Int32) : CQ S [exI] (fX10_isShown B v h) (ask S v (fun i => bI (shn S i))) :=
  ask_c x hW.pw v (fun i hi => by
    have e : oBo (bI (shn S i)) = some () := by
      unfold oBo
      rw [if_pos (bI_01 _)]
    rw [x.es.ob hi.lt, sb, e_shown x.es hW.pw hi.lt, sb, e, sb])
theorem C_level (x : RW B E S li od h) (hW : WT S) (v : Int32) : CQ S [exI] (fX10_level B v h) (ask S v (fun i => lvl S i)) :=
  ask_c x hW.pw v (fun i hi => by rw [x.es.ob hi.lt, sb, e_level x.es hW.pw hi.lt, sb])
theorem C_readingAt (x : RW B E S li (ord S) h) (hW : WT S) (y : Int32) : CQ S [exI] (fX10_readingAt B y h) (cReadingAt S y) := by
  have ho := ord_len hW
  unfold fX10_readingAt cReadingAt
  rw [x.p00, sb, x.o1, sb]
  by_cases w : inb y (ord S).length = true
  · obtain ⟨j, hj, rfl⟩ := inb_of w (by omega)
    rw [t_inO x ho hj, sb, if_neg (Option.some_ne_none _), x.es.numb (ord_at hW hj).1.lt, sb, if_pos w, show nth (nI j) = j from nI_clamp (by omega)]
    exact ⟨⟨_, rfl, An.ok⟩, rfl⟩
  · have w' : inb y (ord S).length = false := by
      cases hh : inb y (ord S).length with
      | true => exact absurd hh w
      | false => rfl
    rw [t_inON x ho w', sb, if_pos rfl, if_neg w]
    exact ⟨⟨.inr exI, rfl, An.t 0 (by decide) rfl⟩, rfl⟩
theorem c_noPin (p : Int32) : fX10_refuseNoPin p = some (if 0 ≤ p ∧ p ≤ 9 then .inl () else .inr exI) := by
  unfold fX10_refuseNoPin
  by_cases q : p < 0
  · rw [if_pos q, if_neg (fun z => Int32.not_le.mpr q z.1)]; rfl
  · rw [if_neg q]
    obtain ⟨j, j1, rfl⟩ := nI_of q
    by_cases w : j < 10
    · rw [if_pos (show nI j < (10 : Int32) from nI_lt (b := 10) w (by decide)), if_pos ⟨Int32.not_lt.mp q, nI_le (b := 9) (by omega) (by decide)⟩]
    · rw [if_neg (show ¬ nI j < (10 : Int32) from nI_nlt (b := 10) (by omega) j1), if_neg (fun z => absurd z.2 (nI_ge (a := 9) (by omega) j1))]; rfl
theorem C_pin (x : RW B E S (ln S) od h) (ho : WXo S) (p : Int32) : CQ S [exI] (fX10_pin B p h) (cPin S p) := by
  unfold fX10_pin cPin
  rw [c_noPin]
  by_cases q : 0 ≤ p ∧ p ≤ 9
  · obtain ⟨j, j1, rfl⟩ := nI_of (Int32.not_lt.mpr q.1)
    have hj : j ≤ 9 := by
      rcases Nat.lt_or_ge 9 j with w | w
      · exact absurd q.2 (nI_ge (a := 9) w j1)
      · exact w
    rw [if_pos q, if_neg (fun z => z q)]
    refine ⟨⟨_, ?_, An.ok⟩, rfl⟩
    show ((oGR 9 3 (some B) h).bind _) = _
    rw [x.p03, sb, x.fp (o := 79) (f := 2) (q := 80) (t := 4) (by decide) (by decide), sb, x.fo (o := 80) (t := 2) (by decide), sb, p_cell x ho hj, sb]
  · rw [if_neg q, if_pos q]
    exact ⟨⟨.inr exI, rfl, An.t 0 (by decide) rfl⟩, rfl⟩
theorem C_waiting (x : RW B E S li od h) (p : Int32) : CQ S [exA] (fX10_waiting B p h) (cWaiting S p) := by
  unfold fX10_waiting cWaiting
  by_cases q : p < 0
  · rw [if_pos q, if_pos (fun z => Int32.not_le.mpr q z.1)]
    exact ⟨⟨.inr exA, rfl, An.t 0 (by decide) rfl⟩, rfl⟩
  · rw [if_neg q]
    by_cases w : p ≤ 2
    · rw [if_pos w, if_neg (fun z => z ⟨Int32.not_lt.mp q, w⟩), x.p01, sb, x.vs.ob, sb, v_wait x.vs, sb]
      refine ⟨⟨_, rfl, ?_⟩, rfl⟩
      have e : (if p = 0 then nI (sQ S 30).length else if p = 1 then (if (sL S 33 0).length = 0 then 0 else 1) else nI (sQ S 35).length) = (if p = 0 then nI (sQ S 30).length else if p = 2 then nI (sQ S 35).length else if (sL S 33 0).length = 0 then 0 else 1) := by
        by_cases q0 : p = 0
        · rw [if_pos q0, if_pos q0]
        · rw [if_neg q0, if_neg q0]
          obtain ⟨j, j1, rfl⟩ := nI_of q
          have hj : j ≤ 2 := by
            rcases Nat.lt_or_ge 2 j with u | u
            · exact absurd w (nI_ge (a := 2) u j1)
            · exact u
          have hj0 : j ≠ 0 := fun z => q0 (by rw [z]; rfl)
          rcases (show j = 1 ∨ j = 2 by omega) with u | u
          · rw [u, if_pos (show nI 1 = 1 by decide), if_neg (show ¬ nI 1 = 2 by decide)]
          · rw [u, if_neg (show ¬ nI 2 = 1 by decide), if_pos (show nI 2 = 2 by decide)]
      rw [e]
      exact An.ok
    · rw [if_neg w, if_pos (fun z => w z.2)]
      exact ⟨⟨.inr exA, rfl, An.t 0 (by decide) rfl⟩, rfl⟩
/-! calls that are only asked -/
theorem C_elements (x : RW B E S li od h) : fX10_elements B h = some (nI (nTh S)) := by
  unfold fX10_elements
  rw [x.p00, sb, hgI (x.1.t 1 7 (by decide)) x.2.2.2.2.1.2.1, sb]
theorem C_reading (x : RW B E S li od h) : fX10_reading B h = some (nI od.length) := by
  unfold fX10_reading
  rw [x.p00, sb, x.shw, sb]
theorem C_cursor (x : RW B E S li od h) (hC : WC S) : fX10_cursor B h = some (sI S 20 0) := by
  unfold fX10_cursor
  rw [x.p03, sb, x.cu, sb, x.es.numb hC.2.lt, sb, hC.1]
theorem C_focus (x : RW B E S li od h) (hP : PW S) (hf : WXf S) : fX10_focus B h = some (sI S 21 0) := by
  unfold fX10_focus
  rw [x.p03, sb, x.foc, sb]
  rcases hf with q | ⟨f, f1, f2, f3, f4⟩
  · rw [if_pos q, if_pos rfl, q]
  · have hl := f2.l40' hP
    rw [f1, if_neg (nI_m1 (by omega)), if_neg (Option.some_ne_none _), show nth (nI f) = f from nI_clamp (by omega), x.es.numb f2.lt, sb]
theorem C_isTyping (x : RW B E S li od h) (hB : WB S) : fX10_isTyping B h = some (sI S 22 0) := by
  have e : oBo (sI S 22 0) = some () := by
    unfold oBo
    rw [if_pos (hB 22 (by decide) 0)]
  unfold fX10_isTyping
  rw [x.p03, sb, x.fp (o := 79) (f := 3) (q := 85) (t := 4) (by decide) (by decide), sb, x.fi (o := 85) (f := 0) (k := 22) (t := 7) (by decide) (by decide), sb, e, sb]
theorem C_offset (x : RW B E S li od h) : fX10_offset B h = some (sI S 25 0) := by
  unfold fX10_offset
  rw [x.p03, sb, x.fp (o := 79) (f := 2) (q := 80) (t := 4) (by decide) (by decide), sb, x.fi (o := 80) (f := 2) (k := 25) (t := 2) (by decide) (by decide), sb]
theorem C_lineLen (x : RW B E S li od h) : fX10_lineLength B h = some (nI li.length) := by
  have c := x.2.2.2.2.2.2.2.2.2.1
  unfold fX10_lineLength
  rw [x.p03, sb, x.fp (o := 79) (f := 2) (q := 80) (t := 4) (by decide) (by decide), sb, x.fp (o := 80) (f := 0) (q := 81) (t := 2) (by decide) (by decide), sb, c.ob, sb, c_size c, sb]
end AK

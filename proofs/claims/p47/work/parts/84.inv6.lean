/-! ===== hiding, naming, setting ===== -/
section HI
variable {S : SS}
theorem Inv.kRule {c : Nat} (h : Inv S c) (x : Nat) (v : Int32) : Inv (fit (wSI S 13 x v)) c := by
  have hs : Sd [13] [] [] S (wSI S 13 x v) := Sd.I (by decide)
  exact (h.1.core hs (h.1.1.sd hs rfl) rfl).toFit
theorem Inv.kManner {c : Nat} (h : Inv S c) (x : Nat) (v : Int32) : Inv (swl (wSI S 14 x v) x) c := by
  have hs : Sd [14] [] [] S (wSI S 14 x v) := Sd.I (by decide)
  have h1 : Inv0 (wSI S 14 x v) c := h.1.core hs (h.1.1.sd hs rfl) rfl
  have hs2 := sd_swl (wSI S 14 x v) x
  have h2 : InvT (swl (wSI S 14 x v) x) c 21 := ⟨h1.1.toT.kSwl, h1.2.1.kswl, h1.2.2.1.sd hs2 rfl, by rw [hs2.q 35 rfl]; exact h1.2.2.2⟩
  have h3 : Inv0 (swl (wSI S 14 x v) x) c := h2.toI (h1.1.toC.sd hs2 rfl) (by decide)
  refine ⟨h3, ?_, h3.2.2.2⟩
  have hs3 : Sd [14, 45] [17] [] S (swl (wSI S 14 x v) x) := (hs.mono (by decide)).tr (hs2.mono (by decide))
  have hl : ln (swl (wSI S 14 x v) x) = ln S := ln_cg (hs3.i 2 rfl) (hs3.i 3 rfl) (hs3.i 10 rfl) (hs3.i 13 rfl) (hs3.i 20 rfl) (hs3.i 22 rfl) (hs3.l 6 rfl) (hs3.l 8 rfl)
  have h25 : sI (swl (wSI S 14 x v) x) 25 = sI S 25 := hs3.i 25 rfl
  have hf := h.2.1
  unfold fit at hf ⊢
  rw [hl, h25]
  by_cases e : 0 < sI S 25 0 ∧ nI (ln S).length ≤ sI S 25 0
  · rw [if_pos e] at hf ⊢
    have e2 : sI S 25 0 = (if (ln S).length = 0 then 0 else nI (((ln S).length - 1) / 10 * 10)) := by
      have := congrArg (fun T => sI T 25 0) hf
      simp only [sI_I, and_self, if_true] at this
      exact this.symm
    rw [← e2]
    refine wSI_same ?_
    rw [h25]
  · rw [if_neg e]
theorem Core.w6 (h : Core S) {x : Nat} {l : List Int32} (hl : l.length ≤ 12) : Core (wSL S 6 x l) := by
  obtain ⟨a1, a2, a3, a4, a5, a6, a7, a8, a9, a10, a11, a12, a13, a14⟩ := h
  have hs : Sd [] [6] [] S (wSL S 6 x l) := Sd.L (by decide)
  refine ⟨a1.sd hs rfl, fun i => ?_, a3, a4, a5, a6.cg rfl rfl rfl, a7.cg rfl rfl rfl rfl rfl rfl, a8, a9.cg rfl (hs.l 8 rfl), a10.cg rfl rfl rfl (hs.l 17 rfl), ?_, a12, a13, a14.cg rfl rfl rfl rfl (hs.l 8 rfl) (hs.l 17 rfl) rfl⟩
  · rw [hs.l 8 rfl, hs.l 17 rfl, sL_L]
    refine ⟨?_, (a2 i).2⟩
    split
    · exact hl
    · exact (a2 i).1
  · unfold WXd
    rw [hs.l 18 rfl]; exact a11
theorem Core.w18 (h : Core S) {l : List Int32} (hl : l.length ≤ 12) : Core (wSL S 18 0 l) := by
  obtain ⟨a1, a2, a3, a4, a5, a6, a7, a8, a9, a10, a11, a12, a13, a14⟩ := h
  have hs : Sd [] [18] [] S (wSL S 18 0 l) := Sd.L (by decide)
  refine ⟨a1.sd hs rfl, a2.cg (hs.l 6 rfl) (hs.l 8 rfl) (hs.l 17 rfl), a3, a4, a5, a6.cg rfl rfl rfl, a7.cg rfl rfl rfl rfl rfl rfl, a8, a9.cg rfl (hs.l 8 rfl), a10.cg rfl rfl rfl (hs.l 17 rfl), ?_, a12, a13, a14.cg rfl rfl rfl rfl (hs.l 8 rfl) (hs.l 17 rfl) rfl⟩
  unfold WXd
  rw [sL_L, if_pos ⟨rfl, rfl⟩]; exact hl
theorem Inv.kDraft {c : Nat} (h : Inv S c) {l : List Int32} (hl : l.length ≤ 12) : Inv (wSL S 18 0 l) c := by
  have hs : Sd [] [18] [] S (wSL S 18 0 l) := Sd.L (by decide)
  refine ⟨h.1.core hs (h.1.1.w18 hl) rfl, ?_, h.2.2⟩
  have hln : ln (wSL S 18 0 l) = ln S := ln_cg rfl rfl rfl rfl rfl rfl (hs.l 6 rfl) (hs.l 8 rfl)
  have hf := h.2.1
  unfold fit at hf ⊢
  rw [hln, sI_L]
  by_cases e : 0 < sI S 25 0 ∧ nI (ln S).length ≤ sI S 25 0
  · rw [if_pos e] at hf ⊢
    have e2 : sI S 25 0 = (if (ln S).length = 0 then 0 else nI (((ln S).length - 1) / 10 * 10)) := by
      have := congrArg (fun T => sI T 25 0) hf
      simp only [sI_I, and_self, if_true] at this
      exact this.symm
    rw [← e2]
    exact wSI_same rfl
  · rw [if_neg e]
theorem Inv.kRen {c : Nat} (h : Inv S c) {x : Nat} (hx : th S x) (ha : (sQ S 35).length < 20) : Inv (ren S x) c := by
  have hs : Sd [] [6, 18] [] S (ren1 S x) := (Sd.L (by decide)).tr (Sd.L (by decide))
  have h1 : Inv0 (ren1 S x) c := h.1.core hs ((h.1.1.w6 h.1.1.xd).w18 (by simp)) rfl
  unfold ren
  split
  · exact h1.toFit
  · exact (h1.kTelW ((th_cg rfl rfl x).mpr hx) (by rw [hs.q 35 rfl]; omega)).toFit
theorem Inv.kSet {c : Nat} (h : Inv S c) {x : Nat} (hx : th S x) {v : Int32} (hv : v = 0 ∨ v = 1) (ha : (sQ S 35).length < 20) : Inv (set1S S x v) c := by
  have hs : Sd [10] [] [] S (wSI S 10 x v) := Sd.I (by decide)
  have h1 : Inv0 (wSI S 10 x v) c := h.1.core hs (h.1.1.w10 hv hx.lt) rfl
  unfold set1S
  split
  · exact h1.toFit
  · exact (h1.kTelW ((th_cg (hs.i 0 rfl) (hs.i 1 rfl) x).mpr hx) (by rw [hs.q 35 rfl]; omega)).toFit
/-! the refuge -/
theorem rfg_in {T : SS} (h : WT T) {p : Nat} (hp : th T p) (hs : shn T p = true) {b a : List Nat} (hb : ∀ j ∈ b, j ∈ sK T p) (ha : ∀ j ∈ a, j ∈ sK T p) : th T (rfg T p b a) ∧ shn T (rfg T p b a) = true := by
  have key : ∀ l : List Nat, (∀ j ∈ l, j ∈ sK T p) → ∀ x, fnd T l = some x → th T x ∧ shn T x = true := fun l hl x hx => by
    have hm := hl x (fnd_mem hx)
    exact ⟨((h.kids hp).2.2 x hm).1, shn_dn h hp hm hs (fnd_hid hx)⟩
  unfold rfg
  cases h1 : fnd T b with
  | some x => exact key b hb x h1
  | none =>
    cases h2 : fnd T a.reverse with
    | some x => exact key a.reverse (fun j hj => ha j (List.mem_reverse.mp hj)) x h2
    | none => exact ⟨hp, hs⟩
theorem CoreT.w12 (h : CoreT S) {x : Nat} {v : Int32} (hv : v = 0 ∨ v = 1) (h0 : 0 < x) (hx : x < made S) : CoreT (wSI S 12 x v) := by
  obtain ⟨a1, a2, a3, a5, a9, a10, a11, a12, a13, a14⟩ := h
  have hs : Sd [12] [] [] S (wSI S 12 x v) := Sd.I (by decide)
  refine ⟨?_, a2, a3.cg (hs.i 0 rfl) (hs.i 1 rfl) (hs.i 2 rfl), fun k hk i => ?_, a9.cg (hs.i 2 rfl) rfl, a10.cg (hs.i 0 rfl) (hs.i 1 rfl) (hs.i 2 rfl) rfl, a11, ?_, a13.cg (hs.i 26 rfl) (hs.i 27 rfl), fun i hi => ?_⟩
  · obtain ⟨b1, b2, b3, b4, b5, b6⟩ := a1
    have ht := th_cg (hs.i 0 rfl) (hs.i 1 rfl)
    refine ⟨b1.cg (hs.i 0 rfl) (hs.i 3 rfl), (ht 0).mpr b2, by rw [hs.i 2 rfl]; exact b3, ?_, fun i i0 hi => ?_, fun i hi => ?_⟩
    · rw [sI_I, if_neg (fun z => by have := z.2; omega)]; exact b4
    · rw [dpar_cg (hs.i 3 rfl), ht]; exact b5 i i0 ((ht i).mp hi)
    · obtain ⟨f1, f2, f3⟩ := b6 i ((ht i).mp hi)
      exact ⟨f1, f2, fun j hj => by rw [ht, dpar_cg (hs.i 3 rfl)]; exact f3 j hj⟩
  · rw [sI_I]
    split
    · exact hv
    · exact a5 k hk i
  · unfold WXo
    rw [hs.i 25 rfl]; exact a12
  · rw [made_cg (hs.i 0 rfl)] at hi
    obtain ⟨z1, z2, z3, z4, z5, z6⟩ := a14 i hi
    refine ⟨z1, z2, by rw [hs.i 10 rfl]; exact z3, by rw [hs.i 11 rfl]; exact z4, ?_, z6⟩
    rw [sI_I, if_neg (fun z => by have := z.2; omega)]; exact z5
/-- with one hidden: all that is not below it is shown as before -/
theorem hid_shn (h : WT S) {x : Nat} : ∀ i, i < made S → shn (wSI S 12 x 1) i = (shn S i && !wthn S i x) := by
  have hs : Sd [12] [] [] S (wSI S 12 x 1) := Sd.I (by decide)
  have h2 : PW (wSI S 12 x 1) := h.pw.cg (hs.i 0 rfl) (hs.i 3 rfl)
  have hh : ∀ i, hid (wSI S 12 x 1) i = (hid S i || decide (i = x)) := fun i => by
    unfold hid
    rw [sI_I]
    by_cases e : i = x
    · rw [if_pos ⟨rfl, e⟩]; simp [e]
    · rw [if_neg (fun z => e z.2)]; simp [e]
  refine an_ind h.pw ?_ (fun i i0 il ih => ?_)
  · rw [shn_0 h2, shn_0 h.pw, hh]
    unfold wthn
    rw [an_0 h.pw]
    by_cases e : x = 0
    · subst e; simp
    · have : ¬ 0 = x := fun z => e z.symm
      simp [e, this]
  · rw [shn_s h2 i0 (by rw [made_cg (hs.i 0 rfl)]; exact il), shn_s h.pw i0 il, dpar_cg (hs.i 3 rfl), ih, hh]
    unfold wthn
    rw [an_s h.pw i0 il]
    by_cases e : i = x
    · subst e; simp
    · have e' : ¬ x = i := fun z => e z.symm
      simp only [List.mem_cons, e', false_or, e, decide_false, Bool.or_false]
      rw [Bool.and_assoc]
theorem WT.not_up (h : WT S) {x : Nat} (h0 : 0 < x) (hx : th S x) : x ∉ an S (dpar S x) := fun hm => by
  have h1 := (h.pw.par h0 hx.lt).1
  have := an_mem h.pw (i := dpar S x) (by have := hx.lt; omega) x hm
  omega
/-- a sibling isn't below it -/
theorem WT.not_sib (h : WT S) {x j : Nat} (h0 : 0 < x) (hx : th S x) (hj : j ∈ sK S (dpar S x)) (hne : j ≠ x) : x ∉ an S j := fun hm => by
  obtain ⟨u1, u2⟩ := h.up h0 hx
  obtain ⟨a, b, d⟩ := (h.kids u1).2.2 j hj
  exact hne (an_sib h.pw h0 b hx.lt a.lt d.symm hm).symm
theorem plc_gn (h : WT S) {x : Nat} (h0 : 0 < x) (hx : th S x) : plc S x < (sK S (dpar S x)).length ∧ gn (sK S (dpar S x)) (plc S x) = x := by
  have := (h.up h0 hx).2
  exact ⟨List.idxOf_lt_length_of_mem this, gn_idx this⟩
/-- the others of its row -/
theorem sib_ne (h : WT S) {x : Nat} (h0 : 0 < x) (hx : th S x) : (∀ j ∈ (sK S (dpar S x)).drop (plc S x + 1), j ≠ x) ∧ ∀ j ∈ (sK S (dpar S x)).take (plc S x), j ≠ x := by
  obtain ⟨p1, p2⟩ := plc_gn h h0 hx
  have hn := (h.kids (h.up h0 hx).1).1
  have hsplit : sK S (dpar S x) = (sK S (dpar S x)).take (plc S x) ++ x :: (sK S (dpar S x)).drop (plc S x + 1) := by
    conv => lhs; rw [← List.take_append_drop (plc S x) (sK S (dpar S x)), drop_gn p1, p2]
  rw [hsplit] at hn
  obtain ⟨a, b, c⟩ := List.nodup_append.mp hn
  rw [List.nodup_cons] at b
  refine ⟨fun j hj e => b.1 ?_, fun j hj e => c j hj x List.mem_cons_self e⟩
  have h' := hj
  rw [e] at h'
  exact h'
end HI

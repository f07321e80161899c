/-! ===== what chords change; ticks keep the form; the reference's keys and ticks ===== -/
abbrev cI : List Nat := [10, 11, 20, 21, 22, 23, 24, 25, 38, 44]
theorem sdc_A (S : SS) (t : List Int32) : Sd cI [8, 33] [30] S (cAns S t) := (sd_cAns S t).mono (by decide)
theorem sdc_go (S : SS) (x : Nat) : Sd cI [8, 33] [30] S (go S x) := (((Sd.I (by decide)).tr (Sd.I (by decide))).tr (Sd.I (by decide))).tr (sdc_A _ _)
theorem sdc_goO (S : SS) (o : Option Nat) (w : List Int32) : Sd cI [8, 33] [30] S (goO S o w) := by
  cases o with
  | some x => exact sdc_go S x
  | none => exact sdc_A S w
theorem sdc_tab (S : SS) : Sd cI [8, 33] [30] S (gTab S) := by
  unfold gTab
  split
  · exact (Sd.I (by decide)).tr (sdc_go _ _)
  · exact sdc_A _ _
theorem sdc_act (S : SS) : Sd cI [8, 33] [30] S (act S) := by
  have h2 : Sd cI [8, 33] [30] S (act2 S) := Sd.I (by decide)
  exact Sd.if (Sd.if (h2.tr ((Sd.I (by decide)).tr (sdc_A _ _))) (Sd.if (h2.tr ((Sd.I (by decide)).tr (sdc_A _ _))) (h2.tr ((((Sd.I (by decide)).tr (Sd.I (by decide))).tr (Sd.I (by decide))).tr (sdc_A _ _))))) (sdc_A _ _)
theorem sdc_cmd (S : SS) (p : Int32) : Sd cI [8, 33] [30] S (cmd S p) :=
  Sd.if (sdc_goO _ _ _) (Sd.if (sdc_goO _ _ _) (Sd.if (sdc_goO _ _ _) (Sd.if (sdc_goO _ _ _) (Sd.if (Sd.if (sdc_goO _ _ _) (sdc_A _ _)) (Sd.if (Sd.if (sdc_goO _ _ _) (sdc_A _ _)) (Sd.if (sdc_tab S) (Sd.if (sdc_act S) (Sd.if ((sd_hush S).mono (by decide)) (Sd.if (Sd.I (by decide)) (Sd.if (Sd.I (by decide)) (Sd.if (sdc_A _ _) Sd.rf)))))))))))
theorem sdc_typ (S : SS) (c : Int32) : Sd cI [8, 33] [30] S (typ S c) := (sd_typ S c).mono (by decide)
theorem sdc_typL (S : SS) (j : Nat) : Sd cI [8, 33] [30] S (typL S j) := Sd.if (sdc_typ _ _) (Sd.if (sdc_typ _ _) ((sdc_typ _ _).tr ((Sd.I (by decide)).tr (Sd.I (by decide)))))
theorem sdc_tkB (S : SS) : Sd cI [8, 33] [30] S (tkB S) := Sd.if (sdc_A _ _) ((Sd.L (by decide)).tr ((sd_sayC _ _).mono (by decide)))
theorem sdc_typS (S : SS) (p : Int32) : Sd cI [8, 33] [30] S (typS S p) := by
  unfold typS
  split
  · exact sdc_typL S _
  · exact Sd.if (Sd.I (by decide)) (Sd.if (Sd.I (by decide)) (Sd.if (Sd.I (by decide)) (Sd.if (sdc_typ _ _) (Sd.if (sdc_typ _ _) (Sd.if (sdc_typ _ _) (Sd.if (sdc_typ _ _) (Sd.if (Sd.if (sdc_typ _ _) ((sdc_typ _ _).tr (Sd.I (by decide)))) (Sd.if (sdc_tkB S) (Sd.if ((Sd.I (by decide)).tr (sdc_A _ _)) Sd.rf)))))))))
theorem sd_chd (S : SS) (p : Int32) : Sd cI [8, 33] [30] S (chd S p) := by
  refine Sd.tr ?_ ((sd_fit _).mono (by decide))
  exact Sd.if (Sd.if (Sd.if Sd.rf (Sd.if Sd.rf (sdc_goO _ _ _))) (sdc_typS S p)) (sdc_cmd S _)
/-! ticks -/
def K17 (S S' : SS) : Prop := ∀ i, sL S' 17 i = sL S 17 i ∨ sL S' 17 i = []
theorem K17.of {S S' : SS} (h : sL S' 17 = sL S 17) : K17 S S' := fun i => Or.inl (by rw [h])
theorem K17.tr {S T U : SS} (h1 : K17 S T) (h2 : K17 T U) : K17 S U := fun i => (h2 i).elim (fun e => by rw [e]; exact h1 i) Or.inr
theorem K17.w {S : SS} {r : Nat} : K17 S (wSL S 17 r []) := fun i => by
  rw [sL_L]
  split
  · exact Or.inr rfl
  · exact Or.inl rfl
theorem k17_swl (S : SS) (r : Nat) : K17 S (swl S r) := by
  unfold swl
  split
  · exact K17.of rfl
  · exact K17.w (S := wSI S 45 0 (sI S 45 0 + 1))
theorem k17_kpt1 (S : SS) (r : Nat) : K17 S (kpt1 S r) := by
  unfold kpt1
  split
  · exact K17.of rfl
  · split
    · exact (K17.w (S := S) (r := r)).tr (K17.of ((sd_cNews _ _).l 17 rfl))
    · exact k17_swl S r
theorem k17_kptF (S : SS) : ∀ n, K17 S (kptF S n)
  | 0 => K17.of rfl
  | n + 1 => by rw [kptF_s]; exact (k17_kptF S n).tr (k17_kpt1 _ n)
theorem k17_tck1 (S : SS) : K17 S (tck1 S) := by
  refine K17.tr (T := kpt (wSI S 46 0 (sI S 46 0 + 1))) ?_ (K17.of ?_)
  · exact k17_kptF (wSI S 46 0 (sI S 46 0 + 1)) _
  · unfold tck1
    rw [(sd_spkI _).l 17 rfl, (sd_bgnI _).l 17 rfl]
theorem Core.k17 {S S' : SS} {ki kl kq : List Nat} (h : Core S) (hs : Sd ki kl kq S S') (h1 : (dsj cki ki && dsj [6, 8, 18] kl) = true) (h17 : K17 S S') : Core S' := by
  rw [Bool.and_eq_true] at h1
  have e : ∀ k, decide (k ∈ cki) = true → sI S' k = sI S k := fun k hk => hs.i k (dsj_of h1.1 (of_decide_eq_true hk))
  have el : ∀ k, decide (k ∈ [6, 8, 18]) = true → sL S' k = sL S k := fun k hk => hs.l k (dsj_of h1.2 (of_decide_eq_true hk))
  obtain ⟨a1, a2, a3, a4, a5, a6, a7, a8, a9, a10, a11, a12, a13, a14⟩ := h
  refine ⟨a1.cg (e 0 rfl) (e 1 rfl) (e 2 rfl) (e 3 rfl) (e 12 rfl) hs.2.2.2, fun i => ?_, a3.cg (e 0 rfl) (e 1 rfl) (e 2 rfl), a4.cg (e 0 rfl) (e 1 rfl) (e 20 rfl), a5.cg (fun k hk => ?_), a6.cg (e 3 rfl) (e 12 rfl) (e 20 rfl), a7.cg (e 0 rfl) (e 1 rfl) (e 2 rfl) (e 3 rfl) (e 12 rfl) (e 21 rfl), a8.cg (e 2 rfl) (e 20 rfl) (e 21 rfl) (e 22 rfl), a9.cg (e 2 rfl) (el 8 rfl), fun i hi => ?_, ?_, ?_, a13.cg (e 26 rfl) (e 27 rfl), fun i hi => ?_⟩
  · rw [el 6 rfl, el 8 rfl]
    refine ⟨(a2 i).1, (a2 i).2.1, ?_⟩
    rcases h17 i with z | z
    · rw [z]; exact (a2 i).2.2
    · rw [z]; simp
  · have : ∀ k, k ∈ [1, 10, 12, 22, 23, 24] → decide (k ∈ cki) = true := by decide
    exact e k (this k hk)
  · rcases h17 i with z | z
    · rw [z] at hi
      rw [e 2 rfl]
      exact ⟨(a10 i hi).1, (th_cg (e 0 rfl) (e 1 rfl) i).mpr (a10 i hi).2⟩
    · rw [z] at hi; simp at hi
  · unfold WXd
    rw [el 18 rfl]; exact a11
  · unfold WXo
    rw [e 25 rfl]; exact a12
  · rw [made_cg (e 0 rfl)] at hi
    obtain ⟨z1, z2, z3, z4, z5, z6⟩ := a14 i hi
    rw [el 8 rfl, e 10 rfl, e 11 rfl, e 12 rfl, hs.2.2.2]
    refine ⟨z1, ?_, z3, z4, z5, z6⟩
    rcases h17 i with z | z
    · rw [z]; exact z2
    · exact z
theorem fit_keep {S S' : SS} (h : fit S = S) (hl : ln S' = ln S) (h25 : sI S' 25 = sI S 25) : fit S' = S' := by
  unfold fit at *
  rw [hl, h25]
  by_cases q : 0 < sI S 25 0 ∧ nI (ln S).length ≤ sI S 25 0
  · rw [if_pos q] at h
    rw [if_pos q]
    refine wSI_same ?_
    have := congrArg (fun T => sI T 25 0) h
    replace this : sI (wSI S 25 0 (if (ln S).length = 0 then 0 else nI (((ln S).length - 1) / 10 * 10))) 25 0 = sI S 25 0 := this
    rw [sI_I, if_pos ⟨rfl, rfl⟩] at this
    rw [this, h25]
  · rw [if_neg q]
theorem tck_Inv {S : SS} {c : Nat} (h : Inv S c) : Inv (tck1 S) (c + 2) := by
  obtain ⟨h1, h2, h3, h4, h5⟩ := tck_keep h.1.1.t h.1.1.l h.1.2.1 h.1.2.2.1
  have hs := sd_tck1 S
  have h6 := Nat.le_trans h5 h.2.2
  exact ⟨⟨h.1.1.k17 hs rfl (k17_tck1 S), h3, h4, h6⟩, fit_keep h.2.1 (ln_cg (hs.i 2 rfl) (hs.i 3 rfl) (hs.i 10 rfl) (hs.i 13 rfl) (hs.i 20 rfl) (hs.i 22 rfl) (hs.l 6 rfl) (hs.l 8 rfl)) (hs.i 25 rfl), h6⟩
theorem Inv.kTick {S : SS} {c : Nat} (h : Inv S c) : ∀ n, Inv (tckN S n) (c + 2 * n)
  | 0 => h
  | n + 1 => by
    have := tck_Inv (h.kTick n)
    rw [show c + 2 * (n + 1) = c + 2 * n + 2 by omega]
    exact this
/-- the call answers, throws and leaves the desk as r says of the desk at which nothing was thrown -/
def MF (S : SS) (m : mm) (f : Option (Int32 × mm)) (r : SS → aS) : Prop := ∃ m', f = some ((r (z0 S)).2.1, m') ∧ RM (wSI (r (z0 S)).2.2 48 0 (r (z0 S)).1) m'
section MT
variable {S : SS} {m : mm}
theorem MC.toF {f : Option (Int32 × mm)} {r : SS → aS} (h : MC S m f r) (e : ((r (z0 S)).1, (r (z0 S)).2.1) = ((r S).1, (r S).2.1)) : MF S m f r := by
  obtain ⟨m', a, b⟩ := h
  obtain ⟨e1, e2⟩ := Prod.mk.inj e
  exact ⟨m', by rw [e2]; exact a, by rw [e1]; exact b⟩
theorem MF.thr {f : Option (Int32 × mm)} {r : SS → aS} {k : Int32} (hM : RM S m) (h2 : r (z0 S) = tw k (z0 S)) (hf : f = some (0, up2 m 48 0 k)) : MF S m f r := by
  refine ⟨_, by rw [h2]; exact hf, ?_⟩
  rw [h2]
  show RM (wSI (wSI S 48 0 0) 48 0 k) _
  rw [wSI_two]
  exact hM.wI0 rfl
theorem MF.okr {f : Option (Int32 × mm)} {r : SS → aS} {a : Int32} {S' : SS} (h2 : r (z0 S) = rt a S') (h48 : sI S' 48 0 = 0) (hf : ∃ m', f = some (a, m') ∧ RM S' m') : MF S m f r := by
  obtain ⟨m', g1, g2⟩ := hf
  refine ⟨m', by rw [h2]; exact g1, ?_⟩
  rw [h2]
  show RM (wSI S' 48 0 0) m'
  rw [wSI_same h48]
  exact g2
theorem not_neg {x : Int32} {a : Int32} (ha : (0 : Int32) ≤ a) (h : a ≤ x) : ¬ x < 0 := fun z => by
  rw [Int32.lt_iff_toInt_lt] at z
  rw [Int32.le_iff_toInt_le] at ha h
  omega
/-! keys -/
theorem or_bit : ∀ d, d < 512 → ∀ k, k < 9 → (nI d ||| ((1 : Int32) <<< (nI k &&& 31))) = nI (d ||| 2 ^ k) ∧ d ||| 2 ^ k < 512 ∧ d ||| 2 ^ k ≠ 0 := by decide +kernel
theorem and_bit : ∀ d, d < 512 → ∀ k, k < 9 → (nI d &&& (((1 : Int32) <<< (nI k &&& 31)) ^^^ (-1))) = nI (d &&& (511 ^^^ 2 ^ k)) ∧ d &&& (511 ^^^ 2 ^ k) < 512 := by decide +kernel
theorem Core.kp {S' : SS} {ki : List Nat} (h : Core S) (hs : Sd [26, 27] [] [] S S') (hp : WXp S') : Core S' := by
  obtain ⟨a1, a2, a3, a4, a5, a6, a7, a8, a9, a10, a11, a12, a13, a14⟩ := h
  refine ⟨a1.cg (hs.i 0 rfl) (hs.i 1 rfl) (hs.i 2 rfl) (hs.i 3 rfl) (hs.i 12 rfl) hs.2.2.2, a2.cg (hs.l 6 rfl) (hs.l 8 rfl) (hs.l 17 rfl), a3.cg (hs.i 0 rfl) (hs.i 1 rfl) (hs.i 2 rfl), a4.cg (hs.i 0 rfl) (hs.i 1 rfl) (hs.i 20 rfl), a5.cg (fun k hk => ?_), a6.cg (hs.i 3 rfl) (hs.i 12 rfl) (hs.i 20 rfl), a7.cg (hs.i 0 rfl) (hs.i 1 rfl) (hs.i 2 rfl) (hs.i 3 rfl) (hs.i 12 rfl) (hs.i 21 rfl), a8.cg (hs.i 2 rfl) (hs.i 20 rfl) (hs.i 21 rfl) (hs.i 22 rfl), a9.cg (hs.i 2 rfl) (hs.l 8 rfl), a10.cg (hs.i 0 rfl) (hs.i 1 rfl) (hs.i 2 rfl) (hs.l 17 rfl), ?_, ?_, hp, a14.cg (hs.i 0 rfl) (hs.i 10 rfl) (hs.i 11 rfl) (hs.i 12 rfl) (hs.l 8 rfl) (hs.l 17 rfl) hs.2.2.2⟩
  · have : ∀ k, k ∈ [1, 10, 12, 22, 23, 24] → decide (k ∉ [26, 27]) = true := by decide
    exact hs.i k (this k hk)
  · unfold WXd
    rw [hs.l 18 rfl]; exact a11
  · unfold WXo
    rw [hs.i 25 rfl]; exact a12
theorem Inv.kp {S' : SS} {c : Nat} (h : Inv S c) (hs : Sd [26, 27] [] [] S S') (hp : WXp S') : Inv S' c := by
  refine ⟨h.1.core hs (h.1.1.kp (ki := []) hs hp) rfl, fit_keep h.2.1 (ln_cg (hs.i 2 rfl) (hs.i 3 rfl) (hs.i 10 rfl) (hs.i 13 rfl) (hs.i 20 rfl) (hs.i 22 rfl) (hs.l 6 rfl) (hs.l 8 rfl)) (hs.i 25 rfl), by rw [hs.q 35 rfl]; exact h.2.2⟩
theorem Inv.kPress {c : Nat} (h : Inv S c) {k : Nat} (hk : k ≤ 8) : Inv (prs S (nI k)) c := by
  obtain ⟨d, e, d1, e1, d2, e2, de⟩ := h.1.1.xp
  have hs : Sd [26, 27] [] [] S (prs S (nI k)) := (Sd.I (by decide)).tr (Sd.I (by decide))
  refine h.kp hs ?_
  obtain ⟨o1, o2, o3⟩ := or_bit d d1 k (by omega)
  have hv : ∃ v, v < 512 ∧ (if sI S 26 0 = 0 then 0 else sI S 27 0) = nI v := by
    split
    · exact ⟨0, by decide, rfl⟩
    · exact ⟨e, e1, e2⟩
  obtain ⟨v, v1, v2⟩ := hv
  obtain ⟨w1, w2, w3⟩ := or_bit v v1 k (by omega)
  refine ⟨d ||| 2 ^ k, v ||| 2 ^ k, o2, w2, ?_, ?_, fun _ => w3⟩
  · unfold prs
    rw [sI_I, if_pos ⟨rfl, rfl⟩, d2, o1]
  · unfold prs
    rw [sI_I, if_neg (fun z => absurd z.1 (by decide)), sI_I, if_pos ⟨rfl, rfl⟩, v2, w1]
theorem Inv.kRls1 {c : Nat} (h : Inv S c) {k : Nat} (hk : k ≤ 8) : Inv (rls1 S (nI k)) c := by
  obtain ⟨d, e, d1, e1, d2, e2, de⟩ := h.1.1.xp
  have hs : Sd [26, 27] [] [] S (rls1 S (nI k)) := Sd.I (by decide)
  refine h.kp hs ?_
  obtain ⟨o1, o2⟩ := and_bit d d1 k (by omega)
  refine ⟨d &&& (511 ^^^ 2 ^ k), e, o2, e1, ?_, ?_, fun z => de (fun w => z (by rw [w, Nat.zero_and]))⟩
  · unfold rls1
    rw [sI_I, if_pos ⟨rfl, rfl⟩, d2, o1]
  · unfold rls1
    rw [sI_I, if_neg (fun z => absurd z.1 (by decide))]; exact e2
theorem Inv.kRls {c : Nat} (h : Inv S c) {k : Nat} (hk : k ≤ 8) : Inv (rls S (nI k)) c := by
  have := h.kRls1 hk
  unfold rls
  split
  · exact this.chd _
  · exact this
end MT

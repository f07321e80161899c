/-! ===== what always holds of the desk, and what keeps it ===== -/
def Sd (ki kl kq : List Nat) (S S' : SS) : Prop := (∀ k, k ∉ ki → sI S' k = sI S k) ∧ (∀ k, k ∉ kl → sL S' k = sL S k) ∧ (∀ k, k ∉ kq → sQ S' k = sQ S k) ∧ sK S' = sK S
theorem Sd.rf {ki kl kq : List Nat} {S : SS} : Sd ki kl kq S S := ⟨fun _ _ => rfl, fun _ _ => rfl, fun _ _ => rfl, rfl⟩
theorem Sd.tr {ki kl kq : List Nat} {S S1 S2 : SS} (h1 : Sd ki kl kq S S1) (h2 : Sd ki kl kq S1 S2) : Sd ki kl kq S S2 := ⟨fun k hk => (h2.1 k hk).trans (h1.1 k hk), fun k hk => (h2.2.1 k hk).trans (h1.2.1 k hk), fun k hk => (h2.2.2.1 k hk).trans (h1.2.2.1 k hk), h2.2.2.2.trans h1.2.2.2⟩
def sub (a b : List Nat) : Bool := a.all (fun k => decide (k ∈ b))
theorem sub_of {a b : List Nat} (h : sub a b = true) {k : Nat} (hk : k ∉ b) : k ∉ a := fun hm => hk (of_decide_eq_true (List.all_eq_true.mp h k hm))
theorem Sd.mono {ki kl kq ki' kl' kq' : List Nat} {S S' : SS} (h : Sd ki kl kq S S') (h1 : (sub ki ki' && sub kl kl' && sub kq kq') = true) : Sd ki' kl' kq' S S' := by
  simp only [Bool.and_eq_true] at h1
  exact ⟨fun k hk => h.1 k (sub_of h1.1.1 hk), fun k hk => h.2.1 k (sub_of h1.1.2 hk), fun k hk => h.2.2.1 k (sub_of h1.2 hk), h.2.2.2⟩
theorem Sd.i {ki kl kq : List Nat} {S S' : SS} (h : Sd ki kl kq S S') (k : Nat) (hk : decide (k ∉ ki) = true) : sI S' k = sI S k := h.1 k (of_decide_eq_true hk)
theorem Sd.l {ki kl kq : List Nat} {S S' : SS} (h : Sd ki kl kq S S') (k : Nat) (hk : decide (k ∉ kl) = true) : sL S' k = sL S k := h.2.1 k (of_decide_eq_true hk)
theorem Sd.q {ki kl kq : List Nat} {S S' : SS} (h : Sd ki kl kq S S') (k : Nat) (hk : decide (k ∉ kq) = true) : sQ S' k = sQ S k := h.2.2.1 k (of_decide_eq_true hk)
theorem Sd.I {ki kl kq : List Nat} {S : SS} {k i : Nat} {v : Int32} (hk : k ∈ ki) : Sd ki kl kq S (wSI S k i v) := ⟨fun j hj => up2_ne _ _ _ (fun e => hj (by rw [e]; exact hk)), fun _ _ => rfl, fun _ _ => rfl, rfl⟩
theorem Sd.L {ki kl kq : List Nat} {S : SS} {k i : Nat} {v : List Int32} (hk : k ∈ kl) : Sd ki kl kq S (wSL S k i v) := ⟨fun _ _ => rfl, fun j hj => up2_ne _ _ _ (fun e => hj (by rw [e]; exact hk)), fun _ _ => rfl, rfl⟩
theorem Sd.Q {ki kl kq : List Nat} {S : SS} {k : Nat} {v : List (List Int32)} (hk : k ∈ kq) : Sd ki kl kq S (wSQ S k v) := ⟨fun _ _ => rfl, fun _ _ => rfl, fun j hj => if_neg (fun e => hj (by rw [e]; exact hk)), rfl⟩
theorem Sd.if {ki kl kq : List Nat} {S A B : SS} {c : Prop} [Decidable c] (h1 : Sd ki kl kq S A) (h2 : Sd ki kl kq S B) : Sd ki kl kq S (if c then A else B) := by split <;> assumption
/-! the steps: what they leave -/
theorem sd_drop1 {ki kl kq : List Nat} {S : SS} (hk : 44 ∈ ki) : Sd ki kl kq S (drop1 S) := Sd.I hk
theorem sd_cNews (S : SS) (t : List Int32) : Sd [44] [] [30] S (cNews S t) := Sd.if (Sd.tr (Sd.Q (by decide)) (Sd.I (by decide))) (Sd.Q (by decide))
theorem sd_hshA (S : SS) : Sd [44] [] [] S (hshA S) := Sd.if Sd.rf (Sd.I (by decide))
theorem sd_hshS (S : SS) : Sd [38, 44] [] [] S (hshS S) := Sd.if (Sd.tr (Sd.I (by decide)) (Sd.I (by decide))) Sd.rf
theorem sd_cAns (S : SS) (t : List Int32) : Sd [38, 44] [33] [] S (cAns S t) := Sd.if Sd.rf ((((sd_hshA S).mono (by decide)).tr ((sd_hshS _).mono (by decide))).tr (Sd.L (by decide)))
theorem sd_cAl1 (S : SS) : Sd [38, 44] [33] [] S (cAl1 S) := Sd.if (Sd.tr (Sd.I (by decide)) (Sd.I (by decide))) (Sd.if (Sd.tr (Sd.L (by decide)) (Sd.I (by decide))) Sd.rf)
theorem sd_cAl (S : SS) (t : List Int32) : Sd [38, 44] [33] [35] S (cAl S t) := Sd.tr (Sd.Q (by decide)) ((sd_cAl1 _).mono (by decide))
theorem sd_hush (S : SS) : Sd [38, 44] [33] [30] S (hush S) := (((Sd.I (by decide)).tr (Sd.Q (by decide))).tr (Sd.L (by decide))).tr (Sd.I (by decide))
theorem sd_swl (S : SS) (r : Nat) : Sd [45] [17] [] S (swl S r) := Sd.if Sd.rf (Sd.tr (Sd.I (by decide)) (Sd.L (by decide)))
theorem sd_tel (S : SS) (r : Option Nat) (t : List Int32) : Sd [15, 38, 44, 45] [17, 33] [30, 35] S (tel S r t) := by
  cases r with
  | none => exact Sd.rf
  | some r => exact Sd.if Sd.rf (Sd.if ((sd_cAl S t).mono (by decide)) (Sd.if (Sd.tr (Sd.I (by decide)) ((sd_cNews _ t).mono (by decide))) (((sd_swl S r).mono (by decide)).tr (Sd.L (by decide)))))
theorem sd_telW (S : SS) (i : Nat) : Sd [15, 38, 44, 45] [17, 33] [30, 35] S (telW S i) := Sd.if (sd_tel S _ _) Sd.rf
theorem sd_kpt1 (S : SS) (r : Nat) : Sd [15, 44, 45] [17] [30] S (kpt1 S r) := Sd.if Sd.rf (Sd.if ((Sd.tr (Sd.L (by decide)) (Sd.I (by decide))).tr ((sd_cNews _ _).mono (by decide))) ((sd_swl S r).mono (by decide)))
theorem kptF_s (S : SS) (n : Nat) : kptF S (n + 1) = kpt1 (kptF S n) n := by
  unfold kptF
  rw [List.range_succ, List.foldl_append]; rfl
theorem sd_kptF (S : SS) : ∀ n, Sd [15, 44, 45] [17] [30] S (kptF S n)
  | 0 => Sd.rf
  | n + 1 => by rw [kptF_s]; exact (sd_kptF S n).tr (sd_kpt1 _ n)
theorem sd_bgn1 (S : SS) : Sd [38] [33, 39] [30, 35] S (bgn1 S) := by
  unfold bgn1
  cases sQ S 35 with
  | cons t q => exact ((Sd.L (by decide)).tr (Sd.Q (by decide))).tr (Sd.I (by decide))
  | nil =>
    refine Sd.if ?_ (((Sd.L (by decide)).tr (Sd.L (by decide))).tr (Sd.I (by decide)))
    cases sQ S 30 with
    | cons t q => exact ((Sd.L (by decide)).tr (Sd.Q (by decide))).tr (Sd.I (by decide))
    | nil => exact Sd.rf
theorem sd_bgnI (S : SS) : Sd [38, 41] [33, 39] [30, 35] S (bgnI S) := Sd.if (((sd_bgn1 S).mono (by decide)).tr (Sd.I (by decide))) Sd.rf
theorem sd_spkI (S : SS) : Sd [38, 41, 42, 43] [] [] S (spkI S) := Sd.if Sd.rf ((((Sd.I (by decide)).tr (Sd.I (by decide))).tr (Sd.I (by decide))).tr (Sd.if (Sd.I (by decide)) Sd.rf))
theorem sd_tck1 (S : SS) : Sd [15, 38, 41, 42, 43, 44, 45, 46] [17, 33, 39] [30, 35] S (tck1 S) := (((Sd.I (by decide)).tr ((sd_kptF _ _).mono (by decide))).tr ((sd_bgnI _).mono (by decide))).tr ((sd_spkI _).mono (by decide))
theorem sd_tckN (S : SS) : ∀ n, Sd [15, 38, 41, 42, 43, 44, 45, 46] [17, 33, 39] [30, 35] S (tckN S n)
  | 0 => Sd.rf
  | n + 1 => (sd_tckN S n).tr (sd_tck1 _)
theorem sd_fit (S : SS) : Sd [25] [] [] S (fit S) := Sd.if (Sd.I (by decide)) Sd.rf
theorem sd_los1 (S : SS) : Sd [21, 22] [] [] S (los1 S) := Sd.if (Sd.tr (Sd.I (by decide)) (Sd.I (by decide))) Sd.rf
theorem sd_los2 (S : SS) (r : Nat) : Sd [20, 25] [] [] S (los2 S r) := Sd.tr (Sd.I (by decide)) (Sd.I (by decide))
theorem sd_los (S : SS) (r : Nat) : Sd [20, 21, 22, 25, 38, 44] [33] [35] S (los S r) := ((sd_los1 S).mono (by decide)).tr (Sd.if (((sd_los2 _ r).mono (by decide)).tr ((sd_cAl _ _).mono (by decide))) Sd.rf)
/-! what the notions rest on -/
section CG
variable {S S' : SS}
theorem anc_cg (h3 : sI S' 3 = sI S 3) : ∀ (f i : Nat), anc S' f i = anc S f i
  | 0, _ => rfl
  | f + 1, i => by
    show i :: (if sI S' 3 i = -1 then [] else anc S' f (sI S' 3 i).toNatClampNeg) = i :: (if sI S 3 i = -1 then [] else anc S f (sI S 3 i).toNatClampNeg)
    rw [h3, anc_cg h3 f]
theorem an_cg (h3 : sI S' 3 = sI S 3) (i : Nat) : an S' i = an S i := anc_cg h3 40 i
theorem hid_cg (h : sI S' 12 = sI S 12) (i : Nat) : hid S' i = hid S i := by unfold hid; rw [h]
theorem shn_cg (h3 : sI S' 3 = sI S 3) (h12 : sI S' 12 = sI S 12) (i : Nat) : shn S' i = shn S i := by
  unfold shn hid
  rw [an_cg h3, h12]
theorem lvl_cg (h3 : sI S' 3 = sI S 3) (h13 : sI S' 13 = sI S 13) (i : Nat) : lvl S' i = lvl S i := by
  unfold lvl
  rw [an_cg h3, h13]
theorem rgn_cg (h3 : sI S' 3 = sI S 3) (h2 : sI S' 2 = sI S 2) (i : Nat) : rgn S' i = rgn S i := by
  unfold rgn
  rw [an_cg h3, h2]
theorem dpar_cg (h3 : sI S' 3 = sI S 3) (i : Nat) : dpar S' i = dpar S i := by unfold dpar; rw [h3]
theorem plc_cg (h3 : sI S' 3 = sI S 3) (hK : sK S' = sK S) (i : Nat) : plc S' i = plc S i := by unfold plc; rw [hK, dpar_cg h3]
theorem vis_cg (h12 : sI S' 12 = sI S 12) (l : List Nat) : vis S' l = vis S l := by unfold vis hid; rw [h12]
theorem made_cg (h0 : sI S' 0 = sI S 0) : made S' = made S := by unfold made; rw [h0]
theorem th_cg (h0 : sI S' 0 = sI S 0) (h1 : sI S' 1 = sI S 1) (i : Nat) : th S' i ↔ th S i := by unfold th; rw [made_cg h0, h1]
theorem wd_cg (h2 : sI S' 2 = sI S 2) (h3 : sI S' 3 = sI S 3) (h10 : sI S' 10 = sI S 10) (h12 : sI S' 12 = sI S 12) (h13 : sI S' 13 = sI S 13) (h6 : sL S' 6 = sL S 6) (h8 : sL S' 8 = sL S 8) (hK : sK S' = sK S) (i : Nat) (t : List Int32) : wd S' i t = wd S i t := by
  unfold wd wd1 wd2 wd3
  rw [lvl_cg h3 h13, h2, h10, h6, h8, hK, dpar_cg h3, plc_cg h3 hK, vis_cg h12, vis_cg h12]
theorem ln_cg (h2 : sI S' 2 = sI S 2) (h3 : sI S' 3 = sI S 3) (h10 : sI S' 10 = sI S 10) (h13 : sI S' 13 = sI S 13) (h20 : sI S' 20 = sI S 20) (h22 : sI S' 22 = sI S 22) (h6 : sL S' 6 = sL S 6) (h8 : sL S' 8 = sL S 8) : ln S' = ln S := by
  unfold ln ln1 ln2 ln3 cur
  rw [lvl_cg h3 h13, h2, h10, h20, h22, h6, h8]
theorem PW.cg (h0 : sI S' 0 = sI S 0) (h3 : sI S' 3 = sI S 3) (h : PW S) : PW S' := by
  unfold PW made at *
  rw [h0, h3]; exact h
theorem WT.cg (h0 : sI S' 0 = sI S 0) (h1 : sI S' 1 = sI S 1) (h2 : sI S' 2 = sI S 2) (h3 : sI S' 3 = sI S 3) (h12 : sI S' 12 = sI S 12) (hK : sK S' = sK S) (h : WT S) : WT S' := by
  obtain ⟨a, b, c, d, e, f⟩ := h
  have ht := th_cg h0 h1
  refine ⟨a.cg h0 h3, (ht 0).mpr b, by rw [h2]; exact c, by rw [h12]; exact d, fun i hi hti => ?_, fun i hti => ?_⟩
  · rw [dpar_cg h3, hK, ht]; exact e i hi ((ht i).mp hti)
  · rw [hK]
    obtain ⟨f1, f2, f3⟩ := f i ((ht i).mp hti)
    exact ⟨f1, f2, fun j hj => by rw [ht, dpar_cg h3]; exact f3 j hj⟩
theorem WL.cg (h6 : sL S' 6 = sL S 6) (h8 : sL S' 8 = sL S 8) (h17 : sL S' 17 = sL S 17) (h : WL S) : WL S' := fun i => by rw [h6, h8, h17]; exact h i
theorem WK.cg (h0 : sI S' 0 = sI S 0) (h1 : sI S' 1 = sI S 1) (h2 : sI S' 2 = sI S 2) (h : WK S) : WK S' := fun i hi => by rw [h2]; exact h i ((th_cg h0 h1 i).mp hi)
theorem WC.cg (h0 : sI S' 0 = sI S 0) (h1 : sI S' 1 = sI S 1) (h20 : sI S' 20 = sI S 20) (h : WC S) : WC S' := by
  have : cur S' = cur S := by unfold cur; rw [h20]
  unfold WC
  rw [this, h20, th_cg h0 h1]; exact h
end CG
/-! speech keeps its form -/
section VV
variable {S : SS}
theorem WV.cg {S' : SS} (h30 : sQ S' 30 = sQ S 30) (h35 : sQ S' 35 = sQ S 35) (h33 : sL S' 33 = sL S 33) (h39 : sL S' 39 = sL S 39) (h38 : sI S' 38 = sI S 38) (h41 : sI S' 41 = sI S 41) (h : WV S) : WV S' := by
  unfold WV at *
  rw [h30, h35, h33, h39, h38, h41]; exact h
theorem WV.q30 (h : WV S) {q : List (List Int32)} (h1 : q.length ≤ 5) (h2 : WQ q) : WV (wSQ S 30 q) := ⟨h1, h2, h.2.2.1, h.2.2.2.1, h.2.2.2.2.1, h.2.2.2.2.2.1, h.2.2.2.2.2.2⟩
theorem WV.q35 (h : WV S) {q : List (List Int32)} (h2 : WQ q) : WV (wSQ S 35 q) := ⟨h.1, h.2.1, h2, h.2.2.2.1, h.2.2.2.2.1, h.2.2.2.2.2.1, h.2.2.2.2.2.2⟩
theorem WV.l33 (h : WV S) {t : List Int32} (h1 : t.length ≤ 80) : WV (wSL S 33 0 t) := ⟨h.1, h.2.1, h.2.2.1, h1, h.2.2.2.2.1, h.2.2.2.2.2.1, h.2.2.2.2.2.2⟩
theorem WV.i38 (h : WV S) : WV (wSI S 38 0 (-1)) := by
  refine ⟨h.1, h.2.1, h.2.2.1, h.2.2.2.1, h.2.2.2.2.1, Or.inl ?_, fun z => absurd ?_ z⟩
  · rw [sI_I, if_pos ⟨rfl, rfl⟩]
  · rw [sI_I, if_pos ⟨rfl, rfl⟩]
theorem WV.i (h : WV S) {k i : Nat} {v : Int32} (h1 : decide (k ≠ 38) = true) (h2 : decide (k ≠ 41) = true) : WV (wSI S k i v) := WV.cg (S := S) (h := h) rfl rfl rfl rfl (up2_ne S.1 i v (fun e => of_decide_eq_true h1 e.symm)) (up2_ne S.1 i v (fun e => of_decide_eq_true h2 e.symm))
theorem WV.l (h : WV S) {k i : Nat} {v : List Int32} (h1 : decide (k ≠ 33) = true) (h2 : decide (k ≠ 39) = true) : WV (wSL S k i v) := WV.cg (S := S) (h := h) rfl rfl (up2_ne S.2.1 i v (fun e => of_decide_eq_true h1 e.symm)) (up2_ne S.2.1 i v (fun e => of_decide_eq_true h2 e.symm)) rfl rfl
theorem WV.kdrop1 (h : WV S) : WV (drop1 S) := h.i (by decide) (by decide)
theorem WV.kcNews (h : WV S) {t : List Int32} (h1 : 0 < t.length) (h2 : t.length ≤ 80) : WV (cNews S t) := by
  have h5 := h.1
  unfold cNews
  split
  · exact (h.q30 (by rw [List.length_drop, List.length_append, List.length_singleton]; omega) (h.2.1.app h1 h2).drop).kdrop1
  · exact h.q30 (by rw [List.length_append, List.length_singleton]; omega) (h.2.1.app h1 h2)
theorem WV.khshA (h : WV S) : WV (hshA S) := by unfold hshA; split; exact h; exact h.kdrop1
theorem WV.khshS (h : WV S) : WV (hshS S) := by unfold hshS; split; exact h.i38.kdrop1; exact h
theorem WV.kcAns (h : WV S) {t : List Int32} (h2 : t.length ≤ 80) : WV (cAns S t) := by
  unfold cAns
  split
  · exact h
  · exact h.khshA.khshS.l33 h2
theorem WV.kcAl1 (h : WV S) : WV (cAl1 S) := by
  unfold cAl1
  split
  · exact h.i38.kdrop1
  · split
    · have := h.2.2.2.2.1
      exact (h.l33 (by rw [List.length_drop]; omega)).i38
    · exact h
theorem WV.kcAl (h : WV S) {t : List Int32} (h1 : 0 < t.length) (h2 : t.length ≤ 80) : WV (cAl S t) := (h.q35 (h.2.2.1.app h1 h2)).kcAl1
theorem cAl_len (S : SS) (t : List Int32) : (sQ (cAl S t) 35).length = (sQ S 35).length + 1 := by
  have h1 : sQ (cAl S t) 35 = sQ (wSQ S 35 (sQ S 35 ++ [t])) 35 := (sd_cAl1 _).q 35 rfl
  rw [h1, sQ_Q, if_pos rfl, List.length_append]; rfl
theorem WV.khush (h : WV S) : WV (hush S) := by
  have h1 : WV (wSL (wSQ (wSI S 44 0 (sI S 44 0 + ((nI (sQ S 30).length + (if (sL S 33 0).length = 0 then 0 else 1)) + (if sI S 38 0 = 0 ∨ sI S 38 0 = 1 then 1 else 0)))) 30 []) 33 0 []) := ((h.i (by decide) (by decide)).q30 (by simp) (fun t ht => absurd ht List.not_mem_nil)).l33 (by simp)
  unfold hush
  by_cases e : sI S 38 0 = 2
  · rw [if_pos e]
    rw [wSI_same]
    · exact h1
    · rw [sI_L, sI_Q, sI_I, if_neg (by decide)]; exact e
  · rw [if_neg e]; exact h1.i38
theorem WV.kswl (h : WV S) {r : Nat} : WV (swl S r) := by
  unfold swl
  split
  · exact h
  · exact (h.i (by decide) (by decide)).l (by decide) (by decide)
theorem WL.k17 (h : WL S) {r : Nat} {t : List Int32} (ht : t.length ≤ 80) : WL (wSL S 17 r t) := fun i => by
  rw [sL_L, sL_L, sL_L, if_neg (by simp), if_neg (by simp)]
  refine ⟨(h i).1, (h i).2.1, ?_⟩
  split
  · exact ht
  · exact (h i).2.2
theorem WL.sd {ki kl kq : List Nat} {S' : SS} (h : WL S) (hs : Sd ki kl kq S S') (h1 : decide (6 ∉ kl) = true) (h2 : decide (8 ∉ kl) = true) (h3 : decide (17 ∉ kl) = true) : WL S' := h.cg (hs.l 6 h1) (hs.l 8 h2) (hs.l 17 h3)
theorem WL.kswl (h : WL S) {r : Nat} : WL (swl S r) := by
  unfold swl
  split
  · exact h
  · exact WL.k17 (S := wSI S 45 0 (sI S 45 0 + 1)) h (by simp)
theorem WL.kcNews (h : WL S) {t : List Int32} : WL (cNews S t) := h.sd (sd_cNews S t) rfl rfl rfl
theorem WV.ktel (h : WV S) {r : Option Nat} {t : List Int32} (h2 : t.length ≤ 80) : WV (tel S r t) := by
  cases r with
  | none => exact h
  | some r =>
    unfold tel
    simp only []
    split
    · exact h
    · rename_i hc
      have h1 : 0 < t.length := by omega
      split
      · exact h.kcAl h1 h2
      · split
        · exact WV.kcNews (h.i (by decide) (by decide)) h1 h2
        · exact h.kswl.l (by decide) (by decide)
theorem WL.ktel (h : WL S) {r : Option Nat} {t : List Int32} (h2 : t.length ≤ 80) : WL (tel S r t) := by
  cases r with
  | none => exact h
  | some r =>
    unfold tel
    simp only []
    split
    · exact h
    · split
      · exact h.sd (sd_cAl S t) rfl rfl rfl
      · split
        · exact WL.kcNews (S := wSI S 15 r (sI S 46 0)) h
        · exact h.kswl.k17 h2
theorem tel_len (S : SS) (r : Option Nat) (t : List Int32) : (sQ (tel S r t) 35).length ≤ (sQ S 35).length + 1 := by
  cases r with
  | none => exact Nat.le_succ _
  | some r =>
    unfold tel
    simp only []
    split
    · exact Nat.le_succ _
    · split
      · rw [cAl_len]; omega
      · split
        · rw [(sd_cNews _ _).q 35 rfl, sQ_I]; omega
        · rw [sQ_L, (sd_swl _ _).q 35 rfl]; omega
theorem WV.kkpt1 (h : WV S) (hL : WL S) {r : Nat} : WV (kpt1 S r) := by
  have h8 := (hL r).2.2
  unfold kpt1
  split
  · exact h
  · rename_i hc
    have h1 : 0 < (sL S 17 r).length := by
      rcases Nat.eq_zero_or_pos (sL S 17 r).length with q | q
      · exact absurd (Or.inl q) hc
      · exact q
    split
    · exact WV.kcNews ((h.l (by decide) (by decide)).i (by decide) (by decide)) h1 h8
    · exact h.kswl
theorem WL.kkpt1 (h : WL S) {r : Nat} : WL (kpt1 S r) := by
  unfold kpt1
  split
  · exact h
  · split
    · exact WL.kcNews (S := wSI (wSL S 17 r []) 15 r (sI S 46 0)) (h.k17 (by simp))
    · exact h.kswl
theorem WV.kkptF (h : WV S) (hL : WL S) : ∀ n, WV (kptF S n) ∧ WL (kptF S n)
  | 0 => ⟨h, hL⟩
  | n + 1 => by
    obtain ⟨a, b⟩ := WV.kkptF h hL n
    rw [kptF_s]
    exact ⟨a.kkpt1 b, b.kkpt1⟩
end VV

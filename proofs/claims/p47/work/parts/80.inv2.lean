/-! ===== all that holds between calls ===== -/
def WXs (S : SS) : Prop := shn S (cur S) = true
def WXf (S : SS) : Prop := sI S 21 0 = -1 ∨ ∃ f, sI S 21 0 = nI f ∧ th S f ∧ shn S f = true ∧ canF (sI S 2 f) = true
/-- while one types, it is in the EDIT at the cursor, which has the focus -/
def WXt (S : SS) : Prop := sI S 22 0 = 0 ∨ (sI S 2 (cur S) = 4 ∧ sI S 21 0 = sI S 20 0)
def WXc (S : SS) : Prop := ∀ i, 0 < (sL S 8 i).length → sI S 2 i = 4
def WXk (S : SS) : Prop := ∀ i, 0 < (sL S 17 i).length → sI S 2 i = 7 ∧ th S i
def WXd (S : SS) : Prop := (sL S 18 0).length ≤ 12
def WXo (S : SS) : Prop := ∃ q, q ≤ 6 ∧ sI S 25 0 = nI (10 * q)
def WXp (S : SS) : Prop := ∃ d e, d < 512 ∧ e < 512 ∧ sI S 26 0 = nI d ∧ sI S 27 0 = nI e ∧ (d ≠ 0 → e ≠ 0)
def WXz (S : SS) : Prop := ∀ i, made S ≤ i → sL S 8 i = [] ∧ sL S 17 i = [] ∧ sI S 10 i = 0 ∧ sI S 11 i = 0 ∧ sI S 12 i = 0 ∧ sK S i = []
def Core (S : SS) : Prop := WT S ∧ WL S ∧ WK S ∧ WC S ∧ WB S ∧ WXs S ∧ WXf S ∧ WXt S ∧ WXc S ∧ WXk S ∧ WXd S ∧ WXo S ∧ WXp S ∧ WXz S
def Inv0 (S : SS) (c : Nat) : Prop := Core S ∧ WV S ∧ WN S c ∧ (sQ S 35).length ≤ 21
def Inv (S : SS) (c : Nat) : Prop := Inv0 S c ∧ fit S = S ∧ (sQ S 35).length ≤ 21
section CO
variable {S S' : SS}
theorem Core.t (h : Core S) : WT S := h.1
theorem Core.l (h : Core S) : WL S := h.2.1
theorem Core.k (h : Core S) : WK S := h.2.2.1
theorem Core.c (h : Core S) : WC S := h.2.2.2.1
theorem Core.b (h : Core S) : WB S := h.2.2.2.2.1
theorem Core.xs (h : Core S) : WXs S := h.2.2.2.2.2.1
theorem Core.xf (h : Core S) : WXf S := h.2.2.2.2.2.2.1
theorem Core.xt (h : Core S) : WXt S := h.2.2.2.2.2.2.2.1
theorem Core.xc (h : Core S) : WXc S := h.2.2.2.2.2.2.2.2.1
theorem Core.xk (h : Core S) : WXk S := h.2.2.2.2.2.2.2.2.2.1
theorem Core.xd (h : Core S) : WXd S := h.2.2.2.2.2.2.2.2.2.2.1
theorem Core.xo (h : Core S) : WXo S := h.2.2.2.2.2.2.2.2.2.2.2.1
theorem Core.xp (h : Core S) : WXp S := h.2.2.2.2.2.2.2.2.2.2.2.2.1
theorem Core.xz (h : Core S) : WXz S := h.2.2.2.2.2.2.2.2.2.2.2.2.2
theorem cur_cg (h20 : sI S' 20 = sI S 20) : cur S' = cur S := by unfold cur; rw [h20]
theorem WB.cg (h : ∀ k, k ∈ [1, 10, 12, 22, 23, 24] → sI S' k = sI S k) (hB : WB S) : WB S' := fun k hk i => by rw [h k hk]; exact hB k hk i
theorem WXs.cg (h3 : sI S' 3 = sI S 3) (h12 : sI S' 12 = sI S 12) (h20 : sI S' 20 = sI S 20) (h : WXs S) : WXs S' := by
  unfold WXs
  rw [cur_cg h20, shn_cg h3 h12]; exact h
theorem WXf.cg (h0 : sI S' 0 = sI S 0) (h1 : sI S' 1 = sI S 1) (h2 : sI S' 2 = sI S 2) (h3 : sI S' 3 = sI S 3) (h12 : sI S' 12 = sI S 12) (h21 : sI S' 21 = sI S 21) (h : WXf S) : WXf S' := by
  unfold WXf
  rw [h21, h2]
  rcases h with h | ⟨f, a, b, c, d⟩
  · exact Or.inl h
  · exact Or.inr ⟨f, a, (th_cg h0 h1 f).mpr b, by rw [shn_cg h3 h12]; exact c, d⟩
theorem WXt.cg (h2 : sI S' 2 = sI S 2) (h20 : sI S' 20 = sI S 20) (h21 : sI S' 21 = sI S 21) (h22 : sI S' 22 = sI S 22) (h : WXt S) : WXt S' := by
  unfold WXt
  rw [cur_cg h20, h22, h2, h21, h20]; exact h
theorem WXc.cg (h2 : sI S' 2 = sI S 2) (h8 : sL S' 8 = sL S 8) (h : WXc S) : WXc S' := by unfold WXc; rw [h2, h8]; exact h
theorem WXk.cg (h0 : sI S' 0 = sI S 0) (h1 : sI S' 1 = sI S 1) (h2 : sI S' 2 = sI S 2) (h17 : sL S' 17 = sL S 17) (h : WXk S) : WXk S' := by
  unfold WXk
  rw [h2, h17]
  intro i hi
  exact ⟨(h i hi).1, (th_cg h0 h1 i).mpr (h i hi).2⟩
theorem WXp.cg (h26 : sI S' 26 = sI S 26) (h27 : sI S' 27 = sI S 27) (h : WXp S) : WXp S' := by unfold WXp; rw [h26, h27]; exact h
theorem WXz.cg (h0 : sI S' 0 = sI S 0) (h10 : sI S' 10 = sI S 10) (h11 : sI S' 11 = sI S 11) (h12 : sI S' 12 = sI S 12) (h8 : sL S' 8 = sL S 8) (h17 : sL S' 17 = sL S 17) (hK : sK S' = sK S) (h : WXz S) : WXz S' := by
  unfold WXz
  rw [made_cg h0, h10, h11, h12, h8, h17, hK]; exact h
def cki : List Nat := [0, 1, 2, 3, 10, 11, 12, 20, 21, 22, 23, 24, 25, 26, 27]
def ckl : List Nat := [6, 8, 17, 18]
def dsj (a b : List Nat) : Bool := a.all (fun k => decide (k ∉ b))
theorem dsj_of {a b : List Nat} (h : dsj a b = true) {k : Nat} (hk : k ∈ a) : decide (k ∉ b) = true := List.all_eq_true.mp h k hk
theorem Core.sd {ki kl kq : List Nat} (h : Core S) (hs : Sd ki kl kq S S') (h1 : (dsj cki ki && dsj ckl kl) = true) : Core S' := by
  rw [Bool.and_eq_true] at h1
  have e : ∀ k, decide (k ∈ cki) = true → sI S' k = sI S k := fun k hk => hs.i k (dsj_of h1.1 (of_decide_eq_true hk))
  have el : ∀ k, decide (k ∈ ckl) = true → sL S' k = sL S k := fun k hk => hs.l k (dsj_of h1.2 (of_decide_eq_true hk))
  obtain ⟨a1, a2, a3, a4, a5, a6, a7, a8, a9, a10, a11, a12, a13, a14⟩ := h
  refine ⟨a1.cg (e 0 rfl) (e 1 rfl) (e 2 rfl) (e 3 rfl) (e 12 rfl) hs.2.2.2, a2.cg (el 6 rfl) (el 8 rfl) (el 17 rfl), a3.cg (e 0 rfl) (e 1 rfl) (e 2 rfl), a4.cg (e 0 rfl) (e 1 rfl) (e 20 rfl), a5.cg (fun k hk => ?_), a6.cg (e 3 rfl) (e 12 rfl) (e 20 rfl), a7.cg (e 0 rfl) (e 1 rfl) (e 2 rfl) (e 3 rfl) (e 12 rfl) (e 21 rfl), a8.cg (e 2 rfl) (e 20 rfl) (e 21 rfl) (e 22 rfl), a9.cg (e 2 rfl) (el 8 rfl), a10.cg (e 0 rfl) (e 1 rfl) (e 2 rfl) (el 17 rfl), ?_, ?_, a13.cg (e 26 rfl) (e 27 rfl), a14.cg (e 0 rfl) (e 10 rfl) (e 11 rfl) (e 12 rfl) (el 8 rfl) (el 17 rfl) hs.2.2.2⟩
  · have : ∀ k, k ∈ [1, 10, 12, 22, 23, 24] → decide (k ∈ cki) = true := by decide
    exact e k (this k hk)
  · unfold WXd
    rw [el 18 rfl]; exact a11
  · unfold WXo
    rw [e 25 rfl]; exact a12
theorem Inv0.cAns {c : Nat} (h : Inv0 S c) {t : List Int32} (ht : t.length ≤ 80) : Inv0 (cAns S t) c := ⟨h.1.sd (sd_cAns S t) rfl, h.2.1.kcAns ht, h.2.2.1.sd (sd_cAns S t) rfl, by rw [(sd_cAns S t).q 35 rfl]; exact h.2.2.2⟩
theorem WXo.z {v : Int32} (h : v = 0) : WXo (wSI S 25 0 v) := ⟨0, by decide, by rw [sI_I, if_pos ⟨rfl, rfl⟩, h]; rfl⟩
theorem Inv0.i {c : Nat} (h : Inv0 S c) {k i : Nat} {v : Int32} (hk : (dsj cki [k] && decide (k ≠ 38) && decide (k ≠ 41) && decide (k ∉ [46, 43, 15])) = true) : Inv0 (wSI S k i v) c := by
  simp only [Bool.and_eq_true] at hk
  have hs : Sd [k] [] [] S (wSI S k i v) := Sd.I (List.mem_singleton.mpr rfl)
  refine ⟨h.1.sd hs (by rw [hk.1.1.1]; rfl), h.2.1.i hk.1.1.2 hk.1.2, h.2.2.1.sd hs ?_, h.2.2.2⟩
  have := of_decide_eq_true hk.2
  simp only [List.mem_cons, not_or] at this
  simp [Ne.symm, this]
end CO
theorem Core.w25 {S : SS} (h : Core S) {q : Nat} {v : Int32} (hq : q ≤ 6) (hv : v = nI (10 * q)) : Core (wSI S 25 0 v) := by
  obtain ⟨a1, a2, a3, a4, a5, a6, a7, a8, a9, a10, a11, a12, a13, a14⟩ := h
  have hs : Sd [25] [] [] S (wSI S 25 0 v) := Sd.I (by decide)
  refine ⟨a1.cg (hs.i 0 rfl) (hs.i 1 rfl) (hs.i 2 rfl) (hs.i 3 rfl) (hs.i 12 rfl) hs.2.2.2, a2.cg (hs.l 6 rfl) (hs.l 8 rfl) (hs.l 17 rfl), a3.cg (hs.i 0 rfl) (hs.i 1 rfl) (hs.i 2 rfl), a4.cg (hs.i 0 rfl) (hs.i 1 rfl) (hs.i 20 rfl), a5.cg (fun k hk => hs.1 k (fun z => absurd hk (by revert z; revert k; decide))), a6.cg (hs.i 3 rfl) (hs.i 12 rfl) (hs.i 20 rfl), a7.cg (hs.i 0 rfl) (hs.i 1 rfl) (hs.i 2 rfl) (hs.i 3 rfl) (hs.i 12 rfl) (hs.i 21 rfl), a8.cg (hs.i 2 rfl) (hs.i 20 rfl) (hs.i 21 rfl) (hs.i 22 rfl), a9.cg (hs.i 2 rfl) (hs.l 8 rfl), a10.cg (hs.i 0 rfl) (hs.i 1 rfl) (hs.i 2 rfl) (hs.l 17 rfl), (show (sL (wSI S 25 0 v) 18 0).length ≤ 12 by rw [hs.l 18 rfl]; exact a11), ?_, a13.cg (hs.i 26 rfl) (hs.i 27 rfl), a14.cg (hs.i 0 rfl) (hs.i 10 rfl) (hs.i 11 rfl) (hs.i 12 rfl) (hs.l 8 rfl) (hs.l 17 rfl) hs.2.2.2⟩
  · exact ⟨q, hq, by rw [sI_I, if_pos ⟨rfl, rfl⟩]; exact hv⟩
theorem Core.w23 {S : SS} (h : Core S) {v : Int32} (hv : v = 0 ∨ v = 1) : Core (wSI S 23 0 v) := by
  obtain ⟨a1, a2, a3, a4, a5, a6, a7, a8, a9, a10, a11, a12, a13, a14⟩ := h
  have hs : Sd [23] [] [] S (wSI S 23 0 v) := Sd.I (by decide)
  refine ⟨a1.cg (hs.i 0 rfl) (hs.i 1 rfl) (hs.i 2 rfl) (hs.i 3 rfl) (hs.i 12 rfl) hs.2.2.2, a2.cg (hs.l 6 rfl) (hs.l 8 rfl) (hs.l 17 rfl), a3.cg (hs.i 0 rfl) (hs.i 1 rfl) (hs.i 2 rfl), a4.cg (hs.i 0 rfl) (hs.i 1 rfl) (hs.i 20 rfl), ?_, a6.cg (hs.i 3 rfl) (hs.i 12 rfl) (hs.i 20 rfl), a7.cg (hs.i 0 rfl) (hs.i 1 rfl) (hs.i 2 rfl) (hs.i 3 rfl) (hs.i 12 rfl) (hs.i 21 rfl), a8.cg (hs.i 2 rfl) (hs.i 20 rfl) (hs.i 21 rfl) (hs.i 22 rfl), a9.cg (hs.i 2 rfl) (hs.l 8 rfl), a10.cg (hs.i 0 rfl) (hs.i 1 rfl) (hs.i 2 rfl) (hs.l 17 rfl), (show (sL (wSI S 23 0 v) 18 0).length ≤ 12 by rw [hs.l 18 rfl]; exact a11), (show ∃ q, q ≤ 6 ∧ sI (wSI S 23 0 v) 25 0 = nI (10 * q) by rw [hs.i 25 rfl]; exact a12), a13.cg (hs.i 26 rfl) (hs.i 27 rfl), a14.cg (hs.i 0 rfl) (hs.i 10 rfl) (hs.i 11 rfl) (hs.i 12 rfl) (hs.l 8 rfl) (hs.l 17 rfl) hs.2.2.2⟩
  · intro k hk i
    rw [sI_I]
    split
    · exact hv
    · exact a5 k hk i
theorem Core.w24 {S : SS} (h : Core S) {v : Int32} (hv : v = 0 ∨ v = 1) : Core (wSI S 24 0 v) := by
  obtain ⟨a1, a2, a3, a4, a5, a6, a7, a8, a9, a10, a11, a12, a13, a14⟩ := h
  have hs : Sd [24] [] [] S (wSI S 24 0 v) := Sd.I (by decide)
  refine ⟨a1.cg (hs.i 0 rfl) (hs.i 1 rfl) (hs.i 2 rfl) (hs.i 3 rfl) (hs.i 12 rfl) hs.2.2.2, a2.cg (hs.l 6 rfl) (hs.l 8 rfl) (hs.l 17 rfl), a3.cg (hs.i 0 rfl) (hs.i 1 rfl) (hs.i 2 rfl), a4.cg (hs.i 0 rfl) (hs.i 1 rfl) (hs.i 20 rfl), ?_, a6.cg (hs.i 3 rfl) (hs.i 12 rfl) (hs.i 20 rfl), a7.cg (hs.i 0 rfl) (hs.i 1 rfl) (hs.i 2 rfl) (hs.i 3 rfl) (hs.i 12 rfl) (hs.i 21 rfl), a8.cg (hs.i 2 rfl) (hs.i 20 rfl) (hs.i 21 rfl) (hs.i 22 rfl), a9.cg (hs.i 2 rfl) (hs.l 8 rfl), a10.cg (hs.i 0 rfl) (hs.i 1 rfl) (hs.i 2 rfl) (hs.l 17 rfl), (show (sL (wSI S 24 0 v) 18 0).length ≤ 12 by rw [hs.l 18 rfl]; exact a11), (show ∃ q, q ≤ 6 ∧ sI (wSI S 24 0 v) 25 0 = nI (10 * q) by rw [hs.i 25 rfl]; exact a12), a13.cg (hs.i 26 rfl) (hs.i 27 rfl), a14.cg (hs.i 0 rfl) (hs.i 10 rfl) (hs.i 11 rfl) (hs.i 12 rfl) (hs.l 8 rfl) (hs.l 17 rfl) hs.2.2.2⟩
  · intro k hk i
    rw [sI_I]
    split
    · exact hv
    · exact a5 k hk i
theorem Core.w22 {S : SS} (h : Core S) {v : Int32} (hv : v = 0 ∨ v = 1) (h4 : v = 0 ∨ (sI S 2 (cur S) = 4 ∧ sI S 21 0 = sI S 20 0)) : Core (wSI S 22 0 v) := by
  obtain ⟨a1, a2, a3, a4, a5, a6, a7, a8, a9, a10, a11, a12, a13, a14⟩ := h
  have hs : Sd [22] [] [] S (wSI S 22 0 v) := Sd.I (by decide)
  refine ⟨a1.cg (hs.i 0 rfl) (hs.i 1 rfl) (hs.i 2 rfl) (hs.i 3 rfl) (hs.i 12 rfl) hs.2.2.2, a2.cg (hs.l 6 rfl) (hs.l 8 rfl) (hs.l 17 rfl), a3.cg (hs.i 0 rfl) (hs.i 1 rfl) (hs.i 2 rfl), a4.cg (hs.i 0 rfl) (hs.i 1 rfl) (hs.i 20 rfl), ?_, a6.cg (hs.i 3 rfl) (hs.i 12 rfl) (hs.i 20 rfl), a7.cg (hs.i 0 rfl) (hs.i 1 rfl) (hs.i 2 rfl) (hs.i 3 rfl) (hs.i 12 rfl) (hs.i 21 rfl), ?_, a9.cg (hs.i 2 rfl) (hs.l 8 rfl), a10.cg (hs.i 0 rfl) (hs.i 1 rfl) (hs.i 2 rfl) (hs.l 17 rfl), (show (sL (wSI S 22 0 v) 18 0).length ≤ 12 by rw [hs.l 18 rfl]; exact a11), (show ∃ q, q ≤ 6 ∧ sI (wSI S 22 0 v) 25 0 = nI (10 * q) by rw [hs.i 25 rfl]; exact a12), a13.cg (hs.i 26 rfl) (hs.i 27 rfl), a14.cg (hs.i 0 rfl) (hs.i 10 rfl) (hs.i 11 rfl) (hs.i 12 rfl) (hs.l 8 rfl) (hs.l 17 rfl) hs.2.2.2⟩
  · intro k hk i
    rw [sI_I]
    split
    · exact hv
    · exact a5 k hk i
  · unfold WXt
    rw [cur_cg (hs.i 20 rfl), hs.i 2 rfl, hs.i 21 rfl, hs.i 20 rfl, sI_I, if_pos ⟨rfl, rfl⟩]
    exact h4
theorem Core.w21 {S : SS} (h : Core S) {v : Int32} (hv : v = -1 ∨ ∃ f, v = nI f ∧ th S f ∧ shn S f = true ∧ canF (sI S 2 f) = true) (h4 : v = sI S 20 0) : Core (wSI S 21 0 v) := by
  obtain ⟨a1, a2, a3, a4, a5, a6, a7, a8, a9, a10, a11, a12, a13, a14⟩ := h
  have hs : Sd [21] [] [] S (wSI S 21 0 v) := Sd.I (by decide)
  refine ⟨a1.cg (hs.i 0 rfl) (hs.i 1 rfl) (hs.i 2 rfl) (hs.i 3 rfl) (hs.i 12 rfl) hs.2.2.2, a2.cg (hs.l 6 rfl) (hs.l 8 rfl) (hs.l 17 rfl), a3.cg (hs.i 0 rfl) (hs.i 1 rfl) (hs.i 2 rfl), a4.cg (hs.i 0 rfl) (hs.i 1 rfl) (hs.i 20 rfl), a5.cg (fun k hk => hs.1 k (fun z => absurd hk (by revert z; revert k; decide))), a6.cg (hs.i 3 rfl) (hs.i 12 rfl) (hs.i 20 rfl), ?_, ?_, a9.cg (hs.i 2 rfl) (hs.l 8 rfl), a10.cg (hs.i 0 rfl) (hs.i 1 rfl) (hs.i 2 rfl) (hs.l 17 rfl), (show (sL (wSI S 21 0 v) 18 0).length ≤ 12 by rw [hs.l 18 rfl]; exact a11), (show ∃ q, q ≤ 6 ∧ sI (wSI S 21 0 v) 25 0 = nI (10 * q) by rw [hs.i 25 rfl]; exact a12), a13.cg (hs.i 26 rfl) (hs.i 27 rfl), a14.cg (hs.i 0 rfl) (hs.i 10 rfl) (hs.i 11 rfl) (hs.i 12 rfl) (hs.l 8 rfl) (hs.l 17 rfl) hs.2.2.2⟩
  · unfold WXf
    rw [hs.i 2 rfl, sI_I, if_pos ⟨rfl, rfl⟩]
    rcases hv with hv | ⟨f, b1, b2, b3, b4⟩
    · exact Or.inl hv
    · exact Or.inr ⟨f, b1, (th_cg (hs.i 0 rfl) (hs.i 1 rfl) f).mpr b2, by rw [shn_cg (hs.i 3 rfl) (hs.i 12 rfl)]; exact b3, b4⟩
  · unfold WXt
    rw [cur_cg (hs.i 20 rfl), hs.i 2 rfl, hs.i 22 rfl, hs.i 20 rfl, sI_I, if_pos ⟨rfl, rfl⟩]
    rcases a8 with q | q
    · exact Or.inl q
    · exact Or.inr ⟨q.1, h4⟩
theorem Core.w10 {S : SS} (h : Core S) {x : Nat} {v : Int32} (hv : v = 0 ∨ v = 1) (hx : x < made S) : Core (wSI S 10 x v) := by
  obtain ⟨a1, a2, a3, a4, a5, a6, a7, a8, a9, a10, a11, a12, a13, a14⟩ := h
  have hs : Sd [10] [] [] S (wSI S 10 x v) := Sd.I (by decide)
  refine ⟨a1.cg (hs.i 0 rfl) (hs.i 1 rfl) (hs.i 2 rfl) (hs.i 3 rfl) (hs.i 12 rfl) hs.2.2.2, a2.cg (hs.l 6 rfl) (hs.l 8 rfl) (hs.l 17 rfl), a3.cg (hs.i 0 rfl) (hs.i 1 rfl) (hs.i 2 rfl), a4.cg (hs.i 0 rfl) (hs.i 1 rfl) (hs.i 20 rfl), ?_, a6.cg (hs.i 3 rfl) (hs.i 12 rfl) (hs.i 20 rfl), a7.cg (hs.i 0 rfl) (hs.i 1 rfl) (hs.i 2 rfl) (hs.i 3 rfl) (hs.i 12 rfl) (hs.i 21 rfl), a8.cg (hs.i 2 rfl) (hs.i 20 rfl) (hs.i 21 rfl) (hs.i 22 rfl), a9.cg (hs.i 2 rfl) (hs.l 8 rfl), a10.cg (hs.i 0 rfl) (hs.i 1 rfl) (hs.i 2 rfl) (hs.l 17 rfl), (show (sL (wSI S 10 x v) 18 0).length ≤ 12 by rw [hs.l 18 rfl]; exact a11), (show ∃ q, q ≤ 6 ∧ sI (wSI S 10 x v) 25 0 = nI (10 * q) by rw [hs.i 25 rfl]; exact a12), a13.cg (hs.i 26 rfl) (hs.i 27 rfl), ?_⟩
  · intro k hk i
    rw [sI_I]
    split
    · exact hv
    · exact a5 k hk i
  · intro i hi
    rw [made_cg (hs.i 0 rfl)] at hi
    obtain ⟨z1, z2, z3, z4, z5, z6⟩ := a14 i hi
    refine ⟨z1, z2, ?_, ?_, ?_, z6⟩
    · rw [sI_I, if_neg (fun z => by have := z.2; omega)]; exact z3
    · rw [hs.i 11 rfl]; exact z4
    · rw [hs.i 12 rfl]; exact z5
theorem Core.w11 {S : SS} (h : Core S) {x : Nat} {v : Int32} (hx : x < made S) : Core (wSI S 11 x v) := by
  obtain ⟨a1, a2, a3, a4, a5, a6, a7, a8, a9, a10, a11, a12, a13, a14⟩ := h
  have hs : Sd [11] [] [] S (wSI S 11 x v) := Sd.I (by decide)
  refine ⟨a1.cg (hs.i 0 rfl) (hs.i 1 rfl) (hs.i 2 rfl) (hs.i 3 rfl) (hs.i 12 rfl) hs.2.2.2, a2.cg (hs.l 6 rfl) (hs.l 8 rfl) (hs.l 17 rfl), a3.cg (hs.i 0 rfl) (hs.i 1 rfl) (hs.i 2 rfl), a4.cg (hs.i 0 rfl) (hs.i 1 rfl) (hs.i 20 rfl), a5.cg (fun k hk => hs.1 k (fun z => absurd hk (by revert z; revert k; decide))), a6.cg (hs.i 3 rfl) (hs.i 12 rfl) (hs.i 20 rfl), a7.cg (hs.i 0 rfl) (hs.i 1 rfl) (hs.i 2 rfl) (hs.i 3 rfl) (hs.i 12 rfl) (hs.i 21 rfl), a8.cg (hs.i 2 rfl) (hs.i 20 rfl) (hs.i 21 rfl) (hs.i 22 rfl), a9.cg (hs.i 2 rfl) (hs.l 8 rfl), a10.cg (hs.i 0 rfl) (hs.i 1 rfl) (hs.i 2 rfl) (hs.l 17 rfl), (show (sL (wSI S 11 x v) 18 0).length ≤ 12 by rw [hs.l 18 rfl]; exact a11), (show ∃ q, q ≤ 6 ∧ sI (wSI S 11 x v) 25 0 = nI (10 * q) by rw [hs.i 25 rfl]; exact a12), a13.cg (hs.i 26 rfl) (hs.i 27 rfl), ?_⟩
  · intro i hi
    rw [made_cg (hs.i 0 rfl)] at hi
    obtain ⟨z1, z2, z3, z4, z5, z6⟩ := a14 i hi
    refine ⟨z1, z2, ?_, ?_, ?_, z6⟩
    · rw [hs.i 10 rfl]; exact z3
    · rw [sI_I, if_neg (fun z => by have := z.2; omega)]; exact z4
    · rw [hs.i 12 rfl]; exact z5
theorem Core.w8 {S : SS} (h : Core S) {x : Nat} {l : List Int32} (hl : l.length ≤ 12) (hx : x < made S) (h4 : sI S 2 x = 4) : Core (wSL S 8 x l) := by
  obtain ⟨a1, a2, a3, a4, a5, a6, a7, a8, a9, a10, a11, a12, a13, a14⟩ := h
  have hs : Sd [] [8] [] S (wSL S 8 x l) := Sd.L (by decide)
  refine ⟨a1.cg (hs.i 0 rfl) (hs.i 1 rfl) (hs.i 2 rfl) (hs.i 3 rfl) (hs.i 12 rfl) hs.2.2.2, ?_, a3.cg (hs.i 0 rfl) (hs.i 1 rfl) (hs.i 2 rfl), a4.cg (hs.i 0 rfl) (hs.i 1 rfl) (hs.i 20 rfl), a5.cg (fun k hk => hs.1 k (fun z => absurd hk (by revert z; revert k; decide))), a6.cg (hs.i 3 rfl) (hs.i 12 rfl) (hs.i 20 rfl), a7.cg (hs.i 0 rfl) (hs.i 1 rfl) (hs.i 2 rfl) (hs.i 3 rfl) (hs.i 12 rfl) (hs.i 21 rfl), a8.cg (hs.i 2 rfl) (hs.i 20 rfl) (hs.i 21 rfl) (hs.i 22 rfl), ?_, a10.cg (hs.i 0 rfl) (hs.i 1 rfl) (hs.i 2 rfl) (hs.l 17 rfl), (show (sL (wSL S 8 x l) 18 0).length ≤ 12 by rw [hs.l 18 rfl]; exact a11), (show ∃ q, q ≤ 6 ∧ sI (wSL S 8 x l) 25 0 = nI (10 * q) by rw [hs.i 25 rfl]; exact a12), a13.cg (hs.i 26 rfl) (hs.i 27 rfl), ?_⟩
  · intro i
    obtain ⟨b1, b2, b3⟩ := a2 i
    refine ⟨by rw [hs.l 6 rfl]; exact b1, ?_, by rw [hs.l 17 rfl]; exact b3⟩
    rw [sL_L]
    split
    · exact hl
    · exact b2
  · intro i hi
    rw [hs.i 2 rfl]
    rw [sL_L] at hi
    split at hi
    · rename_i z; rw [z.2]; exact h4
    · exact a9 i hi
  · intro i hi
    rw [made_cg (hs.i 0 rfl)] at hi
    obtain ⟨z1, z2, z3, z4, z5, z6⟩ := a14 i hi
    refine ⟨?_, by rw [hs.l 17 rfl]; exact z2, z3, z4, z5, z6⟩
    rw [sL_L, if_neg (fun z => by have := z.2; omega)]; exact z1
/-- what holds also while the cursor and the focus are lost -/
def CoreT (S : SS) : Prop := WT S ∧ WL S ∧ WK S ∧ WB S ∧ WXc S ∧ WXk S ∧ WXd S ∧ WXo S ∧ WXp S ∧ WXz S
theorem Core.toT {S : SS} (h : Core S) : CoreT S := ⟨h.t, h.l, h.k, h.b, h.xc, h.xk, h.xd, h.xo, h.xp, h.xz⟩
theorem CoreT.go {S : SS} (h : CoreT S) (a7 : WXf S) {x : Nat} {v : Int32} (hx : th S x) (hsx : shn S x = true) (hv : v = sI S 25 0 ∨ v = 0) : Core (wSI (wSI (wSI S 22 0 0) 25 0 v) 20 0 (nI x)) := by
  obtain ⟨a1, a2, a3, a5, a9, a10, a11, a12, a13, a14⟩ := h
  have hs : Sd [20, 22, 25] [] [] S (wSI (wSI (wSI S 22 0 0) 25 0 v) 20 0 (nI x)) := ((Sd.I (by decide)).tr (Sd.I (by decide))).tr (Sd.I (by decide))
  refine ⟨a1.cg (hs.i 0 rfl) (hs.i 1 rfl) (hs.i 2 rfl) (hs.i 3 rfl) (hs.i 12 rfl) hs.2.2.2, a2.cg (hs.l 6 rfl) (hs.l 8 rfl) (hs.l 17 rfl), a3.cg (hs.i 0 rfl) (hs.i 1 rfl) (hs.i 2 rfl), ?_, ?_, ?_, a7.cg (hs.i 0 rfl) (hs.i 1 rfl) (hs.i 2 rfl) (hs.i 3 rfl) (hs.i 12 rfl) (hs.i 21 rfl), ?_, a9.cg (hs.i 2 rfl) (hs.l 8 rfl), a10.cg (hs.i 0 rfl) (hs.i 1 rfl) (hs.i 2 rfl) (hs.l 17 rfl), (show (sL (wSI (wSI (wSI S 22 0 0) 25 0 v) 20 0 (nI x)) 18 0).length ≤ 12 by rw [hs.l 18 rfl]; exact a11), ?_, a13.cg (hs.i 26 rfl) (hs.i 27 rfl), a14.cg (hs.i 0 rfl) (hs.i 10 rfl) (hs.i 11 rfl) (hs.i 12 rfl) (hs.l 8 rfl) (hs.l 17 rfl) hs.2.2.2⟩
  · have h40 := hx.l40 a1
    have e : cur (wSI (wSI (wSI S 22 0 0) 25 0 v) 20 0 (nI x)) = x := by
      unfold cur
      rw [sI_I, if_pos ⟨rfl, rfl⟩, nI_clamp (by omega)]
    unfold WC
    rw [e, sI_I, if_pos ⟨rfl, rfl⟩, th_cg (hs.i 0 rfl) (hs.i 1 rfl)]
    exact ⟨rfl, hx⟩
  · intro k hk i
    by_cases e : k = 22
    · subst e
      rw [sI_N (by decide), sI_N (by decide), sI_I]
      split
      · exact Or.inl rfl
      · exact a5 22 hk i
    · rw [sI_N (fun z => by subst z; revert hk; decide), sI_N (fun z => by subst z; revert hk; decide), sI_N e]; exact a5 k hk i
  · have h40 := hx.l40 a1
    have e : cur (wSI (wSI (wSI S 22 0 0) 25 0 v) 20 0 (nI x)) = x := by
      unfold cur
      rw [sI_I, if_pos ⟨rfl, rfl⟩, nI_clamp (by omega)]
    unfold WXs
    rw [e, shn_cg (hs.i 3 rfl) (hs.i 12 rfl)]; exact hsx
  · refine Or.inl ?_
    rw [sI_N (by decide), sI_N (by decide), sI_I, if_pos ⟨rfl, rfl⟩]
  · rcases hv with hv | hv
    · obtain ⟨q, q1, q2⟩ := a12
      exact ⟨q, q1, by rw [sI_N (by decide), sI_I, if_pos ⟨rfl, rfl⟩, hv]; exact q2⟩
    · exact ⟨0, by decide, by rw [sI_N (by decide), sI_I, if_pos ⟨rfl, rfl⟩, hv]; rfl⟩

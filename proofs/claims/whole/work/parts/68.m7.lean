/-! ===== what becomes of the bearing when one field is written ===== -/
theorem up2_g {α : Type} (f : Nat → Nat → α) (a k : Nat) (v : α) (b j : Nat) : up2 f a k v b j = if b = a ∧ j = k then v else f b j := by
  unfold up2
  by_cases h1 : b = a
  · by_cases h2 : j = k
    · rw [if_pos h1, if_pos h2, if_pos ⟨h1, h2⟩]
    · rw [if_pos h1, if_neg h2, if_neg (fun z => h2 z.2)]
  · rw [if_neg h1, if_neg (fun z => h1 z.1)]
theorem sI_I (S : SS) (k i : Nat) (v : Int32) (k' j : Nat) : sI (wSI S k i v) k' j = if k' = k ∧ j = i then v else sI S k' j := up2_g _ _ _ _ _ _
theorem sL_L (S : SS) (k i : Nat) (l : List Int32) (k' j : Nat) : sL (wSL S k i l) k' j = if k' = k ∧ j = i then l else sL S k' j := up2_g _ _ _ _ _ _
theorem sQ_Q (S : SS) (k : Nat) (q : List (List Int32)) (k' : Nat) : sQ (wSQ S k q) k' = if k' = k then q else sQ S k' := rfl
theorem sK_K (S : SS) (i : Nat) (l : List Nat) (j : Nat) : sK (wSK S i l) j = if j = i then l else sK S j := rfl
theorem sI_L (S : SS) (k i : Nat) (l : List Int32) (k' j : Nat) : sI (wSL S k i l) k' j = sI S k' j := rfl
theorem sI_Q (S : SS) (k : Nat) (q : List (List Int32)) (k' j : Nat) : sI (wSQ S k q) k' j = sI S k' j := rfl
theorem sI_K (S : SS) (i : Nat) (l : List Nat) (k' j : Nat) : sI (wSK S i l) k' j = sI S k' j := rfl
theorem sL_I (S : SS) (k i : Nat) (v : Int32) (k' j : Nat) : sL (wSI S k i v) k' j = sL S k' j := rfl
theorem sL_Q (S : SS) (k : Nat) (q : List (List Int32)) (k' j : Nat) : sL (wSQ S k q) k' j = sL S k' j := rfl
theorem sL_K (S : SS) (i : Nat) (l : List Nat) (k' j : Nat) : sL (wSK S i l) k' j = sL S k' j := rfl
theorem sQ_I (S : SS) (k i : Nat) (v : Int32) (k' : Nat) : sQ (wSI S k i v) k' = sQ S k' := rfl
theorem sQ_L (S : SS) (k i : Nat) (l : List Int32) (k' : Nat) : sQ (wSL S k i l) k' = sQ S k' := rfl
theorem sQ_K (S : SS) (i : Nat) (l : List Nat) (k' : Nat) : sQ (wSK S i l) k' = sQ S k' := rfl
theorem sK_I (S : SS) (k i : Nat) (v : Int32) (j : Nat) : sK (wSI S k i v) j = sK S j := rfl
theorem sK_L (S : SS) (k i : Nat) (l : List Int32) (j : Nat) : sK (wSL S k i l) j = sK S j := rfl
theorem sK_Q (S : SS) (k : Nat) (q : List (List Int32)) (j : Nat) : sK (wSQ S k q) j = sK S j := rfl
theorem RM.w6 {S : SS} {m m' : mm} (h : RM S m) {i : Nat} {l : List Int32} (hs : Sm ([6, 7] ++ scr) m m') (hn : TxA m' 6 7 12 i l) (ho : ∀ j, j < 40 → j ≠ i → TxA m' 6 7 12 j (sL S 6 j)) : RM (wSL S 6 i l) m' := by
  obtain ⟨h1, h2, h3, h4, h5, h6, h7, h8, h9, h10, h11⟩ := h
  have e : ∀ k, decide (k ∉ [6, 7] ++ scr) = true → m' k = m k := fun k hk => hs.at k hk
  refine ⟨fun k hk => ?_, fun j hj => by
    by_cases q : j = i
    · subst q; rw [show sL (wSL S 6 j l) 6 j = l from by rw [sL_L, if_pos ⟨rfl, rfl⟩]]; exact hn
    · rw [show sL (wSL S 6 i l) 6 j = sL S 6 j from by rw [sL_L, if_neg (fun z => q z.2)]]; exact ho j hj q, fun i hi => (h3 i hi).sm (e 8 rfl) (e 9 rfl), fun i hi => (h4 i hi).sm (e 17 rfl) (e 16 rfl), h5.sm (e 18 rfl) (e 19 rfl), h6.sm (e 33 rfl) (e 34 rfl), h7.sm (e 39 rfl) (e 40 rfl), h8.sm (e 30 rfl) (e 31 rfl) (e 32 rfl), h9.sm (e 35 rfl) (e 36 rfl) (e 37 rfl), fun i hi => (h10 i hi).sm (e 4 rfl) (e 5 rfl), fun k hk => by rw [e 47 rfl]; exact h11 k hk⟩
  rw [hs k (fun hm => ?_)]
  · exact h1 k hk
  · have : ∀ k, k ∈ [6, 7] ++ scr → plain k = false := by decide
    rw [this k hm] at hk
    cases hk
theorem RM.w8 {S : SS} {m m' : mm} (h : RM S m) {i : Nat} {l : List Int32} (hs : Sm ([8, 9] ++ scr) m m') (hn : TxA m' 8 9 12 i l) (ho : ∀ j, j < 40 → j ≠ i → TxA m' 8 9 12 j (sL S 8 j)) : RM (wSL S 8 i l) m' := by
  obtain ⟨h1, h2, h3, h4, h5, h6, h7, h8, h9, h10, h11⟩ := h
  have e : ∀ k, decide (k ∉ [8, 9] ++ scr) = true → m' k = m k := fun k hk => hs.at k hk
  refine ⟨fun k hk => ?_, fun i hi => (h2 i hi).sm (e 6 rfl) (e 7 rfl), fun j hj => by
    by_cases q : j = i
    · subst q; rw [show sL (wSL S 8 j l) 8 j = l from by rw [sL_L, if_pos ⟨rfl, rfl⟩]]; exact hn
    · rw [show sL (wSL S 8 i l) 8 j = sL S 8 j from by rw [sL_L, if_neg (fun z => q z.2)]]; exact ho j hj q, fun i hi => (h4 i hi).sm (e 17 rfl) (e 16 rfl), h5.sm (e 18 rfl) (e 19 rfl), h6.sm (e 33 rfl) (e 34 rfl), h7.sm (e 39 rfl) (e 40 rfl), h8.sm (e 30 rfl) (e 31 rfl) (e 32 rfl), h9.sm (e 35 rfl) (e 36 rfl) (e 37 rfl), fun i hi => (h10 i hi).sm (e 4 rfl) (e 5 rfl), fun k hk => by rw [e 47 rfl]; exact h11 k hk⟩
  rw [hs k (fun hm => ?_)]
  · exact h1 k hk
  · have : ∀ k, k ∈ [8, 9] ++ scr → plain k = false := by decide
    rw [this k hm] at hk
    cases hk
theorem RM.w17 {S : SS} {m m' : mm} (h : RM S m) {i : Nat} {l : List Int32} (hs : Sm ([17, 16] ++ scr) m m') (hn : TxA m' 17 16 100 i l) (ho : ∀ j, j < 40 → j ≠ i → TxA m' 17 16 100 j (sL S 17 j)) : RM (wSL S 17 i l) m' := by
  obtain ⟨h1, h2, h3, h4, h5, h6, h7, h8, h9, h10, h11⟩ := h
  have e : ∀ k, decide (k ∉ [17, 16] ++ scr) = true → m' k = m k := fun k hk => hs.at k hk
  refine ⟨fun k hk => ?_, fun i hi => (h2 i hi).sm (e 6 rfl) (e 7 rfl), fun i hi => (h3 i hi).sm (e 8 rfl) (e 9 rfl), fun j hj => by
    by_cases q : j = i
    · subst q; rw [show sL (wSL S 17 j l) 17 j = l from by rw [sL_L, if_pos ⟨rfl, rfl⟩]]; exact hn
    · rw [show sL (wSL S 17 i l) 17 j = sL S 17 j from by rw [sL_L, if_neg (fun z => q z.2)]]; exact ho j hj q, h5.sm (e 18 rfl) (e 19 rfl), h6.sm (e 33 rfl) (e 34 rfl), h7.sm (e 39 rfl) (e 40 rfl), h8.sm (e 30 rfl) (e 31 rfl) (e 32 rfl), h9.sm (e 35 rfl) (e 36 rfl) (e 37 rfl), fun i hi => (h10 i hi).sm (e 4 rfl) (e 5 rfl), fun k hk => by rw [e 47 rfl]; exact h11 k hk⟩
  rw [hs k (fun hm => ?_)]
  · exact h1 k hk
  · have : ∀ k, k ∈ [17, 16] ++ scr → plain k = false := by decide
    rw [this k hm] at hk
    cases hk
theorem RM.w18 {S : SS} {m m' : mm} (h : RM S m) {l : List Int32} (hs : Sm ([18, 19] ++ scr) m m') (hn : TxA m' 18 19 12 0 l) : RM (wSL S 18 0 l) m' := by
  obtain ⟨h1, h2, h3, h4, h5, h6, h7, h8, h9, h10, h11⟩ := h
  have e : ∀ k, decide (k ∉ [18, 19] ++ scr) = true → m' k = m k := fun k hk => hs.at k hk
  refine ⟨fun k hk => ?_, fun i hi => (h2 i hi).sm (e 6 rfl) (e 7 rfl), fun i hi => (h3 i hi).sm (e 8 rfl) (e 9 rfl), fun i hi => (h4 i hi).sm (e 17 rfl) (e 16 rfl), hn, h6.sm (e 33 rfl) (e 34 rfl), h7.sm (e 39 rfl) (e 40 rfl), h8.sm (e 30 rfl) (e 31 rfl) (e 32 rfl), h9.sm (e 35 rfl) (e 36 rfl) (e 37 rfl), fun i hi => (h10 i hi).sm (e 4 rfl) (e 5 rfl), fun k hk => by rw [e 47 rfl]; exact h11 k hk⟩
  rw [hs k (fun hm => ?_)]
  · exact h1 k hk
  · have : ∀ k, k ∈ [18, 19] ++ scr → plain k = false := by decide
    rw [this k hm] at hk
    cases hk
theorem RM.w33 {S : SS} {m m' : mm} (h : RM S m) {l : List Int32} (hs : Sm ([33, 34] ++ scr) m m') (hn : TxA m' 33 34 100 0 l) : RM (wSL S 33 0 l) m' := by
  obtain ⟨h1, h2, h3, h4, h5, h6, h7, h8, h9, h10, h11⟩ := h
  have e : ∀ k, decide (k ∉ [33, 34] ++ scr) = true → m' k = m k := fun k hk => hs.at k hk
  refine ⟨fun k hk => ?_, fun i hi => (h2 i hi).sm (e 6 rfl) (e 7 rfl), fun i hi => (h3 i hi).sm (e 8 rfl) (e 9 rfl), fun i hi => (h4 i hi).sm (e 17 rfl) (e 16 rfl), h5.sm (e 18 rfl) (e 19 rfl), hn, h7.sm (e 39 rfl) (e 40 rfl), h8.sm (e 30 rfl) (e 31 rfl) (e 32 rfl), h9.sm (e 35 rfl) (e 36 rfl) (e 37 rfl), fun i hi => (h10 i hi).sm (e 4 rfl) (e 5 rfl), fun k hk => by rw [e 47 rfl]; exact h11 k hk⟩
  rw [hs k (fun hm => ?_)]
  · exact h1 k hk
  · have : ∀ k, k ∈ [33, 34] ++ scr → plain k = false := by decide
    rw [this k hm] at hk
    cases hk
theorem RM.w39 {S : SS} {m m' : mm} (h : RM S m) {l : List Int32} (hs : Sm ([39, 40] ++ scr) m m') (hn : TxA m' 39 40 100 0 l) : RM (wSL S 39 0 l) m' := by
  obtain ⟨h1, h2, h3, h4, h5, h6, h7, h8, h9, h10, h11⟩ := h
  have e : ∀ k, decide (k ∉ [39, 40] ++ scr) = true → m' k = m k := fun k hk => hs.at k hk
  refine ⟨fun k hk => ?_, fun i hi => (h2 i hi).sm (e 6 rfl) (e 7 rfl), fun i hi => (h3 i hi).sm (e 8 rfl) (e 9 rfl), fun i hi => (h4 i hi).sm (e 17 rfl) (e 16 rfl), h5.sm (e 18 rfl) (e 19 rfl), h6.sm (e 33 rfl) (e 34 rfl), hn, h8.sm (e 30 rfl) (e 31 rfl) (e 32 rfl), h9.sm (e 35 rfl) (e 36 rfl) (e 37 rfl), fun i hi => (h10 i hi).sm (e 4 rfl) (e 5 rfl), fun k hk => by rw [e 47 rfl]; exact h11 k hk⟩
  rw [hs k (fun hm => ?_)]
  · exact h1 k hk
  · have : ∀ k, k ∈ [39, 40] ++ scr → plain k = false := by decide
    rw [this k hm] at hk
    cases hk
theorem RM.w30 {S : SS} {m m' : mm} (h : RM S m) {q : List (List Int32)} (hs : Sm ([30, 31, 32] ++ scr) m m') (hn : RQ m' 30 31 32 q) : RM (wSQ S 30 q) m' := by
  obtain ⟨h1, h2, h3, h4, h5, h6, h7, h8, h9, h10, h11⟩ := h
  have e : ∀ k, decide (k ∉ [30, 31, 32] ++ scr) = true → m' k = m k := fun k hk => hs.at k hk
  refine ⟨fun k hk => ?_, fun i hi => (h2 i hi).sm (e 6 rfl) (e 7 rfl), fun i hi => (h3 i hi).sm (e 8 rfl) (e 9 rfl), fun i hi => (h4 i hi).sm (e 17 rfl) (e 16 rfl), h5.sm (e 18 rfl) (e 19 rfl), h6.sm (e 33 rfl) (e 34 rfl), h7.sm (e 39 rfl) (e 40 rfl), hn, h9.sm (e 35 rfl) (e 36 rfl) (e 37 rfl), fun i hi => (h10 i hi).sm (e 4 rfl) (e 5 rfl), fun k hk => by rw [e 47 rfl]; exact h11 k hk⟩
  rw [hs k (fun hm => ?_)]
  · exact h1 k hk
  · have : ∀ k, k ∈ [30, 31, 32] ++ scr → plain k = false := by decide
    rw [this k hm] at hk
    cases hk
theorem RM.w35 {S : SS} {m m' : mm} (h : RM S m) {q : List (List Int32)} (hs : Sm ([35, 36, 37] ++ scr) m m') (hn : RQ m' 35 36 37 q) : RM (wSQ S 35 q) m' := by
  obtain ⟨h1, h2, h3, h4, h5, h6, h7, h8, h9, h10, h11⟩ := h
  have e : ∀ k, decide (k ∉ [35, 36, 37] ++ scr) = true → m' k = m k := fun k hk => hs.at k hk
  refine ⟨fun k hk => ?_, fun i hi => (h2 i hi).sm (e 6 rfl) (e 7 rfl), fun i hi => (h3 i hi).sm (e 8 rfl) (e 9 rfl), fun i hi => (h4 i hi).sm (e 17 rfl) (e 16 rfl), h5.sm (e 18 rfl) (e 19 rfl), h6.sm (e 33 rfl) (e 34 rfl), h7.sm (e 39 rfl) (e 40 rfl), h8.sm (e 30 rfl) (e 31 rfl) (e 32 rfl), hn, fun i hi => (h10 i hi).sm (e 4 rfl) (e 5 rfl), fun k hk => by rw [e 47 rfl]; exact h11 k hk⟩
  rw [hs k (fun hm => ?_)]
  · exact h1 k hk
  · have : ∀ k, k ∈ [35, 36, 37] ++ scr → plain k = false := by decide
    rw [this k hm] at hk
    cases hk
theorem RM.wK {S : SS} {m m' : mm} (h : RM S m) {i : Nat} {l : List Nat} (hs : Sm ([4, 5] ++ scr) m m') (hn : RKd m' i l) (ho : ∀ j, j < 40 → j ≠ i → RKd m' j (sK S j)) : RM (wSK S i l) m' := by
  obtain ⟨h1, h2, h3, h4, h5, h6, h7, h8, h9, h10, h11⟩ := h
  have e : ∀ k, decide (k ∉ [4, 5] ++ scr) = true → m' k = m k := fun k hk => hs.at k hk
  refine ⟨fun k hk => ?_, fun i hi => (h2 i hi).sm (e 6 rfl) (e 7 rfl), fun i hi => (h3 i hi).sm (e 8 rfl) (e 9 rfl), fun i hi => (h4 i hi).sm (e 17 rfl) (e 16 rfl), h5.sm (e 18 rfl) (e 19 rfl), h6.sm (e 33 rfl) (e 34 rfl), h7.sm (e 39 rfl) (e 40 rfl), h8.sm (e 30 rfl) (e 31 rfl) (e 32 rfl), h9.sm (e 35 rfl) (e 36 rfl) (e 37 rfl), fun j hj => by
    by_cases q : j = i
    · subst q; rw [show sK (wSK S j l) j = l from if_pos rfl]; exact hn
    · rw [show sK (wSK S i l) j = sK S j from if_neg q]; exact ho j hj q, fun k hk => by rw [e 47 rfl]; exact h11 k hk⟩
  rw [hs k (fun hm => ?_)]
  · exact h1 k hk
  · have : ∀ k, k ∈ [4, 5] ++ scr → plain k = false := by decide
    rw [this k hm] at hk
    cases hk
theorem RM.wI {S : SS} {m m' : mm} (h : RM S m) {k i : Nat} {v : Int32} (hk : plain k = true) (hs : Sm scr (up2 m k i v) m') : RM (wSI S k i v) m' := by
  refine RM.sm (m := up2 m k i v) ?_ hs
  obtain ⟨h1, h2, h3, h4, h5, h6, h7, h8, h9, h10, h11⟩ := h
  have e : ∀ f, plain f = false → up2 m k i v f = m f := fun f hf => up_f m i v (fun z => by rw [z, hk] at hf; cases hf)
  refine ⟨fun f hf => ?_, fun i hi => (h2 i hi).sm (e 6 rfl) (e 7 rfl), fun i hi => (h3 i hi).sm (e 8 rfl) (e 9 rfl), fun i hi => (h4 i hi).sm (e 17 rfl) (e 16 rfl), h5.sm (e 18 rfl) (e 19 rfl), h6.sm (e 33 rfl) (e 34 rfl), h7.sm (e 39 rfl) (e 40 rfl), h8.sm (e 30 rfl) (e 31 rfl) (e 32 rfl), h9.sm (e 35 rfl) (e 36 rfl) (e 37 rfl), fun i hi => (h10 i hi).sm (e 4 rfl) (e 5 rfl), fun k hk => by rw [e 47 rfl]; exact h11 k hk⟩
  show up2 m k i v f = up2 S.1 k i v f
  funext j
  unfold up2
  by_cases z : f = k
  · subst z; rw [if_pos rfl, if_pos rfl, h1 f hf]
  · rw [if_neg z, if_neg z, h1 f hf]
theorem RM.wI0 {S : SS} {m : mm} (h : RM S m) {k i : Nat} {v : Int32} (hk : plain k = true) : RM (wSI S k i v) (up2 m k i v) := h.wI hk Sm.rf
def WK (S : SS) : Prop := ∀ i, th S i → ∃ k, k ≤ 7 ∧ sI S 2 i = nI k
def WC (S : SS) : Prop := sI S 20 0 = nI (cur S) ∧ th S (cur S)
theorem ln_len {S : SS} (hL : WL S) : (ln S).length ≤ 53 := by
  have h1 := (hL (cur S)).1
  have h2 := (hL (cur S)).2.1
  have h3 := wrt_len (sL S 6 (cur S))
  have h4 := wrt_len (sL S 8 (cur S))
  have a1 : (ln1 S (cur S)).length ≤ 1 := by unfold ln1; split <;> simp
  have a2 : (ln2 S (cur S)).length ≤ 2 := by unfold ln2; split <;> simp
  have a3 : (ln3 S (cur S)).length ≤ 25 := by
    unfold ln3
    split
    · simp
    · rw [List.length_cons]; omega
  have a4 : (if sI S 22 0 = 0 then ([] : List Int32) else [192]).length ≤ 1 := by split <;> simp
  unfold ln
  simp only [List.length_append]
  omega
section MF
variable {S : SS} {m : mm}
theorem RM.lsc (hM : RM S m) {m' : mm} (h : Sm lsc m m') : RM S m' := hM.sm (h.mono (by decide))
theorem RM.base (hM : RM S m) : ∀ k, k < 10 → m 47 k = ptsN k := hM.2.2.2.2.2.2.2.2.2.2
theorem m_kletter {k : Nat} (hk : k ≤ 7) (h1 : k ≠ 1) : ∃ j, j < 26 ∧ fX11_kindLetter (nI k) = some (nI j) ∧ ptsN j = fpt (nI k) := by
  have : ∀ k, k < 8 → k ≠ 1 → ∃ j, j < 26 ∧ fX11_kindLetter (nI k) = some (nI j) ∧ ptsN j = fpt (nI k) := by
    intro k hk h1
    rcases Nat.lt_or_ge k 1 with q | q
    · have : k = 0 := by omega
      subst this; exact ⟨6, by decide, by decide +kernel, by decide +kernel⟩
    · have h : k = 2 ∨ k = 3 ∨ k = 4 ∨ k = 5 ∨ k = 6 ∨ k = 7 := by omega
      rcases h with rfl | rfl | rfl | rfl | rfl | rfl
      · exact ⟨1, by decide, by decide +kernel, by decide +kernel⟩
      · exact ⟨2, by decide, by decide +kernel, by decide +kernel⟩
      · exact ⟨4, by decide, by decide +kernel, by decide +kernel⟩
      · exact ⟨19, by decide, by decide +kernel, by decide +kernel⟩
      · exact ⟨17, by decide, by decide +kernel, by decide +kernel⟩
      · exact ⟨11, by decide, by decide +kernel, by decide +kernel⟩
  exact this k (by omega) h1
theorem Lx_0 (m : mm) : Lx (up2 m 53 0 0) [] := ⟨by rw [up_s]; rfl, Sl_nil⟩
theorem m_line (hM : RM S m) (h : WT S) (hL : WL S) (hK : WK S) (hC : WC S) : TL fX11_layLine m (ln S) := by
  obtain ⟨c1, c2⟩ := hC
  have h40 := c2.l40 h
  obtain ⟨kk, k7, ke⟩ := hK _ c2
  have n1 := (hL (cur S)).1
  have n2 := (hL (cur S)).2.1
  have w1 := wrt_len (sL S 6 (cur S))
  have w2 := wrt_len (sL S 8 (cur S))
  have hc : ∀ {m' : mm}, RM S m' → m' 20 0 = nI (cur S) := fun h' => by rw [h'.p 20 rfl, c1]
  have hM0 : RM S (up2 m 53 0 0) := hM.lsc (Sm.up (by decide))
  have s0 : Sm lsc m (up2 m 53 0 0) := Sm.up (by decide)
  -- the kind's cell
  have k1 : ∃ m1, (if lvl S (cur S) = 0 then (some (up2 m 53 0 0)) else if sI S 2 (cur S) = (1 : Int32) then (some (up2 m 53 0 0)) else (fX11_kindLetter (sI S 2 (cur S))).bind fun x6 => (fX11_points x6 (up2 m 53 0 0)).bind fun x7 => oM (fX11_cell (x7 + (192 : Int32)) (up2 m 53 0 0)) fun _ m9 => some m9) = some m1 ∧ Lx m1 (ln1 S (cur S)) ∧ Sm lsc m m1 := by
    unfold ln1
    by_cases e : lvl S (cur S) = 0
    · rw [if_pos e, if_pos (Or.inl e)]; exact ⟨_, rfl, Lx_0 m, s0⟩
    · rw [if_neg e]
      by_cases e1 : sI S 2 (cur S) = 1
      · rw [if_pos e1, if_pos (Or.inr e1)]; exact ⟨_, rfl, Lx_0 m, s0⟩
      · rw [if_neg e1, if_neg (fun z => z.elim e e1), ke]
        obtain ⟨j, hj, a, b⟩ := m_kletter k7 (fun z => e1 (by rw [ke, z]; rfl))
        obtain ⟨m1, a1, b1, s1⟩ := m_cell (fpt (nI kk) + 192) (Lx_0 m) (by decide)
        exact ⟨m1, by rw [a, sb, m_points hM0.base hj, sb, b, a1, oMs], b1, s0.tr s1⟩
  obtain ⟨m1, a1, b1, s1⟩ := k1
  have l1 : (ln1 S (cur S)).length ≤ 1 := by unfold ln1; split <;> simp
  have hM1 := hM.lsc s1
  have hn := hM1.name h40
  obtain ⟨m2, a2, b2, s2⟩ := m_write (f := 6) (o := 12 * cur S) hM1.base rfl rfl hn.2 (show _ ≤ 480 by omega) b1 (by omega)
  have hM2 := hM1.lsc s2
  have l2 : (ln1 S (cur S) ++ wrt (sL S 6 (cur S))).length ≤ 25 := by rw [List.length_append]; omega
  -- on or off
  have k3 : ∃ m3, (if sI S 2 (cur S) = (3 : Int32) then (oM (fX11_cell (0 : Int32) m2) fun _ m16 => (mLZ 10 (m16 20 0) m16).bind fun x17 => if x17 = 0 then (oM (fX11_cell (36 : Int32) m16) fun _ m19 => some m19) else oM (fX11_cell (63 : Int32) m16) fun _ m21 => some m21) else some m2) = some m3 ∧ Lx m3 (ln1 S (cur S) ++ wrt (sL S 6 (cur S)) ++ ln2 S (cur S)) ∧ Sm lsc m2 m3 := by
    unfold ln2
    by_cases e : sI S 2 (cur S) = 3
    · rw [if_pos e, if_pos e]
      obtain ⟨m3, a3, b3, s3⟩ := m_cell 0 b2 (by omega)
      have hM3 := hM2.lsc s3
      rw [a3, oMs, hc hM3, mLZ_ok rfl (show cur S < 40 from h40), hM3.p 10 rfl, sb]
      by_cases e2 : sI S 10 (cur S) = 0
      · obtain ⟨m4, a4, b4, s4⟩ := m_cell 36 b3 (by rw [List.length_append, List.length_singleton]; omega)
        rw [if_pos e2, if_pos e2, a4, oMs]
        exact ⟨m4, rfl, by rw [List.append_assoc] at b4; exact b4, s3.tr s4⟩
      · obtain ⟨m4, a4, b4, s4⟩ := m_cell 63 b3 (by rw [List.length_append, List.length_singleton]; omega)
        rw [if_neg e2, if_neg e2, a4, oMs]
        exact ⟨m4, rfl, by rw [List.append_assoc] at b4; exact b4, s3.tr s4⟩
    · rw [if_neg e, if_neg e, List.append_nil]; exact ⟨m2, rfl, b2, Sm.rf⟩
  obtain ⟨m3, a3, b3, s3⟩ := k3
  have hM3 := hM2.lsc s3
  have l3 : (ln1 S (cur S) ++ wrt (sL S 6 (cur S)) ++ ln2 S (cur S)).length ≤ 27 := by
    have : (ln2 S (cur S)).length ≤ 2 := by unfold ln2; split <;> simp
    rw [List.length_append]; omega
  have hct := hM3.cont h40
  -- the content
  have k4 : ∃ m4, (if nI (sL S 8 (cur S)).length ≤ 0 then (some m3) else oM (fX11_cell (0 : Int32) m3) fun _ m26 => (mL 9 (m26 20 0) m26).bind fun x27 => oM (fX11_write 8 ((12 : Int32) * (m26 20 0)) x27 m26) fun _ m29 => some m29) = some m4 ∧ Lx m4 (ln1 S (cur S) ++ wrt (sL S 6 (cur S)) ++ ln2 S (cur S) ++ ln3 S (cur S)) ∧ Sm lsc m3 m4 := by
    unfold ln3
    by_cases e : (sL S 8 (cur S)).length = 0
    · rw [e, if_pos (show nI 0 ≤ 0 by decide), if_pos rfl, List.append_nil]; exact ⟨m3, rfl, b3, Sm.rf⟩
    · rw [if_neg (nI_nle (by omega) (by omega)), if_neg e]
      obtain ⟨m4, a4, b4, s4⟩ := m_cell 0 b3 (by omega)
      have hM4 := hM3.lsc s4
      have hc4 := hM4.cont h40
      obtain ⟨m5, a5, b5, s5⟩ := m_write (f := 8) (o := 12 * cur S) hM4.base rfl rfl hc4.2 (show _ ≤ 480 by omega) b4 (by rw [List.length_append, List.length_singleton]; omega)
      refine ⟨m5, ?_, by rw [List.append_assoc] at b5; exact b5, s4.tr s5⟩
      rw [a4, oMs, hc hM4, mL_ok rfl (show cur S < 40 from h40), hc4.1, sb, show (12 : Int32) = nI 12 from rfl, nI_mul, a5, oMs]
  obtain ⟨m4, a4, b4, s4⟩ := k4
  have hM4 := hM3.lsc s4
  have l4 : (ln1 S (cur S) ++ wrt (sL S 6 (cur S)) ++ ln2 S (cur S) ++ ln3 S (cur S)).length ≤ 52 := by
    have : (ln3 S (cur S)).length ≤ 25 := by
      unfold ln3
      split
      · simp
      · rw [List.length_cons]; omega
    rw [List.length_append]; omega
  have pre : fX11_layLine m = (if (m4 22 0) = 0 then (some (((), m4))) else oM (fX11_cell (192 : Int32) m4) fun _ m31 => some (((), m31))) := by
    unfold fX11_layLine
    rw [hc hM, m_plain hM rfl rfl (show cur S < 40 from h40), sb, mPIs, sb, hc hM0, m_level hM0 h.pw c2.lt, sb, a1, sb, hc hM1, mL_ok (k := 7) rfl (show cur S < 40 from h40), hn.1, sb, show (12 : Int32) = nI 12 from rfl, nI_mul, a2, oMs]
    rw [show (nI 12 : Int32) = 12 from rfl]
    rw [a3, sb, hc hM3, mL_ok (k := 9) rfl (show cur S < 40 from h40), hct.1, sb, a4, sb]
  unfold TL ln
  rw [pre, hM4.p 22 rfl]
  have sA : Sm lsc m m4 := ((s1.tr s2).tr s3).tr s4
  by_cases e : sI S 22 0 = 0
  · rw [if_pos e, if_pos e, List.append_nil]; exact ⟨m4, rfl, b4, sA⟩
  · rw [if_neg e, if_neg e]
    obtain ⟨m5, a5, b5, s5⟩ := m_cell 192 b4 (by omega)
    exact ⟨m5, by rw [a5, oMs], b5, sA.tr s5⟩
/-- what a part of a call does to the desk -/
def TS (F : mm → Option (Unit × mm)) (m : mm) (S' : SS) : Prop := ∃ m', F m = some ((), m') ∧ RM S' m'
theorem m_fit (hM : RM S m) (h : WT S) (hL : WL S) (hK : WK S) (hC : WC S) : ∃ m', fX11_fitOffset m = some ((), m') ∧ RM (fit S) m' ∧ Sm (25 :: lsc) m m' := by
  obtain ⟨m2, a2, b2, s2⟩ := m_line hM h hL hK hC
  have hM2 := hM.lsc s2
  have hl := ln_len hL
  have s2' : Sm (25 :: lsc) m m2 := s2.mono (by decide)
  unfold fX11_fitOffset fit
  rw [a2, oMs, hM2.p 25 rfl, b2.1]
  by_cases e : 0 < sI S 25 0
  · rw [if_neg (Int32.not_le.mpr e)]
    by_cases e2 : nI (ln S).length ≤ sI S 25 0
    · rw [if_neg (Int32.not_lt.mpr e2), if_pos (c := 0 < sI S 25 0 ∧ nI (ln S).length ≤ sI S 25 0) ⟨e, e2⟩]
      by_cases e3 : (ln S).length = 0
      · rw [e3, if_pos (show nI 0 = 0 from nI_0), if_pos rfl, mPIs, sb]
        exact ⟨_, rfl, hM2.wI0 rfl, s2'.tr (Sm.up (by decide))⟩
      · rw [if_neg (nI_ne0 (by omega) (by omega)), if_neg e3, o10, sb, show (1 : Int32) = nI 1 from rfl, nI_sub (by omega), show (10 : Int32) = nI 10 from rfl, nI_div (by omega) (by omega), nI_mul, mPIs, sb]
        exact ⟨_, rfl, hM2.wI0 rfl, s2'.tr (Sm.up (by decide))⟩
    · rw [if_pos (Int32.not_le.mp e2), if_neg (fun z => e2 z.2)]
      exact ⟨m2, rfl, hM2, s2'⟩
  · rw [if_pos (Int32.not_lt.mp e), if_neg (fun z => e z.1)]
    exact ⟨m2, rfl, hM2, s2'⟩
end MF

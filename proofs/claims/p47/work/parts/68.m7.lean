/-! ===== what becomes of the bearing when one field is written ===== -/
theorem up2_g {α : Type} (f : Nat → Nat → α) (a k : Nat) (v : α) (b j : Nat) : up2 f a k v b j = if b = a ∧ j = k then v else f b j := by
  unfold up2
  by_cases h1 : b = a
  · by_cases h2 : j = k
    · rw [if_pos h1, if_pos h2, if_pos ⟨h1, h2⟩]
    · rw [if_pos h1, if_neg h2, if_neg (fun z => h2 z.2)]
  · rw [if_neg h1, if_neg (fun z => h1 z.1)]
theorem sI_I (S : SS) (k i : Nat) (v : Int32) (k' j : Nat) : sI (wSI S k i v) k' j = if k' = k ∧ j = i then v else sI S k' j := up2_g _ _ _ _ _ _
theorem sL_L (S : SS) (k i : Nat) (l : List Int32) (k' j : Nat) : sL (wSL S k i l) k' j = if k' = k ∧ j = i then l else sL S k' j := up2_g _ _ _ _ _ _
theorem sQ_Q (S : SS) (k : Nat) (q : List (List Int32)) (k' : Nat) : sQ (wSQ S k q) k' = if k' = k then q else sQ S k' := rfl
theorem sK_K (S : SS) (i : Nat) (l : List Nat) (j : Nat) : sK (wSK S i l) j = if j = i then l else sK S j := rfl
theorem sI_L (S : SS) (k i : Nat) (l : List Int32) (k' j : Nat) : sI (wSL S k i l) k' j = sI S k' j := rfl
theorem sI_Q (S : SS) (k : Nat) (q : List (List Int32)) (k' j : Nat) : sI (wSQ S k q) k' j = sI S k' j := rfl
theorem sI_K (S : SS) (i : Nat) (l : List Nat) (k' j : Nat) : sI (wSK S i l) k' j = sI S k' j := rfl
theorem sL_I (S : SS) (k i : Nat) (v : Int32) (k' j : Nat) : sL (wSI S k i v) k' j = sL S k' j := rfl
theorem sL_Q (S : SS) (k : Nat) (q : List (List Int32)) (k' j : Nat) : sL (wSQ S k q) k' j = sL S k' j := rfl
theorem sL_K (S : SS) (i : Nat) (l : List Nat) (k' j : Nat) : sL (wSK S i l) k' j = sL S k' j := rfl
theorem sQ_I (S : SS) (k i : Nat) (v : Int32) (k' : Nat) : sQ (wSI S k i v) k' = sQ S k' := rfl
theorem sQ_L (S : SS) (k i : Nat) (l : List Int32) (k' : Nat) : sQ (wSL S k i l) k' = sQ S k' := rfl
theorem sQ_K (S : SS) (i : Nat) (l : List Nat) (k' : Nat) : sQ (wSK S i l) k' = sQ S k' := rfl
theorem sK_I (S : SS) (k i : Nat) (v : Int32) (j : Nat) : sK (wSI S k i v) j = sK S j := rfl
theorem sK_L (S : SS) (k i : Nat) (l : List Int32) (j : Nat) : sK (wSL S k i l) j = sK S j := rfl
theorem sK_Q (S : SS) (k : Nat) (q : List (List Int32)) (j : Nat) : sK (wSQ S k q) j = sK S j := rfl
theorem RM.w6 {S : SS} {m m' : mm} (h : RM S m) {i : Nat} {l : List Int32} (hs : Sm ([6, 7] ++ scr) m m') (hn : TxA m' 6 7 12 i l) (ho : ∀ j, j < 40 → j ≠ i → TxA m' 6 7 12 j (sL S 6 j)) : RM (wSL S 6 i l) m' := by
  obtain ⟨h1, h2, h3, h4, h5, h6, h7, h8, h9, h10, h11⟩ := h
  have e : ∀ k, decide (k ∉ [6, 7] ++ scr) = true → m' k = m k := fun k hk => hs.at k hk
  refine ⟨fun k hk => ?_, fun j hj => by
    by_cases q : j = i
    · subst q; rw [show sL (wSL S 6 j l) 6 j = l from by rw [sL_L, if_pos ⟨rfl, rfl⟩]]; exact hn
    · rw [show sL (wSL S 6 i l) 6 j = sL S 6 j from by rw [sL_L, if_neg (fun z => q z.2)]]; exact ho j hj q, fun i hi => (h3 i hi).sm (e 8 rfl) (e 9 rfl), fun i hi => (h4 i hi).sm (e 17 rfl) (e 16 rfl), h5.sm (e 18 rfl) (e 19 rfl), h6.sm (e 33 rfl) (e 34 rfl), h7.sm (e 39 rfl) (e 40 rfl), h8.sm (e 30 rfl) (e 31 rfl) (e 32 rfl), h9.sm (e 35 rfl) (e 36 rfl) (e 37 rfl), fun i hi => (h10 i hi).sm (e 4 rfl) (e 5 rfl), fun k hk => by rw [e 47 rfl]; exact h11 k hk⟩
  rw [hs k (fun hm => ?_)]
  · exact h1 k hk
  · have : ∀ k, k ∈ [6, 7] ++ scr → plain k = false := by decide
    rw [this k hm] at hk
    cases hk
theorem RM.w8 {S : SS} {m m' : mm} (h : RM S m) {i : Nat} {l : List Int32} (hs : Sm ([8, 9] ++ scr) m m') (hn : TxA m' 8 9 12 i l) (ho : ∀ j, j < 40 → j ≠ i → TxA m' 8 9 12 j (sL S 8 j)) : RM (wSL S 8 i l) m' := by
  obtain ⟨h1, h2, h3, h4, h5, h6, h7, h8, h9, h10, h11⟩ := h
  have e : ∀ k, decide (k ∉ [8, 9] ++ scr) = true → m' k = m k := fun k hk => hs.at k hk
  refine ⟨fun k hk => ?_, fun i hi => (h2 i hi).sm (e 6 rfl) (e 7 rfl), fun j hj => by
    by_cases q : j = i
    · subst q; rw [show sL (wSL S 8 j l) 8 j = l from by rw [sL_L, if_pos ⟨rfl, rfl⟩]]; exact hn
    · rw [show sL (wSL S 8 i l) 8 j = sL S 8 j from by rw [sL_L, if_neg (fun z => q z.2)]]; exact ho j hj q, fun i hi => (h4 i hi).sm (e 17 rfl) (e 16 rfl), h5.sm (e 18 rfl) (e 19 rfl), h6.sm (e 33 rfl) (e 34 rfl), h7.sm (e 39 rfl) (e 40 rfl), h8.sm (e 30 rfl) (e 31 rfl) (e 32 rfl), h9.sm (e 35 rfl) (e 36 rfl) (e 37 rfl), fun i hi => (h10 i hi).sm (e 4 rfl) (e 5 rfl), fun k hk => by rw [e 47 rfl]; exact h11 k hk⟩
  rw [hs k (fun hm => ?_)]
  · exact h1 k hk
  · have : ∀ k, k ∈ [8, 9] ++ scr → plain k = false := by decide
    rw [this k hm] at hk
    cases hk
theorem RM.w17 {S : SS} {m m' : mm} (h : RM S m) {i : Nat} {l : List Int32} (hs : Sm ([17, 16] ++ scr) m m') (hn : TxA m' 17 16 100 i l) (ho : ∀ j, j < 40 → j ≠ i → TxA m' 17 16 100 j (sL S 17 j)) : RM (wSL S 17 i l) m' := by
  obtain ⟨h1, h2, h3, h4, h5, h6, h7, h8, h9, h10, h11⟩ := h
  have e : ∀ k, decide (k ∉ [17, 16] ++ scr) = true → m' k = m k := fun k hk => hs.at k hk
  refine ⟨fun k hk => ?_, fun i hi => (h2 i hi).sm (e 6 rfl) (e 7 rfl), fun i hi => (h3 i hi).sm (e 8 rfl) (e 9 rfl), fun j hj => by
    by_cases q : j = i
    · subst q; rw [show sL (wSL S 17 j l) 17 j = l from by rw [sL_L, if_pos ⟨rfl, rfl⟩]]; exact hn
    · rw [show sL (wSL S 17 i l) 17 j = sL S 17 j from by rw [sL_L, if_neg (fun z => q z.2)]]; exact ho j hj q, h5.sm (e 18 rfl) (e 19 rfl), h6.sm (e 33 rfl) (e 34 rfl), h7.sm (e 39 rfl) (e 40 rfl), h8.sm (e 30 rfl) (e 31 rfl) (e 32 rfl), h9.sm (e 35 rfl) (e 36 rfl) (e 37 rfl), fun i hi => (h10 i hi).sm (e 4 rfl) (e 5 rfl), fun k hk => by rw [e 47 rfl]; exact h11 k hk⟩
  rw [hs k (fun hm => ?_)]
  · exact h1 k hk
  · have : ∀ k, k ∈ [17, 16] ++ scr → plain k = false := by decide
    rw [this k hm] at hk
    cases hk
theorem RM.w18 {S : SS} {m m' : mm} (h : RM S m) {l : List Int32} (hs : Sm ([18, 19] ++ scr) m m') (hn : TxA m' 18 19 12 0 l) : RM (wSL S 18 0 l) m' := by
  obtain ⟨h1, h2, h3, h4, h5, h6, h7, h8, h9, h10, h11⟩ := h
  have e : ∀ k, decide (k ∉ [18, 19] ++ scr) = true → m' k = m k := fun k hk => hs.at k hk
  refine ⟨fun k hk => ?_, fun i hi => (h2 i hi).sm (e 6 rfl) (e 7 rfl), fun i hi => (h3 i hi).sm (e 8 rfl) (e 9 rfl), fun i hi => (h4 i hi).sm (e 17 rfl) (e 16 rfl), hn, h6.sm (e 33 rfl) (e 34 rfl), h7.sm (e 39 rfl) (e 40 rfl), h8.sm (e 30 rfl) (e 31 rfl) (e 32 rfl), h9.sm (e 35 rfl) (e 36 rfl) (e 37 rfl), fun i hi => (h10 i hi).sm (e 4 rfl) (e 5 rfl), fun k hk => by rw [e 47 rfl]; exact h11 k hk⟩
  rw [hs k (fun hm => ?_)]
  · exact h1 k hk
  · have : ∀ k, k ∈ [18, 19] ++ scr → plain k = false := by decide
    rw [this k hm] at hk
    cases hk
theorem RM.w33 {S : SS} {m m' : mm} (h : RM S m) {l : List Int32} (hs : Sm ([33, 34] ++ scr) m m') (hn : TxA m' 33 34 100 0 l) : RM (wSL S 33 0 l) m' := by
  obtain ⟨h1, h2, h3, h4, h5, h6, h7, h8, h9, h10, h11⟩ := h
  have e : ∀ k, decide (k ∉ [33, 34] ++ scr) = true → m' k = m k := fun k hk => hs.at k hk
  refine ⟨fun k hk => ?_, fun i hi => (h2 i hi).sm (e 6 rfl) (e 7 rfl), fun i hi => (h3 i hi).sm (e 8 rfl) (e 9 rfl), fun i hi => (h4 i hi).sm (e 17 rfl) (e 16 rfl), h5.sm (e 18 rfl) (e 19 rfl), hn, h7.sm (e 39 rfl) (e 40 rfl), h8.sm (e 30 rfl) (e 31 rfl) (e 32 rfl), h9.sm (e 35 rfl) (e 36 rfl) (e 37 rfl), fun i hi => (h10 i hi).sm (e 4 rfl) (e 5 rfl), fun k hk => by rw [e 47 rfl]; exact h11 k hk⟩
  rw [hs k (fun hm => ?_)]
  · exact h1 k hk
  · have : ∀ k, k ∈ [33, 34] ++ scr → plain k = false := by decide
    rw [this k hm] at hk
    cases hk
theorem RM.w39 {S : SS} {m m' : mm} (h : RM S m) {l : List Int32} (hs : Sm ([39, 40] ++ scr) m m') (hn : TxA m' 39 40 100 0 l) : RM (wSL S 39 0 l) m' := by
  obtain ⟨h1, h2, h3, h4, h5, h6, h7, h8, h9, h10, h11⟩ := h
  have e : ∀ k, decide (k ∉ [39, 40] ++ scr) = true → m' k = m k := fun k hk => hs.at k hk
  refine ⟨fun k hk => ?_, fun i hi => (h2 i hi).sm (e 6 rfl) (e 7 rfl), fun i hi => (h3 i hi).sm (e 8 rfl) (e 9 rfl), fun i hi => (h4 i hi).sm (e 17 rfl) (e 16 rfl), h5.sm (e 18 rfl) (e 19 rfl), h6.sm (e 33 rfl) (e 34 rfl), hn, h8.sm (e 30 rfl) (e 31 rfl) (e 32 rfl), h9.sm (e 35 rfl) (e 36 rfl) (e 37 rfl), fun i hi => (h10 i hi).sm (e 4 rfl) (e 5 rfl), fun k hk => by rw [e 47 rfl]; exact h11 k hk⟩
  rw [hs k (fun hm => ?_)]
  · exact h1 k hk
  · have : ∀ k, k ∈ [39, 40] ++ scr → plain k = false := by decide
    rw [this k hm] at hk
    cases hk
theorem RM.w30 {S : SS} {m m' : mm} (h : RM S m) {q : List (List Int32)} (hs : Sm ([30, 31, 32] ++ scr) m m') (hn : RQ m' 30 31 32 q) : RM (wSQ S 30 q) m' := by
  obtain ⟨h1, h2, h3, h4, h5, h6, h7, h8, h9, h10, h11⟩ := h
  have e : ∀ k, decide (k ∉ [30, 31, 32] ++ scr) = true → m' k = m k := fun k hk => hs.at k hk
  refine ⟨fun k hk => ?_, fun i hi => (h2 i hi).sm (e 6 rfl) (e 7 rfl), fun i hi => (h3 i hi).sm (e 8 rfl) (e 9 rfl), fun i hi => (h4 i hi).sm (e 17 rfl) (e 16 rfl), h5.sm (e 18 rfl) (e 19 rfl), h6.sm (e 33 rfl) (e 34 rfl), h7.sm (e 39 rfl) (e 40 rfl), hn, h9.sm (e 35 rfl) (e 36 rfl) (e 37 rfl), fun i hi => (h10 i hi).sm (e 4 rfl) (e 5 rfl), fun k hk => by rw [e 47 rfl]; exact h11 k hk⟩
  rw [hs k (fun hm => ?_)]
  · exact h1 k hk
  · have : ∀ k, k ∈ [30, 31, 32] ++ scr → plain k = false := by decide
    rw [this k hm] at hk
    cases hk
theorem RM.w35 {S : SS} {m m' : mm} (h : RM S m) {q : List (List Int32)} (hs : Sm ([35, 36, 37] ++ scr) m m') (hn : RQ m' 35 36 37 q) : RM (wSQ S 35 q) m' := by
  obtain ⟨h1, h2, h3, h4, h5, h6, h7, h8, h9, h10, h11⟩ := h
  have e : ∀ k, decide (k ∉ [35, 36, 37] ++ scr) = true → m' k = m k := fun k hk => hs.at k hk
  refine ⟨fun k hk => ?_, fun i hi => (h2 i hi).sm (e 6 rfl) (e 7 rfl), fun i hi => (h3 i hi).sm (e 8 rfl) (e 9 rfl), fun i hi => (h4 i hi).sm (e 17 rfl) (e 16 rfl), h5.sm (e 18 rfl) (e 19 rfl), h6.sm (e 33 rfl) (e 34 rfl), h7.sm (e 39 rfl) (e 40 rfl), h8.sm (e 30 rfl) (e 31 rfl) (e 32 rfl), hn, fun i hi => (h10 i hi).sm (e 4 rfl) (e 5 rfl), fun k hk => by rw [e 47 rfl]; exact h11 k hk⟩
  rw [hs k (fun hm => ?_)]
  · exact h1 k hk
  · have : ∀ k, k ∈ [35, 36, 37] ++ scr → plain k = false := by decide
    rw [this k hm] at hk
    cases hk
theorem RM.wK {S : SS} {m m' : mm} (h : RM S m) {i : Nat} {l : List Nat} (hs : Sm ([4, 5] ++ scr) m m') (hn : RKd m' i l) (ho : ∀ j, j < 40 → j ≠ i → RKd m' j (sK S j)) : RM (wSK S i l) m' := by
  obtain ⟨h1, h2, h3, h4, h5, h6, h7, h8, h9, h10, h11⟩ := h
  have e : ∀ k, decide (k ∉ [4, 5] ++ scr) = true → m' k = m k := fun k hk => hs.at k hk
  refine ⟨fun k hk => ?_, fun i hi => (h2 i hi).sm (e 6 rfl) (e 7 rfl), fun i hi => (h3 i hi).sm (e 8 rfl) (e 9 rfl), fun i hi => (h4 i hi).sm (e 17 rfl) (e 16 rfl), h5.sm (e 18 rfl) (e 19 rfl), h6.sm (e 33 rfl) (e 34 rfl), h7.sm (e 39 rfl) (e 40 rfl), h8.sm (e 30 rfl) (e 31 rfl) (e 32 rfl), h9.sm (e 35 rfl) (e 36 rfl) (e 37 rfl), fun j hj => by
    by_cases q : j = i
    · subst q; rw [show sK (wSK S j l) j = l from if_pos rfl]; exact hn
    · rw [show sK (wSK S i l) j = sK S j from if_neg q]; exact ho j hj q, fun k hk => by rw [e 47 rfl]; exact h11 k hk⟩
  rw [hs k (fun hm => ?_)]
  · exact h1 k hk
  · have : ∀ k, k ∈ [4, 5] ++ scr → plain k = false := by decide
    rw [this k hm] at hk
    cases hk
theorem RM.wI {S : SS} {m m' : mm} (h : RM S m) {k i : Nat} {v : Int32} (hk : plain k = true) (hs : Sm scr (up2 m k i v) m') : RM (wSI S k i v) m' := by
  refine RM.sm (m := up2 m k i v) ?_ hs
  obtain ⟨h1, h2, h3, h4, h5, h6, h7, h8, h9, h10, h11⟩ := h
  have e : ∀ f, plain f = false → up2 m k i v f = m f := fun f hf => up_f m i v (fun z => by rw [z, hk] at hf; cases hf)
  refine ⟨fun f hf => ?_, fun i hi => (h2 i hi).sm (e 6 rfl) (e 7 rfl), fun i hi => (h3 i hi).sm (e 8 rfl) (e 9 rfl), fun i hi => (h4 i hi).sm (e 17 rfl) (e 16 rfl), h5.sm (e 18 rfl) (e 19 rfl), h6.sm (e 33 rfl) (e 34 rfl), h7.sm (e 39 rfl) (e 40 rfl), h8.sm (e 30 rfl) (e 31 rfl) (e 32 rfl), h9.sm (e 35 rfl) (e 36 rfl) (e 37 rfl), fun i hi => (h10 i hi).sm (e 4 rfl) (e 5 rfl), fun k hk => by rw [e 47 rfl]; exact h11 k hk⟩
  show up2 m k i v f = up2 S.1 k i v f
  funext j
  unfold up2
  by_cases z : f = k
  · subst z; rw [if_pos rfl, if_pos rfl, h1 f hf]
  · rw [if_neg z, if_neg z, h1 f hf]
theorem RM.wI0 {S : SS} {m : mm} (h : RM S m) {k i : Nat} {v : Int32} (hk : plain k = true) : RM (wSI S k i v) (up2 m k i v) := h.wI hk Sm.rf
def WK (S : SS) : Prop := ∀ i, th S i → ∃ k, k ≤ 7 ∧ sI S 2 i = nI k
def WC (S : SS) : Prop := sI S 20 0 = nI (cur S) ∧ th S (cur S)
theorem ln_len {S : SS} (hL : WL S) : (ln S).length ≤ 53 := by
  have h1 := (hL (cur S)).1
  have h2 := (hL (cur S)).2.1
  have h3 := wrt_len (sL S 6 (cur S))
  have h4 := wrt_len (sL S 8 (cur S))
  have a1 : (ln1 S (cur S)).length ≤ 1 := by unfold ln1; split <;> simp
  have a2 : (ln2 S (cur S)).length ≤ 2 := by unfold ln2; split <;> simp
  have a3 : (ln3 S (cur S)).length ≤ 25 := by
    unfold ln3
    split
    · simp
    · rw [List.length_cons]; omega
  have a4 : (if sI S 22 0 = 0 then ([] : List Int32) else [192]).length ≤ 1 := by split <;> simp
  unfold ln
  simp only [List.length_append]
  omega
section MF
variable {S : SS} {m : mm}
theorem RM.lsc (hM : RM S m) {m' : mm} (h : Sm lsc m m') : RM S m' := hM.sm (h.mono (by decide))
theorem RM.base (hM : RM S m) : ∀ k, k < 10 → m 47 k = ptsN k := hM.2.2.2.2.2.2.2.2.2.2
theorem Lx_0 (m : mm) : Lx (up2 m 53 0 0) [] := ⟨by rw [up_s]; rfl, Sl_nil⟩
/-- what a part of a call does to the desk -/
def TS (F : mm → Option (Unit × mm)) (m : mm) (S' : SS) : Prop := ∃ m', F m = some ((), m') ∧ RM S' m'
end MF

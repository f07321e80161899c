/-! ===== every call keeps the form ===== -/
section IC
variable {S : SS} {m : mm} {c : Nat}
theorem Inv.t (h : Inv S c) (v : Int32) : Inv (wSI S 48 0 v) c := by
  have hs : Sd [48] [] [] S (wSI S 48 0 v) := Sd.I (by decide)
  exact ⟨h.1.i rfl, fit_keep h.2.1 (ln_cg (hs.i 2 rfl) (hs.i 3 rfl) (hs.i 10 rfl) (hs.i 13 rfl) (hs.i 20 rfl) (hs.i 22 rfl) (hs.l 6 rfl) (hs.l 8 rfl)) (hs.i 25 rfl), h.2.2⟩
theorem Inv.more {d : Nat} (h : Inv S c) (hd : c ≤ d) : Inv S d := ⟨⟨h.1.1, h.1.2.1, h.1.2.2.1.mono hd, h.1.2.2.2⟩, h.2⟩
theorem iAsk (h : Inv S c) (x : Int32) (a : Nat → Int32) : Inv (ask S x a).2.2 c := by unfold ask; split <;> exact h
theorem iAsk2 (h : Inv S c) (x y : Int32) (n : Nat → Nat) (a : Nat → Nat → Int32) : Inv (ask2 S x y n a).2.2 c := by unfold ask2; split <;> exact h
theorem iReadingAt (h : Inv S c) (y : Int32) : Inv (cReadingAt S y).2.2 c := by unfold cReadingAt; split <;> exact h
theorem iPin (h : Inv S c) (p : Int32) : Inv (cPin S p).2.2 c := by unfold cPin; split <;> exact h
theorem iWordsLen (h : Inv S c) (x : Int32) : Inv (cWordsLen S x).2.2 c := by
  unfold cWordsLen
  split
  · exact h
  · split <;> exact h
theorem iWordsAt (h : Inv S c) (x y : Int32) : Inv (cWordsAt S x y).2.2 c := by
  unfold cWordsAt
  split
  · exact h
  · split
    · exact h
    · split <;> exact h
theorem iWaiting (h : Inv S c) (p : Int32) : Inv (cWaiting S p).2.2 c := by unfold cWaiting; split <;> exact h
theorem iHeardAt (h : Inv S c) (b : Int32) : Inv (cHeardAt S b).2.2 c := by unfold cHeardAt; split <;> exact h
theorem iTick (h : Inv S c) (n : Int32) : Inv (cTick S n).2.2 (c + 100) := by
  unfold cTick
  by_cases q : (1 : Int32) ≤ n ∧ n ≤ 50
  · obtain ⟨k, k1, rfl⟩ := nI_of2 (n := 50) (M := 50) (by decide) (not_neg (by decide) q.1) q.2
    rw [if_neg (show ¬ ¬ ((1 : Int32) ≤ nI k ∧ nI k ≤ 50) from fun z => z q), nth_nI (by omega)]
    exact (h.kTick k).more (by omega)
  · rw [if_pos q]
    exact h.more (by omega)
theorem iPress (h : Inv S c) (k : Int32) : Inv (cPress S k).2.2 c := by
  unfold cPress
  by_cases q : (0 : Int32) ≤ k ∧ k ≤ 8
  · obtain ⟨j, j1, rfl⟩ := nI_of2 (n := 8) (M := 8) (by decide) (not_neg (by decide) q.1) q.2
    rw [if_neg (show ¬ ¬ ((0 : Int32) ≤ nI j ∧ nI j ≤ 8) from fun z => z q)]
    split
    · exact h
    · exact h.kPress j1
  · rw [if_pos q]
    exact h
theorem iRelease (h : Inv S c) (k : Int32) : Inv (cRelease S k).2.2 c := by
  unfold cRelease
  by_cases q : (0 : Int32) ≤ k ∧ k ≤ 8
  · obtain ⟨j, j1, rfl⟩ := nI_of2 (n := 8) (M := 8) (by decide) (not_neg (by decide) q.1) q.2
    rw [if_neg (show ¬ ¬ ((0 : Int32) ≤ nI j ∧ nI j ≤ 8) from fun z => z q)]
    split
    · exact h
    · exact h.kRls j1
  · rw [if_pos q]
    exact h
theorem iChord (h : Inv S c) (p : Int32) : Inv (cChord S p).2.2 c := by
  unfold cChord
  split
  · exact h
  · split
    · exact h
    · exact h.chd p
theorem iDraft (h : Inv S c) (ch : Int32) : Inv (cDraft S ch).2.2 c := by
  unfold cDraft
  split
  · exact h
  · split
    · exact h
    · rename_i q
      refine h.kDraft ?_
      have hd : (sL S 18 0).length ≤ 12 := h.1.1.xd
      rw [List.length_append]
      show (sL S 18 0).length + 1 ≤ 12
      omega
theorem lt20 {n : Nat} (h : ¬ 20 ≤ n) : n < 20 := by omega
theorem iAdd (h : Inv S c) (p pl k : Int32) : Inv (cAdd S p pl k).2.2 c := by
  unfold cAdd
  by_cases e : elt S p = false
  · rw [if_pos e]; exact h
  · rw [if_neg e]
    rw [Bool.not_eq_false] at e
    obtain ⟨i, rfl, hi⟩ := elt_th h.1.1.t.pw e
    have i40 := hi.l40 h.1.1.t
    have l10 := (h.1.1.t.kids hi).2.1
    have m40 := h.1.1.t.m40
    rw [nth_nI (by omega)]
    split
    · exact h
    · rename_i q
      split
      · exact h
      · rename_i r
        simp only [not_or] at r
        obtain ⟨r1, r2, r3, r4⟩ := r
        have qk : (0 : Int32) ≤ k ∧ k ≤ 7 := by
          by_cases z : (0 : Int32) ≤ k ∧ k ≤ 7
          · exact z
          · exact absurd (Or.inr z) q
        obtain ⟨kk, k1, rfl⟩ := nI_of2 (n := 7) (M := 7) (by decide) (not_neg (by decide) qk.1) qk.2
        exact add2_Inv h (by omega) hi (by omega) k1 (by omega)
theorem iT2 {x : Int32} {a : SS → Int32} {F : SS → SS} (h : Inv S c) (hF : ∀ i, x = nI i → th S i → 0 < i → (sQ S 35).length < 20 → Inv (F S) c) : Inv (if elt S x = false then tw 1 S else if x = 0 ∨ 20 ≤ (sQ S 35).length then tw 2 S else rt (a S) (F S)).2.2 c := by
  by_cases e : elt S x = false
  · rw [if_pos e]; exact h
  · rw [if_neg e]
    rw [Bool.not_eq_false] at e
    obtain ⟨i, rfl, hi⟩ := elt_th h.1.1.t.pw e
    by_cases q : nI i = 0 ∨ 20 ≤ (sQ S 35).length
    · rw [if_pos q]; exact h
    · rw [if_neg q]
      rw [not_or] at q
      refine hF i rfl hi ?_ (by omega)
      rcases Nat.eq_zero_or_pos i with z | z
      · rw [z] at q; exact absurd rfl q.1
      · exact z
theorem iRemove (h : Inv S c) (x : Int32) : Inv (cRemove S x).2.2 c :=
  iT2 (a := fun S => nI (rmN S (nth x))) (F := fun S => rm3 S (nth x)) h (fun i e hi h0 ha => by rw [e, nth_nI (by have := hi.l40 h.1.1.t; omega)]; exact h.kRemove hi h0 ha)
theorem iHide (h : Inv S c) (x v : Int32) : Inv (cHide S x v).2.2 c :=
  iT2 (a := fun S => sI S 12 (nth x)) (F := fun S => fit (hd3 S (nth x) v)) h (fun i e hi h0 ha => by rw [e, nth_nI (by have := hi.l40 h.1.1.t; omega)]; exact h.kHide hi h0 v ha)
theorem iRename (h : Inv S c) (x : Int32) : Inv (cRename S x).2.2 c :=
  iT2 (a := fun S => nI (sL S 18 0).length) (F := fun S => ren S (nth x)) h (fun i e hi h0 ha => by rw [e, nth_nI (by have := hi.l40 h.1.1.t; omega)]; exact h.kRen hi ha)
theorem iSet (h : Inv S c) (x : Int32) {v : Int32} (hv : v = 0 ∨ v = 1) : Inv (cSet S x v).2.2 c := by
  unfold cSet
  by_cases e : elt S x = false
  · rw [if_pos e]; exact h
  · rw [if_neg e]
    rw [Bool.not_eq_false] at e
    obtain ⟨i, rfl, hi⟩ := elt_th h.1.1.t.pw e
    rw [nth_nI (by have := hi.l40 h.1.1.t; omega)]
    split
    · exact h
    · rename_i q
      rw [not_or] at q
      exact h.kSet hi hv (by omega)
theorem iSetRule (h : Inv S c) (x v : Int32) : Inv (cSetRule S x v).2.2 c := by
  unfold cSetRule
  split
  · exact h
  · split
    · exact h
    · exact h.kRule _ v
theorem iSetManner (h : Inv S c) (x v : Int32) : Inv (cSetManner S x v).2.2 c := by
  unfold cSetManner
  split
  · exact h
  · split
    · exact h
    · split
      · exact h
      · exact h.kManner _ v
end IC

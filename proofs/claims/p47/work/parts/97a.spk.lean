/-! ===== what is spoken while the law ticks ===== -/
section SPK
variable {S : SS}
theorem kpt_id : ∀ (n : Nat), (∀ i, sL S 17 i = []) → kptF S n = S
  | 0, _ => rfl
  | n + 1, h => by
    have ih := kpt_id n h
    unfold kptF at ih ⊢
    rw [List.range_succ, List.foldl_append, ih]
    show kpt1 S n = S
    unfold kpt1
    rw [if_pos (Or.inl (by rw [h]; rfl))]
/-- nothing of news or alerts, nothing kept, no alert is being spoken -/
def Qt (S : SS) : Prop := (∀ i, sL S 17 i = []) ∧ sQ S 30 = [] ∧ sQ S 35 = [] ∧ sI S 38 0 ≠ 2
/-- quiet behind k ticks at the most -/
def Dq (k : Nat) (S : SS) : Prop := Qt S ∨ ((∀ i, sL S 17 i = []) ∧ sQ S 30 = [] ∧ sQ S 35 = [] ∧ sI S 38 0 = 2 ∧ ∃ p, sI S 41 0 = nI p ∧ p < (sL S 39 0).length ∧ (sL S 39 0).length ≤ 80 ∧ (sL S 39 0).length - p ≤ k) ∨ ((∀ i, sL S 17 i = []) ∧ sQ S 30 = [] ∧ sI S 38 0 = -1 ∧ ∃ t, sQ S 35 = [t] ∧ 0 < t.length ∧ t.length ≤ 80 ∧ t.length ≤ k)
theorem tck_kpt (h : ∀ i, sL S 17 i = []) : tck1 S = spkI (bgnI (wSI S 46 0 (sI S 46 0 + 1))) := by
  unfold tck1 kpt
  rw [kpt_id _ (fun i => by rw [sL_I]; exact h i)]
theorem qt_tck (h : Qt S) : Qt (tck1 S) := by
  obtain ⟨h1, h2, h3, h4⟩ := h
  rw [tck_kpt h1]
  have b : Qt (bgnI (wSI S 46 0 (sI S 46 0 + 1))) := by
    unfold bgnI
    by_cases q : sI (wSI S 46 0 (sI S 46 0 + 1)) 38 0 = -1
    · rw [if_pos q]
      unfold bgn bgn1
      rw [show sQ (wSI S 46 0 (sI S 46 0 + 1)) 35 = [] from h3]
      dsimp only
      by_cases w : (sL (wSI S 46 0 (sI S 46 0 + 1)) 33 0).length = 0
      · rw [if_pos w, show sQ (wSI S 46 0 (sI S 46 0 + 1)) 30 = [] from h2]
        exact ⟨h1, h2, h3, h4⟩
      · rw [if_neg w]
        refine ⟨fun i => ?_, h2, h3, ?_⟩
        · rw [sL_I, sL_I, sL_L, if_neg (fun z => absurd z.1 (by decide)), sL_L, if_neg (fun z => absurd z.1 (by decide))]; exact h1 i
        · rw [sI_N (by decide), sI_I, if_pos ⟨rfl, rfl⟩]; decide
    · rw [if_neg q]
      exact ⟨h1, h2, h3, h4⟩
  obtain ⟨b1, b2, b3, b4⟩ := b
  generalize bgnI (wSI S 46 0 (sI S 46 0 + 1)) = T at b1 b2 b3 b4
  unfold spkI
  split
  · exact ⟨b1, b2, b3, b4⟩
  · have c : Qt (say2 T) := ⟨b1, b2, b3, b4⟩
    obtain ⟨c1, c2, c3, c4⟩ := c
    unfold say3
    split
    · refine ⟨c1, c2, c3, ?_⟩
      rw [sI_I, if_pos ⟨rfl, rfl⟩]; decide
    · exact ⟨c1, c2, c3, c4⟩
/-- one sign of an alert -/
theorem say_al {k p : Nat} (h1 : ∀ i, sL S 17 i = []) (h2 : sQ S 30 = []) (h3 : sQ S 35 = []) (h4 : sI S 38 0 = 2) (h5 : sI S 41 0 = nI p) (h6 : p < (sL S 39 0).length) (h7 : (sL S 39 0).length ≤ 80) (h8 : (sL S 39 0).length - p ≤ k + 1) : Dq k (spkI S) := by
  unfold spkI
  rw [if_neg (by rw [h4]; decide)]
  have e39 : sL (say2 S) 39 0 = sL S 39 0 := rfl
  have e41 : sI (say2 S) 41 0 = nI (p + 1) := by
    unfold say2
    rw [sI_I, if_pos ⟨rfl, rfl⟩, h5, nI_1]
  have e38 : sI (say2 S) 38 0 = 2 := h4
  have es : spk (say2 S) = p + 1 := by
    unfold spk
    rw [e41]
    exact nI_clamp (by omega)
  unfold say3
  rw [es, e39]
  by_cases q : p + 1 = (sL S 39 0).length
  · rw [if_pos q]
    refine Or.inl ⟨h1, h2, h3, ?_⟩
    rw [sI_I, if_pos ⟨rfl, rfl⟩]; decide
  · rw [if_neg q]
    refine Or.inr (Or.inl ⟨h1, h2, h3, e38, p + 1, e41, ?_, ?_, ?_⟩)
    · rw [e39]; omega
    · rw [e39]; exact h7
    · rw [e39]; omega
theorem dq_tck {k : Nat} (h : Dq (k + 1) S) : Dq k (tck1 S) := by
  rcases h with h | ⟨h1, h2, h3, h4, p, h5, h6, h7, h8⟩ | ⟨h1, h2, h3, t, h4, h5, h6, h7⟩
  · exact Or.inl (qt_tck h)
  · rw [tck_kpt h1]
    have e : bgnI (wSI S 46 0 (sI S 46 0 + 1)) = wSI S 46 0 (sI S 46 0 + 1) := by
      unfold bgnI
      rw [if_neg (show ¬ sI (wSI S 46 0 (sI S 46 0 + 1)) 38 0 = -1 by rw [sI_N (by decide), h4]; decide)]
    rw [e]
    exact say_al (p := p) h1 h2 h3 (by rw [sI_N (by decide)]; exact h4) (by rw [sI_N (by decide)]; exact h5) h6 h7 h8
  · rw [tck_kpt h1]
    have e : bgnI (wSI S 46 0 (sI S 46 0 + 1)) = wSI (wSI (wSQ (wSL (wSI S 46 0 (sI S 46 0 + 1)) 39 0 t) 35 []) 38 0 2) 41 0 0 := by
      unfold bgnI
      rw [if_pos (show sI (wSI S 46 0 (sI S 46 0 + 1)) 38 0 = -1 by rw [sI_N (by decide)]; exact h3)]
      unfold bgn bgn1
      rw [show sQ (wSI S 46 0 (sI S 46 0 + 1)) 35 = [t] from h4]
    rw [e]
    have e39 : sL (wSI (wSI (wSQ (wSL (wSI S 46 0 (sI S 46 0 + 1)) 39 0 t) 35 []) 38 0 2) 41 0 0) 39 0 = t := by
      rw [sL_I, sL_I, sL_Q, sL_L, if_pos ⟨rfl, rfl⟩]
    refine say_al (p := 0) (fun i => ?_) ?_ ?_ ?_ ?_ ?_ ?_ ?_
    · rw [sL_I, sL_I, sL_Q, sL_L, if_neg (fun z => absurd z.1 (by decide))]; exact h1 i
    · show (if (30 : Nat) = 35 then ([] : List (List Int32)) else sQ S 30) = []
      rw [if_neg (by decide)]; exact h2
    · show (if (35 : Nat) = 35 then ([] : List (List Int32)) else sQ S 35) = []
      rw [if_pos rfl]
    · rw [sI_N (by decide), sI_I, if_pos ⟨rfl, rfl⟩]
    · rw [sI_I, if_pos ⟨rfl, rfl⟩]; rfl
    · rw [e39]; exact h5
    · rw [e39]; exact h6
    · rw [e39]; omega
theorem dq_N {n : Nat} : ∀ (j : Nat), Dq (n + j) S → Dq n (tckN S j)
  | 0, h => h
  | j + 1, h => by
    have := dq_N (n := n + 1) j (by rw [show n + 1 + j = n + (j + 1) by omega]; exact h)
    exact dq_tck this
theorem dq_0 (h : Dq 0 S) : Qt S := by
  rcases h with h | ⟨h1, h2, h3, h4, p, h5, h6, h7, h8⟩ | ⟨h1, h2, h3, t, h4, h5, h6, h7⟩
  · exact h
  · omega
  · omega
/-- how many have been heard: it does not fall -/
theorem t43 (S : SS) : sI (tck1 S) 43 0 = sI S 43 0 ∨ sI (tck1 S) 43 0 = sI S 43 0 + 1 := by
  unfold tck1
  have e : sI (bgnI (kpt (wSI S 46 0 (sI S 46 0 + 1)))) 43 0 = sI S 43 0 := by
    rw [(sd_bgnI _).i 43 rfl, show sI (kpt (wSI S 46 0 (sI S 46 0 + 1))) 43 = sI (wSI S 46 0 (sI S 46 0 + 1)) 43 from (sd_kptF _ _).i 43 rfl, sI_N (by decide)]
  generalize bgnI (kpt (wSI S 46 0 (sI S 46 0 + 1))) = T at e
  unfold spkI
  split
  · exact Or.inl e
  · right
    have e2 : sI (say2 T) 43 0 = sI S 43 0 + 1 := by
      unfold say2
      rw [sI_N (by decide), sI_I, if_pos ⟨rfl, rfl⟩, e]
    unfold say3
    split
    · rw [sI_N (by decide)]; exact e2
    · exact e2
theorem t43N (S : SS) : ∀ n, ∃ k, k ≤ n ∧ sI (tckN S n) 43 0 = sI S 43 0 + nI k
  | 0 => ⟨0, Nat.le_refl _, (Int32.add_zero _).symm⟩
  | n + 1 => by
    obtain ⟨k, h1, h2⟩ := t43N S n
    rcases t43 (tckN S n) with z | z
    · exact ⟨k, by omega, z.trans h2⟩
    · exact ⟨k + 1, by omega, by rw [show tckN S (n + 1) = tck1 (tckN S n) from rfl, z, h2, Int32.add_assoc, nI_1]⟩
theorem t43_ge (S : SS) (n : Nat) (hn : n ≤ 50) : ¬ sI (tckN S n) 43 0 - sI S 43 0 < 0 := by
  obtain ⟨k, h1, h2⟩ := t43N S n
  rw [h2, Int32.add_comm, Int32.add_sub_cancel]
  exact nI_pos (by omega)
/-- what the calls leave to be spoken -/
theorem s17 (hC : Core S) (hk : VK S) : ∀ i, sL S 17 i = [] := fun i => by
  rcases Nat.eq_zero_or_pos (sL S 17 i).length with z | z
  · exact List.length_eq_zero_iff.mp z
  · obtain ⟨a, b⟩ := hC.xk i z
    obtain ⟨k, k1, k2⟩ := (hk.2 i b.lt).1
    rw [k2] at a
    have := (nI_eq (a := k) (b := 7) (by omega) (by decide)).mp a
    omega
end SPK

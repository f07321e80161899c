/-! ===== the class's reader obeys ===== -/
theorem kos_f : ∀ k, k < 8 → k ≠ 1 → kos (fpt (nI k)) = nI k := by decide +kernel
theorem kos_n {p : Int32} (h : ∀ k, k < 8 → p ≠ fpt (nI k)) : kos p = -1 := by
  have h0 : p ≠ 27 := h 0 (by decide)
  have h2 : p ≠ 3 := h 2 (by decide)
  have h3 : p ≠ 9 := h 3 (by decide)
  have h4 : p ≠ 17 := h 4 (by decide)
  have h5 : p ≠ 30 := h 5 (by decide)
  have h6 : p ≠ 23 := h 6 (by decide)
  have h7 : p ≠ 7 := h 7 (by decide)
  unfold kos
  rw [if_neg h0, if_neg h2, if_neg h3, if_neg h4, if_neg h5, if_neg h6, if_neg h7]
section OB
variable {B : Nat} {E : Nat → Nat} {S : SS} {li : List Int32} {h h' : hp}
theorem r_kind (x : RW B E S li (ord S) h) {c : Nat} (hI : Inv0 S c) {p : Int32} (hp0 : p ≠ 0) : ∃ h', fX5_goToKind (B + 79) p h = some ((), h') ∧ RW B E (gKind S (kos p)) li (ord S) h' := by
  have hCo := hI.1
  have hW := hCo.t
  have hL := hCo.l
  have hC := hCo.c
  have ho40 := ord_len hW
  have hom : ∀ j ∈ ord S, j < made S := fun j hj => (ord_in hW hj).1.lt
  have hco : cur S ∈ ord S := ord_shn hW _ hC.2.lt hC.2 hCo.xs
  have e0 : oGR 4 0 (some (B + 79)) h = some (some (B + 1)) := x.fp (by decide) (by decide)
  have key : ∃ q, itr (fX5_goToKind_B2 (B + 79) p h) FU (nI 0) = some q ∧ ((∃ h', q = .inl ((), h') ∧ RW B E (gKind S (kos p)) li (ord S) h') ∨ (q = .inr () ∧ kos p = -1)) := by
    refine itr_brk (R := fun (q : (Unit × hp) ⊕ Unit) => (∃ h', q = .inl ((), h') ∧ RW B E (gKind S (kos p)) li (ord S) h') ∨ (q = .inr () ∧ kos p = -1)) (fun j a => a = nI j ∧ ∀ k, k < j → p ≠ fpt (nI k)) 8 (fun j a hj hX => ?_) (fun a hX => ?_) (FU_lt (by decide)) ⟨rfl, fun k hk => absurd hk (Nat.not_lt_zero k)⟩
    · obtain ⟨rfl, h2⟩ := hX
      obtain ⟨bf, -⟩ := b_first j hj
      have hnl : ¬ (7 : Int32) < nI j := by
        have : ∀ j, j < 8 → ¬ (7 : Int32) < nI j := by decide +kernel
        exact this j hj
      obtain ⟨w, w1, w2⟩ : ∃ w, fX2_kindWord (nI j) = some w ∧ fX0_firstPoints w = some (fpt (nI j)) := by
        cases hk : fX2_kindWord (nI j) with
        | none => rw [hk] at bf; cases bf
        | some w => rw [hk, sb] at bf; exact ⟨w, rfl, bf⟩
      by_cases q : p = fpt (nI j)
      · have hj1 : j ≠ 1 := fun z => by
          rw [z] at q
          exact hp0 (q.trans (by decide))
        have hk := kos_f j hj hj1
        rw [← q] at hk
        have hen := t_nextK x ho40 hom hco (nI j)
        have hen' : fX7_nextOfKind (B + 1) (some (E (cur S))) (nI j) h = some ((((ord S).drop (cpl S + 1)).find? (fun i => decide (sI S 2 i = nI j))).map E) := hen
        obtain ⟨h1, a1, x1⟩ := r_goO x hW hL hC (o := ((ord S).drop (cpl S + 1)).find? (fun i => decide (sI S 2 i = nI j))) (fun t ht => (ord_in hW (List.mem_of_mem_drop (List.mem_of_find?_eq_some ht))).1) (w := 31) (by decide) (by decide)
        rw [tx_w.2.1] at x1
        refine Or.inr ⟨.inl ((), h1), ?_, Or.inl ⟨h1, rfl, ?_⟩⟩
        · unfold fX5_goToKind_B2
          rw [if_neg hnl, w1, sb, w2, sb, if_pos q, e0, sb, x.cu, sb, x.fo (o := 1) (t := 6) (by decide), sb, hen', sb, x.ob79, sb, a1, o2s]
        · unfold gKind
          rw [hk, if_neg (nI_m1 (by omega))]
          exact x1
      · refine Or.inl ⟨nI (j + 1), ?_, rfl, fun k hk => ?_⟩
        · unfold fX5_goToKind_B2
          rw [if_neg hnl, w1, sb, w2, sb, if_neg q, nI_1]
        · by_cases z : k = j
          · rw [z]; exact q
          · exact h2 k (by omega)
    · obtain ⟨rfl, h2⟩ := hX
      refine ⟨.inr (), ?_, Or.inr ⟨rfl, kos_n h2⟩⟩
      unfold fX5_goToKind_B2
      rw [if_pos (show (7 : Int32) < nI 8 by decide)]
  obtain ⟨q, b1, b2⟩ := key
  unfold fX5_goToKind
  rw [show (0 : Int32) = nI 0 from rfl, b1]
  rcases b2 with ⟨h1, rfl, x1⟩ | ⟨rfl, hk⟩
  · exact ⟨h1, rfl, x1⟩
  · refine ⟨h, rfl, ?_⟩
    unfold gKind
    rw [hk, if_pos rfl]
    exact x
theorem r_obey (x : RW B E S (ln S) (ord S) h) {c : Nat} (hI : Inv0 S c) {p : Int32} (hp0 : p ≠ 0) : ∃ h', fX5_obey (B + 79) p h = some ((), h') ∧ RW B E (chd S p) (ln (chd S p)) (ord (chd S p)) h' := by
  have e3 : oGR 4 3 (some (B + 79)) h = some (some (B + 85)) := x.fp (by decide) (by decide)
  have e22 : oGI 7 0 (some (B + 85)) h = some (sI S 22 0) := x.fi (by decide) (by decide)
  have key : ∃ h1, (if p ≤ (256 : Int32) then ((oGR 4 3 (some (B + 79)) h).bind fun x3 => (oGI 7 0 x3 h).bind fun x4 => if x4 = 0 then ((oOb 4 (some (B + 79)) h).bind fun b => o2 (fX5_goToKind b p h) fun _ h6 => some h6) else (oOb 4 (some (B + 79)) h).bind fun b => o2 (fX5_type b p h) fun _ h8 => some h8) else (oOb 4 (some (B + 79)) h).bind fun b => o2 (fX5_command b (p - (256 : Int32)) h) fun _ h10 => some h10) = some h1 ∧ RW B E (chd0 S p) (ln S) (ord S) h1 := by
    unfold chd0
    by_cases q : p ≤ 256
    · rw [if_pos q, if_pos q, e3, sb, e22, sb]
      by_cases q2 : sI S 22 0 = 0
      · obtain ⟨h1, a1, x1⟩ := r_kind x hI hp0
        rw [if_pos q2, if_pos q2, x.ob79, sb, a1, o2s]
        refine ⟨h1, rfl, ?_⟩
        by_cases q3 : 256 ≤ p
        · have hk : kos p = -1 := by
            have : p = 256 := Int32.le_antisymm q q3
            rw [this]; decide
          rw [hk] at x1
          rw [if_pos q3]
          exact x1
        · rw [if_neg q3]
          exact x1
      · obtain ⟨h1, a1, x1⟩ := r_type x hI q2 p
        rw [if_neg q2, if_neg q2, x.ob79, sb, a1, o2s]
        exact ⟨h1, rfl, x1⟩
    · obtain ⟨h1, a1, x1⟩ := r_cmd x hI (p - 256)
      rw [if_neg q, if_neg q, x.ob79, sb, a1, o2s]
      exact ⟨h1, rfl, x1⟩
  obtain ⟨h1, a1, x1⟩ := key
  have hI1 := hI.kChd0 p
  have hC1 := hI1.1
  obtain ⟨h2, a2, x2⟩ := p_keep x1 hC1.t hC1.l hC1.k hC1.c hC1.xt
  have ho : ord (chd S p) = ord S := by
    have hs := sd_chd S p
    exact ord_cg (hs.i 12 rfl) hs.2.2.2
  have hl : ln (chd S p) = ln (chd0 S p) := by
    have hs := sd_fit (chd0 S p)
    exact ln_cg (hs.i 2 rfl) (hs.i 3 rfl) (hs.i 10 rfl) (hs.i 13 rfl) (hs.i 20 rfl) (hs.i 22 rfl) (hs.l 6 rfl) (hs.l 8 rfl)
  refine ⟨h2, ?_, by rw [ho, hl]; exact x2⟩
  unfold fX5_obey
  rw [a1, sb, x1.fp (o := 79) (f := 2) (q := 80) (t := 4) (by decide) (by decide), sb, x1.cu, sb, x1.fp (o := 79) (f := 3) (q := 85) (t := 4) (by decide) (by decide), sb, x1.fi (o := 85) (f := 0) (k := 22) (t := 7) (by decide) (by decide), sb, x1.fo (o := 80) (t := 2) (by decide), sb, a2, o2s]
end OB

/-! ===== the class's elements: what they are asked ===== -/
def ES (S : SS) (E : Nat → Nat) (h : hp) : Prop := (∀ i, i < made S → EL S E i h) ∧ ∀ i j, i < made S → j < made S → E i = E j → i = j
theorem EA.inj {B : Nat} {E : Nat → Nat} {n N : Nat} (x : EA B E n N) : ∀ i j, i < n → j < n → E i = E j → i = j := by
  obtain ⟨h0, hN, h1, h2⟩ := x
  intro i j hi hj e
  rcases Nat.lt_trichotomy i j with q | q | q
  · rcases Nat.eq_zero_or_pos i with z | z
    · subst z
      have := (h1 j q hj).1
      omega
    · have := h2 i j q z hj
      omega
  · exact q
  · rcases Nat.eq_zero_or_pos j with z | z
    · subst z
      have := (h1 i q hi).1
      omega
    · have := h2 j i q z hi
      omega
section EE
variable {S : SS} {E : Nat → Nat} {h : hp}
theorem ES.t (x : ES S E h) {i : Nat} (hi : i < made S) : (hT h (E i)).1 = 1 + 1 := (x.1 i hi).1
theorem ES.ob (x : ES S E h) {i : Nat} (hi : i < made S) : oOb 1 (some (E i)) h = some (E i) := hgO (x.t hi)
theorem ES.kind (x : ES S E h) {i : Nat} (hi : i < made S) : oGI 1 1 (some (E i)) h = some (sI S 2 i) := hgI (x.t hi) (x.1 i hi).2.2.1.2.1
theorem ES.hid (x : ES S E h) {i : Nat} (hi : i < made S) : oGI 1 7 (some (E i)) h = some (sI S 12 i) := hgI (x.t hi) (x.1 i hi).2.2.1.2.2.1
theorem ES.rule (x : ES S E h) {i : Nat} (hi : i < made S) : oGI 1 10 (some (E i)) h = some (sI S 13 i) := hgI (x.t hi) (x.1 i hi).2.2.1.2.2.2.2.2.1
theorem ES.up (x : ES S E h) {i : Nat} (hi : i < made S) : oGR 1 2 (some (E i)) h = some (if i = 0 then none else some (E (dpar S i))) := hgR (x.t hi) (x.1 i hi).2.2.2.1.1
theorem ES.cnt (x : ES S E h) {i : Nat} (hi : i < made S) : oGI 1 4 (some (E i)) h = some (nI (sK S i).length) := hgI (x.t hi) (x.1 i hi).2.2.1.2.2.2.2.2.2.2.1
theorem ES.row (x : ES S E h) {i : Nat} (hi : i < made S) : oGR 1 3 (some (E i)) h = some (some (E i + 1)) := hgR (x.t hi) (x.1 i hi).2.2.2.1.2.1
theorem ES.name (x : ES S E h) {i : Nat} (hi : i < made S) : oGR 1 5 (some (E i)) h = some (some (E i + 2)) := hgR (x.t hi) (x.1 i hi).2.2.2.1.2.2.1
theorem ES.cont (x : ES S E h) {i : Nat} (hi : i < made S) : oGR 1 6 (some (E i)) h = some (some (E i + 4)) := hgR (x.t hi) (x.1 i hi).2.2.2.1.2.2.2.1
theorem ES.kept (x : ES S E h) {i : Nat} (hi : i < made S) : oGR 1 12 (some (E i)) h = some (some (E i + 6)) := hgR (x.t hi) (x.1 i hi).2.2.2.1.2.2.2.2.1
theorem ES.numb (x : ES S E h) {i : Nat} (hi : i < made S) : oGI 1 0 (some (E i)) h = some (nI i) := hgI (x.t hi) (x.1 i hi).2.2.1.1
theorem ES.cn (x : ES S E h) {i : Nat} (hi : i < made S) : Cd h (E i + 2) 12 (sL S 6 i) := (x.1 i hi).2.2.2.2.1
theorem ES.cc (x : ES S E h) {i : Nat} (hi : i < made S) : Cd h (E i + 4) (capC S i) (sL S 8 i) := (x.1 i hi).2.2.2.2.2.1
theorem ES.ck (x : ES S E h) {i : Nat} (hi : i < made S) : Cd h (E i + 6) (capK S i) (sL S 17 i) := (x.1 i hi).2.2.2.2.2.2
theorem ES.ld (x : ES S E h) {i k : Nat} (hi : i < made S) (hk : k < (sK S i).length) (h10 : (sK S i).length ≤ 10) : oAL 22 (some (E i + 1)) (nI k) h = some (some (E (gn (sK S i) k))) := by
  rw [hgA (x.1 i hi).2.1 (by omega) (by decide), (x.1 i hi).2.2.2.1.2.2.2.2.2 k hk]
theorem ES.eq (x : ES S E h) {i j : Nat} (hi : i < made S) (hj : j < made S) : (some (E i) = some (E j)) ↔ i = j := ⟨fun e => x.2 i j hi hj (Option.some.inj e), fun e => by rw [e]⟩
/-! going up -/
theorem e_level (x : ES S E h) (hP : PW S) {i : Nat} (hi : i < made S) : fX2_levelNow (E i) h = some (lvl S i) := by
  have key : ∀ i, i < made S → ∀ fu, i + 1 < fu → ∃ q, itr (fX2_levelNow_B2 h) fu (some (E i)) = some q ∧ oR (τ := Int32) (σ := Unit) (some q) (fun _ => some (1 : Int32)) = some (lvl S i) := by
    refine an_ind hP (fun fu hf => ?_) (fun i i0 il ih fu hf => ?_)
    · obtain ⟨fu, rfl⟩ : ∃ g, fu = g + 2 := ⟨fu - 2, by omega⟩
      have h0 : 0 < made S := hP.1
      rw [lvl_0 hP]
      by_cases q : sI S 13 0 = -1
      · refine ⟨.inr (), ?_, by rw [oRr, if_pos q]⟩
        rw [itr_step (a' := none)]
        · refine itr_end ?_ _
          unfold fX2_levelNow_B2
          rw [if_pos rfl]
        · unfold fX2_levelNow_B2
          rw [if_neg (by simp), x.rule h0, sb, if_pos q, x.up h0, sb, if_pos rfl]
      · refine ⟨.inl (sI S 13 0), itr_end ?_ _, by rw [oRl, if_neg q]⟩
        unfold fX2_levelNow_B2
        rw [if_neg (by simp), x.rule h0, sb, if_neg q, sb]
    · obtain ⟨fu, rfl⟩ : ∃ g, fu = g + 1 := ⟨fu - 1, by omega⟩
      obtain ⟨p1, p2⟩ := hP.par i0 il
      rw [lvl_s hP i0 il]
      by_cases q : sI S 13 i = -1
      · rw [if_pos q, itr_step (a' := some (E (dpar S i)))]
        · exact ih fu (by omega)
        · unfold fX2_levelNow_B2
          rw [if_neg (by simp), x.rule il, sb, if_pos q, x.up il, sb, if_neg (by omega)]
      · refine ⟨.inl (sI S 13 i), itr_end ?_ _, by rw [oRl, if_neg q]⟩
        unfold fX2_levelNow_B2
        rw [if_neg (by simp), x.rule il, sb, if_neg q, sb]
  have := hP.2.1
  obtain ⟨q, k1, k2⟩ := key i hi FU (FU_lt (by omega))
  unfold fX2_levelNow
  rw [k1]; exact k2
theorem e_shown (x : ES S E h) (hP : PW S) {i : Nat} (hi : i < made S) : fX2_isShownNow (E i) h = some (bI (shn S i)) := by
  have key : ∀ i, i < made S → ∀ fu, i + 1 < fu → ∃ q, itr (fX2_isShownNow_B2 h) fu (some (E i)) = some q ∧ oR (τ := Int32) (σ := Unit) (some q) (fun _ => some (1 : Int32)) = some (bI (shn S i)) := by
    refine an_ind hP (fun fu hf => ?_) (fun i i0 il ih fu hf => ?_)
    · obtain ⟨fu, rfl⟩ : ∃ g, fu = g + 2 := ⟨fu - 2, by omega⟩
      have h0 : 0 < made S := hP.1
      rw [shn_0 hP]
      by_cases q : sI S 12 0 = 0
      · refine ⟨.inr (), ?_, by rw [oRr, (hid_0 S 0).mp q]; rfl⟩
        rw [itr_step (a' := none)]
        · refine itr_end ?_ _
          unfold fX2_isShownNow_B2
          rw [if_pos rfl]
        · unfold fX2_isShownNow_B2
          rw [if_neg (by simp), x.hid h0, sb, if_pos q, x.up h0, sb, if_pos rfl]
      · have q' : hid S 0 = true := by
          cases z : hid S 0 with
          | true => rfl
          | false => exact absurd ((hid_0 S 0).mpr z) q
        refine ⟨.inl 0, itr_end ?_ _, by rw [oRl, q']; rfl⟩
        unfold fX2_isShownNow_B2
        rw [if_neg (by simp), x.hid h0, sb, if_neg q]
    · obtain ⟨fu, rfl⟩ : ∃ g, fu = g + 1 := ⟨fu - 1, by omega⟩
      obtain ⟨p1, p2⟩ := hP.par i0 il
      rw [shn_s hP i0 il]
      by_cases q : sI S 12 i = 0
      · rw [(hid_0 S i).mp q, itr_step (a' := some (E (dpar S i)))]
        · have := ih fu (by omega)
          rw [Bool.not_false, Bool.true_and]
          exact this
        · unfold fX2_isShownNow_B2
          rw [if_neg (by simp), x.hid il, sb, if_pos q, x.up il, sb, if_neg (by omega)]
      · have q' : hid S i = true := by
          cases z : hid S i with
          | true => rfl
          | false => exact absurd ((hid_0 S i).mpr z) q
        refine ⟨.inl 0, itr_end ?_ _, by rw [oRl, q']; rfl⟩
        unfold fX2_isShownNow_B2
        rw [if_neg (by simp), x.hid il, sb, if_neg q]
  have := hP.2.1
  obtain ⟨q, k1, k2⟩ := key i hi FU (FU_lt (by omega))
  unfold fX2_isShownNow
  rw [k1]; exact k2
theorem e_within (x : ES S E h) (hP : PW S) {i y : Nat} (hi : i < made S) (hy : y < made S) : fX2_isWithin (E i) (some (E y)) h = some (bI (wthn S i y)) := by
  have key : ∀ i, i < made S → ∀ fu, i + 1 < fu → ∃ q, itr (fX2_isWithin_B2 (some (E y)) h) fu (some (E i)) = some q ∧ oR (τ := Int32) (σ := Unit) (some q) (fun _ => some (0 : Int32)) = some (bI (decide (y ∈ an S i))) := by
    refine an_ind hP (fun fu hf => ?_) (fun i i0 il ih fu hf => ?_)
    · obtain ⟨fu, rfl⟩ : ∃ g, fu = g + 2 := ⟨fu - 2, by omega⟩
      have h0 : 0 < made S := hP.1
      rw [an_0 hP]
      by_cases q : y = 0
      · refine ⟨.inl 1, itr_end ?_ _, by rw [oRl, decide_eq_true (by rw [q]; exact List.mem_singleton.mpr rfl)]; rfl⟩
        unfold fX2_isWithin_B2
        rw [if_neg (by simp), if_pos ((x.eq h0 hy).mpr q.symm)]
      · refine ⟨.inr (), ?_, by rw [oRr, decide_eq_false (fun z => q (List.mem_singleton.mp z))]; rfl⟩
        rw [itr_step (a' := none)]
        · refine itr_end ?_ _
          unfold fX2_isWithin_B2
          rw [if_pos rfl]
        · unfold fX2_isWithin_B2
          rw [if_neg (by simp), if_neg (fun z => q ((x.eq h0 hy).mp z).symm), x.up h0, sb, if_pos rfl]
    · obtain ⟨fu, rfl⟩ : ∃ g, fu = g + 1 := ⟨fu - 1, by omega⟩
      obtain ⟨p1, p2⟩ := hP.par i0 il
      rw [an_s hP i0 il]
      by_cases q : y = i
      · refine ⟨.inl 1, itr_end ?_ _, by rw [oRl, decide_eq_true (by rw [q]; exact List.mem_cons_self)]; rfl⟩
        unfold fX2_isWithin_B2
        rw [if_neg (by simp), if_pos ((x.eq il hy).mpr q.symm)]
      · rw [itr_step (a' := some (E (dpar S i)))]
        · obtain ⟨r, r1, r2⟩ := ih fu (by omega)
          refine ⟨r, r1, ?_⟩
          rw [r2]
          congr 2
          rw [decide_eq_decide]
          exact ⟨fun z => List.mem_cons_of_mem _ z, fun z => (List.mem_cons.mp z).elim (fun w => absurd w q) id⟩
        · unfold fX2_isWithin_B2
          rw [if_neg (by simp), if_neg (fun z => q ((x.eq il hy).mp z).symm), x.up il, sb, if_neg (by omega)]
  have := hP.2.1
  obtain ⟨q, k1, k2⟩ := key i hi FU (FU_lt (by omega))
  unfold fX2_isWithin
  rw [k1]; exact k2
theorem e_region (x : ES S E h) (hP : PW S) {i : Nat} (hi : i < made S) : fX2_region (E i) h = some ((rgn S i).map E) := by
  have key : ∀ i, i < made S → ∀ fu, i + 1 < fu → ∃ q, itr (fX2_region_B5 h) fu (some (E i)) = some q ∧ oR (τ := Option Nat) (σ := Unit) (some q) (fun _ => some (none : Option Nat)) = some ((rgnU S i).map E) := by
    refine an_ind hP (fun fu hf => ?_) (fun i i0 il ih fu hf => ?_)
    · obtain ⟨fu, rfl⟩ : ∃ g, fu = g + 2 := ⟨fu - 2, by omega⟩
      have h0 : 0 < made S := hP.1
      rw [rgnU_0 hP]
      by_cases q : sI S 2 0 = 7
      · refine ⟨.inl (some (E 0)), itr_end ?_ _, by rw [oRl, if_pos q]; rfl⟩
        unfold fX2_region_B5
        rw [if_neg (by simp), x.kind h0, sb, if_pos q]
      · refine ⟨.inr (), ?_, by rw [oRr, if_neg q]; rfl⟩
        rw [itr_step (a' := none)]
        · refine itr_end ?_ _
          unfold fX2_region_B5
          rw [if_pos rfl]
        · unfold fX2_region_B5
          rw [if_neg (by simp), x.kind h0, sb, if_neg q, x.up h0, sb, if_pos rfl]
    · obtain ⟨fu, rfl⟩ : ∃ g, fu = g + 1 := ⟨fu - 1, by omega⟩
      obtain ⟨p1, p2⟩ := hP.par i0 il
      rw [rgnU_s hP i0 il]
      by_cases q : sI S 2 i = 7
      · refine ⟨.inl (some (E i)), itr_end ?_ _, by rw [oRl, if_pos q]; rfl⟩
        unfold fX2_region_B5
        rw [if_neg (by simp), x.kind il, sb, if_pos q]
      · rw [if_neg q, itr_step (a' := some (E (dpar S i)))]
        · exact ih fu (by omega)
        · unfold fX2_region_B5
          rw [if_neg (by simp), x.kind il, sb, if_neg q, x.up il, sb, if_neg (by omega)]
  have := hP.2.1
  unfold fX2_region
  rw [x.up hi, sb]
  by_cases q : i = 0
  · subst q
    rw [if_pos rfl, rgn_0 hP, show FU = 4999 + 1 from rfl, itr_end (b := .inr ()) (by unfold fX2_region_B5; rw [if_pos rfl]) 4999, oRr]; rfl
  · obtain ⟨p1, p2⟩ := hP.par (by omega) hi
    obtain ⟨r, k1, k2⟩ := key (dpar S i) (by omega) FU (FU_lt (by omega))
    rw [if_neg q, k1, k2, rgn_s hP (by omega) hi]
/-! children -/
theorem e_child (x : ES S E h) {i k : Nat} (hi : i < made S) (h10 : (sK S i).length ≤ 10) (hk : k < (sK S i).length) : fX2_child (E i) (nI k) h = some (some (E (gn (sK S i) k))) := by
  unfold fX2_child
  rw [if_neg (nI_pos (by omega)), x.cnt hi, sb, if_neg (nI_ge hk (by omega)), x.row hi, sb, hgL (x.1 i hi).2.1 (by decide), sb, if_neg (nI_ge (by omega) (by omega)), sb, x.ld hi hk h10, sb]
theorem e_childN (x : ES S E h) {i : Nat} {j : Int32} (hi : i < made S) (h10 : (sK S i).length ≤ 10) (hj : inb j (sK S i).length = false) : fX2_child (E i) j h = some none := by
  unfold fX2_child
  by_cases q : j < 0
  · rw [if_pos q]
  · obtain ⟨k, k1, rfl⟩ := nI_of q
    rw [if_neg q, x.cnt hi, sb]
    by_cases w : k < (sK S i).length
    · rw [inb_nI w (by omega)] at hj; cases hj
    · rw [if_pos (nI_le (by omega) k1)]
theorem e_shCh (x : ES S E h) {i k : Nat} (hi : i < made S) (h10 : (sK S i).length ≤ 10) (hk : k < (sK S i).length) (hg : gn (sK S i) k < made S) : fX2_shownChild (E i) (nI k) h = some (if hid S (gn (sK S i) k) = false then some (E (gn (sK S i) k)) else none) := by
  unfold fX2_shownChild
  rw [if_neg (nI_pos (by omega)), x.cnt hi, sb, if_neg (nI_ge hk (by omega)), x.row hi, sb, hgL (x.1 i hi).2.1 (by decide), sb, if_neg (nI_ge (by omega) (by omega)), sb, x.ld hi hk h10, sb, sb, if_neg (by simp), x.hid hg, sb]
  by_cases q : sI S 12 (gn (sK S i) k) = 0
  · rw [if_pos q, if_pos ((hid_0 _ _).mp q)]
  · rw [if_neg q, if_neg (fun z => q ((hid_0 _ _).mpr z))]
theorem e_shChN (x : ES S E h) {i : Nat} {j : Int32} (hi : i < made S) (hj : inb j (sK S i).length = false) (h10 : (sK S i).length ≤ 10) : fX2_shownChild (E i) j h = some none := by
  unfold fX2_shownChild
  by_cases q : j < 0
  · rw [if_pos q, sb, if_pos rfl]
  · obtain ⟨k, k1, rfl⟩ := nI_of q
    rw [if_neg q, x.cnt hi, sb]
    by_cases w : k < (sK S i).length
    · rw [inb_nI w (by omega)] at hj; cases hj
    · rw [if_pos (nI_le (by omega) k1), sb, if_pos rfl]
theorem e_place (x : ES S E h) (hW : WT S) {i y : Nat} (hi : th S i) (hy : y ∈ sK S i) : fX2_placeOf (E i) (some (E y)) h = some (nI ((sK S i).idxOf y)) := by
  have h10 := (hW.kids hi).2.1
  have hkm : ∀ k, k < (sK S i).length → gn (sK S i) k < made S := fun k hk => ((hW.kids hi).2.2 _ (gn_mem hk)).1.lt
  have hix : (sK S i).idxOf y < (sK S i).length := List.idxOf_lt_length_of_mem hy
  have hyl := ((hW.kids hi).2.2 y hy).1.lt
  have hgx : gn (sK S i) ((sK S i).idxOf y) = y := by rw [gn_of hix]; exact List.getElem_idxOf hix
  have key : ∃ q, itr (fX2_placeOf_B2 (E i) (some (E y)) h) FU (nI 0) = some q ∧ q = .inl (nI ((sK S i).idxOf y)) := by
    refine itr_run (R := fun (q : Int32 ⊕ Unit) => q = .inl (nI ((sK S i).idxOf y))) (fun n a => n ≤ (sK S i).idxOf y ∧ a = nI ((sK S i).idxOf y - n)) (fun n a hX => ?_) FU ((sK S i).idxOf y) (nI 0) (FU_lt (by omega)) ⟨Nat.le_refl _, by rw [Nat.sub_self]⟩
    obtain ⟨hn, rfl⟩ := hX
    have pre : fX2_placeOf_B2 (E i) (some (E y)) h (nI ((sK S i).idxOf y - n)) = (if some (E (gn (sK S i) ((sK S i).idxOf y - n))) = some (E y) then some (.inr (.inl (nI ((sK S i).idxOf y - n)))) else some (.inl (nI ((sK S i).idxOf y - n) + 1))) := by
      unfold fX2_placeOf_B2
      rw [x.cnt hi.lt, sb, if_neg (nI_ge (by omega) (by omega)), x.ob hi.lt, sb, e_child x hi.lt h10 (by omega), sb]
    cases n with
    | zero => exact Or.inr ⟨_, by rw [pre, Nat.sub_zero, hgx, if_pos rfl], rfl⟩
    | succ n =>
      refine Or.inl ⟨nI ((sK S i).idxOf y - n), n, ?_, by omega, by omega, rfl⟩
      rw [pre, if_neg, nI_1, show (sK S i).idxOf y - (n + 1) + 1 = (sK S i).idxOf y - n by omega]
      intro z
      have q := (x.eq (hkm _ (by omega)) hyl).mp z
      have hjl : (sK S i).idxOf y - (n + 1) < (sK S i).length := by omega
      have := List.not_of_lt_findIdx (p := (· == y)) (xs := sK S i) (i := (sK S i).idxOf y - (n + 1)) (show _ < (sK S i).idxOf y by omega)
      rw [gn_of hjl] at q
      simp [q] at this
  obtain ⟨q, k1, k2⟩ := key
  unfold fX2_placeOf
  rw [show (0 : Int32) = nI 0 from rfl, k1, k2, oRl]
theorem e_canF (x : ES S E h) {i : Nat} (hi : i < made S) : fX2_canHaveFocus (E i) h = some (bI (canF (sI S 2 i))) := by
  unfold fX2_canHaveFocus
  have hc := m_canF (sI S 2 i)
  unfold fX11_canFocus at hc
  rw [x.kind hi, sb]
  by_cases q2 : sI S 2 i = 2
  · rw [if_pos q2, q2]; rfl
  · rw [if_neg q2, sb]
    by_cases q3 : sI S 2 i = 3
    · rw [if_pos q3, q3]; rfl
    · rw [if_neg q3, sb]
      by_cases q4 : sI S 2 i = 4
      · rw [if_pos q4, q4]; rfl
      · rw [if_neg q4]
        have : canF (sI S 2 i) = false := by
          unfold canF
          refine decide_eq_false (fun z => ?_)
          obtain ⟨k, k1, k2⟩ := nI_of2 (n := 4) (M := 4) (by decide) (not_neg (by decide) z.1) z.2
          rw [k2] at q2 q3 q4 z
          have z1 := z.1
          rcases Nat.lt_or_ge k 2 with w | w
          · exact absurd z1 (nI_ge (b := 2) w (by decide))
          · have : k = 2 ∨ k = 3 ∨ k = 4 := by omega
            rcases this with e | e | e <;> subst e
            · exact q2 rfl
            · exact q3 rfl
            · exact q4 rfl
        rw [this]; rfl
theorem inb_m1 (n : Nat) : inb (-1) n = false := by
  unfold inb
  have : (-1 : Int32).toInt = -1 := by decide
  rw [this]
  exact decide_eq_false (fun z => by omega)
theorem e_refuge (x : ES S E h) (hW : WT S) {y : Nat} (hy : th S y) (h0 : 0 < y) : fX2_refuge (E y) h = some (some (E (rfgO S y))) := by
  obtain ⟨u1, u2⟩ := hW.up h0 hy
  have h10 := (hW.kids u1).2.1
  have hkm : ∀ k, k < (sK S (dpar S y)).length → gn (sK S (dpar S y)) k < made S := fun k hk => ((hW.kids u1).2.2 _ (gn_mem hk)).1.lt
  have hpl : plc S y < (sK S (dpar S y)).length := List.idxOf_lt_length_of_mem u2
  have hup : oGR 1 2 (some (E y)) h = some (some (E (dpar S y))) := by rw [x.up hy.lt, if_neg (by omega)]
  let oJ : Option Nat → Option Nat ⊕ Unit := fun o => match o with
    | some z => .inl (some (E z))
    | none => .inr ()
  have key1 : ∃ q, itr (fX2_refuge_B22 (E y) (nI (plc S y)) h) FU (nI (plc S y + 1)) = some q ∧ q = oJ (fnd S ((sK S (dpar S y)).drop (plc S y + 1))) := by
    refine itr_run (R := fun q => q = oJ (fnd S ((sK S (dpar S y)).drop (plc S y + 1)))) (fun n a => ∃ j, j + n = (sK S (dpar S y)).length ∧ a = nI j ∧ fnd S ((sK S (dpar S y)).drop j) = fnd S ((sK S (dpar S y)).drop (plc S y + 1))) (fun n a hX => ?_) FU ((sK S (dpar S y)).length - (plc S y + 1)) _ (FU_lt (by omega)) ⟨plc S y + 1, by omega, rfl, rfl⟩
    obtain ⟨j, j1, rfl, j2⟩ := hX
    have hsz : fX2_size (E (dpar S y)) h = some (nI (sK S (dpar S y)).length) := by
      unfold fX2_size
      rw [x.cnt u1.lt, sb]
    cases n with
    | zero =>
      refine Or.inr ⟨_, ?_, by rw [← j2]⟩
      unfold fX2_refuge_B22
      rw [hup, sb, x.ob u1.lt, sb, hsz, sb, if_pos (by rw [show (sK S (dpar S y)).length = j by omega]; exact Int32.le_refl _), List.drop_of_length_le (by omega)]; rfl
    | succ n =>
      have jl : j < (sK S (dpar S y)).length := by omega
      rw [List.drop_eq_getElem_cons jl, ← gn_of jl, fnd_c] at j2
      have pre : fX2_refuge_B22 (E y) (nI (plc S y)) h (nI j) = (if (if hid S (gn (sK S (dpar S y)) j) = false then some (E (gn (sK S (dpar S y)) j)) else none) = none then some (.inl (nI j + 1)) else some (.inr (.inl (if hid S (gn (sK S (dpar S y)) j) = false then some (E (gn (sK S (dpar S y)) j)) else none)))) := by
        unfold fX2_refuge_B22
        rw [hup, sb, x.ob u1.lt, sb, hsz, sb, if_neg (nI_ge jl (by omega)), sb, x.ob u1.lt, sb, e_shCh x u1.lt h10 jl (hkm j jl), sb]
      by_cases q : hid S (gn (sK S (dpar S y)) j) = false
      · rw [if_pos q] at j2
        refine Or.inr ⟨_, by rw [pre, if_pos q, if_neg (by simp)], by rw [← j2]⟩
      · rw [if_neg q] at j2
        exact Or.inl ⟨nI (j + 1), n, by rw [pre, if_neg q, if_pos rfl, nI_1], by omega, j + 1, by omega, rfl, j2⟩
  have key2 : ∃ q, itr (fX2_refuge_B58 (E y) h) FU (nI (plc S y) - 1) = some q ∧ q = oJ (fnd S ((sK S (dpar S y)).take (plc S y)).reverse) := by
    refine itr_run (R := fun q => q = oJ (fnd S ((sK S (dpar S y)).take (plc S y)).reverse)) (fun n a => n ≤ plc S y ∧ a = nI n - 1 ∧ fnd S ((sK S (dpar S y)).take n).reverse = fnd S ((sK S (dpar S y)).take (plc S y)).reverse) (fun n a hX => ?_) FU (plc S y) _ (FU_lt (by omega)) ⟨Nat.le_refl _, rfl, rfl⟩
    obtain ⟨j1, rfl, j2⟩ := hX
    cases n with
    | zero =>
      refine Or.inr ⟨_, ?_, by rw [← j2]⟩
      unfold fX2_refuge_B58
      rw [if_pos (by decide)]; rfl
    | succ n =>
      have jl : n < (sK S (dpar S y)).length := by omega
      rw [List.take_add_one, List.getElem?_eq_getElem jl, ← gn_of jl, List.reverse_append] at j2
      replace j2 : fnd S (gn (sK S (dpar S y)) n :: ((sK S (dpar S y)).take n).reverse) = _ := j2
      rw [fnd_c] at j2
      have pre : fX2_refuge_B58 (E y) h (nI n) = (if (if hid S (gn (sK S (dpar S y)) n) = false then some (E (gn (sK S (dpar S y)) n)) else none) = none then some (.inl (nI n + -1)) else some (.inr (.inl (if hid S (gn (sK S (dpar S y)) n) = false then some (E (gn (sK S (dpar S y)) n)) else none)))) := by
        unfold fX2_refuge_B58
        rw [if_neg (nI_pos (by omega)), hup, sb, x.ob u1.lt, sb, e_shCh x u1.lt h10 jl (hkm n jl), sb]
      rw [nI_pred]
      by_cases q : hid S (gn (sK S (dpar S y)) n) = false
      · rw [if_pos q] at j2
        refine Or.inr ⟨_, by rw [pre, if_pos q, if_neg (by simp)], by rw [← j2]⟩
      · rw [if_neg q] at j2
        exact Or.inl ⟨nI n + -1, n, by rw [pre, if_neg q, if_pos rfl], by omega, by omega, nI_sub1 n, j2⟩
  obtain ⟨q1, k1, k2⟩ := key1
  obtain ⟨q2, k3, k4⟩ := key2
  have hplc : fX2_placeOf (E (dpar S y)) (some (E y)) h = some (nI (plc S y)) := e_place x hW u1 u2
  unfold fX2_refuge
  rw [hup, sb, if_neg (by simp), sb, x.ob u1.lt, sb, hplc, sb, nI_1, k1, k2]
  unfold rfgO rfg
  cases fnd S ((sK S (dpar S y)).drop (plc S y + 1)) with
  | some z => rfl
  | none =>
    show oR (itr (fX2_refuge_B58 (E y) h) FU (nI (plc S y) - 1)) _ = _
    rw [k3, k4]
    cases fnd S ((sK S (dpar S y)).take (plc S y)).reverse with
    | some z => rfl
    | none => rfl
end EE

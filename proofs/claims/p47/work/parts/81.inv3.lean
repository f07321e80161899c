/-! ===== chords keep it ===== -/
section CH
variable {S : SS}
theorem Inv0.core {S' : SS} {c : Nat} {ki kl kq : List Nat} (h : Inv0 S c) (hs : Sd ki kl kq S S') (hc : Core S') (hd : (dsj [38, 41, 46, 43, 15] ki && dsj [33, 39] kl && dsj [30, 35] kq) = true) : Inv0 S' c := by
  simp only [Bool.and_eq_true] at hd
  have e : ∀ k, decide (k ∈ [38, 41, 46, 43, 15]) = true → sI S' k = sI S k := fun k hk => hs.i k (dsj_of hd.1.1 (of_decide_eq_true hk))
  have el : ∀ k, decide (k ∈ [33, 39]) = true → sL S' k = sL S k := fun k hk => hs.l k (dsj_of hd.1.2 (of_decide_eq_true hk))
  have eq : ∀ k, decide (k ∈ [30, 35]) = true → sQ S' k = sQ S k := fun k hk => hs.q k (dsj_of hd.2 (of_decide_eq_true hk))
  refine ⟨hc, h.2.1.cg (eq 30 rfl) (eq 35 rfl) (el 33 rfl) (el 39 rfl) (e 38 rfl) (e 41 rfl), ?_, by rw [eq 35 rfl]; exact h.2.2.2⟩
  have := h.2.2.1
  unfold WN at *
  rw [e 46 rfl, e 43 rfl, e 15 rfl]; exact this
theorem ord_mshn (h : WT S) : ∀ (f i x : Nat), th S i → (i = 0 ∨ shn S (dpar S i) = true) → x ∈ ordF S f i → shn S x = true := by
  intro f
  induction f with
  | zero => intro i x _ _ hx; exact absurd hx List.not_mem_nil
  | succ f ih =>
    intro i x hi hp hx
    have hx : x ∈ (if hid S i = true then [] else i :: (sK S i).flatMap (ordF S f)) := hx
    by_cases hh : hid S i = true
    · rw [if_pos hh] at hx; exact absurd hx List.not_mem_nil
    · rw [if_neg hh] at hx
      have hsi : shn S i = true := by
        by_cases e : i = 0
        · subst e
          rw [shn_0 h.pw]; simpa using hh
        · rw [shn_s h.pw (by omega) hi.lt]
          rcases hp with hp | hp
          · exact absurd hp e
          · rw [hp, Bool.and_true]; simpa using hh
      rcases List.mem_cons.mp hx with e | hx
      · subst e; exact hsi
      · obtain ⟨j, hj, hxj⟩ := List.mem_flatMap.mp hx
        obtain ⟨a, b, d⟩ := (h.kids hi).2.2 j hj
        exact ih j x a (Or.inr (by rw [d]; exact hsi)) hxj
theorem ord_in (h : WT S) {x : Nat} (hx : x ∈ ord S) : th S x ∧ shn S x = true := ⟨ord_th h 40 0 x h.2.1 hx, ord_mshn h 40 0 x h.2.1 (Or.inl rfl) hx⟩
theorem go_Inv0 {c : Nat} (hT : CoreT S) (hV : WV S) (hN : WN S c) (ha : (sQ S 35).length ≤ 21) (hf : WXf S) {x : Nat} (hx : th S x) (hs : shn S x = true) : Inv0 (go S x) c := by
  have hl := hds_len hT.2.1 (cur S) x
  have hw := wd_len0 S hT.2.1 x (hds S (cur S) x)
  have hc := hT.go hf (v := if x = cur S then sI S 25 0 else 0) hx hs (by split <;> simp)
  have hsd : Sd [20, 22, 25] [] [] S (wSI (wSI (wSI S 22 0 0) 25 0 (if x = cur S then sI S 25 0 else 0)) 20 0 (nI x)) := ((Sd.I (by decide)).tr (Sd.I (by decide))).tr (Sd.I (by decide))
  have h1 : Inv0 (wSI (wSI (wSI S 22 0 0) 25 0 (if x = cur S then sI S 25 0 else 0)) 20 0 (nI x)) c := ⟨hc, ((hV.i (by decide) (by decide)).i (by decide) (by decide)).i (by decide) (by decide), hN.sd hsd rfl, ha⟩
  exact h1.cAns (by omega)
theorem Inv0.go {c : Nat} (h : Inv0 S c) {x : Nat} (hx : th S x) (hs : shn S x = true) : Inv0 (go S x) c := go_Inv0 h.1.toT h.2.1 h.2.2.1 h.2.2.2 h.1.xf hx hs
theorem Inv0.goO {c : Nat} (h : Inv0 S c) {o : Option Nat} (ho : ∀ x, o = some x → th S x ∧ shn S x = true) {w : List Int32} (hw : w.length ≤ 80) : Inv0 (goO S o w) c := by
  cases o with
  | none => exact h.cAns hw
  | some x => exact h.go (ho x rfl).1 (ho x rfl).2
theorem ord_at (h : WT S) {j : Nat} (hj : j < (ord S).length) : th S (gn (ord S) j) ∧ shn S (gn (ord S) j) = true := ord_in h (gn_mem hj)
theorem cpl_lt (h : Core S) : cpl S < (ord S).length := List.idxOf_lt_length_of_mem (ord_shn h.t _ h.c.2.lt h.c.2 h.xs)
theorem Inv0.gPrev {c : Nat} (h : Inv0 S c) : Inv0 (gPrev S) c := h.goO (fun x hx => by
  have := cpl_lt h.1
  split at hx
  · cases hx
  · cases hx; exact ord_at h.1.t (by omega)) (by decide)
theorem Inv0.gNext {c : Nat} (h : Inv0 S c) : Inv0 (gNext S) c := h.goO (fun x hx => by
  split at hx
  · cases hx; exact ord_at h.1.t (by omega)
  · cases hx) (by decide)
theorem shn_up (h : WT S) {i : Nat} (h0 : 0 < i) (hi : th S i) (hs : shn S i = true) : shn S (dpar S i) = true ∧ hid S i = false := by
  rw [shn_s h.pw h0 hi.lt, Bool.and_eq_true] at hs
  exact ⟨hs.2, by simpa using hs.1⟩
theorem shn_dn (h : WT S) {i j : Nat} (hi : th S i) (hj : j ∈ sK S i) (hs : shn S i = true) (hh : hid S j = false) : shn S j = true := by
  obtain ⟨a, b, d⟩ := (h.kids hi).2.2 j hj
  rw [shn_s h.pw b a.lt, d, hs, hh]; rfl
theorem Inv0.gOut {c : Nat} (h : Inv0 S c) : Inv0 (gOut S) c := h.goO (fun x hx => by
  split at hx
  · cases hx
  · cases hx
    exact ⟨(h.1.t.up (by omega) h.1.c.2).1, (shn_up h.1.t (by omega) h.1.c.2 h.1.xs).1⟩) (by decide)
theorem fnd_hid {l : List Nat} {x : Nat} (h : fnd S l = some x) : hid S x = false := by
  have := List.find?_some h
  simpa using this
theorem Inv0.gIn {c : Nat} (h : Inv0 S c) : Inv0 (gIn S) c := h.goO (fun x hx => by
  have hm := fnd_mem hx
  exact ⟨((h.1.t.kids h.1.c.2).2.2 x hm).1, shn_dn h.1.t h.1.c.2 hm h.1.xs (fnd_hid hx)⟩) (by decide)
theorem rwF_in (h : Core S) (hr : inRow S = true) {l : List Nat} (hl : ∀ j ∈ l, j ∈ rws S) : ∀ x, rwF S l = some x → th S x ∧ shn S x = true := by
  intro x hx
  have hr' : cur S ≠ 0 ∧ sI S 2 (dpar S (cur S)) = 6 := of_decide_eq_true hr
  obtain ⟨u, uk⟩ := h.t.up (by omega) h.c.2
  have n1 : 0 < dpar S (cur S) := by
    rcases Nat.eq_zero_or_pos (dpar S (cur S)) with q | q
    · have := hr'.2
      rw [q, h.t.2.2.1] at this; exact absurd this (by decide)
    · exact q
  obtain ⟨t, tk⟩ := h.t.up n1 u
  have s1 := (shn_up h.t (by omega) h.c.2 h.xs).1
  have s2 := (shn_up h.t n1 u s1).1
  unfold rwF at hx
  obtain ⟨j, hj, e⟩ := Option.map_eq_some_iff.mp hx
  have h1 := List.find?_some hj
  have hjm := hl j (List.mem_of_find?_eq_some hj)
  have h2 := ((h.t.kids t).2.2 j hjm).1
  unfold rwB at h1
  simp only [Bool.and_eq_true, decide_eq_true_eq] at h1
  have s3 := shn_dn h.t t hjm s2 (by simpa using h1.1)
  rw [← e]
  exact ⟨(h.t.kth h2 h1.2.1).1, shn_dn h.t h2 (gn_mem h1.2.1) s3 (by simpa using h1.2.2)⟩
theorem Inv0.kUp {c : Nat} (h : Inv0 S c) : Inv0 (gUp S) c := by
  unfold gUp
  split
  · rename_i hr
    exact h.goO (rwF_in h.1 hr (fun j hj => List.mem_of_mem_take (List.mem_reverse.mp hj))) (by decide)
  · exact h.cAns (by decide)
theorem Inv0.kDown {c : Nat} (h : Inv0 S c) : Inv0 (gDown S) c := by
  unfold gDown
  split
  · rename_i hr
    exact h.goO (rwF_in h.1 hr (fun j hj => List.mem_of_mem_drop hj)) (by decide)
  · exact h.cAns (by decide)
theorem canF_of {k : Int32} (h : k = 2 ∨ k = 3 ∨ k = 4) : canF k = true := by rcases h with rfl | rfl | rfl <;> decide
theorem Inv0.kTab {c : Nat} (h : Inv0 S c) : Inv0 (gTab S) c := by
  unfold gTab
  cases ht : tbF S with
  | none => exact h.cAns (by decide)
  | some x =>
    simp only []
    have hm := List.mem_of_find?_eq_some ht
    have hc := List.find?_some ht
    have hx : th S x ∧ shn S x = true := by
      rcases List.mem_append.mp hm with q | q
      · exact ord_in h.1.t (List.mem_of_mem_drop q)
      · exact ord_in h.1.t (List.mem_of_mem_take q)
    have hs : Sd [21] [] [] S (wSI S 21 0 (nI x)) := Sd.I (by decide)
    have hT1 : CoreT (wSI S 21 0 (nI x)) := by
      obtain ⟨a1, a2, a3, a5, a9, a10, a11, a12, a13, a14⟩ := h.1.toT
      exact ⟨a1.sd hs rfl, a2, a3.cg (hs.i 0 rfl) (hs.i 1 rfl) (hs.i 2 rfl), a5.cg (fun k hk => hs.1 k (fun z => absurd hk (by revert z; revert k; decide))), a9.cg (hs.i 2 rfl) rfl, a10.cg (hs.i 0 rfl) (hs.i 1 rfl) (hs.i 2 rfl) rfl, a11, (show ∃ q, q ≤ 6 ∧ sI (wSI S 21 0 (nI x)) 25 0 = nI (10 * q) by rw [hs.i 25 rfl]; exact a12), a13.cg (hs.i 26 rfl) (hs.i 27 rfl), a14.cg (hs.i 0 rfl) (hs.i 10 rfl) (hs.i 11 rfl) (hs.i 12 rfl) rfl rfl rfl⟩
    have hth : th (wSI S 21 0 (nI x)) x := (th_cg (hs.i 0 rfl) (hs.i 1 rfl) x).mpr hx.1
    have hsh : shn (wSI S 21 0 (nI x)) x = true := by rw [shn_cg (hs.i 3 rfl) (hs.i 12 rfl)]; exact hx.2
    exact go_Inv0 hT1 (h.2.1.i (by decide) (by decide)) (h.2.2.1.sd hs rfl) h.2.2.2 (Or.inr ⟨x, by rw [sI_I, if_pos ⟨rfl, rfl⟩], hth, hsh, by rw [hs.i 2 rfl]; exact hc⟩) hth hsh
theorem Inv0.kAct {c : Nat} (h : Inv0 S c) : Inv0 (act S) c := by
  unfold act
  split
  · rename_i hc
    have hs : Sd [21] [] [] S (act2 S) := Sd.I (by decide)
    have hcore := h.1.w21 (v := sI S 20 0) (Or.inr ⟨cur S, h.1.c.1, h.1.c.2, h.1.xs, hc⟩) rfl
    have h1 : Inv0 (act2 S) c := h.core hs hcore rfl
    have hm : made (act2 S) = made S := made_cg (hs.i 0 rfl)
    have hcu : cur (act2 S) = cur S := cur_cg (hs.i 20 rfl)
    split
    · exact Inv0.cAns (h1.core (Sd.I (ki := [11]) (kl := []) (kq := []) (by decide)) (h1.1.w11 (x := cur S) (by rw [hm]; exact h.1.c.2.lt)) rfl) (by decide)
    · rename_i e2
      split
      · refine Inv0.cAns (h1.core (Sd.I (ki := [10]) (kl := []) (kq := []) (by decide)) (h1.1.w10 (x := cur S) (by split <;> simp) (by rw [hm]; exact h.1.c.2.lt)) rfl) ?_
        have := onw_len (if sI S 10 (cur S) = 0 then 1 else 0)
        omega
      · rename_i e3
        have h4 : sI S 2 (cur S) = 4 := by
          obtain ⟨k, k7, ke⟩ := h.1.k _ h.1.c.2
          rw [ke] at hc e2 e3 ⊢
          have : ∀ k, k < 8 → canF (nI k) = true → ¬ nI k = 2 → ¬ nI k = 3 → nI k = 4 := by decide +kernel
          exact this k (by omega) hc e2 e3
        have h2 : Inv0 (wSI (act2 S) 22 0 1) c := h1.core (Sd.I (ki := [22]) (kl := []) (kq := []) (by decide)) (h1.1.w22 (Or.inr rfl) (Or.inr ⟨by rw [hcu, hs.i 2 rfl]; exact h4, by rw [hs.i 20 rfl]; unfold act2; rw [sI_I, if_pos ⟨rfl, rfl⟩]⟩)) rfl
        have h3 : Inv0 (wSI (wSI (act2 S) 22 0 1) 23 0 0) c := h2.core (Sd.I (ki := [23]) (kl := []) (kq := []) (by decide)) (h2.1.w23 (Or.inl rfl)) rfl
        exact Inv0.cAns (h3.core (Sd.I (ki := [24]) (kl := []) (kq := []) (by decide)) (h3.1.w24 (Or.inl rfl)) rfl) (by decide)
  · exact h.cAns (by decide)
theorem Inv0.kLeft {c : Nat} (h : Inv0 S c) : Inv0 (gLeft S) c := by
  obtain ⟨q, q1, q2⟩ := h.1.xo
  unfold gLeft
  refine h.core (Sd.I (ki := [25]) (kl := []) (kq := []) (by decide)) (h.1.w25 (q := q - 1) (by omega) ?_) rfl
  rw [q2]
  by_cases e : q = 0
  · subst e; rfl
  · rw [if_neg (nI_nle (by omega) (by omega)), show (10 : Int32) = nI 10 from rfl, nI_sub (by omega)]
    congr 1; omega
theorem Inv0.kRight {c : Nat} (h : Inv0 S c) : Inv0 (gRight S) c := by
  obtain ⟨q, q1, q2⟩ := h.1.xo
  have hl := ln_len h.1.l
  unfold gRight
  rw [q2, show (10 : Int32) = nI 10 from rfl, nI_add]
  by_cases e : (ln S).length ≤ 10 * q + 10
  · rw [if_pos (nI_le e (by omega)), Int32.add_zero]
    exact h.core (Sd.I (ki := [25]) (kl := []) (kq := []) (by decide)) (h.1.w25 q1 rfl) rfl
  · rw [if_neg (nI_ge (by omega) (by omega)), nI_add]
    exact h.core (Sd.I (ki := [25]) (kl := []) (kq := []) (by decide)) (h.1.w25 (q := q + 1) (by omega) (by congr 1)) rfl
theorem Inv0.kHush {c : Nat} (h : Inv0 S c) : Inv0 (hush S) c := ⟨h.1.sd (sd_hush S) rfl, h.2.1.khush, h.2.2.1.sd (sd_hush S) rfl, by rw [(sd_hush S).q 35 rfl]; exact h.2.2.2⟩
theorem Inv0.kAgain {c : Nat} (h : Inv0 S c) : Inv0 (again S) c := h.cAns (by have := wd_len0 S h.1.l (cur S) []; simp at this; omega)
theorem Inv0.kCmd {c : Nat} (h : Inv0 S c) (p : Int32) : Inv0 (cmd S p) c := by
  unfold cmd
  split; · exact h.gPrev
  split; · exact h.gNext
  split; · exact h.gOut
  split; · exact h.gIn
  split; · exact h.kUp
  split; · exact h.kDown
  split; · exact h.kTab
  split; · exact h.kAct
  split; · exact h.kHush
  split; · exact h.kLeft
  split; · exact h.kRight
  split; · exact h.kAgain
  exact h
theorem Inv0.kKind {c : Nat} (h : Inv0 S c) (k : Int32) : Inv0 (gKind S k) c := by
  unfold gKind
  split
  · exact h
  · exact h.goO (fun x hx => ord_in h.1.t (List.mem_of_mem_drop (List.mem_of_find?_eq_some hx))) (by decide)
theorem Inv0.kTyp {c : Nat} (h : Inv0 S c) (h4 : sI S 2 (cur S) = 4) (ch : Int32) : Inv0 (typ S ch) c := by
  have l12 := (h.1.l (cur S)).2.1
  unfold typ
  split
  · exact h.cAns (by decide)
  · have h1 : Inv0 (wSL S 8 (cur S) (sL S 8 (cur S) ++ [ch])) c := h.core (Sd.L (ki := []) (kl := [8]) (kq := []) (by decide)) (h.1.w8 (by rw [List.length_append, List.length_singleton]; omega) h.1.c.2.lt h4) rfl
    unfold sayC
    exact h1.cAns (by split <;> simp)
theorem Inv0.w23 {c : Nat} (h : Inv0 S c) {v : Int32} (hv : v = 0 ∨ v = 1) : Inv0 (wSI S 23 0 v) c := h.core (Sd.I (ki := [23]) (kl := []) (kq := []) (by decide)) (h.1.w23 hv) rfl
theorem Inv0.w24 {c : Nat} (h : Inv0 S c) {v : Int32} (hv : v = 0 ∨ v = 1) : Inv0 (wSI S 24 0 v) c := h.core (Sd.I (ki := [24]) (kl := []) (kq := []) (by decide)) (h.1.w24 hv) rfl
theorem Inv0.kTypL {c : Nat} (h : Inv0 S c) (h4 : sI S 2 (cur S) = 4) (j : Nat) : Inv0 (typL S j) c := by
  unfold typL
  split
  · exact h.kTyp h4 _
  · split
    · exact h.kTyp h4 _
    · exact ((h.kTyp h4 _).w23 (Or.inl rfl)).w24 (Or.inl rfl)
theorem Inv0.kTkB {c : Nat} (h : Inv0 S c) (h4 : sI S 2 (cur S) = 4) : Inv0 (tkB S) c := by
  have l12 := (h.1.l (cur S)).2.1
  unfold tkB
  split
  · exact h.cAns (by decide)
  · have h1 : Inv0 (wSL S 8 (cur S) ((sL S 8 (cur S)).take ((sL S 8 (cur S)).length - 1))) c := h.core (Sd.L (ki := []) (kl := [8]) (kq := []) (by decide)) (h.1.w8 (by rw [List.length_take]; omega) h.1.c.2.lt h4) rfl
    unfold sayC
    exact h1.cAns (by split <;> simp)
theorem Inv0.kTypS {c : Nat} (h : Inv0 S c) (h4 : sI S 2 (cur S) = 4) (p : Int32) : Inv0 (typS S p) c := by
  unfold typS
  cases lto p with
  | some j => exact h.kTypL h4 j
  | none =>
    simp only []
    split; · exact h.w23 (Or.inr rfl)
    split; · exact h.w24 (Or.inr rfl)
    split; · exact h.w24 (Or.inl rfl)
    split; · exact h.kTyp h4 _
    split; · exact h.kTyp h4 _
    split; · exact h.kTyp h4 _
    split; · exact h.kTyp h4 _
    split
    · split
      · exact h.kTyp h4 _
      · exact (h.kTyp h4 _).w24 (Or.inl rfl)
    split; · exact h.kTkB h4
    split
    · have h1 : Inv0 (wSI S 22 0 0) c := h.core (Sd.I (ki := [22]) (kl := []) (kq := []) (by decide)) (h.1.w22 (Or.inl rfl) (Or.inl rfl)) rfl
      exact h1.cAns (by have := wd_len0 S h.1.l (cur S) []; simp at this; omega)
    exact h
theorem Inv0.kChd0 {c : Nat} (h : Inv0 S c) (p : Int32) : Inv0 (chd0 S p) c := by
  unfold chd0
  split
  · split
    · split
      · exact h
      · exact h.kKind _
    · rename_i e
      exact h.kTypS (h.1.xt.resolve_left e).1 p
  · exact h.kCmd _
theorem Inv0.kFit {c : Nat} (h : Inv0 S c) : Inv0 (fit S) c := by
  have hl := ln_len h.1.l
  have hs := sd_fit S
  refine h.core hs ?_ rfl
  unfold fit
  split
  · split
    · exact h.1.w25 (q := 0) (by decide) rfl
    · exact h.1.w25 (q := ((ln S).length - 1) / 10) (by omega) (by rw [Nat.mul_comm])
  · exact h.1
theorem fit_fit {c : Nat} (h : Inv0 S c) : fit (fit S) = fit S := by
  have hl := ln_len h.1.l
  have hln : ln (fit S) = ln S := by
    have hs := sd_fit S
    exact ln_cg (hs.i 2 rfl) (hs.i 3 rfl) (hs.i 10 rfl) (hs.i 13 rfl) (hs.i 20 rfl) (hs.i 22 rfl) (hs.l 6 rfl) (hs.l 8 rfl)
  by_cases e : 0 < sI S 25 0 ∧ nI (ln S).length ≤ sI S 25 0
  · have e1 : fit S = wSI S 25 0 (if (ln S).length = 0 then 0 else nI (((ln S).length - 1) / 10 * 10)) := by unfold fit; rw [if_pos e]
    have e2 : sI (fit S) 25 0 = (if (ln S).length = 0 then 0 else nI (((ln S).length - 1) / 10 * 10)) := by rw [e1, sI_I, if_pos ⟨rfl, rfl⟩]
    show (if 0 < sI (fit S) 25 0 ∧ nI (ln (fit S)).length ≤ sI (fit S) 25 0 then _ else fit S) = fit S
    rw [if_neg]
    rw [e2, hln]
    intro z
    by_cases e3 : (ln S).length = 0
    · rw [if_pos e3] at z
      exact absurd z.1 (by decide)
    · rw [if_neg e3] at z
      exact nI_ge (show ((ln S).length - 1) / 10 * 10 < (ln S).length by omega) (by omega) z.2
  · have e1 : fit S = S := by unfold fit; rw [if_neg e]
    rw [e1, e1]
theorem Inv0.toFit {c : Nat} (h : Inv0 S c) : Inv (fit S) c := ⟨h.kFit, fit_fit h, h.kFit.2.2.2⟩
theorem Inv.chd {c : Nat} (h : Inv S c) (p : Int32) : Inv (chd S p) c := (h.1.kChd0 p).toFit
end CH

/-! ===== the reference's commands and letters ===== -/
theorem find_map_cons {p : Nat → Bool} {f : Nat → Nat} {a : Nat} {l : List Nat} : ((a :: l).find? p).map f = if p a = true then some (f a) else (l.find? p).map f := by
  rw [List.find?_cons]
  cases p a <;> rfl
theorem drop_gn {l : List Nat} {n : Nat} (h : n < l.length) : l.drop n = gn l n :: l.drop (n + 1) := by
  rw [List.drop_eq_getElem_cons h, gn_of h]
section MQ2
variable {S : SS} {m : mm}
theorem m_out (hM : RM S m) (h : WT S) (hL : WL S) (hV : WV S) (hC : WC S) : TS (fun m => (mL 3 (m 20 0) m).bind fun x34 => (fX11_none).bind fun x35 => oM (fX11_goOr x34 x35 m) fun _ m37 => some (((), m37))) m (gOut S) := by
  have c1 := hC.1
  have c2 := hC.2
  unfold TS gOut
  have hp : mL 3 (nI (cur S)) m = some (rI (if cur S = 0 then none else some (dpar S (cur S)))) := by
    by_cases e : cur S = 0
    · rw [if_pos e, e, m_par0 hM h]; rfl
    · rw [if_neg e, m_par hM h c2 (by omega)]; rfl
  simp only []
  rw [hM.p 20 rfl, c1, hp, sb, f_none, sb]
  obtain ⟨m1, a1, b1⟩ := m_goO hM h hL hV hC (o := if cur S = 0 then none else some (dpar S (cur S))) (fun x hx => by
    split at hx
    · cases hx
    · cases hx
      exact (h.up (by omega) c2).1) d_none g_none (by decide)
  exact ⟨m1, by rw [a1, oMs], b1⟩
theorem m_in_l (hM : RM S m) (h : WT S) (hC : WC S) : ∀ n, n ≤ (sK S (cur S)).length → ∀ fu, n < fu → itr (fX11_goIn_B14 m) fu (rI (fnd S ((sK S (cur S)).drop n)), nI n - 1) = some (rI (fnd S (sK S (cur S)))) := by
  have c1 := hC.1
  have c2 := hC.2
  have c40 := c2.l40 h
  have k10 := (h.kids c2).2.1
  intro n
  induction n with
  | zero =>
    intro _ fu hf
    obtain ⟨fu, rfl⟩ : ∃ g, fu = g + 1 := ⟨fu - 1, by omega⟩
    rw [List.drop_zero, itr_end (b := rI (fnd S (sK S (cur S))))]
    unfold fX11_goIn_B14
    rw [if_pos (show (nI 0 - 1 : Int32) < 0 by decide)]
  | succ n ih =>
    intro hn fu hf
    obtain ⟨fu, rfl⟩ : ∃ g, fu = g + 1 := ⟨fu - 1, by omega⟩
    have hk := h.kth c2 (k := n) (by omega)
    have hk40 : gn (sK S (cur S)) n < 40 := hk.1.l40 h
    have hF : fX11_goIn_B14 m (rI (fnd S ((sK S (cur S)).drop (n + 1))), nI (n + 1) - 1) = some (.inl (rI (fnd S ((sK S (cur S)).drop n)), nI n - 1)) := by
      unfold fX11_goIn_B14
      simp only []
      rw [nI_pred, if_neg (nI_pos (by omega)), hM.p 20 rfl, c1, m_kid hM c40 (by omega) k10, sb, m_hid hM hk40, sb, drop_gn (show n < (sK S (cur S)).length by omega), show nI n + (-1 : Int32) = nI n - 1 from by rw [Int32.sub_eq_add_neg]]
      unfold fnd
      rw [List.find?_cons]
      have hh : hid S (gn (sK S (cur S)) n) = decide (sI S 12 (gn (sK S (cur S)) n) ≠ 0) := rfl
      by_cases e : sI S 12 (gn (sK S (cur S)) n) = 0
      · rw [if_pos e, hh, show decide (sI S 12 (gn (sK S (cur S)) n) ≠ 0) = false by simp [e]]; rfl
      · rw [if_neg e, hh, show decide (sI S 12 (gn (sK S (cur S)) n) ≠ 0) = true by simp [e]]; rfl
    rw [itr_step hF]
    exact ih (by omega) fu (by omega)
theorem fnd_mem {l : List Nat} {x : Nat} (h : fnd S l = some x) : x ∈ l := List.mem_of_find?_eq_some h
theorem m_inn (hM : RM S m) (h : WT S) (hL : WL S) (hV : WV S) (hC : WC S) : TS fX11_goIn m (gIn S) := by
  have c1 := hC.1
  have c2 := hC.2
  have c40 := c2.l40 h
  have k10 := (h.kids c2).2.1
  have hl := m_in_l hM h hC (sK S (cur S)).length (Nat.le_refl _) FU (FU_lt (by omega))
  rw [List.drop_length] at hl
  obtain ⟨m1, a1, b1⟩ := m_goO hM h hL hV hC (o := fnd S (sK S (cur S))) (fun x hx => ((h.kids c2).2.2 x (fnd_mem hx)).1) d_none g_none (by decide)
  refine ⟨m1, ?_, b1⟩
  unfold fX11_goIn
  rw [hM.p 20 rfl, c1, m_kidn hM c40, sb]
  have e0 : rI (fnd S []) = -1 := rfl
  rw [e0] at hl
  rw [hl, sb, f_none, sb, a1, oMs]
/-! up and down -/
theorem m_rw_s (hM : RM S m) (h : WT S) {t p : Nat} (ht : th S t) {by_ : Int32} {j : Nat} (hj : j < (sK S t).length) (hp : p < 10) : fX11_goRows_B63 by_ (nI t) (nI p) m (-1, nI j) = some (.inl (if rwB S p (gn (sK S t) j) = true then nI (kid S (gn (sK S t) j) p) else -1, nI j + by_)) := by
  have t40 := ht.l40 h
  have k10 := (h.kids ht).2.1
  have hk := h.kth ht hj
  have hk40 : gn (sK S t) j < 40 := hk.1.l40 h
  have r10 := (h.kids hk.1).2.1
  unfold fX11_goRows_B63
  rw [m_kidn hM t40, sb, m_in, sb, show (1 : Int32) = nI 1 from rfl, nI_sub (by omega)]
  simp only []
  rw [decide_eq_true ⟨nI_pos' (by omega), nI_le (by omega) (by omega)⟩, if_neg (by decide), if_pos trivial, m_kid hM t40 hj k10, sb, m_hid hM hk40, sb]
  have hh : hid S (gn (sK S t) j) = decide (sI S 12 (gn (sK S t) j) ≠ 0) := rfl
  unfold rwB
  have ek : kid S t j = gn (sK S t) j := rfl
  rw [ek] at hk r10
  by_cases e : sI S 12 (gn (sK S t) j) = 0
  · have h1 : hid S (gn (sK S t) j) = false := by rw [hh]; simp [e]
    rw [if_pos e, h1, m_kidn hM hk40, sb]
    by_cases e2 : (sK S (gn (sK S t) j)).length ≤ p
    · rw [if_pos (nI_le e2 (by omega)), sb, if_pos (by rfl), decide_eq_false (by omega), if_neg (by simp)]
    · have hk2 := h.kth hk.1 (k := p) (by omega)
      have hk240 : gn (sK S (gn (sK S t) j)) p < 40 := hk2.1.l40 h
      rw [if_neg (nI_ge (by omega) (by omega)), m_kid hM hk40 (by omega) r10, sb, m_hid hM hk240, sb]
      have hh2 : hid S (kid S (gn (sK S t) j) p) = decide (sI S 12 (gn (sK S (gn (sK S t) j)) p) ≠ 0) := rfl
      by_cases e3 : sI S 12 (gn (sK S (gn (sK S t) j)) p) = 0
      · have h3 : hid S (kid S (gn (sK S t) j) p) = false := by rw [hh2]; simp [e3]
        rw [if_pos e3, sb, if_neg (by decide), h3, decide_eq_true (by omega), if_pos (by rfl), sb]; rfl
      · have h3 : hid S (kid S (gn (sK S t) j) p) = true := by rw [hh2]; simp [e3]
        rw [if_neg e3, sb, if_pos (by rfl), h3, if_neg (by simp)]
  · have h1 : hid S (gn (sK S t) j) = true := by rw [hh]; simp [e]
    rw [if_neg e, h1, sb, if_pos (by rfl), if_neg (by simp)]
/-- one is found: the loop ends -/
theorem m_rw_e (hM : RM S m) (h : WT S) {t p x : Nat} (ht : th S t) (hx : x < 40) (by_ : Int32) (k : Int32) : fX11_goRows_B63 by_ (nI t) (nI p) m (nI x, k) = some (.inr (nI x)) := by
  unfold fX11_goRows_B63
  rw [m_kidn hM (ht.l40 h), sb, m_in, sb]
  split
  · rfl
  · rw [if_neg (show ¬ nI x = -1 from nI_m1 (by omega))]
theorem m_rw_up (hM : RM S m) (h : WT S) {t : Nat} (ht : th S t) (hp : plc S (cur S) < 10) : ∀ n, n ≤ (sK S t).length → ∀ fu, n + 1 < fu → itr (fX11_goRows_B63 (-1) (nI t) (nI (plc S (cur S))) m) fu (-1, nI n + -1) = some (rI (rwF S ((sK S t).take n).reverse)) := by
  have t40 := ht.l40 h
  have k10 := (h.kids ht).2.1
  intro n
  induction n with
  | zero =>
    intro _ fu hf
    obtain ⟨fu, rfl⟩ : ∃ g, fu = g + 1 := ⟨fu - 1, by omega⟩
    rw [itr_end (b := -1)]
    · rw [List.take_zero]; rfl
    · unfold fX11_goRows_B63
      rw [m_kidn hM t40, sb, m_in, sb]
      simp only []
      rw [decide_eq_false (fun z => absurd z.1 (show ¬ (0 : Int32) ≤ nI 0 + -1 by decide)), if_pos (by rfl)]
  | succ n ih =>
    intro hn fu hf
    obtain ⟨fu, rfl⟩ : ∃ g, fu = g + 2 := ⟨fu - 2, by omega⟩
    have hk := (h.kth ht (k := n) (by omega)).1
    have ek : kid S t n = gn (sK S t) n := rfl
    rw [ek] at hk
    rw [nI_dec, itr_step (m_rw_s hM h ht (show n < (sK S t).length by omega) hp), take_succ_gn (show n < (sK S t).length by omega), List.reverse_append]
    unfold rwF
    show _ = some (rI (((gn (sK S t) n :: ((sK S t).take n).reverse).find? (rwB S (plc S (cur S)))).map fun j => kid S j (plc S (cur S))))
    rw [find_map_cons]
    by_cases e : rwB S (plc S (cur S)) (gn (sK S t) n) = true
    · rw [if_pos e, if_pos e]
      have hlt : plc S (cur S) < (sK S (gn (sK S t) n)).length := by
        unfold rwB at e
        simp only [Bool.and_eq_true, decide_eq_true_eq] at e
        exact e.2.1
      have hx := (h.kth hk hlt).1.l40 h
      rw [itr_end (m_rw_e hM h ht hx _ _)]; rfl
    · rw [if_neg e, if_neg e]
      exact ih (by omega) (fu + 1) (by omega)
theorem m_rw_dn (hM : RM S m) (h : WT S) {t : Nat} (ht : th S t) (hp : plc S (cur S) < 10) : ∀ n, n ≤ (sK S t).length → ∀ fu, n + 1 < fu → itr (fX11_goRows_B63 1 (nI t) (nI (plc S (cur S))) m) fu (-1, nI ((sK S t).length - n)) = some (rI (rwF S ((sK S t).drop ((sK S t).length - n)))) := by
  have t40 := ht.l40 h
  have k10 := (h.kids ht).2.1
  intro n
  induction n with
  | zero =>
    intro _ fu hf
    obtain ⟨fu, rfl⟩ : ∃ g, fu = g + 1 := ⟨fu - 1, by omega⟩
    rw [Nat.sub_zero, List.drop_length, itr_end (b := -1)]
    · rfl
    · unfold fX11_goRows_B63
      rw [m_kidn hM t40, sb, m_in, sb]
      simp only []
      rw [decide_eq_false (fun z => ?_), if_pos (by rfl)]
      by_cases e0 : (sK S t).length = 0
      · rw [e0] at z
        exact absurd z.2 (by decide)
      · rw [show (1 : Int32) = nI 1 from rfl, nI_sub (by omega)] at z
        exact nI_ge (show (sK S t).length - 1 < (sK S t).length by omega) (by omega) z.2
  | succ n ih =>
    intro hn fu hf
    obtain ⟨fu, rfl⟩ : ∃ g, fu = g + 2 := ⟨fu - 2, by omega⟩
    have hj : (sK S t).length - (n + 1) < (sK S t).length := by omega
    have hk := (h.kth ht hj).1
    have ek : kid S t ((sK S t).length - (n + 1)) = gn (sK S t) ((sK S t).length - (n + 1)) := rfl
    rw [ek] at hk
    rw [itr_step (m_rw_s hM h ht hj hp), drop_gn hj, nI_1, show (sK S t).length - (n + 1) + 1 = (sK S t).length - n by omega]
    unfold rwF
    rw [find_map_cons]
    by_cases e : rwB S (plc S (cur S)) (gn (sK S t) ((sK S t).length - (n + 1))) = true
    · rw [if_pos e, if_pos e]
      have hlt : plc S (cur S) < (sK S (gn (sK S t) ((sK S t).length - (n + 1)))).length := by
        unfold rwB at e
        simp only [Bool.and_eq_true, decide_eq_true_eq] at e
        exact e.2.1
      have hx := (h.kth hk hlt).1.l40 h
      rw [itr_end (m_rw_e hM h ht hx _ _)]; rfl
    · rw [if_neg e, if_neg e]
      exact ih (by omega) (fu + 1) (by omega)
theorem rwF_th (h : WT S) {t : Nat} (ht : th S t) {l : List Nat} (hl : ∀ j ∈ l, j ∈ sK S t) : ∀ x, rwF S l = some x → th S x := by
  intro x hx
  unfold rwF at hx
  obtain ⟨j, hj, e⟩ := Option.map_eq_some_iff.mp hx
  have h1 := List.find?_some hj
  have h2 := ((h.kids ht).2.2 j (hl j (List.mem_of_find?_eq_some hj))).1
  unfold rwB at h1
  simp only [Bool.and_eq_true, decide_eq_true_eq] at h1
  rw [← e]
  exact (h.kth h2 h1.2.1).1
theorem m_rows (hM : RM S m) (h : WT S) (hL : WL S) (hV : WV S) (hC : WC S) : TS (fX11_goRows (-1)) m (gUp S) ∧ TS (fX11_goRows 1) m (gDown S) := by
  have c1 := hC.1
  have c2 := hC.2
  have c40 := c2.l40 h
  -- no row
  have hno : ∀ b : Int32, inRow S = false → TS (fX11_goRows b) m (cAns S wNone) := by
    intro b hr
    have hr' : ¬ (cur S ≠ 0 ∧ sI S 2 (dpar S (cur S)) = 6) := of_decide_eq_false hr
    obtain ⟨m1, a1, b1⟩ := m_say hM hV.2.2.2.1 d_none g_none (by decide)
    refine ⟨m1, ?_, b1⟩
    unfold fX11_goRows
    rw [hM.p 20 rfl, c1]
    by_cases e : cur S = 0
    · rw [e, m_par0 hM h, sb, if_pos rfl, oRr, f_none, sb, a1, oMs]
    · have u := (h.up (by omega) c2).1
      have u40 := u.l40 h
      rw [m_par hM h c2 (by omega), sb, if_neg (nI_m1 (by omega)), m_plain hM rfl rfl (show dpar S (cur S) < 40 from u40), sb, if_neg (fun z => hr' ⟨e, z⟩), oRr, f_none, sb, a1, oMs]
  cases hr : inRow S
  · unfold gUp gDown
    rw [if_neg (by rw [hr]; simp), if_neg (by rw [hr]; simp)]
    exact ⟨hno _ hr, hno _ hr⟩
  · have hr' : cur S ≠ 0 ∧ sI S 2 (dpar S (cur S)) = 6 := of_decide_eq_true hr
    unfold gUp gDown
    rw [if_pos hr, if_pos hr]
    obtain ⟨u, uk⟩ := h.up (by omega) c2
    have u40 := u.l40 h
    have n1 : 0 < dpar S (cur S) := by
      rcases Nat.eq_zero_or_pos (dpar S (cur S)) with q | q
      · have := hr'.2
        rw [q, h.2.2.1] at this; exact absurd this (by decide)
      · exact q
    obtain ⟨t, tk⟩ := h.up n1 u
    have t10 := (h.kids t).2.1
    have u10 := (h.kids u).2.1
    have hp : plc S (cur S) < 10 := by have := List.idxOf_lt_length_of_mem uk; unfold plc; omega
    have hq : plc S (dpar S (cur S)) < (sK S (dpar S (dpar S (cur S)))).length := List.idxOf_lt_length_of_mem tk
    have pre : ∀ (b : Int32) (o : Option Nat), (∀ x, o = some x → th S x) → itr (fX11_goRows_B63 b (nI (dpar S (dpar S (cur S)))) (nI (plc S (cur S))) m) FU (-1, nI (plc S (dpar S (cur S))) + b) = some (rI o) → TS (fX11_goRows b) m (goO S o wEnd) := by
      intro b o ho hl
      obtain ⟨m1, a1, b1⟩ := m_goO hM h hL hV hC ho d_end g_end (by decide)
      refine ⟨m1, ?_, b1⟩
      unfold fX11_goRows
      rw [hM.p 20 rfl, c1, m_par hM h c2 (by omega), sb, if_neg (nI_m1 (by omega)), m_plain hM rfl rfl (show dpar S (cur S) < 40 from u40), sb, if_pos hr'.2, m_par hM h u n1, sb, m_place hM h (by omega) c2, sb, m_place hM h n1 u, sb, hl, sb, f_end, sb, a1, oMs]
      rfl
    refine ⟨pre (-1) _ (rwF_th h t (fun j hj => List.mem_of_mem_take (List.mem_reverse.mp hj))) ?_, pre 1 _ (rwF_th h t (fun j hj => List.mem_of_mem_drop hj)) ?_⟩
    · exact m_rw_up hM h t hp _ (by omega) FU (FU_lt (by omega))
    · have := m_rw_dn hM h t hp ((sK S (dpar S (dpar S (cur S)))).length - (plc S (dpar S (cur S)) + 1)) (by omega) FU (FU_lt (by omega))
      rw [show (sK S (dpar S (dpar S (cur S)))).length - ((sK S (dpar S (dpar S (cur S)))).length - (plc S (dpar S (cur S)) + 1)) = plc S (dpar S (cur S)) + 1 by omega] at this
      rw [nI_1]
      exact this
/-! the next one for the focus -/
theorem m_canF (k : Int32) : fX11_canFocus k = some (bI (canF k)) := by
  unfold fX11_canFocus canF
  rw [m_in, sb, oBo_b, sb]
def rng (S : SS) : List Nat := (ord S).drop (cpl S + 1) ++ (ord S).take (cpl S + 1)
theorem rng_len (hl : cpl S < (ord S).length) : (rng S).length = (ord S).length := by
  unfold rng
  rw [List.length_append, List.length_drop, List.length_take]; omega
theorem rng_gn (hl : cpl S < (ord S).length) {j : Nat} (hj : j < (ord S).length) : gn (rng S) j = gn (ord S) ((cpl S + (j + 1)) % (ord S).length) := by
  unfold rng gn
  rw [List.getD_eq_getElem?_getD, List.getD_eq_getElem?_getD]
  by_cases e : cpl S + 1 + j < (ord S).length
  · rw [List.getElem?_append_left (by rw [List.length_drop]; omega), List.getElem?_drop, Nat.mod_eq_of_lt (by omega), show cpl S + 1 + j = cpl S + (j + 1) by omega]
  · rw [List.getElem?_append_right (by rw [List.length_drop]; omega), List.length_drop, List.getElem?_take, if_pos (by omega), Nat.mod_eq_sub_mod (by omega), Nat.mod_eq_of_lt (by omega)]
    congr 2; omega
theorem m_tab (hM : RM S m) (h : WT S) (hL : WL S) (hV : WV S) (hC : WC S) (hs : shn S (cur S) = true) : TS fX11_goTab m (gTab S) := by
  obtain ⟨m1, a1, a2, a3, a4, a5⟩ := m_cpl hM h hC hs
  have hM1 : RM S m1 := hM.sm (a4.mono (by decide))
  have hol := ord_len h
  have hrl := rng_len a5
  have hrth : ∀ j, j < (ord S).length → th S (gn (rng S) j) := fun j hj => by
    rw [rng_gn a5 hj]
    exact ord_thm h (Nat.mod_lt _ (by omega))
  have hloop : ∀ n, n ≤ (ord S).length → ∀ fu, n + 1 < fu → itr (fX11_goTab_B9 (nI (cpl S)) m1) fu (-1, nI ((ord S).length - n + 1)) = some (rI (((rng S).drop ((ord S).length - n)).find? (fun j => canF (sI S 2 j)))) := by
    intro n
    induction n with
    | zero =>
      intro _ fu hf
      obtain ⟨fu, rfl⟩ : ∃ g, fu = g + 1 := ⟨fu - 1, by omega⟩
      rw [Nat.sub_zero, List.drop_eq_nil_of_le (by omega), itr_end (b := -1)]
      · rfl
      · unfold fX11_goTab_B9
        rw [a3, if_pos (nI_lt (by omega) (by omega))]
    | succ n ih =>
      intro hn fu hf
      obtain ⟨fu, rfl⟩ : ∃ g, fu = g + 2 := ⟨fu - 2, by omega⟩
      have hj : (ord S).length - (n + 1) < (ord S).length := by omega
      have hg := (hrth _ hj).l40 h
      have hF : fX11_goTab_B9 (nI (cpl S)) m1 (-1, nI ((ord S).length - (n + 1) + 1)) = some (.inl (if canF (sI S 2 (gn (rng S) ((ord S).length - (n + 1)))) = true then nI (gn (rng S) ((ord S).length - (n + 1))) else -1, nI ((ord S).length - n + 1))) := by
        unfold fX11_goTab_B9
        rw [a3, if_neg (nI_nlt (by omega) (by omega)), if_pos rfl]
        simp only []
        have h0 : oNz (nI (ord S).length) = some () := by unfold oNz; rw [if_neg (nI_ne0 (by omega) (by omega))]
        rw [h0, sb, nI_add, nI_rem (by omega) (by omega), m_ordAt h a2 (Nat.mod_lt _ (by omega)), ← rng_gn a5 hj, sb, m_plain hM1 rfl rfl (show gn (rng S) _ < 40 from hg), sb, m_canF, sb, nI_1, show (ord S).length - (n + 1) + 1 + 1 = (ord S).length - n + 1 by omega]
        cases canF (sI S 2 (gn (rng S) ((ord S).length - (n + 1))))
        · rw [if_pos (by rfl)]; rfl
        · rw [if_neg (by decide)]; rfl
      rw [itr_step hF, drop_gn (by omega), List.find?_cons, show (ord S).length - (n + 1) + 1 = (ord S).length - n by omega]
      cases e : canF (sI S 2 (gn (rng S) ((ord S).length - (n + 1))))
      · rw [if_neg (by simp)]
        exact ih (by omega) (fu + 1) (by omega)
      · rw [if_pos rfl, itr_end (b := nI (gn (rng S) ((ord S).length - (n + 1))))]
        · rfl
        · unfold fX11_goTab_B9
          rw [a3]
          split
          · rfl
          · rw [if_neg (show ¬ nI (gn (rng S) ((ord S).length - (n + 1))) = -1 from nI_m1 (by omega))]
  have hfin := hloop (ord S).length (Nat.le_refl _) FU (FU_lt (by omega))
  rw [Nat.sub_self, List.drop_zero] at hfin
  have etb : tbF S = (rng S).find? (fun j => canF (sI S 2 j)) := rfl
  rw [← etb, show nI (0 + 1) = (1 : Int32) from rfl] at hfin
  unfold TS gTab fX11_goTab
  rw [a1, oMs, hfin, sb]
  cases ht : tbF S with
  | none =>
    simp only []
    rw [show rI none = (-1 : Int32) from rfl, if_pos rfl, sb, mPIs, sb, f_none, sb]
    have e21 : up2 m1 21 0 (m1 21 0) = m1 := up2_self _ _ _
    rw [e21]
    obtain ⟨m2, b1, b2⟩ := m_goO (o := none) hM1 h hL hV hC (fun x hx => nomatch hx) d_none g_none (by decide)
    exact ⟨m2, by rw [show rI none = (-1 : Int32) from rfl] at b1; rw [b1, oMs], b2⟩
  | some x =>
    simp only []
    have hx : th S x := by
      rw [etb] at ht
      have hm := List.mem_of_find?_eq_some ht
      unfold rng at hm
      rcases List.mem_append.mp hm with q | q
      · exact ord_th h 40 0 x h.2.1 (List.mem_of_mem_drop q)
      · exact ord_th h 40 0 x h.2.1 (List.mem_of_mem_take q)
    have x40 := hx.l40 h
    rw [if_neg (show ¬ rI (some x) = -1 from nI_m1 (by omega)), sb, mPIs, sb, f_none, sb]
    have hM2 : RM (wSI S 21 0 (nI x)) (up2 m1 21 0 (nI x)) := hM1.wI0 rfl
    have sd : Sd [21] [] [] S (wSI S 21 0 (nI x)) := Sd.I (by decide)
    obtain ⟨m2, b1, b2⟩ := m_goO (S := wSI S 21 0 (nI x)) (o := some x) hM2 (h.sd sd rfl) hL (hV.i (by decide) (by decide)) (hC.cg (sd.i 0 rfl) (sd.i 1 rfl) (sd.i 20 rfl)) (fun y hy => by cases hy; exact (th_cg (sd.i 0 rfl) (sd.i 1 rfl) x).mpr hx) d_none g_none (by decide)
    exact ⟨m2, by rw [show rI (some x) = nI x from rfl] at b1 ⊢; rw [b1, oMs], b2⟩
end MQ2

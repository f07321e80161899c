/-! ===== the class's queues ===== -/
/-- the queue's object and row stand for ever -/
def QF (o r n : Nat) (h : hp) : Prop := (hT h o).1 = 4 ∧ hR h o 0 = some r ∧ hT h r = (23, n) ∧ n < 1000
section QQ
variable {o r c n : Nat} {p : Nat → Nat} {q : List (List Int32)} {h : hp}
theorem QU.sz (x : QU o r c n p q h) (f : QF o r n h) : oGI 3 1 (some o) h = some (nI q.length) := hgI f.1 x.1
theorem q_size (x : QU o r c n p q h) (f : QF o r n h) : fX4_size o h = some (nI q.length) := by
  unfold fX4_size
  rw [x.sz f, sb]
theorem QF.row (f : QF o r n h) : oGR 3 0 (some o) h = some (some r) := hgR f.1 f.2.1
theorem QF.len (f : QF o r n h) : oLen (some r) h = some (nI n) := hgL f.2.2.1 (by decide)
theorem QF.ob (f : QF o r n h) : oOb 3 (some o) h = some o := hgO f.1
theorem QU.ld (x : QU o r c n p q h) (f : QF o r n h) {j : Nat} (hj : j < n) : oAL 23 (some r) (nI j) h = some (some (c + 2 * p j)) := by
  have := f.2.2.2
  rw [hgA f.2.2.1 hj (by omega), (x.2.2.1 j hj).2]
theorem qn_ap {q : List (List Int32)} {t : List Int32} {j : Nat} : qn (q ++ [t]) j = if j < q.length then qn q j else if j = q.length then t else [] := by
  unfold qn
  rw [List.getD_eq_getElem?_getD]
  by_cases h1 : j < q.length
  · rw [if_pos h1, List.getElem?_append_left h1, List.getD_eq_getElem?_getD]
  · rw [if_neg h1, List.getElem?_append_right (by omega)]
    by_cases h2 : j = q.length
    · rw [if_pos h2, h2, Nat.sub_self]; rfl
    · rw [if_neg h2, List.getElem?_eq_none (by show 1 ≤ j - q.length; omega)]; rfl
theorem qn_dr {q : List (List Int32)} {j : Nat} : qn (q.drop 1) j = qn q (j + 1) := by
  unfold qn
  rw [List.getD_eq_getElem?_getD, List.getD_eq_getElem?_getD, List.getElem?_drop, Nat.add_comm]
theorem q_clear (x : QU o r c n p q h) (f : QF o r n h) (hd : o + 1 < c ∨ c + 2 * n ≤ o) (hor : o ≠ r) : ∃ h', fX4_clear o h = some ((), h') ∧ QU o r c n p [] h' ∧ Ag [o] h h' ∧ QF o r n h' := by
  have y : Ag [o] h (wI h o 1 0) := Ag.wI (List.mem_singleton.mpr rfl)
  obtain ⟨a1, a2, a3, a4, a5, a6⟩ := x
  refine ⟨wI h o 1 0, ?_, ⟨hI_s h o 1 0, Nat.zero_le _, fun j hj => a3 j hj, a4, fun j hj => ?_, fun j hj => absurd hj (Nat.not_lt_zero _)⟩, y, ⟨f.1, f.2.1, f.2.2.1, f.2.2.2⟩⟩
  · unfold fX4_clear
    rw [oPI_ok f.1, sb]
  · obtain ⟨l, hl⟩ := a5 j hj
    have := (a3 j hj).1
    exact ⟨l, hl.ag y (fun z => by have := List.mem_singleton.mp z; omega) (fun z => by have := List.mem_singleton.mp z; omega)⟩
theorem q_put (x : QU o r c n p q h) (f : QF o r n h) (hd : o + 1 < c ∨ c + 2 * n ≤ o) (hr : r < c ∨ c + 2 * n ≤ r) (hor : o ≠ r) {b2 n2 : Nat} {t : List Int32} (y : Cd h b2 n2 t) (hb : b2 + 1 < c ∨ c + 2 * n ≤ b2) (ht : t.length ≤ 80) (hq : q.length < n) : ∃ h', fX4_put o (some b2) h = some ((), h') ∧ QU o r c n p (q ++ [t]) h' ∧ Ag [o, c + 2 * p q.length, c + 2 * p q.length + 1] h h' ∧ QF o r n h' := by
  have n3 := f.2.2.2
  obtain ⟨a1, a2, a3, a4, a5, a6⟩ := id x
  have hp := (a3 q.length hq).1
  obtain ⟨l0, c0⟩ := a5 q.length hq
  obtain ⟨h1, e1, c1, g1⟩ := c_copy c0 y (by omega) ht
  have no : o ∉ [c + 2 * p q.length, c + 2 * p q.length + 1] := by
    simp only [List.mem_cons, List.not_mem_nil, or_false]
    omega
  have nr : r ∉ [c + 2 * p q.length, c + 2 * p q.length + 1] := by
    simp only [List.mem_cons, List.not_mem_nil, or_false]
    omega
  have f1 : QF o r n h1 := ⟨by rw [g1.T]; exact f.1, by rw [g1.R no]; exact f.2.1, by rw [g1.T]; exact f.2.2.1, f.2.2.2⟩
  have s1 : oGI 3 1 (some o) h1 = some (nI q.length) := hgI f1.1 (by rw [g1.I no]; exact a1)
  have g2 : Ag [o] h1 (wI h1 o 1 (nI (q.length + 1))) := Ag.wI (List.mem_singleton.mpr rfl)
  have oth : ∀ j, j < n → j ≠ q.length → ∀ l, Cd h (c + 2 * p j) 80 l → Cd (wI h1 o 1 (nI (q.length + 1))) (c + 2 * p j) 80 l := fun j hj hne l hl => by
    have hpj := (a3 j hj).1
    have hpp : p j ≠ p q.length := fun z => hne (a4 j q.length hj hq z)
    refine (hl.ag g1 ?_ ?_).ag g2 (fun z => by have := List.mem_singleton.mp z; omega) (fun z => by have := List.mem_singleton.mp z; omega)
    · simp only [List.mem_cons, List.not_mem_nil, or_false]; omega
    · simp only [List.mem_cons, List.not_mem_nil, or_false]; omega
  have own : Cd (wI h1 o 1 (nI (q.length + 1))) (c + 2 * p q.length) 80 t := c1.ag g2 (fun z => by have := List.mem_singleton.mp z; omega) (fun z => by have := List.mem_singleton.mp z; omega)
  refine ⟨wI h1 o 1 (nI (q.length + 1)), ?_, ⟨?_, ?_, fun j hj => ⟨(a3 j hj).1, ?_⟩, a4, fun j hj => ?_, fun j hj => ?_⟩, (g1.mono (fun a ha => List.mem_cons_of_mem _ ha)).tr (g2.mono (fun a ha => by rw [List.mem_singleton.mp ha]; exact List.mem_cons_self)), ⟨f1.1, f1.2.1, f1.2.2.1, f1.2.2.2⟩⟩
  · unfold fX4_put
    rw [x.sz f, sb, if_neg (nI_pos (by omega)), sb, f.row, sb, f.len, sb, if_neg (nI_ge hq (by omega)), sb, sb, x.ld f hq, sb, sb, if_neg (by simp), c0.ob, sb, e1, o2s, s1, sb, nI_1, oPI_ok f1.1, sb]
  · rw [hI_s, List.length_append]; rfl
  · rw [List.length_append]; exact hq
  · show hR h1 r j = _
    rw [g1.R nr]; exact (a3 j hj).2
  · by_cases z : j = q.length
    · subst z; exact ⟨t, own⟩
    · obtain ⟨l, hl⟩ := a5 j hj
      exact ⟨l, oth j hj z l hl⟩
  · rw [List.length_append] at hj
    replace hj : j < q.length + 1 := hj
    rw [qn_ap]
    by_cases z : j < q.length
    · rw [if_pos z]
      exact oth j (by omega) (by omega) _ (a6 j z)
    · have : j = q.length := by omega
      subst this
      rw [if_neg z, if_pos rfl]; exact own
theorem oAS_ok {h : hp} {a i n v : Nat} (ht : hT h a = (23, n)) (hi : i < n) (hn : n < 1000) (hv : (hT h v).1 = 1) : oAS 23 1 (some a) (nI i) (some v) h = some (wR h a i (some v)) := by
  show (if (hT h a).1 = 23 ∧ inb (nI i) (hT h a).2 = true ∧ tyV h 1 (some v) = true then some (wR h a (nI i).toNatClampNeg (some v)) else none) = _
  rw [ht, if_pos ⟨rfl, inb_nI hi (by show n < 2 ^ 31; omega), decide_eq_true hv⟩, nI_clamp (by omega)]
theorem hR_s (h : hp) (a k : Nat) (v : Option Nat) : hR (wR h a k v) a k = v := by
  show up2 h.2.2.2.1 a k v a k = v
  rw [up2_at, if_pos rfl]
theorem hR_n (h : hp) (a : Nat) {k j : Nat} (v : Option Nat) (hj : j ≠ k) : hR (wR h a k v) a j = hR h a j := by
  show up2 h.2.2.2.1 a k v a j = _
  rw [up2_at, if_neg hj]; rfl
theorem hR_o (h : hp) {a b : Nat} (k : Nat) (v : Option Nat) (hb : b ≠ a) : hR (wR h a k v) b = hR h b := up2_ne h.2.2.2.1 k v hb
theorem q_drop (x : QU o r c n p q h) (f : QF o r n h) (hd : o + 1 < c ∨ c + 2 * n ≤ o) (hr : r < c ∨ c + 2 * n ≤ r) (hor : o ≠ r) (hq : 0 < q.length) : ∃ h' p', fX4_dropFirst o h = some ((), h') ∧ QU o r c n p' (q.drop 1) h' ∧ Ag [o, r] h h' ∧ QF o r n h' := by
  have n3 := f.2.2.2
  obtain ⟨a1, a2, a3, a4, a5, a6⟩ := id x
  have key : ∃ h1, itr (fX4_dropFirst_B29 o (some (c + 2 * p 0))) FU ((0 : Int32), h) = some h1 ∧ Ag [r] h h1 ∧ (∀ a, hI h1 a = hI h a) ∧ (∀ j, j + 1 < n → hR h1 r j = some (c + 2 * p (j + 1))) := by
    refine itr_for (R := fun h1 => Ag [r] h h1 ∧ (∀ a, hI h1 a = hI h a) ∧ (∀ j, j + 1 < n → hR h1 r j = some (c + 2 * p (j + 1)))) (fun i a => ∃ h1, a = (nI i, h1) ∧ Ag [r] h h1 ∧ (∀ a, hI h1 a = hI h a) ∧ (∀ j, j < i → hR h1 r j = some (c + 2 * p (j + 1))) ∧ ∀ j, i ≤ j → hR h1 r j = hR h r j) (n - 1) (fun i a hi hX => ?_) (fun a hX => ?_) (FU_lt (by omega)) ⟨h, rfl, Ag.rf, fun _ => rfl, fun j hj => absurd hj (Nat.not_lt_zero _), fun _ _ => rfl⟩
    · obtain ⟨h1, rfl, z1, z2, z3, z4⟩ := hX
      have no : o ∉ [r] := fun z => hor (List.mem_singleton.mp z)
      have f1 : QF o r n h1 := ⟨by rw [z1.T]; exact f.1, by rw [z1.R no]; exact f.2.1, by rw [z1.T]; exact f.2.2.1, f.2.2.2⟩
      have hv : hR h1 r (i + 1) = some (c + 2 * p (i + 1)) := by rw [z4 _ (by omega)]; exact (a3 _ (by omega)).2
      have hld : oAL 23 (some r) (nI (i + 1)) h1 = some (some (c + 2 * p (i + 1))) := by rw [hgA f1.2.2.1 (by omega) (by omega), hv]
      obtain ⟨l, cl⟩ := a5 (i + 1) (by omega)
      refine ⟨(nI (i + 1), wR h1 r i (some (c + 2 * p (i + 1)))), ?_, _, rfl, z1.tr (Ag.wR (List.mem_singleton.mpr rfl)), fun a => z2 a, fun j hj => ?_, fun j hj => ?_⟩
      · unfold fX4_dropFirst_B29
        rw [f1.row, sb, f1.len, sb]
        show (if nI n ≤ nI i + 1 then _ else _) = _
        rw [nI_1, if_neg (nI_ge (by omega) (by omega)), sb, sb]
        show (oAL 23 (some r) (nI (i + 1)) h1).bind _ = _
        rw [hld, sb]
        show (oAS 23 1 (some r) (nI i) (some (c + 2 * p (i + 1))) h1).bind _ = _
        rw [oAS_ok f1.2.2.1 (by omega) f1.2.2.2 (by rw [z1.T]; exact cl.1), sb]
      · by_cases z : j = i
        · subst z; exact hR_s _ _ _ _
        · rw [hR_n _ _ _ z]; exact z3 j (by omega)
      · rw [hR_n _ _ _ (by omega)]; exact z4 j (by omega)
    · obtain ⟨h1, rfl, z1, z2, z3, z4⟩ := hX
      have no : o ∉ [r] := fun z => hor (List.mem_singleton.mp z)
      have f1 : QF o r n h1 := ⟨by rw [z1.T]; exact f.1, by rw [z1.R no]; exact f.2.1, by rw [z1.T]; exact f.2.2.1, f.2.2.2⟩
      refine ⟨h1, ?_, z1, z2, fun j hj => z3 j (by omega)⟩
      unfold fX4_dropFirst_B29
      rw [f1.row, sb, f1.len, sb]
      show (if nI n ≤ nI (n - 1) + 1 then _ else _) = _
      rw [nI_1, if_pos (nI_le (by omega) (by omega))]
  obtain ⟨h1, k1, z1, z2, z3⟩ := key
  have no : o ∉ [r] := fun z => hor (List.mem_singleton.mp z)
  have f1 : QF o r n h1 := ⟨by rw [z1.T]; exact f.1, by rw [z1.R no]; exact f.2.1, by rw [z1.T]; exact f.2.2.1, f.2.2.2⟩
  obtain ⟨l0, c0⟩ := a5 0 (by omega)
  have e1 : oAS 23 1 (some r) (nI n - 1) (some (c + 2 * p 0)) h1 = some (wR h1 r (n - 1) (some (c + 2 * p 0))) := by
    rw [show (1 : Int32) = nI 1 from rfl, nI_sub (by omega)]
    exact oAS_ok f1.2.2.1 (by omega) f1.2.2.2 (by rw [z1.T]; exact c0.1)
  have g2 : Ag [r] h1 (wR h1 r (n - 1) (some (c + 2 * p 0))) := Ag.wR (List.mem_singleton.mpr rfl)
  have f2 : QF o r n (wR h1 r (n - 1) (some (c + 2 * p 0))) := ⟨f1.1, by rw [g2.R no]; exact f1.2.1, f1.2.2.1, f1.2.2.2⟩
  have s2 : oGI 3 1 (some o) (wR h1 r (n - 1) (some (c + 2 * p 0))) = some (nI q.length) := hgI f2.1 (by show hI h1 o 1 = _; rw [z2]; exact a1)
  have g3 : Ag [o] (wR h1 r (n - 1) (some (c + 2 * p 0))) (wI (wR h1 r (n - 1) (some (c + 2 * p 0))) o 1 (nI (q.length - 1))) := Ag.wI (List.mem_singleton.mpr rfl)
  have gg : Ag [o, r] h (wI (wR h1 r (n - 1) (some (c + 2 * p 0))) o 1 (nI (q.length - 1))) := ((z1.mono (fun a ha => by rw [List.mem_singleton.mp ha]; simp)).tr (g2.mono (fun a ha => by rw [List.mem_singleton.mp ha]; simp))).tr (g3.mono (fun a ha => by rw [List.mem_singleton.mp ha]; simp))
  refine ⟨_, fun j => if j + 1 < n then p (j + 1) else p 0, ?_, ⟨?_, ?_, fun j hj => ⟨?_, ?_⟩, fun i j hi hj e => ?_, fun j hj => ?_, fun j hj => ?_⟩, gg, ⟨f2.1, f2.2.1, f2.2.2.1, f2.2.2.2⟩⟩
  · unfold fX4_dropFirst
    rw [x.sz f, sb, if_neg (nI_nle hq (by omega)), sb, f.row, sb, f.len, sb, if_pos (nI_le a2 (by omega)), sb]
    rw [show (0 : Int32) = nI 0 from rfl, x.ld f (show 0 < n by omega), sb]
    show Option.bind (itr (fX4_dropFirst_B29 o (some (c + 2 * p 0))) FU ((0 : Int32), h)) _ = _
    rw [k1, sb, f1.row, sb, sb, f1.len, sb, e1, sb, s2, sb, show (1 : Int32) = nI 1 from rfl, nI_sub (by omega), oPI_ok f2.1, sb]
  · rw [hI_s, List.length_drop]
  · rw [List.length_drop]; omega
  · show (if j + 1 < n then p (j + 1) else p 0) < n
    split
    · rename_i w
      exact (a3 _ w).1
    · exact (a3 0 (by omega)).1
  · show hR (wR h1 r (n - 1) (some (c + 2 * p 0))) r j = some (c + 2 * (if j + 1 < n then p (j + 1) else p 0))
    by_cases w : j + 1 < n
    · rw [if_pos w, hR_n _ _ _ (by omega)]; exact z3 j w
    · rw [if_neg w, show j = n - 1 by omega, hR_s]
  · have e' : (if i + 1 < n then p (i + 1) else p 0) = (if j + 1 < n then p (j + 1) else p 0) := e
    by_cases w : i + 1 < n
    · by_cases v : j + 1 < n
      · rw [if_pos w, if_pos v] at e'
        have := a4 _ _ w v e'
        omega
      · rw [if_pos w, if_neg v] at e'
        have := a4 _ _ w (by omega) e'
        omega
    · by_cases v : j + 1 < n
      · rw [if_neg w, if_pos v] at e'
        have := a4 _ _ (by omega) v e'
        omega
      · omega
  · have hout : ∀ k, k < n → ∀ l, Cd h (c + 2 * p k) 80 l → Cd (wI (wR h1 r (n - 1) (some (c + 2 * p 0))) o 1 (nI (q.length - 1))) (c + 2 * p k) 80 l := fun k hk l hl => by
      have := (a3 k hk).1
      refine hl.ag gg ?_ ?_
      · simp only [List.mem_cons, List.not_mem_nil, or_false]; omega
      · simp only [List.mem_cons, List.not_mem_nil, or_false]; omega
    show ∃ l, Cd _ (c + 2 * (if j + 1 < n then p (j + 1) else p 0)) 80 l
    split
    · rename_i w
      obtain ⟨l, hl⟩ := a5 _ w
      exact ⟨l, hout _ w l hl⟩
    · exact ⟨l0, hout 0 (by omega) l0 c0⟩
  · rw [List.length_drop] at hj
    have hk : j + 1 < n := by omega
    show Cd _ (c + 2 * (if j + 1 < n then p (j + 1) else p 0)) 80 _
    rw [if_pos hk, qn_dr]
    have := (a3 (j + 1) hk).1
    refine (a6 (j + 1) (by omega)).ag gg ?_ ?_
    · simp only [List.mem_cons, List.not_mem_nil, or_false]; omega
    · simp only [List.mem_cons, List.not_mem_nil, or_false]; omega
end QQ

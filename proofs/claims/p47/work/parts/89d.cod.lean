/-! ===== the class's cells: rows of codes ===== -/
/-- the codes l at b (their row at b + 1, of n places) -/
def Cd (h : hp) (b n : Nat) (l : List Int32) : Prop := (hT h b).1 = 1 ∧ hR h b 0 = some (b + 1) ∧ hT h (b + 1) = (20, n) ∧ hI h b 1 = nI l.length ∧ l.length ≤ n ∧ n < 1000 ∧ Sl (hI h (b + 1)) 0 l
/-- heaps that differ at some cells alone, in what is written there -/
def Ag (as : List Nat) (h h' : hp) : Prop := hN h' = hN h ∧ h'.2.1 = h.2.1 ∧ h'.2.2.2.2 = h.2.2.2.2 ∧ ∀ a, a ∉ as → hI h' a = hI h a ∧ hR h' a = hR h a
theorem Ag.rf {as : List Nat} {h : hp} : Ag as h h := ⟨rfl, rfl, rfl, fun _ _ => ⟨rfl, rfl⟩⟩
theorem Ag.tr {as : List Nat} {h h1 h2 : hp} (x : Ag as h h1) (y : Ag as h1 h2) : Ag as h h2 := ⟨y.1.trans x.1, y.2.1.trans x.2.1, y.2.2.1.trans x.2.2.1, fun a ha => ⟨(y.2.2.2 a ha).1.trans (x.2.2.2 a ha).1, (y.2.2.2 a ha).2.trans (x.2.2.2 a ha).2⟩⟩
theorem Ag.mono {as bs : List Nat} {h h' : hp} (x : Ag as h h') (hs : ∀ a ∈ as, a ∈ bs) : Ag bs h h' := ⟨x.1, x.2.1, x.2.2.1, fun a ha => x.2.2.2 a (fun z => ha (hs a z))⟩
theorem Ag.I {as : List Nat} {h h' : hp} (x : Ag as h h') {a : Nat} (ha : a ∉ as) : hI h' a = hI h a := (x.2.2.2 a ha).1
theorem Ag.R {as : List Nat} {h h' : hp} (x : Ag as h h') {a : Nat} (ha : a ∉ as) : hR h' a = hR h a := (x.2.2.2 a ha).2
theorem Ag.T {as : List Nat} {h h' : hp} (x : Ag as h h') (a : Nat) : hT h' a = hT h a := by unfold hT; rw [x.2.1]
theorem Ag.wI {as : List Nat} {h : hp} {a k : Nat} {v : Int32} (ha : a ∈ as) : Ag as h (wI h a k v) := ⟨rfl, rfl, rfl, fun b hb => ⟨up2_ne h.2.2.1 k v (fun z => hb (by rw [z]; exact ha)), rfl⟩⟩
theorem Ag.wR {as : List Nat} {h : hp} {a k : Nat} {v : Option Nat} (ha : a ∈ as) : Ag as h (wR h a k v) := ⟨rfl, rfl, rfl, fun b hb => ⟨rfl, up2_ne h.2.2.2.1 k v (fun z => hb (by rw [z]; exact ha))⟩⟩
theorem hI_s (h : hp) (a k : Nat) (v : Int32) : hI (wI h a k v) a k = v := by
  show up2 h.2.2.1 a k v a k = v
  rw [up2_at, if_pos rfl]
theorem hI_n (h : hp) (a : Nat) {k j : Nat} (v : Int32) (hj : j ≠ k) : hI (wI h a k v) a j = hI h a j := by
  show up2 h.2.2.1 a k v a j = _
  rw [up2_at, if_neg hj]; rfl
theorem hI_o (h : hp) {a b : Nat} (k : Nat) (v : Int32) (hb : b ≠ a) : hI (wI h a k v) b = hI h b := up2_ne h.2.2.1 k v hb
theorem Cd.ag {as : List Nat} {h h' : hp} {b n : Nat} {l : List Int32} (x : Cd h b n l) (y : Ag as h h') (h1 : b ∉ as) (h2 : b + 1 ∉ as) : Cd h' b n l := by
  obtain ⟨a1, a2, a3, a4, a5, a6, a7⟩ := x
  exact ⟨by rw [y.T]; exact a1, by rw [y.R h1]; exact a2, by rw [y.T]; exact a3, by rw [y.I h1]; exact a4, a5, a6, by rw [y.I h2]; exact a7⟩
def CU (F : Option (Unit × hp)) (h : hp) (b n : Nat) (l : List Int32) : Prop := ∃ h', F = some ((), h') ∧ Cd h' b n l ∧ Ag [b, b + 1] h h'
section CO
variable {h : hp} {b n : Nat} {l : List Int32}
theorem Cd.sz (x : Cd h b n l) : oGI 0 1 (some b) h = some (nI l.length) := by
  show (if (hT h b).1 = 0 + 1 then some (hI h b 1) else none) = _
  rw [x.1, if_pos rfl, x.2.2.2.1]
theorem Cd.row (x : Cd h b n l) : oGR 0 0 (some b) h = some (some (b + 1)) := by
  show (if (hT h b).1 = 0 + 1 then some (hR h b 0) else none) = _
  rw [x.1, if_pos rfl, x.2.1]
theorem Cd.ob (x : Cd h b n l) : oOb 0 (some b) h = some b := by
  show (if (hT h b).1 = 0 + 1 then some b else none) = _
  rw [x.1, if_pos rfl]
theorem Cd.len (x : Cd h b n l) : oLen (some (b + 1)) h = some (nI n) := by
  show (if 20 ≤ (hT h (b + 1)).1 ∧ (hT h (b + 1)).1 ≤ 24 then some (nI (hT h (b + 1)).2) else none) = _
  rw [x.2.2.1, if_pos (show 20 ≤ 20 ∧ 20 ≤ 24 by decide)]
theorem Cd.ld (x : Cd h b n l) {k : Nat} (hk : k < l.length) : oIL (some (b + 1)) (nI k) h = some (ge l k) := by
  have h5 := x.2.2.2.2.1
  have h6 := x.2.2.2.2.2.1
  show (if (hT h (b + 1)).1 = 20 ∧ inb (nI k) (hT h (b + 1)).2 = true then some (hI h (b + 1) (nI k).toNatClampNeg) else none) = _
  rw [x.2.2.1, if_pos ⟨rfl, inb_nI (by show k < n; omega) (by show n < 2 ^ 31; omega)⟩, nI_clamp (by omega)]
  have := x.2.2.2.2.2.2 k hk
  rw [Nat.zero_add] at this
  rw [this]
theorem Cd.st (x : Cd h b n l) {k : Nat} (hk : k < n) (v : Int32) : oIS (some (b + 1)) (nI k) v h = some (wI h (b + 1) k v) := by
  have h6 := x.2.2.2.2.2.1
  show (if (hT h (b + 1)).1 = 20 ∧ inb (nI k) (hT h (b + 1)).2 = true then some (wI h (b + 1) (nI k).toNatClampNeg v) else none) = _
  rw [x.2.2.1, if_pos ⟨rfl, inb_nI hk (by show n < 2 ^ 31; omega)⟩, nI_clamp (by omega)]
theorem oPI_ok {ci j a : Nat} {v : Int32} (ht : (hT h a).1 = ci + 1) : oPI ci j (some a) v h = some (wI h a j v) := by
  show (if (hT h a).1 = ci + 1 then some _ else none) = _
  rw [if_pos ht]
/-- the length alone is set -/
theorem Cd.ln (x : Cd h b n l) {r : List Int32} (hr : r.length ≤ n) (hs : Sl (hI h (b + 1)) 0 r) : Cd (wI h b 1 (nI r.length)) b n r := by
  obtain ⟨a1, a2, a3, a4, a5, a6, a7⟩ := x
  exact ⟨a1, a2, a3, hI_s h b 1 _, hr, a6, by rw [hI_o h 1 _ (by omega)]; exact hs⟩
theorem c_size (x : Cd h b n l) : fX1_size b h = some (nI l.length) := by
  unfold fX1_size
  rw [x.sz, sb]
theorem c_at (x : Cd h b n l) {k : Nat} (hk : k < l.length) : fX1_at b (nI k) h = some (ge l k) := by
  have h5 := x.2.2.2.2.1
  have h6 := x.2.2.2.2.2.1
  unfold fX1_at
  rw [if_neg (nI_pos (by omega)), x.sz, sb, if_neg (nI_ge hk (by omega)), x.row, sb, x.len, sb, if_neg (nI_ge (by omega) (by omega)), sb, x.ld hk, sb]
theorem c_atN (x : Cd h b n l) {i : Int32} (hi : inb i l.length = false) : fX1_at b i h = some (-1) := by
  have h5 := x.2.2.2.2.1
  have h6 := x.2.2.2.2.2.1
  unfold fX1_at
  by_cases e : i < 0
  · rw [if_pos e]
  · rw [if_neg e, x.sz, sb]
    obtain ⟨j, j1, rfl⟩ := nI_of e
    by_cases e2 : j < l.length
    · rw [inb_nI e2 (by omega)] at hi; cases hi
    · rw [if_pos (nI_le (by omega) j1)]
theorem c_put (x : Cd h b n l) (hl : l.length < n) (v : Int32) : CU (fX1_put b v h) h b n (l ++ [v]) := by
  have h6 := x.2.2.2.2.2.1
  have y : Cd (wI h (b + 1) l.length v) b n l := by
    obtain ⟨a1, a2, a3, a4, a5, a6, a7⟩ := x
    exact ⟨a1, a2, a3, by rw [hI_o h _ _ (by omega)]; exact a4, a5, a6, Sl_eq a7 (fun k hk => hI_n h _ v (by omega))⟩
  have z := y.ln (r := l ++ [v]) (by rw [List.length_append]; exact hl) (Sl_push y.2.2.2.2.2.2 (by rw [Nat.zero_add]; exact hI_s h _ _ v) (fun k _ => rfl))
  refine ⟨_, ?_, z, (Ag.wI (by simp)).tr (Ag.wI (by simp))⟩
  unfold fX1_put
  rw [x.sz, sb, if_neg (nI_pos (by omega)), sb, x.row, sb, x.len, sb, if_neg (nI_ge hl (by omega)), sb, sb, x.st hl, sb, y.sz, sb, oPI_ok y.1, sb, nI_1, List.length_append]
  rfl
theorem c_clear (x : Cd h b n l) : CU (fX1_clear b h) h b n [] := by
  refine ⟨_, ?_, x.ln (r := []) (Nat.zero_le _) Sl_nil, Ag.wI (by simp)⟩
  unfold fX1_clear
  rw [oPI_ok x.1, sb]; rfl
theorem c_takeLast (x : Cd h b n l) (hl : 0 < l.length) : CU (fX1_takeLast b h) h b n (l.take (l.length - 1)) := by
  have h5 := x.2.2.2.2.1
  have h6 := x.2.2.2.2.2.1
  have hlen : (l.take (l.length - 1)).length = l.length - 1 := by rw [List.length_take]; omega
  refine ⟨_, ?_, x.ln (r := l.take (l.length - 1)) (by omega) (Sl_take x.2.2.2.2.2.2), Ag.wI (by simp)⟩
  unfold fX1_takeLast
  rw [x.sz, sb, if_neg (nI_nle hl (by omega)), sb, oPI_ok x.1, sb, show (1 : Int32) = nI 1 from rfl, nI_sub (by omega), hlen]
theorem c_take0 (x : Cd h b n l) (hl : l.length = 0) : fX1_takeLast b h = some ((), h) := by
  unfold fX1_takeLast
  rw [x.sz, sb, hl, if_pos (by decide)]
theorem c_copy (x : Cd h b n l) {b2 n2 : Nat} {l2 : List Int32} (y : Cd h b2 n2 l2) (hd : b + 1 < b2 ∨ b2 + 1 < b) (hl : l2.length ≤ n) : CU (fX1_copy b (some b2) h) h b n l2 := by
  have h6 := x.2.2.2.2.2.1
  have k5 := y.2.2.2.2.1
  have k6 := y.2.2.2.2.2.1
  have x0 := x.ln (r := []) (Nat.zero_le _) Sl_nil
  have key : ∃ h', itr (fX1_copy_B5 b (some b2)) FU (wI h b 1 (nI 0)) = some h' ∧ Cd h' b n l2 ∧ Ag [b, b + 1] h h' := by
    refine itr_for (R := fun h' => Cd h' b n l2 ∧ Ag [b, b + 1] h h') (fun j h' => Cd h' b n (l2.take j) ∧ Ag [b, b + 1] h h') l2.length (fun j h' hj hX => ?_) (fun h' hX => ?_) (FU_lt (by omega)) ⟨x0, Ag.wI (by simp)⟩
    · obtain ⟨z1, z2⟩ := hX
      have w := y.ag z2 (by simp; omega) (by simp; omega)
      have hlen : (l2.take j).length = j := by rw [List.length_take]; omega
      have z3 : Cd (wI h' (b + 1) j (ge l2 j)) b n (l2.take j) := by
        obtain ⟨a1, a2, a3, a4, a5, a6, a7⟩ := z1
        exact ⟨a1, a2, a3, by rw [hI_o h' _ _ (by omega)]; exact a4, a5, a6, Sl_eq a7 (fun k hk => hI_n h' _ _ (by omega))⟩
      have z4 := z3.ln (r := l2.take j ++ [ge l2 j]) (by rw [List.length_append, hlen]; show j + 1 ≤ n; omega) (Sl_push z3.2.2.2.2.2.2 (by rw [Nat.zero_add, hlen]; exact hI_s h' _ _ _) (fun k _ => rfl))
      have e1 := z1.sz
      have e3 := z3.sz
      rw [hlen] at e1 e3
      refine ⟨_, ?_, by rw [take_succ_ge hj]; exact z4, (z2.tr (Ag.wI (by simp))).tr (Ag.wI (by simp))⟩
      unfold fX1_copy_B5
      rw [e1, sb, w.sz, sb, if_neg (nI_ge hj (by omega)), sb, w.row, sb, w.len, sb, if_neg (nI_ge (by omega) (by omega)), sb, z1.row, sb, z1.len, sb, if_neg (nI_ge (by omega) (by omega)), sb, sb, sb, sb, w.ld hj, sb, z1.st (by omega), sb, e3, sb, oPI_ok z3.1, sb, nI_1, List.length_append, hlen]
      rfl
    · obtain ⟨z1, z2⟩ := hX
      have w := y.ag z2 (by simp; omega) (by simp; omega)
      rw [List.take_length] at z1
      refine ⟨h', ?_, z1, z2⟩
      unfold fX1_copy_B5
      rw [z1.sz, sb, w.sz, sb, if_pos (Int32.le_refl _)]
  obtain ⟨h', k1, k2, k3⟩ := key
  refine ⟨h', ?_, k2, k3⟩
  unfold fX1_copy
  rw [oPI_ok x.1, sb]
  show Option.bind (itr (fX1_copy_B5 b (some b2)) FU (wI h b 1 (nI 0))) _ = _
  rw [k1, sb]
theorem c_same (x : Cd h b n l) {b2 n2 : Nat} {l2 : List Int32} (y : Cd h b2 n2 l2) : fX1_isSame b (some b2) h = some (bI (decide (l = l2))) := by
  have h5 := x.2.2.2.2.1
  have h6 := x.2.2.2.2.2.1
  have k5 := y.2.2.2.2.1
  have k6 := y.2.2.2.2.2.1
  unfold fX1_isSame
  rw [x.sz, sb, y.sz, sb]
  by_cases e : l.length = l2.length
  · rw [if_pos (by rw [e])]
    have key : ∃ q, itr (fX1_isSame_B15 b (some b2) h) FU (nI 0) = some q ∧ q = (if l = l2 then Sum.inr () else Sum.inl (0 : Int32)) := by
      refine itr_brk (R := fun q => q = (if l = l2 then Sum.inr () else Sum.inl (0 : Int32))) (fun j a => a = nI j ∧ l.take j = l2.take j) l.length (fun j a hj hX => ?_) (fun a hX => ?_) (FU_lt (by omega)) ⟨rfl, rfl⟩
      · obtain ⟨rfl, h2⟩ := hX
        have pre : fX1_isSame_B15 b (some b2) h (nI j) = (if ge l j = ge l2 j then some (.inl (nI j + 1)) else some (.inr (.inl 0))) := by
          unfold fX1_isSame_B15
          rw [x.sz, sb, if_neg (nI_ge hj (by omega)), x.ob, sb, c_at x hj, sb, y.ob, sb, c_at y (by omega), sb]
        by_cases q : ge l j = ge l2 j
        · refine Or.inl ⟨nI (j + 1), by rw [pre, if_pos q, nI_1], rfl, ?_⟩
          rw [take_succ_ge hj, take_succ_ge (by omega), h2, q]
        · refine Or.inr ⟨_, by rw [pre, if_neg q], ?_⟩
          rw [if_neg (fun z => q (by rw [z]))]
      · obtain ⟨rfl, h2⟩ := hX
        refine ⟨_, ?_, rfl⟩
        unfold fX1_isSame_B15
        have : l = l2 := by rw [List.take_length, e, List.take_length] at h2; exact h2
        rw [x.sz, sb, if_pos (Int32.le_refl _), if_pos this]
    obtain ⟨q, k1, k2⟩ := key
    rw [show (0 : Int32) = nI 0 from rfl, k1, k2]
    by_cases z : l = l2
    · rw [if_pos z, decide_eq_true z]; rfl
    · rw [if_neg z, decide_eq_false z]; rfl
  · rw [if_neg (fun z => e ((nI_eq (by omega) (by omega)).mp z)), decide_eq_false (fun z => e (by rw [z]))]; rfl
/-- the gap ahead of a part -/
theorem c_gap (x : Cd h b n l) (hl : l.length < n) (p : List Int32) (hp : 0 < p.length) : ∃ h', ((oGI 0 1 (some b) h).bind fun x4 => if x4 ≤ 0 then (some h) else (oOb 0 (some b) h).bind fun b => o2 (fX1_put b (32 : Int32) h) fun _ h6 => some h6) = some h' ∧ Cd h' b n (l ++ sep l p) ∧ Ag [b, b + 1] h h' := by
  have h6 := x.2.2.2.2.2.1
  unfold sep
  rw [x.sz, sb]
  by_cases e : l.length = 0
  · rw [e, if_pos (by decide), if_pos (Or.inl rfl), List.append_nil]
    exact ⟨h, rfl, x, Ag.rf⟩
  · rw [if_neg (nI_nle (by omega) (by omega)), if_neg (fun z => z.elim e (by omega)), x.ob, sb]
    obtain ⟨h', a1, a2, a3⟩ := c_put x hl 32
    exact ⟨h', by rw [a1, o2s], a2, a3⟩
theorem c_part (x : Cd h b n l) {b2 n2 : Nat} {l2 : List Int32} (y : Cd h b2 n2 l2) (hd : b + 1 < b2 ∨ b2 + 1 < b) (hl : l.length + 1 + l2.length ≤ n) : CU (fX1_part b (some b2) h) h b n (pt l l2) := by
  have h6 := x.2.2.2.2.2.1
  have k6 := y.2.2.2.2.2.1
  have key0 : ∃ h', (if nI l2.length ≤ 0 then (some h) else (oGI 0 1 (some b) h).bind fun x4 => if x4 ≤ 0 then (some h) else (oOb 0 (some b) h).bind fun b => o2 (fX1_put b (32 : Int32) h) fun _ h6 => some h6) = some h' ∧ Cd h' b n (l ++ sep l l2) ∧ Ag [b, b + 1] h h' := by
    by_cases e : l2.length = 0
    · rw [e, if_pos (by decide)]
      unfold sep
      rw [if_pos (Or.inr e), List.append_nil]
      exact ⟨h, rfl, x, Ag.rf⟩
    · rw [if_neg (nI_nle (by omega) (by omega))]
      exact c_gap x (by omega) l2 (by omega)
  obtain ⟨h1, a1, a2, a3⟩ := key0
  have hs : (l ++ sep l l2).length ≤ l.length + 1 := by
    rw [List.length_append]
    unfold sep
    split <;> simp
  generalize hg : l ++ sep l l2 = g at *
  have key : ∃ h', itr (fX1_part_B22 b (some b2)) FU (nI 0, h1) = some h' ∧ Cd h' b n (g ++ l2) ∧ Ag [b, b + 1] h h' := by
    refine itr_for (R := fun h' => Cd h' b n (g ++ l2) ∧ Ag [b, b + 1] h h') (fun j a => ∃ h', a = (nI j, h') ∧ Cd h' b n (g ++ l2.take j) ∧ Ag [b, b + 1] h h') l2.length (fun j a hj hX => ?_) (fun a hX => ?_) (FU_lt (by omega)) ⟨h1, rfl, by rw [List.take_zero, List.append_nil]; exact a2, a3⟩
    · obtain ⟨h', rfl, z1, z2⟩ := hX
      have w := y.ag z2 (by simp; omega) (by simp; omega)
      obtain ⟨h2, c1, c2, c3⟩ := c_put z1 (by rw [List.length_append, List.length_take]; omega) (ge l2 j)
      refine ⟨(nI (j + 1), h2), ?_, h2, rfl, by rw [take_succ_ge hj, ← List.append_assoc]; exact c2, z2.tr c3⟩
      unfold fX1_part_B22
      rw [w.sz, sb, if_neg (show ¬ nI l2.length ≤ nI j from nI_ge hj (by omega))]
      show (oOb 0 (some b2) h').bind _ = _
      rw [w.ob, sb]
      show (fX1_at b2 (nI j) h').bind _ = _
      rw [c_at w hj, sb]
      show (oOb 0 (some b) h').bind _ = _
      rw [z1.ob, sb]
      show o2 (fX1_put b (ge l2 j) h') _ = _
      rw [c1, o2s]
      show some (Sum.inl (nI j + 1, h2)) = _
      rw [nI_1]
    · obtain ⟨h', rfl, z1, z2⟩ := hX
      have w := y.ag z2 (by simp; omega) (by simp; omega)
      rw [List.take_length] at z1
      refine ⟨h', ?_, z1, z2⟩
      unfold fX1_part_B22
      rw [w.sz, sb, if_pos (show nI l2.length ≤ nI l2.length from Int32.le_refl _)]
  obtain ⟨h', k1, k2, k3⟩ := key
  refine ⟨h', ?_, ?_, k3⟩
  · unfold fX1_part
    rw [y.sz, sb, a1, sb]
    show Option.bind (itr (fX1_part_B22 b (some b2)) FU (nI 0, h1)) _ = _
    rw [k1, sb]
  · unfold pt
    rw [← List.append_assoc, hg]; exact k2
/-! the texts that stand in the program -/
def txt (i : Nat) : List Int32 := strW.getD i []
theorem tx_ok {i : Nat} (hi : i < 45) : oTx i = some () := by unfold oTx; rw [if_pos hi]
theorem tx_all : ∀ i, i < 45 → (txt i).length < 100 ∧ ∀ j, j < (txt i).length → oCh (((ge (txt i) j &&& (255 : Int32)).toUInt32 % 65536).toInt32) = some () ∧ ((ge (txt i) j &&& (255 : Int32)).toUInt32 % 65536).toInt32 = ge (txt i) j := by decide +kernel
theorem tx_len {i : Nat} (hi : i < 45) : fJ0_length_8abf5 i = some (nI (txt i).length) := by
  have h1 := (tx_all i hi).1
  unfold fJ0_length_8abf5 fJ0_coder_7d493
  rw [tx_ok hi, sb, sb, sb, if_neg (by decide), sb, sb]
  show some (nI (txt i).length >>> ((0 : Int32) &&& 31)) = _
  have : ∀ n, n < 100 → nI n >>> ((0 : Int32) &&& 31) = nI n := by decide +kernel
  rw [this _ h1]
theorem tx_emp {i : Nat} (hi : i < 45) : fJ0_isEmpty_aae02 i = some (bI (decide ((txt i).length = 0))) := by
  have h1 := (tx_all i hi).1
  unfold fJ0_isEmpty_aae02
  rw [tx_ok hi, sb, sb]
  show (if nI (txt i).length = 0 then _ else _) = _
  by_cases q : (txt i).length = 0
  · rw [q, if_pos (show nI 0 = 0 from rfl), decide_eq_true rfl]; rfl
  · rw [if_neg (nI_ne0 (by omega) (by omega)), decide_eq_false q]; rfl
theorem tx_at {i : Nat} (hi : i < 45) {j : Nat} (hj : j < (txt i).length) : fJ0_charAt_5068e i (nI j) = some (ge (txt i) j) := by
  obtain ⟨h1, h2⟩ := tx_all i hi
  obtain ⟨c1, c2⟩ := h2 j hj
  unfold fJ0_charAt_5068e fJ0_isLatin1_aae02
  rw [tx_ok hi, sb, if_neg (by decide), sb, if_pos rfl, sb, if_neg (by decide), sb]
  have hT : oTA i (nI j) = some (ge (txt i) j) := by
    unfold oTA
    rw [if_pos ⟨hi, inb_nI (show j < strL i from hj) (show strL i < 2 ^ 31 by have : strL i = (txt i).length := rfl; omega)⟩, nI_clamp (by omega)]
    rfl
  have hck : fJ0_checkIndex_df160 (nI j) (nI (strL i)) = some () := by
    unfold fJ0_checkIndex_df160 fJ3_checkIndex_8e157
    rw [if_neg (nI_pos (by omega)), if_pos (show nI j < nI (strL i) from nI_lt hj (by show (txt i).length < 2 ^ 31; omega)), oRl, sb]
  unfold fJ1_charAt_3b067
  rw [tx_ok hi, sb, hck, sb, hT, sb, c1, sb, sb, c2]
  rw [c2] at c1
  rw [c1, sb]
theorem c_text (x : Cd h b n l) {i : Nat} (hi : i < 45) (hl : l.length + 1 + (txt i).length ≤ n) : CU (fX1_part_ b i h) h b n (pt l (txt i)) := by
  have h6 := x.2.2.2.2.2.1
  generalize hl2 : txt i = l2 at *
  have key0 : ∃ h', (if bI (decide (l2.length = 0)) = 0 then ((oGI 0 1 (some b) h).bind fun x4 => if x4 ≤ 0 then (some h) else (oOb 0 (some b) h).bind fun b => o2 (fX1_put b (32 : Int32) h) fun _ h6 => some h6) else some h) = some h' ∧ Cd h' b n (l ++ sep l l2) ∧ Ag [b, b + 1] h h' := by
    by_cases e : l2.length = 0
    · rw [decide_eq_true e, if_neg (by decide)]
      unfold sep
      rw [if_pos (Or.inr e), List.append_nil]
      exact ⟨h, rfl, x, Ag.rf⟩
    · rw [decide_eq_false e, if_pos bF]
      exact c_gap x (by omega) l2 (by omega)
  obtain ⟨h1, a1, a2, a3⟩ := key0
  have hs : (l ++ sep l l2).length ≤ l.length + 1 := by
    rw [List.length_append]
    unfold sep
    split <;> simp
  generalize hg : l ++ sep l l2 = g at *
  have key : ∃ h', itr (fX1_part__B22 b i) FU (nI 0, h1) = some h' ∧ Cd h' b n (g ++ l2) ∧ Ag [b, b + 1] h h' := by
    refine itr_for (R := fun h' => Cd h' b n (g ++ l2) ∧ Ag [b, b + 1] h h') (fun j a => ∃ h', a = (nI j, h') ∧ Cd h' b n (g ++ l2.take j) ∧ Ag [b, b + 1] h h') l2.length (fun j a hj hX => ?_) (fun a hX => ?_) (FU_lt (by omega)) ⟨h1, rfl, by rw [List.take_zero, List.append_nil]; exact a2, a3⟩
    · obtain ⟨h', rfl, z1, z2⟩ := hX
      obtain ⟨h2, c1, c2, c3⟩ := c_put z1 (by rw [List.length_append, List.length_take]; omega) (ge l2 j)
      refine ⟨(nI (j + 1), h2), ?_, h2, rfl, by rw [take_succ_ge hj, ← List.append_assoc]; exact c2, z2.tr c3⟩
      unfold fX1_part__B22
      rw [tx_ok hi, sb, tx_len hi, sb, hl2, if_neg (show ¬ nI l2.length ≤ nI j from nI_ge hj (by omega)), sb]
      show (fJ0_charAt_5068e i (nI j)).bind _ = _
      rw [tx_at hi (by rw [hl2]; exact hj), hl2, sb]
      show (oOb 0 (some b) h').bind _ = _
      rw [z1.ob, sb]
      show o2 (fX1_put b (ge l2 j) h') _ = _
      rw [c1, o2s]
      show some (Sum.inl (nI j + 1, h2)) = _
      rw [nI_1]
    · obtain ⟨h', rfl, z1, z2⟩ := hX
      rw [List.take_length] at z1
      refine ⟨h', ?_, z1, z2⟩
      unfold fX1_part__B22
      rw [tx_ok hi, sb, tx_len hi, sb, hl2, if_pos (show nI l2.length ≤ nI l2.length from Int32.le_refl _)]
  obtain ⟨h', k1, k2, k3⟩ := key
  refine ⟨h', ?_, ?_, k3⟩
  · unfold fX1_part_
    rw [tx_ok hi, sb, tx_emp hi, sb, hl2, a1, sb]
    show Option.bind (itr (fX1_part__B22 b i) FU (nI 0, h1)) _ = _
    rw [k1, sb]
  · unfold pt
    rw [← List.append_assoc, hg]; exact k2
theorem c_num (x : Cd h b n l) {k : Nat} (hk : k < 100) (hl : l.length + 3 ≤ n) : CU (fX1_part__ b (nI k) h) h b n (pt l (dg k)) := by
  have h6 := x.2.2.2.2.2.1
  obtain ⟨h1, a1, a2, a3⟩ := c_gap x (by omega) (dg k) (dg_pos k)
  have hs : (l ++ sep l (dg k)).length ≤ l.length + 1 := by
    rw [List.length_append]
    unfold sep
    split <;> simp
  unfold CU fX1_part__
  unfold pt
  rw [← List.append_assoc, ← Option.bind_assoc]
  have a1' : ((oGI 0 1 (some b) h).bind fun x1 => if x1 ≤ 0 then (some h) else (oOb 0 (some b) h).bind fun b => o2 (fX1_put b (32 : Int32) h) fun _ h5 => some h5) = some h1 := a1
  rw [a1', sb]
  generalize hg : l ++ sep l (dg k) = g at *
  have hq : (48 : Int32) + nI k / (10 : Int32) = nI (48 + k / 10) := by
    rw [show (10 : Int32) = nI 10 from rfl, nI_div (by omega) (by omega), show (48 : Int32) = nI 48 from rfl, nI_add]
  have hr : (48 : Int32) + (nI k - nI k / (10 : Int32) * (10 : Int32)) = nI (48 + k % 10) := by
    rw [show (10 : Int32) = nI 10 from rfl, nI_rem (by omega) (by omega), show (48 : Int32) = nI 48 from rfl, nI_add]
  unfold dg
  by_cases e : k ≤ 9
  · rw [if_pos e, if_pos (show nI k < (10 : Int32) from nI_lt (b := 10) (by omega) (by decide)), sb, show oNz (10 : Int32) = some () from rfl, sb, a2.ob, sb, hr]
    obtain ⟨h2, c1, c2, c3⟩ := c_put a2 (by omega) (nI (48 + k % 10))
    refine ⟨h2, by rw [c1, o2s], ?_, a3.tr c3⟩
    rw [show k % 10 = k by omega] at c2
    exact c2
  · rw [if_neg e, if_neg (show ¬ nI k < (10 : Int32) from nI_nlt (b := 10) (by omega) (by omega)), show oNz (10 : Int32) = some () from rfl, sb, a2.ob, sb, hq]
    obtain ⟨h2, c1, c2, c3⟩ := c_put a2 (by omega) (nI (48 + k / 10))
    rw [c1, o2s, sb, sb, c2.ob, sb, hr]
    obtain ⟨h3, d1, d2, d3⟩ := c_put c2 (by rw [List.length_append]; show g.length + 1 < n; omega) (nI (48 + k % 10))
    refine ⟨h3, by rw [d1, o2s], ?_, (a3.tr c3).tr d3⟩
    rw [List.append_assoc] at d2
    exact d2
end CO

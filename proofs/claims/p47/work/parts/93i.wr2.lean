/-! ===== the law writes a text: runs of letters, other characters, all ===== -/
section WR2
variable {h : hp} {w a : Nat} {l : List Int32}
def cpB (l : List Int32) (k : Nat) : Bool := (fw (l.drop k)).all isG && decide (1 < (fw (l.drop k)).length)
def hB (l : List Int32) (k : Nat) : Prop := k = 0 ∨ isA (ge l (k - 1)) = false
theorem bk_0 {l : List Int32} {k : Nat} (hb : hB l k) : bk l k = 0 := by
  rcases Nat.eq_zero_or_pos k with z | z
  · rw [z]; rfl
  · obtain ⟨m, rfl⟩ : ∃ m, k = m + 1 := ⟨k - 1, by omega⟩
    have h2 := hb.resolve_left (by omega)
    rw [Nat.add_sub_cancel] at h2
    show (if isA (ge l m) = true then bk l m + 1 else 0) = 0
    rw [h2, if_neg (by decide)]
theorem run_A {l : List Int32} {k j : Nat} (hj : j < (fw (l.drop k)).length) : isA (ge l (k + j)) = true ∧ k + j < l.length := by
  have h1 := fw_all hj
  have h2 := fw_le (l.drop k)
  rw [ge_drop] at h1
  rw [List.length_drop] at h2
  exact ⟨h1, by omega⟩
theorem bk_j {l : List Int32} {k : Nat} (hb : hB l k) : ∀ j, j ≤ (fw (l.drop k)).length → bk l (k + j) = j
  | 0, _ => bk_0 hb
  | j + 1, hj => by
    have ih := bk_j hb j (by omega)
    show (if isA (ge l (k + j)) = true then bk l (k + j) + 1 else 0) = j + 1
    rw [(run_A (show j < (fw (l.drop k)).length by omega)).1, if_pos rfl, ih]
theorem gsg_j {l : List Int32} {k j : Nat} (hb : hB l k) (hj : j < (fw (l.drop k)).length) : gsg l (k + j) = if cpB l k = true then (if j = 0 then 2 else 0) else 1 := by
  unfold gsg
  rw [bk_j hb j (by omega), Nat.add_sub_cancel]
  unfold cpB
  by_cases q : (fw (l.drop k)).all isG = true ∧ 1 < (fw (l.drop k)).length
  · rw [if_pos q, if_pos (show ((fw (l.drop k)).all isG && decide (1 < (fw (l.drop k)).length)) = true by rw [q.1, decide_eq_true q.2]; rfl)]
  · rw [if_neg q, if_neg (show ¬ ((fw (l.drop k)).all isG && decide (1 < (fw (l.drop k)).length)) = true from fun z => q (by simpa using z))]
theorem cap_G {l : List Int32} {k j : Nat} (hc : cpB l k = true) (hj : j < (fw (l.drop k)).length) : isG (ge l (k + j)) = true := by
  unfold cpB at hc
  simp only [Bool.and_eq_true] at hc
  have := List.all_eq_true.mp hc.1 _ (ge_mem hj)
  rw [fw_ge hj, ge_drop] at this
  exact this
/-- the first letter of a run -/
theorem cl_0 {l : List Int32} {k : Nat} (hb : hB l k) (hj : 0 < (fw (l.drop k)).length) : (if cpB l k = true then [32, 32] else []) ++ (sgL l (cpB l k) k k ++ [ptL (ge l k)]) = cl1 l k := by
  have hg := gsg_j hb hj
  rw [Nat.add_zero, if_pos rfl] at hg
  have hA := (run_A hj).1
  rw [Nat.add_zero] at hA
  unfold cl1 sgL ptL
  rcases isA_c hA with ⟨q1, q2, q3⟩ | ⟨q1, q2, q3⟩
  · have hc : cpB l k = false := by
      cases hc : cpB l k
      · rfl
      · have := cap_G hc hj
        rw [Nat.add_zero, q3] at this
        exact absurd this (by decide)
    rw [q3, q2, hc]
    show [] ++ ((if k = k ∧ 0 < k ∧ isD (ge l (k - 1)) = true ∧ ge l k ≤ 106 then [48] else []) ++ [ptsN (ge l k - 97).toNatClampNeg]) = (if (0 < k ∧ isD (ge l (k - 1)) = true) ∧ ge l k ≤ 106 then [48] else []) ++ [ptsN (ge l k - 97).toNatClampNeg]
    rw [List.nil_append]
    by_cases r : (0 < k ∧ isD (ge l (k - 1)) = true) ∧ ge l k ≤ 106
    · rw [if_pos r, if_pos (show k = k ∧ 0 < k ∧ isD (ge l (k - 1)) = true ∧ ge l k ≤ 106 from ⟨rfl, r.1.1, r.1.2, r.2⟩)]
    · rw [if_neg r, if_neg (show ¬ (k = k ∧ 0 < k ∧ isD (ge l (k - 1)) = true ∧ ge l k ≤ 106) from fun z => r ⟨⟨z.2.1, z.2.2.1⟩, z.2.2.2⟩)]
  · rw [q3, if_pos rfl, if_pos rfl, if_pos rfl, hg]
    cases cpB l k
    · rfl
    · rfl
/-- a letter further on in a run -/
theorem cl_j {l : List Int32} {k j : Nat} (hb : hB l k) (hj : j + 1 < (fw (l.drop k)).length) : sgL l (cpB l k) k (k + (j + 1)) ++ [ptL (ge l (k + (j + 1)))] = cl1 l (k + (j + 1)) := by
  have hg := gsg_j hb hj
  rw [if_neg (show ¬ j + 1 = 0 by omega)] at hg
  have hA := (run_A hj).1
  have hA2 := (run_A (show j < (fw (l.drop k)).length by omega)).1
  unfold cl1 sgL ptL
  rcases isA_c hA with ⟨q1, q2, q3⟩ | ⟨q1, q2, q3⟩
  · rw [q3, q2]
    show (if k + (j + 1) = k ∧ 0 < k ∧ isD (ge l (k - 1)) = true ∧ ge l k ≤ 106 then [48] else []) ++ [ptsN (ge l (k + (j + 1)) - 97).toNatClampNeg] = (if (0 < k + (j + 1) ∧ isD (ge l (k + (j + 1) - 1)) = true) ∧ ge l (k + (j + 1)) ≤ 106 then [48] else []) ++ [ptsN (ge l (k + (j + 1)) - 97).toNatClampNeg]
    rw [if_neg (show ¬ (k + (j + 1) = k ∧ 0 < k ∧ isD (ge l (k - 1)) = true ∧ ge l k ≤ 106) from fun z => by have := z.1; omega), if_neg (show ¬ ((0 < k + (j + 1) ∧ isD (ge l (k + (j + 1) - 1)) = true) ∧ ge l (k + (j + 1)) ≤ 106) from fun z => by
      have := z.1.2
      rw [show k + (j + 1) - 1 = k + j by omega, isA_D hA2] at this
      exact absurd this (by decide))]
  · rw [q3, if_pos rfl, if_pos rfl, if_pos rfl, hg]
    cases cpB l k
    · rfl
    · rfl
/-- what stands once j letters of a run have been written -/
def outR (l T : List Int32) (k j : Nat) : List Int32 := if j = 0 then T ++ wrtN l k ++ (if cpB l k = true then [32, 32] else []) else T ++ wrtN l (k + j)
theorem outR_s {l T : List Int32} {k j : Nat} (hb : hB l k) (hj : j < (fw (l.drop k)).length) : outR l T k j ++ (sgL l (cpB l k) k (k + j) ++ [ptL (ge l (k + j))]) = outR l T k (j + 1) := by
  unfold outR
  rw [if_neg (show ¬ j + 1 = 0 by omega)]
  rcases Nat.eq_zero_or_pos j with z | z
  · subst z
    rw [if_pos rfl, Nat.add_zero, Nat.zero_add, wrtN_s, ← cl_0 hb hj, List.append_assoc, List.append_assoc]
  · obtain ⟨i, rfl⟩ : ∃ i, j = i + 1 := ⟨j - 1, by omega⟩
    rw [if_neg (show ¬ i + 1 = 0 by omega), cl_j hb hj, show k + (i + 1 + 1) = k + (i + 1) + 1 by omega, wrtN_s, List.append_assoc]
theorem outR_len {l T : List Int32} {k j : Nat} (hl : l.length ≤ 12) (hk : k + j ≤ l.length) : (outR l T k j).length ≤ T.length + 2 * l.length + 3 := by
  have h1 := wrtN_le l (show k ≤ l.length by omega)
  have h2 := wrtN_le l hk
  unfold outR
  split
  · rw [List.length_append, List.length_append]
    split <;> simp <;> omega
  · rw [List.length_append]; omega
/-- a run of letters -/
theorem wr_runs (y : GW h w a l) (hl : l.length ≤ 12) (ht : hT h a = (20, 64)) {T : List Int32} (hT : T.length + 31 < 64) {k : Nat} (hk : k ≤ l.length) (hb : hB l k) {f : Nat → Int32} (hf : Sl f 0 (outR l T k 0)) : ∃ f', itr (fL_writes_B112 (some w) (nI l.length) (some a) (nI k) (nI (k + (fw (l.drop k)).length)) (bI (cpB l k))) FU (nI (outR l T k 0).length, nI k, sw h a f) = some (nI (outR l T k (fw (l.drop k)).length).length, sw h a f') ∧ Sl f' 0 (outR l T k (fw (l.drop k)).length) := by
  have hr := fw_le (l.drop k)
  rw [List.length_drop] at hr
  obtain ⟨r, e1, f', e2, e3⟩ := itr_for (F := fL_writes_B112 (some w) (nI l.length) (some a) (nI k) (nI (k + (fw (l.drop k)).length)) (bI (cpB l k))) (R := fun r => ∃ f', r = (nI (outR l T k (fw (l.drop k)).length).length, sw h a f') ∧ Sl f' 0 (outR l T k (fw (l.drop k)).length)) (fun j q => ∃ f', q = (nI (outR l T k j).length, nI (k + j), sw h a f') ∧ Sl f' 0 (outR l T k j)) (fw (l.drop k)).length (fun j q hj hX => by
    obtain ⟨g, rfl, hg⟩ := hX
    obtain ⟨hA, hlt⟩ := run_A hj
    have ho := outR_len (T := T) hl (show k + j ≤ l.length by omega)
    obtain ⟨g', g1, g2⟩ := wr_let y hl ht (k := k) (i := k + j) (e := k + (fw (l.drop k)).length) (by omega) (by omega) (by omega) (cpB l k) hA (by omega) hg
    rw [outR_s hb hj] at g1 g2
    exact ⟨_, g1, g', rfl, g2⟩) (fun q hX => by
    obtain ⟨g, rfl, hg⟩ := hX
    refine ⟨_, ?_, g, rfl, hg⟩
    unfold fL_writes_B112
    rw [if_pos (show nI (k + (fw (l.drop k)).length) ≤ nI (k + (fw (l.drop k)).length) from nI_le (Nat.le_refl _) (by omega))]) (fu := FU) (a := (nI (outR l T k 0).length, nI k, sw h a f)) (by unfold FU; omega) ⟨f, rfl, hf⟩
  subst e2
  exact ⟨f', e1, e3⟩
/-- another character -/
theorem wr_chr (y : GW h w a l) (hl : l.length ≤ 12) (ht : hT h a = (20, 64)) {k : Nat} (hk : k < l.length) (hA : isA (ge l k) = false) {u : List Int32} (hu : u.length + 2 < 64) {f : Nat → Int32} (hf : Sl f 0 u) : ∃ f', ((oIL (some w) (nI k) (sw h a f)).bind fun x9 =>
  (fL_isDigit x9).bind fun x10 =>
  Option.bind (α := (Int32 × hp))
  (if x10 = 0 then
  (some (nI u.length, sw h a f))
  else
  if nI k = 0 then
  ((oIS (some a) (nI u.length) (60 : Int32) (sw h a f)).bind fun h13 =>
  some (nI u.length + (1 : Int32), h13))
  else
  (oIL (some w) (nI k - (1 : Int32)) (sw h a f)).bind fun x14 =>
  (fL_isDigit x14).bind fun x15 =>
  if x15 = 0 then
  ((oIS (some a) (nI u.length) (60 : Int32) (sw h a f)).bind fun h16 =>
  some (nI u.length + (1 : Int32), h16))
  else
  some (nI u.length, sw h a f))
  fun q11 =>
  (fL_isDigit x9).bind fun x17 =>
  if x17 = 0 then
  (if x9 = (32 : Int32) then
  ((oIS (some a) q11.1 (0 : Int32) q11.2).bind fun h23 =>
  some (Sum.inl (β := Int32 × hp) (q11.1 + (1 : Int32), nI k + (1 : Int32), h23)))
  else
  if x9 = (46 : Int32) then
  ((oIS (some a) q11.1 (50 : Int32) q11.2).bind fun h22 =>
  some (.inl (q11.1 + (1 : Int32), nI k + (1 : Int32), h22)))
  else
  if x9 = (44 : Int32) then
  ((oIS (some a) q11.1 (2 : Int32) q11.2).bind fun h21 =>
  some (.inl (q11.1 + (1 : Int32), nI k + (1 : Int32), h21)))
  else
  if x9 = (63 : Int32) then
  ((oIS (some a) q11.1 (38 : Int32) q11.2).bind fun h20 =>
  some (.inl (q11.1 + (1 : Int32), nI k + (1 : Int32), h20)))
  else
  if x9 = (45 : Int32) then
  ((oIS (some a) q11.1 (36 : Int32) q11.2).bind fun h19 =>
  some (.inl (q11.1 + (1 : Int32), nI k + (1 : Int32), h19)))
  else
  (oIS (some a) q11.1 (63 : Int32) q11.2).bind fun h18 =>
  some (.inl (q11.1 + (1 : Int32), nI k + (1 : Int32), h18)))
  else
  (oNz (10 : Int32)).bind fun _ =>
  (fL_points ((x9 - (39 : Int32)) - (x9 - (39 : Int32)) / (10 : Int32) * (10 : Int32))).bind fun x24 =>
  (oIS (some a) q11.1 x24 q11.2).bind fun h25 =>
  some (.inl (q11.1 + (1 : Int32), nI k + (1 : Int32), h25))) = some (.inl (nI (u ++ cl1 l k).length, nI (k + 1), sw h a f')) ∧ Sl f' 0 (u ++ cl1 l k) := by
  have hG : isG (ge l k) = false := by unfold isA at hA; simp at hA; exact hA.2
  have hS : isS (ge l k) = false := by unfold isA at hA; simp at hA; exact hA.1
  have fin : ∀ (u' : List Int32) (f' : Nat → Int32) (v : Int32), u'.length < 64 → Sl f' 0 u' → ∃ f'', (oIS (some a) (nI u'.length) v (sw h a f')).bind (fun h20 => some (Sum.inl (β := Int32 × hp) (nI u'.length + 1, nI k + 1, h20))) = some (.inl (nI (u' ++ [v]).length, nI (k + 1), sw h a f'')) ∧ Sl f'' 0 (u' ++ [v]) := by
    intro u' f' v h1 h2
    obtain ⟨g, g1, g2⟩ := sw_push ht h1 h2 v
    exact ⟨g, by rw [g1, sb, len1 u' v, nI_1], g2⟩
  rw [y f k hk, sb, r_isD, sb]
  unfold cl1
  rw [hG, if_neg (show ¬ false = true by decide), hS, if_neg (show ¬ false = true by decide)]
  cases hD : isD (ge l k)
  · rw [if_pos (show bI false = 0 from rfl), sb, sb, if_pos (show bI false = 0 from rfl), if_neg (show ¬ false = true by decide)]
    dsimp only
    unfold sgn
    by_cases c1 : ge l k = 32
    · rw [if_pos c1, if_pos c1]
      exact fin u f 0 (by omega) hf
    · rw [if_neg c1, if_neg c1]
      by_cases c2 : ge l k = 46
      · rw [if_pos c2, if_pos c2]
        exact fin u f 50 (by omega) hf
      · rw [if_neg c2, if_neg c2]
        by_cases c3 : ge l k = 44
        · rw [if_pos c3, if_pos c3]
          exact fin u f 2 (by omega) hf
        · rw [if_neg c3, if_neg c3]
          by_cases c4 : ge l k = 63
          · rw [if_pos c4, if_pos c4]
            exact fin u f 38 (by omega) hf
          · rw [if_neg c4, if_neg c4]
            by_cases c5 : ge l k = 45
            · rw [if_pos c5, if_pos c5]
              exact fin u f 36 (by omega) hf
            · rw [if_neg c5, if_neg c5]
              exact fin u f 63 (by omega) hf
  · have hpt : fL_points ((ge l k - (39 : Int32)) - (ge l k - (39 : Int32)) / (10 : Int32) * (10 : Int32)) = some (if ge l k = 48 then 26 else ptsN (ge l k - 49).toNatClampNeg) := by
      obtain ⟨j, j1, j2⟩ := isD_nI hD
      rw [j2]
      have : ∀ j, j < 10 → fL_points ((nI (48 + j) - (39 : Int32)) - (nI (48 + j) - (39 : Int32)) / (10 : Int32) * (10 : Int32)) = some (if nI (48 + j) = 48 then 26 else ptsN (nI (48 + j) - 49).toNatClampNeg) := by decide +kernel
      exact this j j1
    have end_ : ∀ (u' : List Int32) (f' : Nat → Int32), u'.length < 64 → Sl f' 0 u' → ∃ f'', (Option.bind (some (nI u'.length, sw h a f')) fun q11 : Int32 × hp => (some (bI true)).bind fun x17 => if x17 = 0 then
(if ge l k = (32 : Int32) then
  ((oIS (some a) q11.1 (0 : Int32) q11.2).bind fun h23 =>
  some (Sum.inl (β := Int32 × hp) (q11.1 + (1 : Int32), nI k + (1 : Int32), h23)))
  else
  if ge l k = (46 : Int32) then
  ((oIS (some a) q11.1 (50 : Int32) q11.2).bind fun h22 =>
  some (.inl (q11.1 + (1 : Int32), nI k + (1 : Int32), h22)))
  else
  if ge l k = (44 : Int32) then
  ((oIS (some a) q11.1 (2 : Int32) q11.2).bind fun h21 =>
  some (.inl (q11.1 + (1 : Int32), nI k + (1 : Int32), h21)))
  else
  if ge l k = (63 : Int32) then
  ((oIS (some a) q11.1 (38 : Int32) q11.2).bind fun h20 =>
  some (.inl (q11.1 + (1 : Int32), nI k + (1 : Int32), h20)))
  else
  if ge l k = (45 : Int32) then
  ((oIS (some a) q11.1 (36 : Int32) q11.2).bind fun h19 =>
  some (.inl (q11.1 + (1 : Int32), nI k + (1 : Int32), h19)))
  else
  (oIS (some a) q11.1 (63 : Int32) q11.2).bind fun h18 =>
  some (.inl (q11.1 + (1 : Int32), nI k + (1 : Int32), h18)))
  else (oNz (10 : Int32)).bind fun _ => (fL_points ((ge l k - (39 : Int32)) - (ge l k - (39 : Int32)) / (10 : Int32) * (10 : Int32))).bind fun x24 => (oIS (some a) q11.1 x24 q11.2).bind fun h25 => some (Sum.inl (β := Int32 × hp) (q11.1 + (1 : Int32), nI k + (1 : Int32), h25))) = some (.inl (nI (u' ++ [if ge l k = 48 then 26 else ptsN (ge l k - 49).toNatClampNeg]).length, nI (k + 1), sw h a f'')) ∧ Sl f'' 0 (u' ++ [if ge l k = 48 then 26 else ptsN (ge l k - 49).toNatClampNeg]) := by
      intro u' f' h1 h2
      rw [sb, sb, if_neg (show ¬ bI true = 0 by decide), o10, sb, hpt, sb]
      exact fin u' f' _ h1 h2
    rw [if_neg (show ¬ bI true = 0 by decide), if_pos (show true = true from rfl)]
    rcases Nat.eq_zero_or_pos k with z | z
    · rw [if_pos (show nI k = 0 by rw [z]; rfl), if_neg (show ¬ (0 < k ∧ isD (ge l (k - 1)) = true) from fun w => by omega)]
      obtain ⟨g, g1, g2⟩ := sw_push ht (by omega) hf 60
      rw [g1, sb, len1 u 60, ← List.append_assoc]
      exact end_ (u ++ [60]) g (by rw [List.length_append, List.length_singleton]; omega) g2
    · rw [if_neg (show ¬ nI k = 0 from nI_ne0 z (by omega)), nI_pr z, y f (k - 1) (by omega), sb, r_isD, sb]
      cases hE : isD (ge l (k - 1))
      · rw [if_pos (show bI false = 0 from rfl), if_neg (show ¬ (0 < k ∧ false = true) by simp)]
        obtain ⟨g, g1, g2⟩ := sw_push ht (by omega) hf 60
        rw [g1, sb, len1 u 60, ← List.append_assoc]
        exact end_ (u ++ [60]) g (by rw [List.length_append, List.length_singleton]; omega) g2
      · rw [if_neg (show ¬ bI true = 0 by decide), if_pos (show 0 < k ∧ true = true from ⟨z, rfl⟩), List.nil_append]
        exact end_ u f (by omega) hf
/-- one turn -/
def hC (l : List Int32) (k : Nat) : Prop := hB l k ∨ l.length ≤ k ∨ isA (ge l k) = false
theorem wr_turn (y : GW h w a l) (hl : l.length ≤ 12) (ht : hT h a = (20, 64)) {T : List Int32} (hT : T.length + 31 < 64) {k : Nat} (hk : k < l.length) (hc : hC l k) {f : Nat → Int32} (hf : Sl f 0 (T ++ wrtN l k)) : ∃ k' f', k < k' ∧ k' ≤ l.length ∧ hC l k' ∧ fL_writes_B6 (some w) (nI l.length) (some a) (nI (T ++ wrtN l k).length, nI k, sw h a f) = some (.inl (nI (T ++ wrtN l k').length, nI k', sw h a f')) ∧ Sl f' 0 (T ++ wrtN l k') := by
  have hwl := wrtN_le l (show k ≤ l.length by omega)
  have hul : (T ++ wrtN l k).length ≤ T.length + 2 * l.length + 1 := by rw [List.length_append]; omega
  have hr := fw_le (l.drop k)
  rw [List.length_drop] at hr
  have e1 := wr_run y hl f (some a) (nI (T ++ wrtN l k).length) (nI k) (l.length - k) k 0 (by omega) FU (by unfold FU; omega)
  rw [Nat.zero_add, show nI 0 = 0 from rfl] at e1
  have hcl : (fw (l.drop k)).countP isG ≤ (fw (l.drop k)).length := List.countP_le_length
  have e2 : (if nI (k + (fw (l.drop k)).length) - nI k ≤ 1 then some (0 : Int32) else if nI ((fw (l.drop k)).countP isG) = nI (k + (fw (l.drop k)).length) - nI k then some 1 else some 0) = some (bI (cpB l k)) := by
    rw [nI_sub (show k ≤ k + (fw (l.drop k)).length by omega), Nat.add_sub_cancel_left]
    unfold cpB
    by_cases c1 : (fw (l.drop k)).length ≤ 1
    · rw [if_pos (show nI (fw (l.drop k)).length ≤ 1 from (nI_leI (by omega) (by decide)).mpr c1), show decide (1 < (fw (l.drop k)).length) = false from decide_eq_false (by omega), Bool.and_false]; rfl
    · rw [if_neg (show ¬ nI (fw (l.drop k)).length ≤ 1 from fun z => c1 ((nI_leI (by omega) (by decide)).mp z)), decide_eq_true (show 1 < (fw (l.drop k)).length by omega), Bool.and_true]
      by_cases c2 : (fw (l.drop k)).all isG = true
      · have : (fw (l.drop k)).countP isG = (fw (l.drop k)).length := List.countP_eq_length.mpr (fun x hx => List.all_eq_true.mp c2 x hx)
        rw [this, if_pos rfl, c2]; rfl
      · have : (fw (l.drop k)).countP isG ≠ (fw (l.drop k)).length := fun z => c2 (List.all_eq_true.mpr (fun x hx => List.countP_eq_length.mp z x hx))
        rw [if_neg (fun z => this ((nI_eq (by omega) (by omega)).mp z)), show (fw (l.drop k)).all isG = false by simpa using c2]; rfl
  have e3 : ∃ f1, (if bI (cpB l k) = 0 then some (nI (T ++ wrtN l k).length, sw h a f) else (oIS (some a) (nI (T ++ wrtN l k).length) 32 (sw h a f)).bind fun h6 => (oIS (some a) (nI (T ++ wrtN l k).length + 1) 32 h6).bind fun h7 => some (nI (T ++ wrtN l k).length + 2, h7)) = some (nI (outR l T k 0).length, sw h a f1) ∧ Sl f1 0 (outR l T k 0) := by
    unfold outR
    rw [if_pos rfl]
    cases cpB l k
    · rw [if_pos (show bI false = 0 from rfl), if_neg (show ¬ false = true by decide), List.append_nil]
      exact ⟨f, rfl, hf⟩
    · rw [if_neg (show ¬ bI true = 0 by decide), if_pos (show true = true from rfl)]
      obtain ⟨g, g1, g2⟩ := sw_push ht (by omega) hf 32
      obtain ⟨g', g3, g4⟩ := sw_push ht (u := T ++ wrtN l k ++ [32]) (by rw [List.length_append, List.length_singleton]; omega) g2 32
      rw [g1, sb, len1 (T ++ wrtN l k) 32, g3, sb]
      rw [List.append_assoc] at g4
      refine ⟨g', ?_, g4⟩
      congr 2
      rw [show (2 : Int32) = nI 2 from rfl, nI_add, List.length_append (bs := [32, 32])]
      rfl
  obtain ⟨f1, e3, s1⟩ := e3
  have hb : 0 < (fw (l.drop k)).length → hB l k := fun z => by
    rcases hc with c | c | c
    · exact c
    · omega
    · have := (run_A z).1
      rw [Nat.add_zero, c] at this
      exact absurd this (by decide)
  by_cases z : (fw (l.drop k)).length = 0
  · have hA : isA (ge l k) = false := by
      cases q : isA (ge l k)
      · rfl
      · rw [fw_y hk q] at z
        simp at z
    have hcp : cpB l k = false := by unfold cpB; rw [z]; simp
    have eo : outR l T k 0 = T ++ wrtN l k := by unfold outR; rw [if_pos rfl, hcp, if_neg (by decide), List.append_nil]
    rw [eo] at e3 s1
    obtain ⟨g, g1, g2⟩ := wr_chr y hl ht hk hA (show (T ++ wrtN l k).length + 2 < 64 by omega) s1
    rw [List.append_assoc, ← wrtN_s] at g1 g2
    refine ⟨k + 1, g, by omega, by omega, Or.inl (Or.inr hA), ?_, g2⟩
    unfold fL_writes_B6
    dsimp only
    rw [if_neg (show ¬ nI l.length ≤ nI k from nI_ge hk (by omega)), e1, sb]
    dsimp only
    rw [e2, sb, e3, sb]
    dsimp only
    rw [z, Nat.add_zero]
    have e4 : itr (fL_writes_B112 (some w) (nI l.length) (some a) (nI k) (nI k) (bI (cpB l k))) FU (nI (T ++ wrtN l k).length, nI k, sw h a f1) = some (nI (T ++ wrtN l k).length, sw h a f1) := by
      rw [show FU = 4999 + 1 from rfl]
      refine itr_end ?_ _
      unfold fL_writes_B112
      rw [if_pos (show nI k ≤ nI k from nI_le (Nat.le_refl _) (by omega))]
    rw [e4, sb, if_pos rfl]
    exact g1
  · obtain ⟨g, g1, g2⟩ := wr_runs y hl ht hT (show k ≤ l.length by omega) (hb (by omega)) s1
    have eo : outR l T k (fw (l.drop k)).length = T ++ wrtN l (k + (fw (l.drop k)).length) := by unfold outR; rw [if_neg z]
    rw [eo] at g1 g2
    refine ⟨k + (fw (l.drop k)).length, g, by omega, by omega, ?_, ?_, g2⟩
    · rcases Nat.lt_or_ge (k + (fw (l.drop k)).length) l.length with q | q
      · refine Or.inr (Or.inr ?_)
        have := fw_end (l.drop k) (by rw [List.length_drop]; omega)
        rw [ge_drop] at this
        exact this
      · exact Or.inr (Or.inl q)
    · unfold fL_writes_B6
      dsimp only
      rw [if_neg (show ¬ nI l.length ≤ nI k from nI_ge hk (by omega)), e1, sb]
      dsimp only
      rw [e2, sb, e3, sb]
      dsimp only
      rw [g1, sb, if_neg (fun q => z (by have := (nI_eq (by omega) (by omega)).mp q; omega))]
/-- WRITES -/
theorem r_writes (y : GW h w a l) (hl : l.length ≤ 12) (ht : hT h a = (20, 64)) {T : List Int32} (hT : T.length + 31 < 64) {f : Nat → Int32} (hf : Sl f 0 T) : ∃ f', fL_writes (some w) (nI l.length) (some a) (nI T.length) (sw h a f) = some (nI (T ++ wrt l).length, sw h a f') ∧ Sl f' 0 (T ++ wrt l) := by
  have main : ∀ (d k : Nat) (f : Nat → Int32), k + d = l.length → hC l k → Sl f 0 (T ++ wrtN l k) → ∀ fu, d + 1 ≤ fu → ∃ f', itr (fL_writes_B6 (some w) (nI l.length) (some a)) fu (nI (T ++ wrtN l k).length, nI k, sw h a f) = some (nI (T ++ wrt l).length, sw h a f') ∧ Sl f' 0 (T ++ wrt l) := by
    intro d
    induction d using Nat.strongRecOn with
    | _ d ih =>
      intro k f hk hc hf fu hfu
      obtain ⟨f1, rfl⟩ : ∃ f1, fu = f1 + 1 := ⟨fu - 1, by omega⟩
      rcases Nat.lt_or_ge k l.length with q | q
      · obtain ⟨k', g, k1, k2, k3, k4, k5⟩ := wr_turn y hl ht hT q hc hf
        rw [itr_step k4]
        exact ih (l.length - k') (by omega) k' g (by omega) k3 k5 f1 (by omega)
      · have : k = l.length := by omega
        subst this
        refine ⟨f, itr_end ?_ f1, hf⟩
        unfold fL_writes_B6
        rw [if_pos (show nI l.length ≤ nI l.length from nI_le (Nat.le_refl _) (by omega))]
        rfl
  obtain ⟨f', e1, e2⟩ := main l.length 0 f (by omega) (Or.inl (Or.inl rfl)) (by show Sl f 0 (T ++ []); rw [List.append_nil]; exact hf) FU (by unfold FU; omega)
  refine ⟨f', ?_, e2⟩
  unfold fL_writes
  rw [show T ++ wrtN l 0 = T from List.append_nil T] at e1
  rw [show (0 : Int32) = nI 0 from rfl, e1, sb]
end WR2

/-! ===== the law types ===== -/
theorem i64_n {n : Nat} (h : n < 2 ^ 31) : (nI n).toInt64 = lN n := by
  apply Int64.toInt_inj.mp
  rw [Int32.toInt_toInt64, nI_toInt h, pf_lI (by omega)]
theorem lto_s {p : Int32} {j : Nat} (h : lto p = some j) : j < 26 ∧ ptsN j = p := ⟨lto_lt h, of_decide_eq_true (List.find?_some (p := fun j => decide (ptsN j = p)) h)⟩
theorem lto_n {p : Int32} (h : lto p = none) {j : Nat} (hj : j < 26) : ptsN j ≠ p := by
  have := List.find?_eq_none.mp h j (List.mem_range.mpr hj)
  simpa using this
theorem lto_e {p : Int32} {j : Nat} (hj : j < 26) (h : ptsN j = p) : lto p = some j := by
  cases hl : lto p with
  | none => exact absurd h (lto_n hl hj)
  | some i =>
    obtain ⟨a, b⟩ := lto_s hl
    rw [ptsN_inj i a j hj (b.trans h.symm)]
section TYP
variable {B : Nat} {h : hp} {m : LY} {S : SS}
theorem lv_f {j k : Nat} {v : Int64} {a b : Nat} (hn : ¬ (a = j ∧ b = k)) : (lv m j k v).2 a b = m.2 a b := by rw [lv_2, if_neg hn]
theorem lv_s {j k : Nat} {v : Int64} : (lv m j k v).2 j k = v := by rw [lv_2, if_pos ⟨rfl, rfl⟩]
/-- what is typed at one element -/
theorem LB.tx {S' : SS} {m' : LY} {c : Nat} (x : LB S m) (hs : Sd [22, 23, 24, 38, 44] [8, 33] [] S S') (s8 : ∀ j, j ≠ c → sL S' 8 j = sL S 8 j) (cl : c < made S) (h1 : ∀ j k, j ≠ 0 → ¬ (j = 4 ∧ k = c) → m'.1 j k = m.1 j k) (h2 : ∀ k, m'.2 2 k = m.2 2 k) (h3 : ∀ k, k ≠ 2 * c → k ≠ 2 * c + 1 → m'.2 3 k = m.2 3 k) (v4 : m'.1 4 c = nI (sL S' 8 c).length) (t0 : m'.2 3 (2 * c) = lN (pkF 7 ((sL S' 8 c).take 6))) (t1 : m'.2 3 (2 * c + 1) = lN (pkF 7 ((sL S' 8 c).drop 6))) (g0 : ∀ k, k < 4 → m'.1 0 k = m.1 0 k) (g4 : m'.1 0 4 = sI S' 22 0) (g5 : sI S' 22 0 ≠ 0 → m'.1 0 5 = sI S' 23 0 ∧ m'.1 0 6 = sI S' 24 0) : LB S' m' := by
  have hm := made_cg (hs.i 0 rfl)
  refine ⟨by rw [hm, g0 0 (by decide)]; exact x.1, by rw [g0 1 (by decide), hs.i 20 rfl]; exact x.2.1, by rw [g0 2 (by decide), hs.i 21 rfl]; exact x.2.2.1, by rw [g0 3 (by decide), hs.i 25 rfl]; exact x.2.2.2.1, g4, g5, fun j hj => ?_, fun j hj hj2 => ?_⟩
  · rw [hm] at hj
    have xe := x.e hj
    by_cases q : j = c
    · subst q
      obtain ⟨b0, b1, b2, b3, b4, b5, b6, b7, b8, b9⟩ := xe
      have ep : plc S' j = plc S j := by unfold plc dpar; rw [hs.i 3 rfl, hs.2.2.2]
      have ef : fl3 S' j = fl3 S j := by unfold fl3; rw [hs.i 1 rfl, hs.i 10 rfl, hs.i 12 rfl]
      refine ⟨?_, ?_, fun z t => ?_, ?_, ?_, ?_, ?_, t0, t1, v4⟩
      · rw [h1 1 _ (by decide) (by omega), hs.i 2 rfl]; exact b0
      · rw [h1 1 _ (by decide) (by omega), hs.i 3 rfl]; exact b1
      · rw [h1 1 _ (by decide) (by omega), ep]; exact b2 z ((th_cg (hs.i 0 rfl) (hs.i 1 rfl) j).mp t)
      · rw [h1 1 _ (by decide) (by omega), ef]; exact b3
      · rw [h1 1 _ (by decide) (by omega), hs.i 13 rfl]; exact b4
      · rw [h1 1 _ (by decide) (by omega), hs.i 11 rfl]; exact b5
      · rw [h2, hs.l 6 rfl]; exact b6
    · exact xe.cg (hs.i 0 rfl) (hs.i 1 rfl) (hs.i 2 rfl) (hs.i 3 rfl) (by rw [hs.i 10 rfl]) (by rw [hs.i 11 rfl]) (by rw [hs.i 12 rfl]) (by rw [hs.i 13 rfl]) (by rw [hs.l 6 rfl]) (s8 j q) hs.2.2.2 (fun k => h1 1 _ (by decide) (by omega)) (h2 j) (h3 _ (by omega) (by omega)) (h3 _ (by omega) (by omega)) (h1 4 _ (by decide) (by omega))
  · rw [hm] at hj
    exact (x.2.2.2.2.2.2.2 j hj hj2).cg (fun k => h1 1 _ (by decide) (by omega)) (h3 _ (by omega) (by omega)) (h3 _ (by omega) (by omega)) (h1 4 _ (by decide) (by omega))
/-- the code that a letter stands for now -/
def tcS (S : SS) (j : Nat) : Int32 := if sI S 24 0 = 1 ∧ sI S 23 0 = 0 ∧ j < 10 then (if j = 9 then 48 else nI (49 + j)) else if sI S 23 0 = 1 then nI (65 + j) else nI (97 + j)
def ch0 (p : Int32) : Int32 := if p = 50 then 46 else if p = 2 then 44 else if p = 38 then 63 else if p = 36 then 45 else if p = 256 then 32 else 0
def chF (S : SS) (p : Int32) (j : Nat) : Int32 := match lto p with
  | some i => if i < j then tcS S i else ch0 p
  | none => ch0 p
theorem tc_dig : ∀ j, j < 10 → (48 : Int32) + ((nI j + (1 : Int32)) - (nI j + (1 : Int32)) / (10 : Int32) * (10 : Int32)) = if j = 9 then 48 else nI (49 + j) := by decide +kernel
theorem ty_step (q : LQ B h m) (x : LB S m) (hb : WB S) (h22 : sI S 22 0 ≠ 0) {p v4 : Int32} {c1 c2 : Option Nat} {j : Nat} (hj : j < 26) : fL_types_B69 (some (B + 90)) c1 c2 p v4 h (chF S p j, nI j) = some (.inl (chF S p (j + 1), nI (j + 1))) := by
  obtain ⟨g5, g6⟩ := x.2.2.2.2.2.1 h22
  unfold fL_types_B69
  dsimp only
  rw [if_neg (show ¬ (26 : Int32) ≤ nI j from nI_ge (b := 26) hj (by decide)), r_pts j hj, sb]
  by_cases e : ptsN j = p
  · have el := lto_e hj e
    have e1 : chF S p (j + 1) = tcS S j := by unfold chF; rw [el]; exact if_pos (Nat.lt_succ_self j)
    rw [if_pos e, e1, q.n6, g6, sb]
    unfold tcS
    rcases hb 24 (by decide) 0 with n6 | n6
    · rw [n6, if_neg (show ¬ (0 : Int32) = 1 by decide), sb, if_pos rfl, q.n5, g5, sb, if_neg (show ¬ ((0 : Int32) = 1 ∧ sI S 23 0 = 0 ∧ j < 10) from fun z => absurd z.1 (by decide))]
      by_cases n5 : sI S 23 0 = 1
      · rw [if_pos n5, if_pos n5, show (65 : Int32) = nI 65 from rfl, nI_add, nI_1, Nat.add_comm j 65]
      · rw [if_neg n5, if_neg n5, show (97 : Int32) = nI 97 from rfl, nI_add, nI_1, Nat.add_comm j 97]
    · rw [n6, if_pos (show (1 : Int32) = 1 from rfl), q.n5, g5, sb]
      rcases hb 23 (by decide) 0 with n5 | n5
      · rw [n5, if_pos (show (0 : Int32) = 0 from rfl)]
        by_cases w : j < 10
        · rw [if_neg (show ¬ (10 : Int32) ≤ nI j from nI_ge (b := 10) w (by decide)), sb, if_neg (show ¬ (1 : Int32) = 0 by decide), if_pos (show (1 : Int32) = 1 ∧ (0 : Int32) = 0 ∧ j < 10 from ⟨rfl, rfl, w⟩), o10, sb, tc_dig j w, nI_1]
        · rw [if_pos (show (10 : Int32) ≤ nI j from nI_le (a := 10) (by omega) (by omega)), sb, if_pos rfl, sb, if_neg (show ¬ (0 : Int32) = 1 by decide), if_neg (show ¬ ((1 : Int32) = 1 ∧ (0 : Int32) = 0 ∧ j < 10) from fun z => w z.2.2), if_neg (show ¬ (0 : Int32) = 1 by decide), show (97 : Int32) = nI 97 from rfl, nI_add, nI_1, Nat.add_comm j 97]
      · rw [n5, if_neg (show ¬ (1 : Int32) = 0 by decide), sb, if_pos rfl, sb, if_pos (show (1 : Int32) = 1 from rfl), if_neg (show ¬ ((1 : Int32) = 1 ∧ (1 : Int32) = 0 ∧ j < 10) from fun z => absurd z.2.1 (by decide)), if_pos (show (1 : Int32) = 1 from rfl), show (65 : Int32) = nI 65 from rfl, nI_add, nI_1, Nat.add_comm j 65]
  · rw [if_neg e, nI_1]
    congr 3
    unfold chF
    cases hl : lto p with
    | none => rfl
    | some i =>
      have : i ≠ j := fun z => e (by rw [← z]; exact (lto_s hl).2)
      show (if i < j then tcS S i else ch0 p) = if i < j + 1 then tcS S i else ch0 p
      by_cases w : i < j
      · rw [if_pos w, if_pos (by omega)]
      · rw [if_neg w, if_neg (by omega)]
theorem ty_loop (q : LQ B h m) (x : LB S m) (hb : WB S) (h22 : sI S 22 0 ≠ 0) (p v4 : Int32) (c1 c2 : Option Nat) : itr (fL_types_B69 (some (B + 90)) c1 c2 p v4 h) FU (ch0 p, 0) = some (chF S p 26) := by
  obtain ⟨r, e1, e2⟩ := itr_for (F := fL_types_B69 (some (B + 90)) c1 c2 p v4 h) (R := fun r => r = chF S p 26) (fun j a => a = (chF S p j, nI j)) 26 (fun j a hj hX => by
    subst hX
    exact ⟨_, ty_step q x hb h22 hj, rfl⟩) (fun a hX => by
    subst hX
    refine ⟨_, ?_, rfl⟩
    unfold fL_types_B69
    rw [if_pos (show (26 : Int32) ≤ nI 26 by decide)]) (fu := FU) (a := (ch0 p, 0)) (by unfold FU; omega) (by
    have : chF S p 0 = ch0 p := by
      unfold chF
      cases lto p with
      | none => rfl
      | some i => exact if_neg (Nat.not_lt_zero i)
    rw [this]; rfl)
  rw [e1, e2]
theorem take6 {l : List Int32} (c : Int32) : (l.length < 6 → l.take 6 = l ∧ l.drop 6 = [] ∧ (l ++ [c]).take 6 = l ++ [c] ∧ (l ++ [c]).drop 6 = []) ∧ (6 ≤ l.length → (l ++ [c]).take 6 = l.take 6 ∧ (l ++ [c]).drop 6 = l.drop 6 ++ [c]) := by
  refine ⟨fun q => ⟨List.take_of_length_le (by omega), List.drop_of_length_le (by omega), List.take_of_length_le (by simp; omega), List.drop_of_length_le (by simp; omega)⟩, fun q => ⟨?_, ?_⟩⟩
  · rw [List.take_append_of_le_length q]
  · rw [List.drop_append_of_le_length q]
theorem i7 (len r : Nat) (hl : len < 2 ^ 31) : nI len / (6 : Int32) = nI (len / 6) ∧ (7 : Int32) * (nI len - nI len / (6 : Int32) * (6 : Int32)) = nI (7 * (len % 6)) := by
  refine ⟨nI_div hl (by decide), ?_⟩
  rw [show (6 : Int32) = nI 6 from rfl, nI_rem hl (by decide), show (7 : Int32) = nI 7 from rfl, nI_mul]
theorem i2j (c r : Nat) : (2 : Int32) * nI c + nI r = nI (2 * c + r) := by rw [show (2 : Int32) = nI 2 from rfl, nI_mul, nI_add]
/-- one more character -/
theorem q_app (t : LT6 B h) (x : RD B (lw B h m) m S) (hC : Core S) (h22 : sI S 22 0 ≠ 0) (hl : (sL S 8 (cur S)).length < 12) {n : Nat} (n0 : 0 < n) (n7 : n < 128) (p : Int32) {S' : SS} (hs : Sd [22, 23, 24, 38, 44] [8, 33] [] S S') (s8 : ∀ j, sL S' 8 j = if j = cur S then sL S 8 (cur S) ++ [nI n] else sL S 8 j) (s22 : sI S' 22 0 = sI S 22 0) (s23 : sI S' 23 0 = if n ≤ 63 then sI S 23 0 else 0) (s24 : sI S' 24 0 = if n ≤ 63 then (if p = 256 then 0 else sI S 24 0) else 0) : ∃ m', ((some (nI (sL S 8 (cur S)).length)).bind fun x34 =>
  (oNz (6 : Int32)).bind fun _ =>
  (oJL (some (B + 93)) (((2 : Int32) * nI (cur S)) + (x34 / (6 : Int32))) (lw B h m)).bind fun x35 =>
  (some (nI (sL S 8 (cur S)).length)).bind fun x36 =>
  (oNz (6 : Int32)).bind fun _ =>
  (oJS (some (B + 93)) (((2 : Int32) * nI (cur S)) + (x34 / (6 : Int32))) (x35 ||| ((nI n).toInt64 <<< (((7 : Int32) * (x36 - x36 / (6 : Int32) * (6 : Int32))).toInt64 &&& 63))) (lw B h m)).bind fun h37 =>
  (oIL (some (B + 94)) (nI (cur S)) h37).bind fun x38 =>
  (oIS (some (B + 94)) (nI (cur S)) (x38 + (1 : Int32)) h37).bind fun h39 =>
  Option.bind (α := Int32)
  (if nI n ≤ (63 : Int32) then
  (some (0 : Int32))
  else
  some (1 : Int32))
  fun q40 =>
  Option.bind (α := Int32)
  (if q40 = 0 then
  ((oIL (some (B + 90)) (5 : Int32) h39).bind fun x44 =>
  some x44)
  else
  some (0 : Int32))
  fun q42 =>
  (oIS (some (B + 90)) (5 : Int32) q42 h39).bind fun h45 =>
  if q40 = 0 then
  (if p = (256 : Int32) then
  ((oIS (some (B + 90)) (6 : Int32) (0 : Int32) h45).bind fun h49 =>
  some (((), h49)))
  else
  (oIL (some (B + 90)) (6 : Int32) h45).bind fun x47 =>
  (oIS (some (B + 90)) (6 : Int32) x47 h45).bind fun h48 =>
  some (((), h48)))
  else
  (oIS (some (B + 90)) (6 : Int32) (0 : Int32) h45).bind fun h46 =>
  some (((), h46))) = some ((), lw B h m') ∧ LB S' m' := by
  have l10 := x.m10
  have tc := hC.c.2
  have lc := tc.lt
  have ok := x.ok8 lc
  obtain ⟨g5, g6⟩ := x.l.2.2.2.2.2.1 h22
  obtain ⟨-, -, -, -, -, -, -, b7, b8, b9⟩ := x.l.e lc
  obtain ⟨d1, d2⟩ := i7 (sL S 8 (cur S)).length 0 (by omega)
  have k2 : 2 * cur S + (sL S 8 (cur S)).length / 6 < 20 := by omega
  -- the packed characters
  have key : m.2 3 (2 * cur S + (sL S 8 (cur S)).length / 6) ||| ((nI n).toInt64 <<< ((nI (7 * ((sL S 8 (cur S)).length % 6))).toInt64 &&& 63)) = lN (pkF 7 (if (sL S 8 (cur S)).length < 6 then sL S 8 (cur S) ++ [nI n] else (sL S 8 (cur S)).drop 6 ++ [nI n])) := by
    have gen : ∀ l : List Int32, okC 7 l → l.length < 6 → lN (pkF 7 l) ||| ((nI n).toInt64 <<< ((nI (7 * l.length)).toInt64 &&& 63)) = lN (pkF 7 (l ++ [nI n])) := fun l ol ll => by
      have h1 := pkx_lt (b := 7) (by decide) ol
      have h2 : 2 ^ (7 * l.length) ≤ 2 ^ 35 := Nat.pow_le_pow_right (by decide) (by omega)
      have h3 : n * 2 ^ (7 * l.length) ≤ 127 * 2 ^ 35 := Nat.mul_le_mul (by omega) h2
      rw [i64_n (by omega), wb_shl n (by omega), g_or' rfl h1 (by omega), pk_app, nI_clamp (by omega)]
    by_cases q : (sL S 8 (cur S)).length < 6
    · obtain ⟨w1, -, -, -⟩ := (take6 (l := sL S 8 (cur S)) 0).1 q
      rw [if_pos q, Nat.div_eq_of_lt q, Nat.mod_eq_of_lt q, Nat.add_zero, b7, w1]
      exact gen _ ok q
    · have e1 : (sL S 8 (cur S)).length / 6 = 1 := by omega
      have e2 : (sL S 8 (cur S)).length % 6 = ((sL S 8 (cur S)).drop 6).length := by rw [List.length_drop]; omega
      rw [if_neg q, e1, e2, b8]
      exact gen _ (okC_drop ok) (by rw [List.length_drop]; omega)
  rw [sb, show oNz (6 : Int32) = some () from rfl, sb, d1, i2j, x.q.t k2, sb, sb, sb]
  rw [d1] at d2
  rw [d1, d2, key, t.pt k2, sb]
  have r4 : ∀ v, oIL (some (B + 94)) (nI (cur S)) (lw B h (lv m 3 (2 * cur S + (sL S 8 (cur S)).length / 6) v)) = some (nI (sL S 8 (cur S)).length) := fun v => by
    rw [(t.lq _).mt (by omega)]; exact congrArg some b9
  rw [r4, sb, t.pm (by omega), sb]
  generalize hV : lN (pkF 7 (if (sL S 8 (cur S)).length < 6 then sL S 8 (cur S) ++ [nI n] else (sL S 8 (cur S)).drop 6 ++ [nI n])) = V
  have fin : ∀ a5 a6, a5 = sI S' 23 0 → a6 = sI S' 24 0 → LB S' (lu (lu (lu (lv m 3 (2 * cur S + (sL S 8 (cur S)).length / 6) V) 4 (cur S) (nI (sL S 8 (cur S)).length + 1)) 0 5 a5) 0 6 a6) := by
    intro a5 a6 z5 z6
    have e8 : sL S' 8 (cur S) = sL S 8 (cur S) ++ [nI n] := by rw [s8, if_pos rfl]
    refine x.l.tx (c := cur S) hs (fun j hj => by rw [s8, if_neg hj]) lc (fun j k hj hk => ?_) (fun k => ?_) (fun k hk1 hk2 => ?_) ?_ ?_ ?_ (fun k hk => ?_) ?_ (fun z => ⟨?_, ?_⟩)
    · rw [lu_f (by omega), lu_f (by omega), lu_f (by omega)]; rfl
    · show (lv m 3 (2 * cur S + (sL S 8 (cur S)).length / 6) V).2 2 k = _
      rw [lv_f (by omega)]
    · show (lv m 3 (2 * cur S + (sL S 8 (cur S)).length / 6) V).2 3 k = _
      rw [lv_f (by omega)]
    · rw [lu_f (by omega), lu_f (by omega), lu_s, e8, nI_1, List.length_append]; rfl
    · show (lv m 3 (2 * cur S + (sL S 8 (cur S)).length / 6) V).2 3 _ = _
      rw [e8]
      by_cases q : (sL S 8 (cur S)).length < 6
      · obtain ⟨w1, w2, w3, w4⟩ := (take6 (l := sL S 8 (cur S)) (nI n)).1 q
        rw [Nat.div_eq_of_lt q, Nat.add_zero, lv_s, ← hV, if_pos q, w3]
      · obtain ⟨w1, w2⟩ := (take6 (l := sL S 8 (cur S)) (nI n)).2 (by omega)
        rw [lv_f (by omega), w1]; exact b7
    · show (lv m 3 (2 * cur S + (sL S 8 (cur S)).length / 6) V).2 3 _ = _
      rw [e8]
      by_cases q : (sL S 8 (cur S)).length < 6
      · obtain ⟨w1, w2, w3, w4⟩ := (take6 (l := sL S 8 (cur S)) (nI n)).1 q
        rw [lv_f (by omega), w4, ← w2]; exact b8
      · obtain ⟨w1, w2⟩ := (take6 (l := sL S 8 (cur S)) (nI n)).2 (by omega)
        have e1 : (sL S 8 (cur S)).length / 6 = 1 := by omega
        rw [e1, lv_s, ← hV, if_neg q, w2]
    · rw [lu_f (by omega), lu_f (by omega), lu_f (by omega)]; rfl
    · rw [lu_f (by omega), lu_f (by omega), lu_f (by omega), s22]; exact x.l.2.2.2.2.1
    · rw [lu_f (by omega), lu_s]; exact z5
    · rw [lu_s]; exact z6
  by_cases q : n ≤ 63
  · rw [if_pos q] at s23 s24
    rw [if_pos (show nI n ≤ (63 : Int32) from nI_le (b := 63) q (by decide)), sb, if_pos rfl, (t.lq _).n5, lu_f (by omega), sb, sb, t.pn5, sb, if_pos rfl]
    by_cases w : p = 256
    · rw [if_pos w] at s24
      rw [if_pos w, t.pn6, sb]
      exact ⟨_, rfl, fin _ _ (by rw [s23]; exact g5) s24.symm⟩
    · rw [if_neg w] at s24
      rw [if_neg w, (t.lq _).n6, lu_f (by omega), lu_f (by omega), sb, t.pn6, sb]
      exact ⟨_, rfl, fin _ _ (by rw [s23]; exact g5) (by rw [s24]; exact g6)⟩
  · rw [if_neg q] at s23 s24
    rw [if_neg (show ¬ nI n ≤ (63 : Int32) from nI_ge (a := 63) (by omega) (by omega)), sb, if_neg (show ¬ (1 : Int32) = 0 by decide), sb, t.pn5, sb, if_neg (show ¬ (1 : Int32) = 0 by decide), t.pn6, sb]
    exact ⟨_, rfl, fin _ _ s23.symm s24.symm⟩
end TYP

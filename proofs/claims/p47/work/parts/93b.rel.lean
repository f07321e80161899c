/-! ===== the law's arrays bear the desk ===== -/
def fl3 (S : SS) (j : Nat) : Nat := if sI S 1 j = 0 then 0 else 1 + (if sI S 12 j = 0 then 0 else 2) + (if sI S 10 j = 0 then 0 else 4)
def pkF (b : Nat) : List Int32 → Nat
  | [] => 0
  | c :: l => c.toNatClampNeg + 2 ^ b * pkF b l
def okC (b : Nat) (l : List Int32) : Prop := ∀ c ∈ l, ∃ n, 0 < n ∧ n < 2 ^ b ∧ c = nI n
def LE (S : SS) (m : LY) (j : Nat) : Prop := m.1 1 (6 * j) = sI S 2 j ∧ m.1 1 (6 * j + 1) = sI S 3 j ∧ (0 < j → th S j → m.1 1 (6 * j + 2) = nI (plc S j)) ∧ m.1 1 (6 * j + 3) = nI (fl3 S j) ∧ m.1 1 (6 * j + 4) = sI S 13 j + 1 ∧ m.1 1 (6 * j + 5) = sI S 11 j ∧ m.2 2 j = lN (pkF 20 (sL S 6 j)) ∧ m.2 3 (2 * j) = lN (pkF 7 ((sL S 8 j).take 6)) ∧ m.2 3 (2 * j + 1) = lN (pkF 7 ((sL S 8 j).drop 6)) ∧ m.1 4 j = nI (sL S 8 j).length
/-- what this law's runs keep of the desk: few elements, no regions, short names, rules, typed characters -/
def VK (S : SS) : Prop := made S ≤ 10 ∧ ∀ j, j < made S → (∃ k, k ≤ 6 ∧ sI S 2 j = nI k) ∧ (∃ r, r ≤ 3 ∧ sI S 13 j + 1 = nI r) ∧ (sL S 6 j).length ≤ 3 ∧ okC 20 (sL S 6 j) ∧ okC 7 (sL S 8 j)
def LZ (m : LY) (j : Nat) : Prop := m.1 1 (6 * j + 4) = 0 ∧ m.1 1 (6 * j + 5) = 0 ∧ m.1 4 j = 0 ∧ m.2 3 (2 * j) = 0 ∧ m.2 3 (2 * j + 1) = 0
def LB (S : SS) (m : LY) : Prop := m.1 0 0 = nI (made S) ∧ m.1 0 1 = sI S 20 0 ∧ m.1 0 2 = sI S 21 0 + 1 ∧ m.1 0 3 = sI S 25 0 ∧ m.1 0 4 = sI S 22 0 ∧ (sI S 22 0 ≠ 0 → m.1 0 5 = sI S 23 0 ∧ m.1 0 6 = sI S 24 0) ∧ (∀ j, j < made S → LE S m j) ∧ ∀ j, made S ≤ j → j < 10 → LZ m j
/-- all that the law's reading stands on -/
def RD (B : Nat) (h : hp) (m : LY) (S : SS) : Prop := LQ B h m ∧ LB S m ∧ WT S ∧ WB S ∧ VK S
theorem i_add1 {x : Int32} : x + 1 = 0 ↔ x = -1 := by
  constructor
  · intro e
    have : x + 1 - 1 = 0 - 1 := by rw [e]
    rwa [Int32.add_sub_cancel] at this
  · rintro rfl; decide
theorem fl_1 (S : SS) (j : Nat) : nI (fl3 S j) &&& (1 : Int32) = if sI S 1 j = 0 then 0 else 1 := by
  unfold fl3
  by_cases a : sI S 1 j = 0
  · rw [if_pos a, if_pos a]; decide
  · rw [if_neg a, if_neg a]
    by_cases b : sI S 12 j = 0 <;> by_cases c : sI S 10 j = 0
    · rw [if_pos b, if_pos c]; decide
    · rw [if_pos b, if_neg c]; decide
    · rw [if_neg b, if_pos c]; decide
    · rw [if_neg b, if_neg c]; decide
theorem fl_2 (S : SS) {j : Nat} (a : sI S 1 j ≠ 0) : nI (fl3 S j) &&& (2 : Int32) = if sI S 12 j = 0 then 0 else 2 := by
  unfold fl3
  rw [if_neg a]
  by_cases b : sI S 12 j = 0 <;> by_cases c : sI S 10 j = 0
  · rw [if_pos b, if_pos c, if_pos b]; decide
  · rw [if_pos b, if_neg c, if_pos b]; decide
  · rw [if_neg b, if_pos c, if_neg b]; decide
  · rw [if_neg b, if_neg c, if_neg b]; decide
theorem fl_4 (S : SS) {j : Nat} (a : sI S 1 j ≠ 0) : nI (fl3 S j) &&& (4 : Int32) = if sI S 10 j = 0 then 0 else 4 := by
  unfold fl3
  rw [if_neg a]
  by_cases b : sI S 12 j = 0 <;> by_cases c : sI S 10 j = 0
  · rw [if_pos b, if_pos c, if_pos c]; decide
  · rw [if_pos b, if_neg c, if_neg c]; decide
  · rw [if_neg b, if_pos c, if_pos c]; decide
  · rw [if_neg b, if_neg c, if_neg c]; decide
section RDs
variable {B : Nat} {h : hp} {m : LY} {S : SS}
theorem RD.q (x : RD B h m S) : LQ B h m := x.1
theorem RD.l (x : RD B h m S) : LB S m := x.2.1
theorem RD.t (x : RD B h m S) : WT S := x.2.2.1
theorem RD.b (x : RD B h m S) : WB S := x.2.2.2.1
theorem RD.k (x : RD B h m S) : VK S := x.2.2.2.2
theorem RD.m10 (x : RD B h m S) : made S ≤ 10 := x.k.1
theorem LB.e (x : LB S m) {j : Nat} (hj : j < made S) : LE S m j := x.2.2.2.2.2.2.1 j hj
theorem RD.n0 (x : RD B h m S) : oIL (some (B + 90)) (0 : Int32) h = some (nI (made S)) := by rw [x.q.n0, x.l.1]
theorem RD.kd (x : RD B h m S) {j : Nat} (hj : j < made S) : oIL (some (B + 91)) ((6 : Int32) * nI j) h = some (sI S 2 j) := by
  rw [x.q.e0 (Nat.lt_of_lt_of_le hj x.m10), (x.l.e hj).1]
theorem RD.pr (x : RD B h m S) {j : Nat} (hj : j < made S) : oIL (some (B + 91)) ((6 : Int32) * nI j + (1 : Int32)) h = some (sI S 3 j) := by
  rw [x.q.e1 (Nat.lt_of_lt_of_le hj x.m10), (x.l.e hj).2.1]
theorem RD.pl (x : RD B h m S) {j : Nat} (h0 : 0 < j) (hj : th S j) : oIL (some (B + 91)) ((6 : Int32) * nI j + (2 : Int32)) h = some (nI (plc S j)) := by
  rw [x.q.e2 (Nat.lt_of_lt_of_le hj.lt x.m10), (x.l.e hj.lt).2.2.1 h0 hj]
theorem RD.fg (x : RD B h m S) {j : Nat} (hj : j < made S) : oIL (some (B + 91)) ((6 : Int32) * nI j + (3 : Int32)) h = some (nI (fl3 S j)) := by
  rw [x.q.e3 (Nat.lt_of_lt_of_le hj x.m10), (x.l.e hj).2.2.2.1]
theorem RD.rl (x : RD B h m S) {j : Nat} (hj : j < made S) : oIL (some (B + 91)) ((6 : Int32) * nI j + (4 : Int32)) h = some (sI S 13 j + 1) := by
  rw [x.q.e4 (Nat.lt_of_lt_of_le hj x.m10), (x.l.e hj).2.2.2.2.1]
theorem RD.ps (x : RD B h m S) {j : Nat} (hj : j < made S) : oIL (some (B + 91)) ((6 : Int32) * nI j + (5 : Int32)) h = some (sI S 11 j) := by
  rw [x.q.e5 (Nat.lt_of_lt_of_le hj x.m10), (x.l.e hj).2.2.2.2.2.1]
theorem RD.ct (x : RD B h m S) {j : Nat} (hj : j < made S) : oIL (some (B + 94)) (nI j) h = some (nI (sL S 8 j).length) := by
  rw [x.q.mt (Nat.lt_of_lt_of_le hj x.m10), (x.l.e hj).2.2.2.2.2.2.2.2.2]
theorem RD.nm (x : RD B h m S) {j : Nat} (hj : j < made S) : oJL (some (B + 92)) (nI j) h = some (lN (pkF 20 (sL S 6 j))) := by
  rw [x.q.c (Nat.lt_of_lt_of_le hj x.m10), (x.l.e hj).2.2.2.2.2.2.1]
theorem RD.p0 (x : RD B h m S) : sI S 3 0 = -1 := x.t.pw.2.2.2.1
theorem RD.pp (x : RD B h m S) {j : Nat} (h0 : 0 < j) (hj : j < made S) : sI S 3 j = nI (dpar S j) ∧ dpar S j < j := ⟨(x.t.pw.par h0 hj).2, (x.t.pw.par h0 hj).1⟩
theorem RD.at {h' : hp} (x : RD B h m S) (q : LQ B h' m) : RD B h' m S := ⟨q, x.2⟩
theorem RD.sw (x : RD B h m S) {a : Nat} (ha : B + 95 ≤ a) (f : Nat → Int32) : RD B (sw h a f) m S := x.at (x.q.sw ha f)
/-! there, hidden, shown, level -/
theorem r_there (x : RD B h m S) {j : Nat} (hj : j < made S) : fL_isThere (some (B + 91)) (nI j) h = some (bI (decide (sI S 1 j ≠ 0))) := by
  unfold fL_isThere
  rw [x.fg hj, sb, fl_1]
  by_cases q : sI S 1 j = 0
  · rw [if_pos q, if_neg (by decide)]
    simp [bI, q]
  · rw [if_neg q, if_pos rfl]
    simp [bI, q]
theorem r_thereY (x : RD B h m S) {j : Nat} (hj : th S j) : fL_isThere (some (B + 91)) (nI j) h = some 1 := by
  rw [r_there x hj.lt]
  simp [bI, hj.2]
theorem r_thereN (x : RD B h m S) {j : Nat} (hj : j < made S) (hn : ¬ th S j) : fL_isThere (some (B + 91)) (nI j) h = some 0 := by
  rw [r_there x hj]
  have : sI S 1 j = 0 := Classical.byContradiction fun z => hn ⟨hj, z⟩
  simp [bI, this]
theorem r_hid (x : RD B h m S) {j : Nat} (hj : th S j) : fL_isHidden (some (B + 91)) (nI j) h = some (bI (hid S j)) := by
  unfold fL_isHidden
  rw [x.fg hj.lt, sb, fl_2 S hj.2]
  unfold hid
  by_cases q : sI S 12 j = 0
  · rw [if_pos q, if_neg (by decide)]
    simp [bI, q]
  · rw [if_neg q, if_pos rfl]
    simp [bI, q]
theorem r_shown_l (x : RD B h m S) : ∀ (n j : Nat), j < n → th S j → ∀ fu, j + 3 ≤ fu → itr (fL_isShown_B8 (some (B + 91)) h) fu (nI j, 1) = some (bI (shn S j)) := by
  intro n
  induction n with
  | zero => intro j hj; exact absurd hj (Nat.not_lt_zero j)
  | succ n ih =>
    intro j hj ht fu hfu
    obtain ⟨f1, rfl⟩ : ∃ f1, fu = f1 + 1 := ⟨fu - 1, by omega⟩
    have l10 := Nat.lt_of_lt_of_le ht.lt x.m10
    have e : fL_isShown_B8 (some (B + 91)) h (nI j, 1) = some (.inl (sI S 3 j, if hid S j = true then 0 else 1)) := by
      unfold fL_isShown_B8
      rw [if_neg (nI_pos (by omega)), if_neg (show ¬ (1 : Int32) = 0 by decide), r_hid x ht, sb, x.pr ht.lt]
      cases hid S j
      · rw [if_pos (show bI false = 0 from rfl)]; rfl
      · rw [if_neg (show ¬ bI true = 0 by decide)]; rfl
    rw [itr_step e]
    rcases Nat.eq_zero_or_pos j with z | z
    · subst z
      rw [x.p0]
      obtain ⟨f2, rfl⟩ : ∃ f2, f1 = f2 + 1 := ⟨f1 - 1, by omega⟩
      have e2 : fL_isShown_B8 (some (B + 91)) h (-1, if hid S 0 = true then 0 else 1) = some (.inr (if hid S 0 = true then 0 else 1)) := by
        unfold fL_isShown_B8
        rw [if_pos (show (-1 : Int32) < 0 by decide)]
      rw [itr_end e2, shn_0 x.t.pw]
      cases hid S 0 <;> rfl
    · rw [(x.pp z ht.lt).1, shn_s x.t.pw z ht.lt]
      have hp := x.t.up z ht
      have hlt := (x.pp z ht.lt).2
      cases hh : hid S j
      · rw [if_neg (by decide)]
        rw [ih (dpar S j) (by omega) hp.1 f1 (by omega)]
        rfl
      · obtain ⟨f2, rfl⟩ : ∃ f2, f1 = f2 + 1 := ⟨f1 - 1, by omega⟩
        have e2 : fL_isShown_B8 (some (B + 91)) h (nI (dpar S j), if true = true then 0 else 1) = some (.inr 0) := by
          unfold fL_isShown_B8
          rw [if_neg (nI_pos (by omega)), if_pos (if_pos rfl), if_pos rfl]
        rw [itr_end e2]
        rfl
theorem r_shown (x : RD B h m S) {j : Nat} (hj : th S j) : fL_isShown (some (B + 91)) (nI j) h = some (bI (shn S j)) := by
  have l10 := Nat.lt_of_lt_of_le hj.lt x.m10
  unfold fL_isShown
  rw [r_thereY x hj, sb, r_shown_l x (j + 1) j (by omega) hj FU (by unfold FU; omega), sb]
  cases shn S j <;> rfl
theorem r_shownN (x : RD B h m S) {j : Nat} (hj : j < made S) (hn : ¬ th S j) : fL_isShown (some (B + 91)) (nI j) h = some 0 := by
  have l10 := Nat.lt_of_lt_of_le hj x.m10
  unfold fL_isShown
  rw [r_thereN x hj hn, sb]
  have e2 : fL_isShown_B8 (some (B + 91)) h (nI j, 0) = some (.inr 0) := by
    unfold fL_isShown_B8
    rw [if_neg (nI_pos (by omega)), if_pos rfl]
  rw [show FU = 4999 + 1 from rfl, itr_end e2]
  rfl
theorem r_lev_l (x : RD B h m S) : ∀ (n j : Nat), j < n → j < made S → ∀ fu, j + 2 ≤ fu → ∃ r, itr (fL_level_B2 (some (B + 91)) h) fu (nI j) = some r ∧ ((r = -1 ∧ lvl S j = 1) ∨ ∃ i, i < made S ∧ r = nI i ∧ sI S 13 i ≠ -1 ∧ lvl S j = sI S 13 i) := by
  intro n
  induction n with
  | zero => intro j hj; exact absurd hj (Nat.not_lt_zero j)
  | succ n ih =>
    intro j hj ht fu hfu
    obtain ⟨f1, rfl⟩ : ∃ f1, fu = f1 + 1 := ⟨fu - 1, by omega⟩
    have l10 := Nat.lt_of_lt_of_le ht x.m10
    by_cases q : sI S 13 j = -1
    · have e : fL_level_B2 (some (B + 91)) h (nI j) = some (.inl (sI S 3 j)) := by
        unfold fL_level_B2
        rw [if_neg (nI_pos (by omega)), x.rl ht, sb, if_pos (i_add1.mpr q), x.pr ht, sb]
      rw [itr_step e]
      rcases Nat.eq_zero_or_pos j with z | z
      · subst z
        rw [x.p0]
        obtain ⟨f2, rfl⟩ : ∃ f2, f1 = f2 + 1 := ⟨f1 - 1, by omega⟩
        have e2 : fL_level_B2 (some (B + 91)) h (-1) = some (.inr (-1)) := by
          unfold fL_level_B2
          rw [if_pos (by decide)]
        exact ⟨-1, itr_end e2 _, Or.inl ⟨rfl, by rw [lvl_0 x.t.pw, if_pos q]⟩⟩
      · rw [(x.pp z ht).1, lvl_s x.t.pw z ht, if_pos q]
        have hlt := (x.pp z ht).2
        exact ih (dpar S j) (by omega) (by omega) f1 (by omega)
    · have e : fL_level_B2 (some (B + 91)) h (nI j) = some (.inr (nI j)) := by
        unfold fL_level_B2
        rw [if_neg (nI_pos (by omega)), x.rl ht, sb, if_neg (fun z => q (i_add1.mp z))]
      refine ⟨nI j, itr_end e _, Or.inr ⟨j, ht, rfl, q, ?_⟩⟩
      rcases Nat.eq_zero_or_pos j with z | z
      · subst z
        rw [lvl_0 x.t.pw, if_neg q]
      · rw [lvl_s x.t.pw z ht, if_neg q]
theorem r_lev (x : RD B h m S) {j : Nat} (hj : j < made S) : fL_level (some (B + 91)) (nI j) h = some (lvl S j) := by
  have l10 := Nat.lt_of_lt_of_le hj x.m10
  obtain ⟨r, h1, h2⟩ := r_lev_l x (j + 1) j (by omega) hj FU (by unfold FU; omega)
  unfold fL_level
  rw [h1, sb]
  rcases h2 with ⟨rfl, h2⟩ | ⟨i, i1, rfl, i2, i3⟩
  · rw [if_neg (by decide), h2]
  · have := x.m10
    rw [if_pos (nI_pos' (by omega)), x.rl i1, sb, i3, Int32.add_sub_cancel]
/-- levels are 0, 1 or 2 -/
theorem lvl_rng (hk : VK S) (hW : PW S) {j : Nat} (hj : j < made S) : lvl S j = 0 ∨ lvl S j = 1 ∨ lvl S j = 2 := by
  refine an_ind hW (X := fun j => lvl S j = 0 ∨ lvl S j = 1 ∨ lvl S j = 2) ?_ ?_ j hj
  · rw [lvl_0 hW]
    by_cases q : sI S 13 0 = -1
    · rw [if_pos q]; exact Or.inr (Or.inl rfl)
    · rw [if_neg q]
      obtain ⟨r, r1, r2⟩ := (hk.2 0 hW.1).2.1
      have e : sI S 13 0 = nI r - 1 := by rw [← r2, Int32.add_sub_cancel]
      rcases (show r = 0 ∨ r = 1 ∨ r = 2 ∨ r = 3 by omega) with rfl | rfl | rfl | rfl
      · exact absurd (by rw [e]; decide) q
      · exact Or.inl (by rw [e]; decide)
      · exact Or.inr (Or.inl (by rw [e]; decide))
      · exact Or.inr (Or.inr (by rw [e]; decide))
  · intro i i0 i1 ih
    rw [lvl_s hW i0 i1]
    by_cases q : sI S 13 i = -1
    · rw [if_pos q]; exact ih
    · rw [if_neg q]
      obtain ⟨r, r1, r2⟩ := (hk.2 i i1).2.1
      have e : sI S 13 i = nI r - 1 := by rw [← r2, Int32.add_sub_cancel]
      rcases (show r = 0 ∨ r = 1 ∨ r = 2 ∨ r = 3 by omega) with rfl | rfl | rfl | rfl
      · exact absurd (by rw [e]; decide) q
      · exact Or.inl (by rw [e]; decide)
      · exact Or.inr (Or.inl (by rw [e]; decide))
      · exact Or.inr (Or.inr (by rw [e]; decide))
end RDs

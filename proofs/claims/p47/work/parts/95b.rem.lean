/-! ===== the law takes an element away ===== -/
section REM
variable {B : Nat} {h : hp} {m : LY} {S : SS}
theorem rem_climb {y : Nat} (hP : PW S) (h10 : made S ≤ 10) (h0 : 0 < y) (hy : y < made S) (q : ∀ j, j < made S → oIL (some (B + 91)) ((6 : Int32) * nI j + (1 : Int32)) h = some (sI S 3 j)) (c0 : Option Nat) (v3 v4 v5 v6 : Int32) : ∀ (n i : Nat), i < n → i < made S → ∀ fu, i + 2 ≤ fu → itr (fL_removes_B38 c0 (some (B + 91)) (nI y) v3 v4 v5 v6 h) fu (nI i) = some (if wthn S i y = true then nI y else -1) := by
  intro n
  induction n with
  | zero => intro i hi; exact absurd hi (Nat.not_lt_zero i)
  | succ n ih =>
    intro i hi hl fu hfu
    obtain ⟨f1, rfl⟩ : ∃ f1, fu = f1 + 1 := ⟨fu - 1, by omega⟩
    by_cases e : i = y
    · subst e
      have w : wthn S i i = true := by
        unfold wthn
        rw [an_s hP h0 hl]
        simp
      rw [w, if_pos rfl]
      refine itr_end ?_ f1
      unfold fL_removes_B38
      rw [if_neg (nI_pos (by omega)), if_pos rfl]
    · have st : fL_removes_B38 c0 (some (B + 91)) (nI y) v3 v4 v5 v6 h (nI i) = some (.inl (sI S 3 i)) := by
        unfold fL_removes_B38
        rw [if_neg (nI_pos (by omega)), if_neg (fun z => e ((nI_eq (by omega) (by omega)).mp z)), q i hl, sb]
      rw [itr_step st]
      rcases Nat.eq_zero_or_pos i with z | z
      · subst z
        have w : wthn S 0 y = false := by
          unfold wthn
          rw [an_0 hP]
          simp
          omega
        rw [w, if_neg (show ¬ false = true by decide), hP.2.2.2.1]
        obtain ⟨f2, rfl⟩ : ∃ f2, f1 = f2 + 1 := ⟨f1 - 1, by omega⟩
        refine itr_end ?_ f2
        unfold fL_removes_B38
        rw [if_pos (show (-1 : Int32) < 0 by decide)]
      · have pw := hP.par z hl
        have w : wthn S i y = wthn S (dpar S i) y := by
          unfold wthn
          rw [an_s hP z hl]
          simp [Ne.symm e]
        rw [w, pw.2]
        exact ih (dpar S i) (by have := pw.1; omega) (by have := pw.1; omega) f1 (by have := pw.1; omega)
theorem r_thr {j : Nat} (q : oIL (some (B + 91)) ((6 : Int32) * nI j + (3 : Int32)) h = some (nI (fl3 S j))) : fL_isThere (some (B + 91)) (nI j) h = some (bI (decide (sI S 1 j ≠ 0))) := by
  unfold fL_isThere
  rw [q, sb, fl_1]
  by_cases q : sI S 1 j = 0
  · rw [if_pos q, if_neg (by decide)]
    simp [bI, q]
  · rw [if_neg q, if_pos rfl]
    simp [bI, q]
/-- flags of those that go, from above i on -/
def clrM (S : SS) (y : Nat) (m : LY) (i : Nat) : LY := (fun a b => if a = 1 ∧ b % 6 = 3 ∧ i < b / 6 ∧ b / 6 < made S ∧ wthn S (b / 6) y = true then 0 else m.1 a b, m.2)
theorem clr_o {y i a b : Nat} (hn : ¬ (a = 1 ∧ b % 6 = 3)) : (clrM S y m i).1 a b = m.1 a b := if_neg (fun z => hn ⟨z.1, z.2.1⟩)
theorem clr_s {y i j : Nat} : (clrM S y m i).1 1 (6 * j + 3) = if i < j ∧ j < made S ∧ wthn S j y = true then 0 else m.1 1 (6 * j + 3) := by
  have e1 : (6 * j + 3) % 6 = 3 := by omega
  have e2 : (6 * j + 3) / 6 = j := by omega
  show (if 1 = 1 ∧ (6 * j + 3) % 6 = 3 ∧ i < (6 * j + 3) / 6 ∧ (6 * j + 3) / 6 < made S ∧ wthn S ((6 * j + 3) / 6) y = true then 0 else m.1 1 (6 * j + 3)) = _
  rw [e1, e2]
  by_cases q : i < j ∧ j < made S ∧ wthn S j y = true
  · rw [if_pos ⟨rfl, rfl, q⟩, if_pos q]
  · rw [if_neg (fun z => q z.2.2), if_neg q]
theorem ly_ext {m m' : LY} (h1 : ∀ a b, m.1 a b = m'.1 a b) (h2 : m.2 = m'.2) : m = m' := Prod.ext (funext fun a => funext fun b => h1 a b) h2
theorem clr_y {y i : Nat} (hi : i + 1 < made S) (hw : wthn S (i + 1) y = true) : lu (clrM S y m (i + 1)) 1 (6 * (i + 1) + 3) 0 = clrM S y m i := by
  refine ly_ext (fun a b => ?_) rfl
  rw [lu_1]
  by_cases q : a = 1 ∧ b = 6 * (i + 1) + 3
  · rw [if_pos q, q.1, q.2, clr_s, if_pos ⟨by omega, hi, hw⟩]
  · rw [if_neg q]
    by_cases r : a = 1 ∧ b % 6 = 3
    · have eb : b = 6 * (b / 6) + 3 := by omega
      rw [r.1, eb, clr_s, clr_s]
      by_cases z : i < b / 6 ∧ b / 6 < made S ∧ wthn S (b / 6) y = true
      · rw [if_pos z, if_pos ⟨by
          have : b / 6 ≠ i + 1 := fun w => q ⟨r.1, by omega⟩
          omega, z.2⟩]
      · rw [if_neg z, if_neg (fun w => z ⟨by omega, w.2⟩)]
    · rw [clr_o r, clr_o r]
theorem clr_n {y i : Nat} (hw : wthn S (i + 1) y = false) : clrM S y m (i + 1) = clrM S y m i := by
  refine ly_ext (fun a b => ?_) rfl
  by_cases r : a = 1 ∧ b % 6 = 3
  · have eb : b = 6 * (b / 6) + 3 := by omega
    rw [r.1, eb, clr_s, clr_s]
    by_cases z : i < b / 6 ∧ b / 6 < made S ∧ wthn S (b / 6) y = true
    · have : b / 6 ≠ i + 1 := fun w => by
        have := z.2.2
        rw [w, hw] at this
        exact absurd this (by decide)
      rw [if_pos z, if_pos ⟨by omega, z.2⟩]
    · rw [if_neg z, if_neg (fun w => z ⟨by omega, w.2⟩)]
  · rw [clr_o r, clr_o r]
def rmB (S : SS) (y j : Nat) : Bool := decide (sI S 1 j ≠ 0) && wthn S j y
theorem rem_1 (t : LT6 B h) (x : RD B (lw B h m) m S) {y : Nat} (hy : th S y) (h0 : 0 < y) (v4 v5 : Int32) : itr (fL_removes_B29 (some (B + 90)) (some (B + 91)) (nI y) v4 v5) FU (0, nI (made S) - 1, lw B h m) = some (nI (rmN S y), lw B h (clrM S y m 0)) := by
  have l10 := x.m10
  have yl := hy.lt
  have hP := x.t.pw
  have w0 : wthn S 0 y = false := by
    unfold wthn
    rw [an_0 hP]
    simp
    omega
  have eN : rmN S y = (List.range (made S)).countP (rmB S y) := rfl
  obtain ⟨r, e1, e2⟩ := itr_for (F := fL_removes_B29 (some (B + 90)) (some (B + 91)) (nI y) v4 v5) (R := fun r => r = (nI (rmN S y), lw B h (clrM S y m 0))) (fun j a => ∃ c, a = (nI c, nI (made S - 1 - j), lw B h (clrM S y m (made S - 1 - j))) ∧ c + (List.range (made S - j)).countP (rmB S y) = rmN S y) (made S - 1) (fun j a hj hX => by
    obtain ⟨c, rfl, hc⟩ := hX
    obtain ⟨i, hi⟩ : ∃ i, made S - 1 - j = i + 1 := ⟨made S - 2 - j, by omega⟩
    have hi2 : made S - 1 - (j + 1) = i := by omega
    have il : i + 1 < made S := by omega
    have er : made S - j = (i + 1) + 1 := by omega
    have er2 : made S - (j + 1) = i + 1 := by omega
    rw [hi, hi2, er2]
    rw [er, List.range_succ, List.countP_append, List.countP_singleton] at hc
    have qp : ∀ k, k < made S → oIL (some (B + 91)) ((6 : Int32) * nI k + (1 : Int32)) (lw B h (clrM S y m (i + 1))) = some (sI S 3 k) := fun k hk => by
      rw [(t.lq _).e1 (by omega), clr_o (by omega), (x.l.e hk).2.1]
    have qf : oIL (some (B + 91)) ((6 : Int32) * nI (i + 1) + (3 : Int32)) (lw B h (clrM S y m (i + 1))) = some (nI (fl3 S (i + 1))) := by
      rw [(t.lq _).e3 (by omega), clr_s, if_neg (by omega), (x.l.e il).2.2.2.1]
    have e10 : nI (i + 1) + (-1 : Int32) = nI i := nI_dec i
    unfold fL_removes_B29
    dsimp only
    rw [if_neg (nI_nle (by omega) (by omega)), rem_climb hP l10 h0 yl qp (some (B + 90)) (nI c) v4 v5 (nI (i + 1)) (i + 2) (i + 1) (by omega) il FU (by unfold FU; omega), sb]
    unfold rmB at hc
    cases hw : wthn S (i + 1) y
    · rw [hw, Bool.and_false, if_neg (show ¬ false = true by decide), Nat.add_zero] at hc
      rw [if_neg (show ¬ false = true by decide), if_neg (show ¬ (-1 : Int32) = nI y from fun z => nI_m1 (by omega) z.symm), sb, if_neg (show ¬ (-1 : Int32) = nI y from fun z => nI_m1 (by omega) z.symm), qf, sb, t.pe3 (by omega), sb, e10]
      have es : (clrM S y m (i + 1)).1 1 (6 * (i + 1) + 3) = nI (fl3 S (i + 1)) := by rw [clr_s, if_neg (by omega), (x.l.e il).2.2.2.1]
      rw [← es, lu_self, clr_n hw]
      exact ⟨_, rfl, c, by rw [show nI c + 0 = nI c from Int32.add_zero _], hc⟩
    · rw [if_pos (show true = true from rfl), if_pos rfl, r_thr qf, sb]
      rw [hw, Bool.and_true] at hc
      by_cases q : sI S 1 (i + 1) = 0
      · rw [decide_eq_false (show ¬ sI S 1 (i + 1) ≠ 0 from fun z => z q)] at hc ⊢
        rw [if_pos (show bI false = 0 from rfl), sb, if_pos rfl, t.pe3 (by omega), sb, e10, clr_y il hw]
        rw [if_neg (show ¬ false = true by decide), Nat.add_zero] at hc
        exact ⟨_, rfl, c, by rw [show nI c + 0 = nI c from Int32.add_zero _], hc⟩
      · rw [decide_eq_true (show sI S 1 (i + 1) ≠ 0 from q)] at hc ⊢
        rw [if_neg (show ¬ bI true = 0 by decide), sb, if_pos rfl, t.pe3 (by omega), sb, e10, clr_y il hw, nI_1]
        rw [if_pos (show true = true from rfl)] at hc
        refine ⟨_, rfl, c + 1, rfl, ?_⟩
        unfold rmB
        omega) (fun a hX => by
    obtain ⟨c, rfl, hc⟩ := hX
    have e1 : made S - (made S - 1) = 1 := by omega
    have e2 : made S - 1 - (made S - 1) = 0 := by omega
    rw [e1] at hc
    rw [e2]
    have : (List.range 1).countP (rmB S y) = 0 := by
      show (List.countP (rmB S y) [0]) = 0
      unfold rmB
      rw [List.countP_singleton, w0, Bool.and_false]; rfl
    rw [this, Nat.add_zero] at hc
    refine ⟨_, ?_, rfl⟩
    unfold fL_removes_B29
    dsimp only
    rw [if_pos (show nI 0 ≤ (0 : Int32) by decide), hc]) (fu := FU) (a := (0, nI (made S) - 1, lw B h m)) (by unfold FU; omega) ⟨0, by
      have ec : clrM S y m (made S - 1 - 0) = m := ly_ext (fun a b => if_neg (fun z => by have := z.2.2.1; have := z.2.2.2.1; omega)) rfl
      rw [ec, nI_pr (by omega)]; rfl, by rw [Nat.zero_add, Nat.sub_zero, eN]⟩
  rw [e1, e2]
/-- places behind the gap, of elements below k -/
def decM (S : SS) (P : Int32) (pl : Nat) (m : LY) (k : Nat) : LY := (fun a b => if a = 1 ∧ b % 6 = 2 ∧ 1 ≤ b / 6 ∧ b / 6 < k ∧ sI S 3 (b / 6) = P ∧ ¬ m.1 1 b ≤ nI pl then m.1 1 b - 1 else m.1 a b, m.2)
theorem dec_o {P : Int32} {pl k a b : Nat} (hn : ¬ (a = 1 ∧ b % 6 = 2)) : (decM S P pl m k).1 a b = m.1 a b := if_neg (fun z => hn ⟨z.1, z.2.1⟩)
theorem dec_s {P : Int32} {pl k j : Nat} : (decM S P pl m k).1 1 (6 * j + 2) = if 1 ≤ j ∧ j < k ∧ sI S 3 j = P ∧ ¬ m.1 1 (6 * j + 2) ≤ nI pl then m.1 1 (6 * j + 2) - 1 else m.1 1 (6 * j + 2) := by
  have e1 : (6 * j + 2) % 6 = 2 := by omega
  have e2 : (6 * j + 2) / 6 = j := by omega
  show (if 1 = 1 ∧ (6 * j + 2) % 6 = 2 ∧ 1 ≤ (6 * j + 2) / 6 ∧ (6 * j + 2) / 6 < k ∧ sI S 3 ((6 * j + 2) / 6) = P ∧ ¬ m.1 1 (6 * j + 2) ≤ nI pl then m.1 1 (6 * j + 2) - 1 else m.1 1 (6 * j + 2)) = _
  rw [e1, e2]
  by_cases q : 1 ≤ j ∧ j < k ∧ sI S 3 j = P ∧ ¬ m.1 1 (6 * j + 2) ≤ nI pl
  · rw [if_pos ⟨rfl, rfl, q⟩, if_pos q]
  · rw [if_neg (fun z => q z.2.2), if_neg q]
theorem dec_step {P : Int32} {pl k : Nat} (hk : 1 ≤ k) (v : Int32) (hv : v = if sI S 3 k = P ∧ ¬ m.1 1 (6 * k + 2) ≤ nI pl then m.1 1 (6 * k + 2) - 1 else m.1 1 (6 * k + 2)) : lu (decM S P pl m k) 1 (6 * k + 2) v = decM S P pl m (k + 1) := by
  refine ly_ext (fun a b => ?_) rfl
  rw [lu_1]
  by_cases q : a = 1 ∧ b = 6 * k + 2
  · rw [if_pos q, q.1, q.2, dec_s, hv]
    by_cases z : sI S 3 k = P ∧ ¬ m.1 1 (6 * k + 2) ≤ nI pl
    · rw [if_pos z, if_pos ⟨hk, by omega, z⟩]
    · rw [if_neg z, if_neg (fun w => z w.2.2)]
  · rw [if_neg q]
    by_cases r : a = 1 ∧ b % 6 = 2
    · have eb : b = 6 * (b / 6) + 2 := by omega
      have nk : b / 6 ≠ k := fun w => q ⟨r.1, by omega⟩
      rw [r.1, eb, dec_s, dec_s]
      by_cases z : 1 ≤ b / 6 ∧ b / 6 < k ∧ sI S 3 (b / 6) = P ∧ ¬ m.1 1 (6 * (b / 6) + 2) ≤ nI pl
      · rw [if_pos z, if_pos ⟨z.1, by omega, z.2.2⟩]
      · rw [if_neg z, if_neg (fun w => z ⟨w.1, by omega, w.2.2⟩)]
    · rw [dec_o r, dec_o r]
theorem rem_2 (t : LT6 B h) (h10 : made S ≤ 10) (h1 : 1 ≤ made S) (e0 : m.1 0 0 = nI (made S)) (e3 : ∀ j, j < made S → m.1 1 (6 * j + 1) = sI S 3 j) (P : Int32) (pl : Nat) (c3 : Int32) : itr (fL_removes_B123 (some (B + 90)) (some (B + 91)) c3 P (nI pl)) FU (1, lw B h m) = some (lw B h (decM S P pl m (made S))) := by
  obtain ⟨r, e1, e2⟩ := itr_for (F := fL_removes_B123 (some (B + 90)) (some (B + 91)) c3 P (nI pl)) (R := fun r => r = lw B h (decM S P pl m (made S))) (fun j a => a = (nI (1 + j), lw B h (decM S P pl m (1 + j)))) (made S - 1) (fun j a hj hX => by
    subst hX
    have hk : 1 + j < made S := by omega
    refine ⟨(nI (1 + (j + 1)), lw B h (decM S P pl m (1 + (j + 1)))), ?_, rfl⟩
    have rp : (decM S P pl m (1 + j)).1 1 (6 * (1 + j) + 2) = m.1 1 (6 * (1 + j) + 2) := by rw [dec_s, if_neg (by omega)]
    unfold fL_removes_B123
    dsimp only
    rw [(t.lq _).n0, dec_o (by omega), e0, sb, if_neg (show ¬ nI (made S) ≤ nI (1 + j) from nI_ge hk (by omega)), (t.lq _).e2 (by omega), rp, sb, (t.lq _).e1 (by omega), dec_o (by omega), e3 _ hk, sb]
    have en : nI (1 + j) + (1 : Int32) = nI (1 + (j + 1)) := nI_1 (1 + j)
    by_cases c1 : sI S 3 (1 + j) = P
    · rw [if_pos c1, sb]
      by_cases c2 : m.1 1 (6 * (1 + j) + 2) ≤ nI pl
      · rw [if_pos c2, t.pe2 (by omega), sb, en, dec_step (by omega) _ (by rw [if_neg (fun z => z.2 c2), Int32.sub_zero])]; rfl
      · rw [if_neg c2, t.pe2 (by omega), sb, en, dec_step (by omega) _ (by rw [if_pos ⟨c1, c2⟩])]; rfl
    · rw [if_neg c1, t.pe2 (by omega), sb, en, dec_step (by omega) _ (by rw [if_neg (fun z => c1 z.1), Int32.sub_zero])]; rfl) (fun a hX => by
    subst hX
    have e1 : 1 + (made S - 1) = made S := by omega
    rw [e1]
    refine ⟨_, ?_, rfl⟩
    unfold fL_removes_B123
    dsimp only
    rw [(t.lq _).n0, dec_o (by omega), e0, sb, if_pos (nI_le (Nat.le_refl _) (by omega))]) (fu := FU) (a := (1, lw B h m)) (by unfold FU; omega) (by
      have ec : decM S P pl m (1 + 0) = m := ly_ext (fun a b => if_neg (fun z => by have := z.2.2.1; have := z.2.2.2.1; omega)) rfl
      rw [ec]; rfl)
  rw [e1, e2]
theorem idx_er {l : List Nat} (hn : l.Nodup) {pl j : Nat} (hp : pl < l.length) (hj : j ∈ l) (hne : l.idxOf j ≠ pl) : (l.eraseIdx pl).idxOf j = if pl < l.idxOf j then l.idxOf j - 1 else l.idxOf j := by
  have hi := List.idxOf_lt_length_of_mem hj
  have hn' : (l.eraseIdx pl).Nodup := hn.sublist (List.eraseIdx_sublist _ _)
  have hl : (l.eraseIdx pl).length = l.length - 1 := List.length_eraseIdx_of_lt hp
  have hg : l[l.idxOf j] = j := List.getElem_idxOf hi
  by_cases q : pl < l.idxOf j
  · rw [if_pos q]
    have e : (l.eraseIdx pl)[l.idxOf j - 1]'(by omega) = j := by
      rw [List.getElem_eraseIdx]
      rw [dif_neg (by omega)]
      have : l.idxOf j - 1 + 1 = l.idxOf j := by omega
      simp only [this]
      exact hg
    have := hn'.idxOf_getElem (l.idxOf j - 1) (by omega)
    rw [e] at this
    exact this
  · rw [if_neg q]
    have e : (l.eraseIdx pl)[l.idxOf j]'(by omega) = j := by
      rw [List.getElem_eraseIdx]
      rw [dif_pos (by omega)]
      exact hg
    have := hn'.idxOf_getElem (l.idxOf j) (by omega)
    rw [e] at this
    exact this
theorem rfgO_eq (hW : WT S) {y : Nat} (hy : th S y) (h0 : 0 < y) : rfL (rm2 S y) (dpar S y) (plc S y) = rfgO S y := by
  obtain ⟨u1, u2⟩ := hW.up h0 hy
  have hpl := plc_lt hW u1 u2
  unfold rfL rfgO rfg
  rw [fnd_c12 (rm2_i y 12 (by decide) (by decide)), fnd_c12 (rm2_i y 12 (by decide) (by decide)), rm2_K, if_pos rfl, List.eraseIdx_eq_take_drop_succ]
  have tl : ((sK S (dpar S y)).take (plc S y)).length = plc S y := by rw [List.length_take]; omega
  rw [List.drop_append_of_le_length (by omega), List.drop_of_length_le (by omega), List.nil_append]
  cases hf : fnd S ((sK S (dpar S y)).drop (plc S y + 1)) with
  | some z => rfl
  | none =>
    have : fnd S ((sK S (dpar S y)).drop (plc S y + 1)).reverse = none := by
      unfold fnd at hf ⊢
      rw [List.find?_eq_none] at hf ⊢
      exact fun y hy => hf y (List.mem_reverse.mp hy)
    show (fnd S ((sK S (dpar S y)).take (plc S y) ++ (sK S (dpar S y)).drop (plc S y + 1)).reverse).getD _ = (fnd S ((sK S (dpar S y)).take (plc S y)).reverse).getD _
    rw [List.reverse_append]
    unfold fnd at this ⊢
    rw [List.find?_append, this, Option.none_or]
/-- REMOVE -/
theorem q_rem (t : LT6 B h) (x : RD B (lw B h m) m S) (hC : Core S) {y : Nat} (hy : th S y) (h0 : 0 < y) : ∃ m', fL_removes (some (B + 90)) (some (B + 91)) (nI y) (lw B h m) = some (nI (rmN S y), lw B h m') ∧ LB (los (rm2 S y) (rfgO S y)) m' := by
  have l10 := x.m10
  have yl := hy.lt
  have hP := x.t.pw
  obtain ⟨u1, u2⟩ := x.t.up h0 hy
  have hpl := plc_lt x.t u1 u2
  have p10 := plc_10 x.t h0 hy
  obtain ⟨k1, k2, k3⟩ := x.t.kids u1
  have el : (sK S (dpar S y)).idxOf y = plc S y := rfl
  have pp := x.pp h0 yl
  have hR := rm2_WT x.t hy h0
  have lb2 : LB (rm2 S y) (decM S (nI (dpar S y)) (plc S y) (clrM S y m 0) (made S)) := by
    have a0 : ∀ k, (decM S (nI (dpar S y)) (plc S y) (clrM S y m 0) (made S)).1 0 k = m.1 0 k := fun k => by rw [dec_o (by omega), clr_o (by omega)]
    have a4 : ∀ k, (decM S (nI (dpar S y)) (plc S y) (clrM S y m 0) (made S)).1 4 k = m.1 4 k := fun k => by rw [dec_o (by omega), clr_o (by omega)]
    have a1 : ∀ j r, r < 6 → r ≠ 2 → r ≠ 3 → (decM S (nI (dpar S y)) (plc S y) (clrM S y m 0) (made S)).1 1 (6 * j + r) = m.1 1 (6 * j + r) := fun j r h1 h2 h3 => by rw [dec_o (by omega), clr_o (by omega)]
    refine ⟨by rw [a0, rm2_made]; exact x.l.1, by rw [a0, rm2_i y 20 (by decide) (by decide)]; exact x.l.2.1, by rw [a0, rm2_i y 21 (by decide) (by decide)]; exact x.l.2.2.1, by rw [a0, rm2_i y 25 (by decide) (by decide)]; exact x.l.2.2.2.1, by rw [a0, rm2_i y 22 (by decide) (by decide)]; exact x.l.2.2.2.2.1, fun z => ?_, fun j hj => ?_, fun j hj hj2 => ?_⟩
    · rw [rm2_i y 22 (by decide) (by decide)] at z
      rw [a0, a0, rm2_i y 23 (by decide) (by decide), rm2_i y 24 (by decide) (by decide)]
      exact x.l.2.2.2.2.2.1 z
    · rw [rm2_made] at hj
      obtain ⟨b0, b1, b2, b3, b4, b5, b6, b7, b8, b9⟩ := x.l.e hj
      have a10 := a1 j 0 (by decide) (by decide) (by decide)
      rw [Nat.add_zero] at a10
      refine ⟨?_, ?_, fun z tz => ?_, ?_, ?_, ?_, ?_, ?_, ?_, ?_⟩
      · rw [a10, rm2_i y 2 (by decide) (by decide)]; exact b0
      · rw [a1 j 1 (by decide) (by decide) (by decide), rm2_i y 3 (by decide) (by decide)]; exact b1
      · obtain ⟨t1, t2⟩ := (rm2_th y j).mp tz
        have ne : j ≠ y := fun w => t2 (by rw [w, an_s hP h0 yl]; simp)
        have pj := plc_10 x.t z t1
        obtain ⟨v1, v2⟩ := x.t.up z t1
        rw [dec_s, clr_o (by omega), b2 z t1, (x.pp z hj).1]
        have ed : dpar (rm2 S y) j = dpar S j := by unfold dpar; rw [rm2_i y 3 (by decide) (by decide)]
        have ep : plc (rm2 S y) j = if dpar S j = dpar S y then ((sK S (dpar S y)).eraseIdx (plc S y)).idxOf j else plc S j := by
          show (sK (rm2 S y) (dpar (rm2 S y) j)).idxOf j = _
          rw [ed, rm2_K]
          split <;> rfl
        rw [ep]
        by_cases q : dpar S j = dpar S y
        · have hjl : j ∈ sK S (dpar S y) := by rw [← q]; exact v2
          have ei : (sK S (dpar S y)).idxOf j = plc S j := (plc_of q).symm
          have nei : (sK S (dpar S y)).idxOf j ≠ plc S y := fun w => ne (by
            have g1 := gn_idx hjl
            have g2 := gn_idx u2
            rw [w] at g1
            rw [el] at g2
            exact g1.symm.trans g2)
          rw [if_pos q, idx_er k1 hpl hjl nei, ei, q]
          by_cases r : plc S y < plc S j
          · rw [if_pos r, if_pos ⟨by omega, hj, rfl, fun w => by have := (nI_leI (by omega) (by omega)).mp w; omega⟩, nI_pr (by omega)]
          · rw [if_neg r, if_neg (fun w => w.2.2.2 (nI_le (by omega) (by omega)))]
        · rw [if_neg q, if_neg (fun w => q ((nI_eq (by have := v1.lt; omega) (by have := u1.lt; omega)).mp w.2.2.1))]
      · rw [dec_o (by omega), clr_s]
        have e1 := rm2_1 (S := S) y j
        by_cases w : wthn S j y = true
        · have j0 : 0 < j := by
            rcases Nat.eq_zero_or_pos j with z | z
            · subst z
              unfold wthn at w
              rw [an_0 hP] at w
              simp at w
              omega
            · exact z
          rw [if_pos ⟨hj, w⟩] at e1
          have ef : fl3 (rm2 S y) j = 0 := by unfold fl3; rw [if_pos e1]
          rw [if_pos ⟨j0, hj, w⟩, ef]; rfl
        · rw [if_neg (fun z => w z.2)] at e1
          have ef : fl3 (rm2 S y) j = fl3 S j := by unfold fl3; rw [e1, rm2_i y 12 (by decide) (by decide), rm2_i y 10 (by decide) (by decide)]
          rw [if_neg (fun z => w z.2.2), ef]
          exact b3
      · rw [a1 j 4 (by decide) (by decide) (by decide), rm2_i y 13 (by decide) (by decide)]; exact b4
      · rw [a1 j 5 (by decide) (by decide) (by decide), rm2_i y 11 (by decide) (by decide)]; exact b5
      · rw [rm2_l y 6 (by decide)]; exact b6
      · rw [rm2_l y 8 (by decide)]; exact b7
      · rw [rm2_l y 8 (by decide)]; exact b8
      · rw [a4, rm2_l y 8 (by decide)]; exact b9
    · rw [rm2_made] at hj
      obtain ⟨b0, b1, b2, b3, b4⟩ := x.l.2.2.2.2.2.2.2 j hj hj2
      exact ⟨by rw [a1 j 4 (by decide) (by decide) (by decide)]; exact b0, by rw [a1 j 5 (by decide) (by decide) (by decide)]; exact b1, by rw [a4]; exact b2, b3, b4⟩
  have hb2 : WB (rm2 S y) := fun k hk i => by
    by_cases q : k = 1
    · subst q
      rw [rm2_1]
      split
      · exact Or.inl rfl
      · exact x.b 1 hk i
    · rw [rm2_i y k q (fun z => by subst z; revert hk; decide)]; exact x.b k hk i
  have hk2 : VK (rm2 S y) := (x.k.sd (sd_rmF (S := S) y (made S)) rfl : VK (rmF S y (made S)))
  have x2 : RD B (lw B h (decM S (nI (dpar S y)) (plc S y) (clrM S y m 0) (made S))) (decM S (nI (dpar S y)) (plc S y) (clrM S y m 0) (made S)) (rm2 S y) := ⟨t.lq _, lb2, hR, hb2, hk2⟩
  have hp2 : th (rm2 S y) (dpar S y) := (rm2_th y _).mpr ⟨u1, fun z => by
    have := an_mem hP u1.lt y z
    have := pp.2
    omega⟩
  obtain ⟨m', e1, e2⟩ := q_los t x2 (p := dpar S y) (pl := plc S y) (c := cur S) hp2 (by omega) (by rw [rm2_i y 20 (by decide) (by decide)]; exact hC.c.1) (by rw [rm2_made]; exact hC.c.2.lt) (by
    rw [rm2_i y 21 (by decide) (by decide), rm2_made]
    rcases hC.xf with w | ⟨f, w1, w2, -⟩
    · exact Or.inl w
    · exact Or.inr ⟨f, w2.lt, w1⟩)
  rw [rfgO_eq x.t hy h0] at e2
  refine ⟨m', ?_, e2⟩
  unfold fL_removes
  rw [x.pr yl, pp.1, sb, x.pl h0 hy, sb, x.n0, sb, rem_1 t x hy h0, sb]
  dsimp only
  rw [rem_2 t l10 (by omega) (by rw [clr_o (by omega)]; exact x.l.1) (fun j hj => by rw [clr_o (by omega)]; exact (x.l.e hj).2.1), sb, e1]
  rfl
end REM

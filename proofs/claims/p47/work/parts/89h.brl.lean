/-! ===== the class's letters of points ===== -/
theorem b_points {k : Nat} (hk : k < 26) : fX0_pointsOf (nI k) = some (ptsN k) := by
  unfold fX0_pointsOf
  have : oLt (nI k) = some (lett k) := by
    unfold oLt
    rw [if_pos (inb_nI hk (by decide)), nI_clamp (by omega)]
  rw [if_neg (nI_pos (by omega)), if_neg (show ¬ (26 : Int32) ≤ nI k from nI_ge (b := 26) hk (by decide)), this, sb]; rfl
theorem b_isS (x : Int32) : fX0_isSmall x = some (bI (isS x)) := m_in x 97 122
theorem b_isG (x : Int32) : fX0_isCapital x = some (bI (isG x)) := m_in x 65 90
theorem b_isD (x : Int32) : fX0_isDigit x = some (bI (isD x)) := m_in x 48 57
theorem b_isA (x : Int32) : fX0_isLetter x = some (bI (isA x)) := by
  have hS := b_isS x
  have hG := b_isG x
  unfold fX0_isSmall at hS
  unfold fX0_isCapital at hG
  unfold fX0_isLetter isA
  by_cases a : x < (97 : Int32)
  · rw [if_pos a] at hS ⊢
    have : isS x = false := by
      cases z : isS x with
      | true => rw [z] at hS; revert hS; decide
      | false => rfl
    rw [this, Bool.false_or]
    exact hG
  · rw [if_neg a] at hS ⊢
    by_cases b : x ≤ (122 : Int32)
    · rw [if_neg (Int32.not_lt.mpr b)] at hS
      have : isS x = true := by
        cases z : isS x with
        | true => rfl
        | false => rw [z] at hS; revert hS; decide
      rw [if_pos b, this, Bool.true_or]; rfl
    · rw [if_pos (Int32.not_le.mp b)] at hS
      have : isS x = false := by
        cases z : isS x with
        | true => rw [z] at hS; revert hS; decide
        | false => rfl
      rw [if_neg b, this, Bool.false_or]
      exact hG
theorem b_sign (x : Int32) : fX0_signOf x = some (sgn x) := by
  unfold fX0_signOf sgn
  by_cases a : x = 32
  · rw [if_pos a, if_pos a]
  · rw [if_neg a, if_neg a]
    by_cases b : x = 44
    · rw [if_pos b, if_neg (by rw [b]; decide), if_pos b]
    · rw [if_neg b]
      by_cases c : x = 45
      · rw [if_pos c, if_neg (by rw [c]; decide), if_neg b, if_neg (by rw [c]; decide), if_pos c]
      · rw [if_neg c]
        by_cases d : x = 46
        · rw [if_pos d, if_pos d]
        · rw [if_neg d, if_neg d, if_neg b]
          by_cases e : x = 63
          · rw [if_pos e, if_pos e]
          · rw [if_neg e, if_neg e, if_neg c]
def fG (l : List Int32) (j : Nat) : Bool := (fw (l.drop j)).all isG
def fN (l : List Int32) (j : Nat) : Nat := (fw (l.drop j)).length
theorem fw_y {l : List Int32} {j : Nat} (hj : j < l.length) (ha : isA (ge l j) = true) : fw (l.drop j) = ge l j :: fw (l.drop (j + 1)) := by
  unfold fw
  rw [List.drop_eq_getElem_cons hj, ← ge_of hj, List.takeWhile_cons, ha]; rfl
theorem fw_n {l : List Int32} {j : Nat} (ha : l.length ≤ j ∨ isA (ge l j) = false) : fw (l.drop j) = [] := by
  unfold fw
  by_cases hj : j < l.length
  · rw [List.drop_eq_getElem_cons hj, ← ge_of hj, List.takeWhile_cons, ha.resolve_left (by omega)]; rfl
  · rw [List.drop_of_length_le (by omega)]; rfl
theorem fG_y {l : List Int32} {j : Nat} (hj : j < l.length) (ha : isA (ge l j) = true) : fG l j = (isG (ge l j) && fG l (j + 1)) ∧ fN l j = fN l (j + 1) + 1 := by
  unfold fG fN
  rw [fw_y hj ha]
  exact ⟨rfl, rfl⟩
theorem fG_n {l : List Int32} {j : Nat} (ha : l.length ≤ j ∨ isA (ge l j) = false) : fG l j = true ∧ fN l j = 0 := by
  unfold fG fN
  rw [fw_n ha]
  exact ⟨rfl, rfl⟩
theorem bI_i {α : Type} (b : Bool) (x y : α) : (if bI b = 0 then x else y) = if b = true then y else x := by cases b <;> rfl
theorem isA_G {x : Int32} (h : isG x = true) : isA x = true := by unfold isA; rw [h, Bool.or_true]
section BR
variable {h : hp}
theorem b_caps {b n k : Nat} {l : List Int32} (c : Cd h b n l) (hk : k < l.length) (hg : isG (ge l k) = true) : fX0_capitalSigns (some b) (nI k) h = some (nI (gsg l k)) := by
  have h5 := c.2.2.2.2.1
  have h6 := c.2.2.2.2.2.1
  have key1 : ∃ q, itr (fX0_capitalSigns_B4 (some b) (nI k) h) FU (nI k, (1 : Int32)) = some q ∧ q.1 = nI (k - bk l k) ∧ ∃ A, q.2 = bI A ∧ fG l (k - bk l k) = (A && fG l k) ∧ fN l (k - bk l k) = fN l k + bk l k := by
    refine itr_run (R := fun (q : Int32 × Int32) => q.1 = nI (k - bk l k) ∧ ∃ A, q.2 = bI A ∧ fG l (k - bk l k) = (A && fG l k) ∧ fN l (k - bk l k) = fN l k + bk l k) (fun j a => ∃ A, a = (nI j, bI A) ∧ j ≤ k ∧ bk l k = (k - j) + bk l j ∧ fG l j = (A && fG l k) ∧ fN l j = fN l k + (k - j)) (fun j a hX => ?_) FU k (nI k, (1 : Int32)) (FU_lt (by omega)) ⟨true, rfl, Nat.le_refl _, by omega, by rw [Bool.true_and], by omega⟩
    obtain ⟨A, rfl, x1, x2, x3, x4⟩ := hX
    cases j with
    | zero =>
      have hb : bk l k = k := by rw [x2]; show k - 0 + 0 = k; omega
      refine Or.inr ⟨(nI 0, bI A), ?_, by rw [hb, Nat.sub_self], A, rfl, by rw [hb, Nat.sub_self]; exact x3, by rw [hb, Nat.sub_self]; exact x4⟩
      unfold fX0_capitalSigns_B4
      rw [if_pos (show nI 0 ≤ 0 by decide)]
    | succ j =>
      have hjl : j < l.length := by omega
      by_cases q : isA (ge l j) = true
      · have hbk : bk l (j + 1) = bk l j + 1 := by show (if isA (ge l j) = true then _ else _) = _; rw [if_pos q]
        obtain ⟨f1, f2⟩ := fG_y hjl q
        refine Or.inl ⟨(nI j, bI (A && isG (ge l j))), j, ?_, by omega, (A && isG (ge l j)), rfl, by omega, by rw [x2, hbk]; omega, ?_, by omega⟩
        · unfold fX0_capitalSigns_B4
          rw [if_neg (show ¬ nI (j + 1) ≤ 0 from nI_nle (by omega) (by omega)), c.ob, sb]
          show (fX1_at b (nI (j + 1) - 1) h).bind _ = _
          rw [nI_pred, c_at c hjl, sb, b_isA, sb, bI_i, if_pos q, bI_i]
          cases A with
          | false => rw [if_neg (by decide)]; show some (Sum.inl (nI (j + 1) + -1, _)) = _; rw [nI_dec]; rfl
          | true =>
            rw [if_pos rfl, sb]
            show (fX1_at b (nI (j + 1) + -1) h).bind _ = _
            rw [nI_dec, c_at c hjl, sb, b_isG, sb, bI_i]
            cases isG (ge l j) with
            | true => rw [if_pos rfl]; rfl
            | false => rw [if_neg (by decide)]; rfl
        · rw [f1, x3, ← Bool.and_assoc, Bool.and_comm (isG (ge l j)) A]
      · have hbk : bk l (j + 1) = 0 := by show (if isA (ge l j) = true then _ else _) = _; rw [if_neg q]
        have hb : k - bk l k = j + 1 := by rw [x2, hbk]; omega
        refine Or.inr ⟨(nI (j + 1), bI A), ?_, by rw [hb], A, rfl, by rw [hb]; exact x3, by rw [hb, x4]; omega⟩
        unfold fX0_capitalSigns_B4
        rw [if_neg (show ¬ nI (j + 1) ≤ 0 from nI_nle (by omega) (by omega)), c.ob, sb]
        show (fX1_at b (nI (j + 1) - 1) h).bind _ = _
        rw [nI_pred, c_at c hjl, sb, b_isA, sb, bI_i, if_neg q]
  obtain ⟨⟨q11, q12⟩, k1, rfl, A, hA, k2, k3⟩ := key1
  replace hA : q12 = bI A := hA
  subst hA
  have key2 : ∃ q, itr (fX0_capitalSigns_B53 (some b) (nI k) (nI (k - bk l k)) h) FU (bI A, nI (k + 1)) = some q ∧ q = (bI (A && fG l (k + 1)), nI (k + 1 + fN l (k + 1))) := by
    refine itr_run (R := fun (q : Int32 × Int32) => q = (bI (A && fG l (k + 1)), nI (k + 1 + fN l (k + 1)))) (fun n a => ∃ e A2, a = (bI A2, nI e) ∧ e + n = l.length ∧ k + 1 ≤ e ∧ (A && fG l (k + 1)) = (A2 && fG l e) ∧ k + 1 + fN l (k + 1) = e + fN l e) (fun n a hX => ?_) FU (l.length - (k + 1)) (bI A, nI (k + 1)) (FU_lt (by omega)) ⟨k + 1, A, rfl, by omega, Nat.le_refl _, rfl, rfl⟩
    obtain ⟨e, A2, rfl, e1, e2, e3, e4⟩ := hX
    by_cases z : e < l.length
    · by_cases q : isA (ge l e) = true
      · obtain ⟨f1, f2⟩ := fG_y z q
        refine Or.inl ⟨(bI (A2 && isG (ge l e)), nI (e + 1)), n - 1, ?_, by omega, e + 1, (A2 && isG (ge l e)), rfl, by omega, by omega, by rw [e3, f1, Bool.and_assoc], by omega⟩
        unfold fX0_capitalSigns_B53
        rw [c.ob, sb, c_size c, sb, if_neg (show ¬ nI l.length ≤ nI e from nI_ge z (by omega)), sb]
        show (fX1_at b (nI e) h).bind _ = _
        rw [c_at c z, sb, b_isA, sb, bI_i, if_pos q, bI_i]
        cases A2 with
        | false => rw [if_neg (by decide)]; show some (Sum.inl (_, nI e + 1)) = _; rw [nI_1]; rfl
        | true =>
          rw [if_pos rfl]
          show (fX1_at b (nI e) h).bind _ = _
          rw [c_at c z, sb, b_isG, sb, bI_i]
          cases isG (ge l e) with
          | true => rw [if_pos rfl]; show some (Sum.inl (_, nI e + 1)) = _; rw [nI_1]; rfl
          | false => rw [if_neg (by decide)]; show some (Sum.inl (_, nI e + 1)) = _; rw [nI_1]; rfl
      · rw [Bool.not_eq_true] at q
        obtain ⟨f1, f2⟩ := fG_n (Or.inr q)
        refine Or.inr ⟨(bI A2, nI e), ?_, by rw [e3, e4, f1, f2, Bool.and_true]; rfl⟩
        unfold fX0_capitalSigns_B53
        rw [c.ob, sb, c_size c, sb, if_neg (show ¬ nI l.length ≤ nI e from nI_ge z (by omega)), sb]
        show (fX1_at b (nI e) h).bind _ = _
        rw [c_at c z, sb, b_isA, sb, bI_i, q]; rfl
    · obtain ⟨f1, f2⟩ := fG_n (l := l) (j := e) (Or.inl (by omega))
      refine Or.inr ⟨(bI A2, nI e), ?_, by rw [e3, e4, f1, f2, Bool.and_true]; rfl⟩
      unfold fX0_capitalSigns_B53
      rw [c.ob, sb, c_size c, sb, if_pos (show nI l.length ≤ nI e from nI_le (by omega) (by omega))]
  obtain ⟨q2, k4, rfl⟩ := key2
  obtain ⟨f1, f2⟩ := fG_y hk (isA_G hg)
  rw [hg, Bool.true_and] at f1
  have hbk := bk_le l k
  have hfn : fN l (k + 1) ≤ l.length := by
    unfold fN
    have := fw_le (l.drop (k + 1))
    rw [List.length_drop] at this
    omega
  unfold fX0_capitalSigns
  rw [k1, sb]
  show Option.bind (itr (fX0_capitalSigns_B53 (some b) (nI k) (nI (k - bk l k)) h) FU (bI A, nI k + 1)) _ = _
  rw [nI_1, k4, sb]
  have hlen : k + 1 + fN l (k + 1) - (k - bk l k) = fN l (k - bk l k) := by omega
  show (if bI (A && fG l (k + 1)) = 0 then some (1 : Int32) else if (2 : Int32) ≤ nI (k + 1 + fN l (k + 1)) - nI (k - bk l k) then (if nI k = nI (k - bk l k) then some (2 : Int32) else some 0) else some 1) = _
  rw [bI_i, nI_sub (by omega), hlen, ← f1, ← k2]
  show _ = some (nI (if fG l (k - bk l k) = true ∧ 1 < fN l (k - bk l k) then (if bk l k = 0 then 2 else 0) else 1))
  by_cases g1 : fG l (k - bk l k) = true
  · rw [if_pos g1]
    by_cases g2 : 1 < fN l (k - bk l k)
    · rw [if_pos (show (2 : Int32) ≤ nI (fN l (k - bk l k)) from nI_le (a := 2) g2 (by omega)), if_pos (show fG l (k - bk l k) = true ∧ 1 < fN l (k - bk l k) from ⟨g1, g2⟩)]
      by_cases g3 : bk l k = 0
      · rw [g3, if_pos (show nI k = nI (k - 0) from rfl), if_pos rfl]; rfl
      · rw [if_neg (fun z => g3 (by have := (nI_eq (a := k) (b := k - bk l k) (by omega) (by omega)).mp z; omega)), if_neg g3]; rfl
    · rw [if_neg (show ¬ (2 : Int32) ≤ nI (fN l (k - bk l k)) from nI_ge (b := 2) (by omega) (by decide)), if_neg (fun z => g2 z.2)]; rfl
  · rw [if_neg g1, if_neg (fun z => g1 z.1)]; rfl
end BR

/-! ===== the law writes a text ===== -/
theorem nI_pr {n : Nat} (h : 0 < n) : nI n - 1 = nI (n - 1) := by
  obtain ⟨m, rfl⟩ : ∃ m, n = m + 1 := ⟨n - 1, by omega⟩
  rw [nI_pred]; rfl
theorem r_pts : ∀ j, j < 26 → fL_points (nI j) = some (ptsN j) := by decide +kernel
theorem r_isL (c : Int32) : fL_isLetter c = some (bI (isA c)) := by
  unfold fL_isLetter isA isS isG
  by_cases a : c < 97
  · rw [if_pos a]
    have n1 : ¬ (97 ≤ c ∧ c ≤ 122) := fun z => Int32.not_le.mpr a z.1
    by_cases b : c < 65
    · rw [if_pos b]
      have n2 : ¬ (65 ≤ c ∧ c ≤ 90) := fun z => Int32.not_le.mpr b z.1
      simp [n1, n2, bI]
    · rw [if_neg b]
      by_cases d : (90 : Int32) < c
      · rw [if_pos d]
        have n2 : ¬ (65 ≤ c ∧ c ≤ 90) := fun z => Int32.not_le.mpr d z.2
        simp [n1, n2, bI]
      · rw [if_neg d]
        have n2 : 65 ≤ c ∧ c ≤ 90 := ⟨Int32.not_lt.mp b, Int32.not_lt.mp d⟩
        simp [n1, n2, bI]
  · rw [if_neg a]
    by_cases b : c ≤ 122
    · rw [if_pos b]
      have n1 : 97 ≤ c ∧ c ≤ 122 := ⟨Int32.not_lt.mp a, b⟩
      simp [n1, bI]
    · rw [if_neg b]
      have h1 := Int32.le_iff_toInt_le.mp (Int32.not_lt.mp a)
      have t1 : (97 : Int32).toInt = 97 := by decide
      have t2 : (65 : Int32).toInt = 65 := by decide
      have t3 : (90 : Int32).toInt = 90 := by decide
      have n1 : ¬ (97 ≤ c ∧ c ≤ 122) := fun z => b z.2
      have n2 : ¬ (65 ≤ c ∧ c ≤ 90) := fun z => by
        have := Int32.le_iff_toInt_le.mp z.2
        omega
      rw [if_neg (show ¬ c < 65 from fun z => by have := Int32.lt_iff_toInt_lt.mp z; omega), if_pos (show (90 : Int32) < c from Int32.lt_iff_toInt_lt.mpr (by omega))]
      simp [n1, n2, bI]
theorem r_isD (c : Int32) : fL_isDigit c = some (bI (isD c)) := by
  unfold fL_isDigit isD
  by_cases b : c < 48
  · rw [if_pos b]
    have n2 : ¬ (48 ≤ c ∧ c ≤ 57) := fun z => Int32.not_le.mpr b z.1
    simp [n2, bI]
  · rw [if_neg b]
    by_cases d : (57 : Int32) < c
    · rw [if_pos d]
      have n2 : ¬ (48 ≤ c ∧ c ≤ 57) := fun z => Int32.not_le.mpr d z.2
      simp [n2, bI]
    · rw [if_neg d]
      have n2 : 48 ≤ c ∧ c ≤ 57 := ⟨Int32.not_lt.mp b, Int32.not_lt.mp d⟩
      simp [n2, bI]
theorem isA_c {c : Int32} (h : isA c = true) : (97 ≤ c ∧ isS c = true ∧ isG c = false) ∨ (¬ 97 ≤ c ∧ isS c = false ∧ isG c = true) := by
  by_cases a : 97 ≤ c
  · have g : isG c = false := by
      unfold isG
      have h1 := Int32.le_iff_toInt_le.mp a
      have t1 : (97 : Int32).toInt = 97 := by decide
      have t3 : (90 : Int32).toInt = 90 := by decide
      have n2 : ¬ (65 ≤ c ∧ c ≤ 90) := fun z => by
        have := Int32.le_iff_toInt_le.mp z.2
        omega
      simp [n2]
    unfold isA at h
    rw [g, Bool.or_false] at h
    exact Or.inl ⟨a, h, g⟩
  · have g : isS c = false := by
      unfold isS
      have n2 : ¬ (97 ≤ c ∧ c ≤ 122) := fun z => a z.1
      simp [n2]
    unfold isA at h
    rw [g, Bool.false_or] at h
    exact Or.inr ⟨a, g, h⟩
theorem isA_D {c : Int32} (h : isA c = true) : isD c = false := by
  unfold isD
  have t1 : (97 : Int32).toInt = 97 := by decide
  have t2 : (65 : Int32).toInt = 65 := by decide
  have t3 : (57 : Int32).toInt = 57 := by decide
  have n2 : ¬ (48 ≤ c ∧ c ≤ 57) := fun z => by
    have z2 := Int32.le_iff_toInt_le.mp z.2
    rcases isA_c h with ⟨a, -⟩ | ⟨-, -, a⟩
    · have := Int32.le_iff_toInt_le.mp a
      omega
    · have := Int32.le_iff_toInt_le.mp (of_decide_eq_true a).1
      omega
  simp [n2]
/-- the text can be read wherever the line has been written -/
def GW (h : hp) (w a : Nat) (l : List Int32) : Prop := ∀ f k, k < l.length → oIL (some w) (nI k) (sw h a f) = some (ge l k)
theorem GW_of {h : hp} {w a : Nat} {l : List Int32} (ht : hT h w = (20, 12)) (hl : l.length ≤ 12) (hwa : w ≠ a) (hs : Sl (hI h w) 0 l) : GW h w a l := fun f k hk => by
  rw [gL1 (h := sw h a f) (n := 12) ht (by omega) (by decide), sw_Io h f hwa]
  have := hs k hk
  rw [Nat.zero_add] at this
  rw [this]
section WR
variable {h : hp} {w a : Nat} {l : List Int32}
theorem wr_run (y : GW h w a l) (hl : l.length ≤ 12) (f : Nat → Int32) (c2 : Option Nat) (c4 c5 : Int32) : ∀ (d k c : Nat), k + d = l.length → ∀ fu, d + 1 ≤ fu → itr (fL_writes_B19 (some w) (nI l.length) c2 c4 c5 (sw h a f)) fu (nI k, nI c) = some (nI (k + (fw (l.drop k)).length), nI (c + (fw (l.drop k)).countP isG)) := by
  intro d
  induction d with
  | zero =>
    intro k c hk fu hfu
    obtain ⟨f1, rfl⟩ : ∃ f1, fu = f1 + 1 := ⟨fu - 1, by omega⟩
    rw [fw_n (Or.inl (by omega))]
    refine itr_end ?_ f1
    unfold fL_writes_B19
    rw [if_pos (show nI l.length ≤ nI k from nI_le (by omega) (by omega))]
    rfl
  | succ d ih =>
    intro k c hk fu hfu
    obtain ⟨f1, rfl⟩ : ∃ f1, fu = f1 + 1 := ⟨fu - 1, by omega⟩
    have hkl : k < l.length := by omega
    by_cases q : isA (ge l k) = true
    · have e : fL_writes_B19 (some w) (nI l.length) c2 c4 c5 (sw h a f) (nI k, nI c) = some (.inl (nI (k + 1), nI (c + (if isG (ge l k) = true then 1 else 0)))) := by
        unfold fL_writes_B19
        rw [if_neg (show ¬ nI l.length ≤ nI k from nI_ge hkl (by omega)), y f k hkl, sb, r_isL, sb, q, if_neg (show ¬ bI true = 0 by decide), sb]
        rcases isA_c q with ⟨q1, q2, q3⟩ | ⟨q1, q2, q3⟩
        · rw [if_pos q1, q3, if_neg (by decide)]
          show some (Sum.inl (nI k + 1, nI c + 0)) = _
          rw [nI_1, Int32.add_zero]; rfl
        · rw [if_neg q1, q3, if_pos rfl]
          show some (Sum.inl (nI k + 1, nI c + 1)) = _
          rw [nI_1, nI_1]
      rw [itr_step e, ih (k + 1) _ (by omega) f1 (by omega), fw_y hkl q, List.length_cons, List.countP_cons, show k + 1 + (fw (l.drop (k + 1))).length = k + ((fw (l.drop (k + 1))).length + 1) by omega, show c + (if isG (ge l k) = true then 1 else 0) + (fw (l.drop (k + 1))).countP isG = c + ((fw (l.drop (k + 1))).countP isG + if isG (ge l k) = true then 1 else 0) by omega]
    · have q' : isA (ge l k) = false := by simpa using q
      rw [fw_n (Or.inr q')]
      refine itr_end ?_ f1
      unfold fL_writes_B19
      rw [if_neg (show ¬ nI l.length ≤ nI k from nI_ge hkl (by omega)), y f k hkl, sb, r_isL, sb, q', if_pos (show bI false = 0 from rfl)]
      rfl
/-- a letter's signs, the capital word's apart -/
def sgL (l : List Int32) (cp : Bool) (k i : Nat) : List Int32 := if isG (ge l i) = true then (if cp = true then [] else [32]) else if i = k ∧ 0 < k ∧ isD (ge l (k - 1)) = true ∧ ge l k ≤ 106 then [48] else []
def ptL (c : Int32) : Int32 := if isG c = true then ptsN (c - 65).toNatClampNeg else ptsN (c - 97).toNatClampNeg
theorem sw_push {h : hp} {a : Nat} {u : List Int32} {f : Nat → Int32} (ht : hT h a = (20, 64)) (hu : u.length < 64) (hf : Sl f 0 u) (v : Int32) : ∃ f', oIS (some a) (nI u.length) v (sw h a f) = some (sw h a f') ∧ Sl f' 0 (u ++ [v]) := by
  refine ⟨_, pSW ht hu (by decide), ?_⟩
  refine Sl_push hf ?_ (fun k hk2 => ?_)
  · show (if 0 + u.length = u.length then _ else _) = _
    rw [if_pos (by omega)]
  · show (if 0 + k = u.length then _ else _) = _
    rw [if_neg (by omega)]
theorem len1 (u : List Int32) (v : Int32) : nI u.length + 1 = nI (u ++ [v]).length := by rw [nI_1, List.length_append]; rfl
theorem c106 {c : Int32} (h : 97 ≤ c) : ((10 : Int32) ≤ c - 97) ↔ ¬ c ≤ 106 := by
  obtain ⟨k, hk, rfl⟩ := nI_of (x := c) (fun z => by
    have := Int32.le_iff_toInt_le.mp h
    have := Int32.lt_iff_toInt_lt.mp z
    have t1 : (97 : Int32).toInt = 97 := by decide
    have t0 : (0 : Int32).toInt = 0 := by decide
    omega)
  have h2 : 97 ≤ k := by
    have := Int32.le_iff_toInt_le.mp h
    rw [nI_toInt hk] at this
    have t1 : (97 : Int32).toInt = 97 := by decide
    omega
  rw [show nI k - 97 = nI (k - 97) by rw [show (97 : Int32) = nI 97 from rfl, nI_sub h2], show (10 : Int32) = nI 10 from rfl, show (106 : Int32) = nI 106 from rfl, nI_leI (by decide) (by omega), nI_leI hk (by decide)]
  omega
/-- one letter -/
theorem wr_let (y : GW h w a l) (hl : l.length ≤ 12) (ht : hT h a = (20, 64)) {k i e : Nat} (hki : k ≤ i) (hie : i < e) (he : e ≤ l.length) (cp : Bool) (hA : isA (ge l i) = true) {u : List Int32} (hu : u.length + 2 < 64) {f : Nat → Int32} (hf : Sl f 0 u) : ∃ f', fL_writes_B112 (some w) (nI l.length) (some a) (nI k) (nI e) (bI cp) (nI u.length, nI i, sw h a f) = some (.inl (nI (u ++ (sgL l cp k i ++ [ptL (ge l i)])).length, nI (i + 1), sw h a f')) ∧ Sl f' 0 (u ++ (sgL l cp k i ++ [ptL (ge l i)])) := by
  have hil : i < l.length := by omega
  have fin : ∀ (u' : List Int32) (f' : Nat → Int32) (v : Int32), u'.length < 64 → Sl f' 0 u' → ∃ f'', (oIS (some a) (nI u'.length) v (sw h a f')).bind (fun h20 => some (Sum.inl (β := Int32 × hp) (nI u'.length + 1, nI i + 1, h20))) = some (.inl (nI (u' ++ [v]).length, nI (i + 1), sw h a f'')) ∧ Sl f'' 0 (u' ++ [v]) := by
    intro u' f' v h1 h2
    obtain ⟨g, g1, g2⟩ := sw_push ht h1 h2 v
    exact ⟨g, by rw [g1, sb, len1 u' v, nI_1], g2⟩
  unfold fL_writes_B112
  dsimp only
  rw [if_neg (show ¬ nI e ≤ nI i from nI_ge hie (by omega)), y f i hil, sb]
  rcases isA_c hA with ⟨q1, q2, q3⟩ | ⟨q1, q2, q3⟩
  · obtain ⟨j, j1, j2, j3, j4⟩ := isS_nI q2
    rw [if_pos q1, sb, sb, if_pos rfl, sb, if_pos rfl, if_pos rfl]
    have eP : ptL (ge l i) = ptsN j := by unfold ptL; rw [q3, if_neg (by decide), j4]
    have eS : sgL l cp k i = if i = k ∧ 0 < k ∧ isD (ge l (k - 1)) = true ∧ ge l k ≤ 106 then [48] else [] := by unfold sgL; rw [q3, if_neg (by decide)]
    rw [eP, eS]
    have none_ : ∀ (hn : ¬ (i = k ∧ 0 < k ∧ isD (ge l (k - 1)) = true ∧ ge l k ≤ 106)), ∃ f', (Option.bind (some (nI u.length, sw h a f)) fun q7 : Int32 × hp => (fL_points (ge l i - 97)).bind fun x19 => (oIS (some a) q7.1 x19 q7.2).bind fun h20 => some (Sum.inl (β := Int32 × hp) (q7.1 + 1, nI i + 1, h20))) = some (.inl (nI (u ++ ((if i = k ∧ 0 < k ∧ isD (ge l (k - 1)) = true ∧ ge l k ≤ 106 then [48] else []) ++ [ptsN j])).length, nI (i + 1), sw h a f')) ∧ Sl f' 0 (u ++ ((if i = k ∧ 0 < k ∧ isD (ge l (k - 1)) = true ∧ ge l k ≤ 106 then [48] else []) ++ [ptsN j])) := by
      intro hn
      rw [if_neg hn, List.nil_append, sb, j3, r_pts j j1, sb]
      exact fin u f (ptsN j) (by omega) hf
    by_cases c1 : i = k
    · subst c1
      rw [if_pos rfl]
      by_cases c2 : (10 : Int32) ≤ ge l i - 97
      · rw [if_pos c2]
        exact none_ (fun z => (c106 q1).mp c2 z.2.2.2)
      · have c2' : ge l i ≤ 106 := Classical.byContradiction fun z => c2 ((c106 q1).mpr z)
        rw [if_neg c2]
        rcases Nat.eq_zero_or_pos i with z | z
        · rw [if_pos (show nI i ≤ 0 by rw [z]; decide)]
          exact none_ (fun w => by have := w.2.1; omega)
        · rw [if_neg (nI_nle (by omega) (by omega)), nI_pr z, y f (i - 1) (by omega), sb, r_isD, sb]
          cases c3 : isD (ge l (i - 1))
          · rw [c3] at none_
            rw [if_pos (show bI false = 0 from rfl)]
            exact none_ (fun w => absurd w.2.2.1 (by decide))
          · rw [if_neg (show ¬ bI true = 0 by decide), if_pos rfl]
            rw [c3] at none_
            rw [if_pos (show i = i ∧ 0 < i ∧ true = true ∧ ge l i ≤ 106 from ⟨rfl, z, rfl, c2'⟩)]
            obtain ⟨g, g1, g2⟩ := sw_push ht (by omega) hf 48
            rw [g1, sb, sb, j3, r_pts j j1, sb]
            dsimp only
            rw [len1 u 48, ← List.append_assoc]
            exact fin (u ++ [48]) g (ptsN j) (by rw [List.length_append, List.length_singleton]; omega) g2
    · rw [if_neg (show ¬ nI i = nI k from fun z => c1 ((nI_eq (by omega) (by omega)).mp z))]
      exact none_ (fun z => c1 z.1)
  · obtain ⟨j, j1, -, j3, j4⟩ := isG_nI q3
    rw [if_neg q1, sb, sb, if_neg (by decide), sb, if_neg (by decide)]
    have eP : ptL (ge l i) = ptsN j := by unfold ptL; rw [q3, if_pos rfl, j4]
    have eS : sgL l cp k i = if cp = true then [] else [32] := by unfold sgL; rw [q3, if_pos rfl]
    rw [eP, eS]
    cases cp
    · rw [if_pos (show bI false = 0 from rfl), oRr, if_neg (by decide), if_neg (show ¬ false = true by decide)]
      obtain ⟨g, g1, g2⟩ := sw_push ht (by omega) hf 32
      rw [g1, sb, sb, j3, r_pts j j1, sb]
      dsimp only
      rw [len1 u 32, ← List.append_assoc]
      exact fin (u ++ [32]) g (ptsN j) (by rw [List.length_append, List.length_singleton]; omega) g2
    · rw [if_neg (show ¬ bI true = 0 by decide), if_neg (by decide), oRl, sb, if_pos rfl, List.nil_append, j3, r_pts j j1, sb]
      exact fin u f (ptsN j) (by omega) hf
end WR

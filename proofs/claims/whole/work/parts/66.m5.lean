/-! ===== the reference's line ===== -/
theorem m_in (x a b : Int32) : fX11_in x a b = some (bI (decide (a ≤ x ∧ x ≤ b))) := by
  unfold fX11_in bI
  by_cases h1 : x < a
  · rw [if_pos h1, if_neg]
    intro h2
    exact (Int32.not_le.mpr h1) (of_decide_eq_true h2).1
  · rw [if_neg h1]
    by_cases h3 : b < x
    · rw [if_pos h3, if_neg]
      intro h2
      exact (Int32.not_le.mpr h3) (of_decide_eq_true h2).2
    · rw [if_neg h3, if_pos (decide_eq_true ⟨Int32.not_lt.mp h1, Int32.not_lt.mp h3⟩)]
theorem oBo_b (b : Bool) : oBo (bI b) = some () := by
  unfold oBo
  rw [if_pos (bI_01 b)]
theorem m_isS (x : Int32) : fX11_isSmall x = some (bI (isS x)) := by
  unfold fX11_isSmall
  rw [m_in, sb, oBo_b, sb]; rfl
theorem m_isG (x : Int32) : fX11_isGreat x = some (bI (isG x)) := by
  unfold fX11_isGreat
  rw [m_in, sb, oBo_b, sb]; rfl
theorem m_isD (x : Int32) : fX11_isDigit x = some (bI (isD x)) := by
  unfold fX11_isDigit
  rw [m_in, sb, oBo_b, sb]; rfl
theorem bI_0 (b : Bool) : (bI b = 0) ↔ b = false := by cases b <;> simp [bI]
def lsc : List Nat := [52, 53]
def Lx (m : mm) (t : List Int32) : Prop := TxA m 52 53 100 0 t
def TL (F : mm → Option (Unit × mm)) (m : mm) (t : List Int32) : Prop := ∃ m', F m = some ((), m') ∧ Lx m' t ∧ Sm lsc m m'
theorem m_cell {m : mm} {t : List Int32} (x : Int32) (h : Lx m t) (hl : t.length < 100) : TL (fX11_cell x) m (t ++ [x]) := by
  refine ⟨up2 (up2 m 52 t.length x) 53 0 (nI t.length + 1), ?_, ⟨?_, ?_⟩, (Sm.up (by decide)).tr (Sm.up (by decide))⟩
  · unfold fX11_cell
    rw [h.1, mS_ok rfl hl, sb, up_f _ _ _ (show (53 : Nat) ≠ 52 by decide), h.1]
    rfl
  · rw [up_s, List.length_append]; exact nI_1 _
  · rw [up_f _ _ _ (show (52 : Nat) ≠ 53 by decide)]
    refine Sl_push h.2 ?_ (fun k hk => ?_)
    · rw [Nat.mul_zero, Nat.zero_add, up_s]
    · rw [up_n]; omega
theorem bk_le (l : List Int32) : ∀ k, bk l k ≤ k
  | 0 => Nat.le_refl _
  | k + 1 => by
    have := bk_le l k
    unfold bk
    split <;> omega
/-! what takeWhile takes -/
theorem fw_le (l : List Int32) : (fw l).length ≤ l.length := by
  unfold fw
  exact (List.takeWhile_prefix _).length_le
theorem fw_ge {l : List Int32} {j : Nat} (h : j < (fw l).length) : ge (fw l) j = ge l j := by
  have h2 := fw_le l
  obtain ⟨r, hr⟩ := List.takeWhile_prefix (l := l) isA
  have e : fw l ++ r = l := hr
  have h3 := ge_app (r := r) h
  rw [e] at h3
  exact h3.symm
theorem fw_all {l : List Int32} {j : Nat} (h : j < (fw l).length) : isA (ge l j) = true := by
  have h3 := ge_mem h
  rw [fw_ge h] at h3
  exact List.all_eq_true.mp (List.all_takeWhile (l := l) (p := isA)) _ h3
theorem fw_end : ∀ (l : List Int32), (fw l).length < l.length → isA (ge l (fw l).length) = false
  | [], h => by simp at h
  | a :: l, h => by
    by_cases e : isA a = true
    · have h1 : fw (a :: l) = a :: fw l := by unfold fw; rw [List.takeWhile_cons, if_pos e]
      rw [h1] at h ⊢
      exact fw_end l (by simpa using h)
    · have h1 : fw (a :: l) = [] := by unfold fw; rw [List.takeWhile_cons, if_neg e]
      rw [h1]
      show isA a = false
      simpa using e
/-! letters -/
theorem isS_nI {c : Int32} (h : isS c = true) : ∃ j, j < 26 ∧ c = nI (97 + j) ∧ c - 97 = nI j ∧ (c - 97).toNatClampNeg = j := by
  have h1 := of_decide_eq_true h
  obtain ⟨k, hk, rfl⟩ := nI_of (x := c) (fun z => by
    have h2 := Int32.lt_iff_toInt_lt.mp z
    have h3 := Int32.le_iff_toInt_le.mp h1.1
    have : (97 : Int32).toInt = 97 := by decide
    have : (0 : Int32).toInt = 0 := by decide
    omega)
  have h2 := (nI_leI (a := 97) (by decide) hk).mp h1.1
  have h3 := (nI_leI (b := 122) hk (by decide)).mp h1.2
  have e : nI k - 97 = nI (k - 97) := nI_sub (b := 97) h2
  exact ⟨k - 97, by omega, by congr 1; omega, e, by rw [e, nI_clamp (by omega)]⟩
theorem isG_nI {c : Int32} (h : isG c = true) : ∃ j, j < 26 ∧ c = nI (65 + j) ∧ c - 65 = nI j ∧ (c - 65).toNatClampNeg = j := by
  have h1 := of_decide_eq_true h
  obtain ⟨k, hk, rfl⟩ := nI_of (x := c) (fun z => by
    have h2 := Int32.lt_iff_toInt_lt.mp z
    have h3 := Int32.le_iff_toInt_le.mp h1.1
    have : (65 : Int32).toInt = 65 := by decide
    have : (0 : Int32).toInt = 0 := by decide
    omega)
  have h2 := (nI_leI (a := 65) (by decide) hk).mp h1.1
  have h3 := (nI_leI (b := 90) hk (by decide)).mp h1.2
  have e : nI k - 65 = nI (k - 65) := nI_sub (b := 65) h2
  exact ⟨k - 65, by omega, by congr 1; omega, e, by rw [e, nI_clamp (by omega)]⟩
theorem isD_nI {c : Int32} (h : isD c = true) : ∃ j, j < 10 ∧ c = nI (48 + j) := by
  have h1 := of_decide_eq_true h
  obtain ⟨k, hk, rfl⟩ := nI_of (x := c) (fun z => by
    have h2 := Int32.lt_iff_toInt_lt.mp z
    have h3 := Int32.le_iff_toInt_le.mp h1.1
    have : (48 : Int32).toInt = 48 := by decide
    have : (0 : Int32).toInt = 0 := by decide
    omega)
  have h2 := (nI_leI (a := 48) (by decide) hk).mp h1.1
  have h3 := (nI_leI (b := 57) hk (by decide)).mp h1.2
  exact ⟨k - 48, by omega, by congr 1; omega⟩
section ML
variable {S : SS} {m : mm}
theorem m_points (hb : ∀ k, k < 10 → m 47 k = ptsN k) {k : Nat} (hk : k < 26) : fX11_points (nI k) m = some (ptsN k) := by
  have f1 : ∀ k, k < 10 → ptsN k + 4 = ptsN (k + 10) := by decide +kernel
  have f2 : ∀ k, k < 2 → ptsN k + 36 = ptsN (k + 20) := by decide +kernel
  have f3 : ∀ k, k < 3 → ptsN (k + 2) + 36 = ptsN (k + 23) := by decide +kernel
  unfold fX11_points
  rw [show (10 : Int32) = nI 10 from rfl, show (20 : Int32) = nI 20 from rfl, show (21 : Int32) = nI 21 from rfl, show (22 : Int32) = nI 22 from rfl, show (0 : Int32) = nI 0 from rfl]
  have hl10 : (nI 10 ≤ nI k) ↔ 10 ≤ k := nI_leI (by omega) (by omega)
  have hl20 : (nI 20 ≤ nI k) ↔ 20 ≤ k := nI_leI (by omega) (by omega)
  have hl22 : (nI 22 ≤ nI k) ↔ 22 ≤ k := nI_leI (by omega) (by omega)
  have hg22 : (nI k ≤ nI 22) ↔ k ≤ 22 := nI_leI (by omega) (by omega)
  have he22 : (nI k = nI 22) ↔ k = 22 := nI_eq (by omega) (by omega)
  by_cases h10 : 10 ≤ k
  · rw [if_pos (hl10.mpr h10)]
    by_cases h20 : 20 ≤ k
    · rw [if_pos (hl20.mpr h20)]
      by_cases h22 : 22 ≤ k
      · rw [if_pos (hl22.mpr h22)]
        by_cases h23 : k ≤ 22
        · have : k = 22 := by omega
          subst this
          rw [if_pos (hg22.mpr h23), mL_ok rfl (show 0 < 10 by decide), sb, sb, if_pos rfl]
          rfl
        · rw [if_neg (fun z => h23 (hg22.mp z)), nI_sub (by omega), mL_ok rfl (show k - 21 < 10 by omega), hb _ (by omega), sb, sb, if_neg (fun z => h23 (by rw [he22.mp z]; exact Nat.le_refl _))]
          have := f3 (k - 23) (by omega)
          rw [show k - 23 + 2 = k - 21 by omega, show k - 23 + 23 = k by omega] at this
          rw [this]
      · rw [if_neg (fun z => h22 (hl22.mp z)), nI_sub (by omega), mL_ok rfl (show k - 20 < 10 by omega), hb _ (by omega), sb, sb, if_neg (fun z => h22 (by rw [he22.mp z]; exact Nat.le_refl _))]
        have := f2 (k - 20) (by omega)
        rw [show k - 20 + 20 = k by omega] at this
        rw [this]
    · rw [if_neg (fun z => h20 (hl20.mp z)), nI_sub (by omega), mL_ok rfl (show k - 10 < 10 by omega), hb _ (by omega), sb, sb, if_neg (fun z => h20 (by rw [he22.mp z]; decide))]
      have := f1 (k - 10) (by omega)
      rw [show k - 10 + 10 = k by omega] at this
      rw [this]
  · rw [if_neg (fun z => h10 (hl10.mp z)), mL_ok rfl (show k < 10 by omega), hb _ (by omega), sb, sb, if_neg (fun z => h10 (by rw [he22.mp z]; decide))]
theorem m_wg1 {f o : Nat} {l : List Int32} (hf : mk f = 20) (hS : Sl (m f) o l) (hb : o + l.length ≤ ml f) (c3 c4 : Int32) : ∀ a, a ≤ l.length → ∀ fu, a < fu → itr (fX11_writeGreat_B8 f (nI o) c3 c4 m) fu (nI a) = some (nI (a - bk l a)) := by
  have hml := ml_lt f
  intro a
  induction a with
  | zero =>
    intro _ fu hf'
    obtain ⟨fu, rfl⟩ : ∃ g, fu = g + 1 := ⟨fu - 1, by omega⟩
    rw [itr_end (b := nI 0) (by unfold fX11_writeGreat_B8; rw [if_pos (show nI 0 ≤ 0 by decide)])]
    rfl
  | succ a ih =>
    intro ha fu hf'
    obtain ⟨fu, rfl⟩ : ∃ g, fu = g + 1 := ⟨fu - 1, by omega⟩
    have hF : fX11_writeGreat_B8 f (nI o) c3 c4 m (nI (a + 1)) = if isA (ge l a) = true then some (.inl (nI a)) else some (.inr (nI (a + 1))) := by
      unfold fX11_writeGreat_B8
      rw [if_neg (nI_nle (by omega) (by omega)), nI_dec, nI_add, show (1 : Int32) = nI 1 from rfl, nI_sub (by omega), show o + (a + 1) - 1 = o + a by omega, mL_ok hf (by omega), hS a (by omega), sb, m_isS, sb]
      unfold isA
      cases h1 : isS (ge l a)
      · rw [if_pos (by rfl), sb, m_isG, sb]
        cases h2 : isG (ge l a)
        · rw [if_pos (by rfl)]; rfl
        · rw [if_neg (by decide)]; rfl
      · rw [if_neg (by decide)]; rfl
    unfold bk
    by_cases e : isA (ge l a) = true
    · rw [if_pos e] at hF ⊢
      rw [itr_step hF, ih (by omega) fu (by omega)]
      congr 2; omega
    · rw [if_neg e] at hF ⊢
      rw [itr_end hF]; rfl
theorem m_wg2 {f o : Nat} {l : List Int32} (hf : mk f = 20) (hS : Sl (m f) o l) (hb : o + l.length ≤ ml f) (c4 c5 : Int32) {s : Nat} (hs : s ≤ l.length) : itr (fX11_writeGreat_B54 f (nI o) (nI l.length) c4 c5 m) FU (nI s, (1 : Int32)) = some (nI (s + (fw (l.drop s)).length), bI ((fw (l.drop s)).all isG)) := by
  have hml := ml_lt f
  have hfl := fw_le (l.drop s)
  rw [List.length_drop] at hfl
  have key : ∃ b, itr (fX11_writeGreat_B54 f (nI o) (nI l.length) c4 c5 m) FU (nI s, (1 : Int32)) = some b ∧ b = (nI (s + (fw (l.drop s)).length), bI ((fw (l.drop s)).all isG)) := by
    refine itr_for (X := fun j a => a = (nI (s + j), bI (((fw (l.drop s)).take j).all isG))) (fw (l.drop s)).length (fun j a hj hX => ?_) (fun a hX => ?_) (FU_lt (by omega)) (by rw [List.take_zero]; rfl)
    · subst hX
      have hA := fw_all hj
      rw [ge_drop] at hA
      have hg : ge (fw (l.drop s)) j = ge l (s + j) := by rw [fw_ge hj, ge_drop]
      refine ⟨_, ?_, rfl⟩
      unfold fX11_writeGreat_B54
      show (if nI l.length ≤ nI (s + j) then _ else _) = _
      rw [if_neg (nI_ge (by omega) (by omega))]
      simp only []
      rw [nI_add, mL_ok hf (by omega), hS _ (by omega), sb, m_isS, sb]
      have pre : ∀ (r : Option ((Int32 × Int32) ⊕ (Int32 × Int32))) , (oR (τ := (Int32 × Int32) ⊕ (Int32 × Int32)) (σ := Unit) (if bI (isS (ge l (s + j))) = 0 then ((some (ge l (s + j))).bind fun x5 => (fX11_isGreat x5).bind fun x6 => if x6 = 0 then (some (.inl ((.inr (nI (s + j), bI (((fw (l.drop s)).take j).all isG)))))) else some (.inr ())) else some (.inr ())) fun _ => r) = r := by
        intro r
        unfold isA at hA
        cases h1 : isS (ge l (s + j))
        · rw [h1, Bool.false_or] at hA
          rw [if_pos (by rfl), sb, m_isG, sb, hA, if_neg (by decide)]
          rfl
        · rw [if_neg (by decide)]; rfl
      rw [pre, take_succ_ge hj, hg, List.all_append, ← Nat.add_assoc]
      cases h3 : ((fw (l.drop s)).take j).all isG
      · rw [if_pos (by rfl), Bool.false_and, nI_1]; rfl
      · rw [if_neg (by decide), sb, m_isG, sb, Bool.true_and, List.all_cons, List.all_nil, Bool.and_true]
        cases h4 : isG (ge l (s + j))
        · rw [if_pos (by rfl), nI_1]; rfl
        · rw [if_neg (by decide), nI_1]; rfl
    · subst hX
      rw [List.take_length]
      refine ⟨_, ?_, rfl⟩
      unfold fX11_writeGreat_B54
      show (if nI l.length ≤ nI (s + (fw (l.drop s)).length) then _ else _) = _
      rcases Nat.lt_or_ge (s + (fw (l.drop s)).length) l.length with q | q
      · have hE := fw_end (l.drop s) (by rw [List.length_drop]; omega)
        rw [ge_drop] at hE
        unfold isA at hE
        rw [Bool.or_eq_false_iff] at hE
        rw [if_neg (nI_ge q (by omega))]
        simp only []
        rw [nI_add, mL_ok hf (by omega), hS _ (by omega), sb, m_isS, sb, hE.1, if_pos (by rfl), sb, m_isG, sb, hE.2, if_pos (by rfl)]
        rfl
      · rw [if_pos (nI_le q (by omega))]
  obtain ⟨b, k1, rfl⟩ := key
  exact k1
end ML

/-! ===== the reference's line: capitals, writing, the whole line, the offset ===== -/
def gro (l : List Int32) (k : Nat) : List Int32 := fw (l.drop (k - bk l k))
theorem gsg_le (l : List Int32) (k : Nat) : gsg l k ≤ 2 := by unfold gsg; split <;> (try split) <;> omega
theorem cl1_len (l : List Int32) (k : Nat) : (cl1 l k).length ≤ 3 := by
  have := gsg_le l k
  unfold cl1
  split
  · simp only [List.length_append, List.length_replicate, List.length_singleton]; omega
  · split
    · split <;> simp
    · split
      · split <;> simp
      · simp
/-- the first of a row of capitals makes three cells, and the next one then one alone -/
def xs1 (l : List Int32) (k : Nat) : Nat := if isG (ge l k) = true ∧ gsg l k = 2 then 1 else 0
theorem cl1_xs (l : List Int32) (k : Nat) : (cl1 l k).length ≤ 2 + xs1 l k := by
  have h2 := gsg_le l k
  unfold cl1 xs1
  by_cases e : isG (ge l k) = true
  · rw [if_pos e]
    simp only [List.length_append, List.length_replicate, List.length_singleton, e, true_and]
    split <;> omega
  · rw [if_neg e, if_neg (c := isG (ge l k) = true ∧ gsg l k = 2) (fun z => e z.1)]
    split
    · split <;> simp
    · split
      · split <;> simp
      · simp
theorem gsg2 {l : List Int32} {k : Nat} (h : gsg l k = 2) : bk l k = 0 ∧ (fw (l.drop k)).all isG = true ∧ 1 < (fw (l.drop k)).length := by
  unfold gsg at h
  split at h
  · rename_i hc
    split at h
    · rename_i hb
      rw [hb, Nat.sub_zero] at hc
      exact ⟨hb, hc⟩
    · omega
  · omega
theorem xs_next {l : List Int32} {k : Nat} (h : xs1 l k = 1) : k + 1 < l.length ∧ (cl1 l (k + 1)).length = 1 ∧ xs1 l (k + 1) = 0 := by
  have h1 : isG (ge l k) = true ∧ gsg l k = 2 := by
    unfold xs1 at h
    split at h
    · assumption
    · omega
  obtain ⟨hb, hall, hlen⟩ := gsg2 h1.2
  have hfl := fw_le (l.drop k)
  rw [List.length_drop] at hfl
  have hA : isA (ge l k) = true := by unfold isA; rw [h1.1, Bool.or_true]
  have hb1 : bk l (k + 1) = 1 := by unfold bk; rw [if_pos hA, hb]
  have hg : isG (ge l (k + 1)) = true := by
    have h3 := ge_mem (l := fw (l.drop k)) (k := 1) hlen
    rw [fw_ge hlen, ge_drop] at h3
    exact List.all_eq_true.mp hall _ h3
  have hgs : gsg l (k + 1) = 0 := by
    unfold gsg
    rw [hb1, Nat.add_sub_cancel, if_pos ⟨hall, hlen⟩, if_neg (by omega)]
  refine ⟨by omega, ?_, ?_⟩
  · unfold cl1
    rw [if_pos hg, hgs]; rfl
  · unfold xs1
    rw [hgs, if_neg (by simp)]
def wrtN (l : List Int32) (n : Nat) : List Int32 := (List.range n).flatMap (cl1 l)
theorem wrtN_s (l : List Int32) (n : Nat) : wrtN l (n + 1) = wrtN l n ++ cl1 l n := by
  unfold wrtN
  rw [List.range_succ, List.flatMap_append, List.flatMap_singleton]
theorem wrtN_len (l : List Int32) : ∀ n, n ≤ l.length → (wrtN l n).length ≤ 2 * n + (if 0 < n then xs1 l (n - 1) else 0)
  | 0, _ => by simp [wrtN]
  | n + 1, h => by
    have ih := wrtN_len l n (by omega)
    rw [wrtN_s, List.length_append, if_pos (by omega), Nat.add_sub_cancel]
    have h1 := cl1_xs l n
    by_cases e : 0 < n
    · rw [if_pos e] at ih
      by_cases e2 : xs1 l (n - 1) = 1
      · obtain ⟨-, g2, g3⟩ := xs_next e2
        rw [show n - 1 + 1 = n by omega] at g2 g3
        omega
      · have : xs1 l (n - 1) ≤ 1 := by unfold xs1; split <;> omega
        omega
    · have : n = 0 := by omega
      subst this
      simp at ih
      simp [ih]
      omega
theorem wrt_len (l : List Int32) : (wrt l).length ≤ 2 * l.length := by
  have h := wrtN_len l l.length (Nat.le_refl _)
  have e : wrt l = wrtN l l.length := rfl
  rw [e]
  split at h
  · by_cases e2 : xs1 l (l.length - 1) = 1
    · have := (xs_next e2).1
      omega
    · have : xs1 l (l.length - 1) ≤ 1 := by unfold xs1; split <;> omega
      omega
  · omega
theorem wrtN_le (l : List Int32) {n : Nat} (h : n ≤ l.length) : (wrtN l n).length ≤ 2 * l.length + 1 := by
  have := wrtN_len l n h
  have : (if 0 < n then xs1 l (n - 1) else 0) ≤ 1 := by
    split
    · unfold xs1; split <;> omega
    · omega
  omega
section MG
variable {S : SS} {m : mm}
theorem m_great {f o : Nat} {l t : List Int32} {k : Nat} (hbase : ∀ k, k < 10 → m 47 k = ptsN k) (hf : mk f = 20) (hne : decide (f ∉ lsc) = true) (hS : Sl (m f) o l) (hb : o + l.length ≤ ml f) (hk : k < l.length) (hG : isG (ge l k) = true) (hT : Lx m t) (hl : t.length + 3 ≤ 100) : TL (fX11_writeGreat f (nI o) (nI l.length) (nI k)) m (t ++ cl1 l k) := by
  have hml := ml_lt f
  have hbk := bk_le l k
  have hfl := fw_le (l.drop (k - bk l k))
  rw [List.length_drop] at hfl
  obtain ⟨j, hj, hc, hcs, hcn⟩ := isG_nI hG
  have hrow : (if bI ((fw (l.drop (k - bk l k))).all isG) = 0 then (some (0 : Int32)) else if (nI (k - bk l k + (fw (l.drop (k - bk l k))).length) - nI (k - bk l k)) ≤ (1 : Int32) then (some (0 : Int32)) else some (1 : Int32)) = some (bI (decide ((fw (l.drop (k - bk l k))).all isG = true ∧ 1 < (fw (l.drop (k - bk l k))).length))) := by
    rw [nI_sub (by omega), Nat.add_sub_cancel_left]
    cases h1 : (fw (l.drop (k - bk l k))).all isG
    · rw [if_pos (by rfl)]; simp [bI]
    · rw [if_neg (by decide)]
      have : (nI (fw (l.drop (k - bk l k))).length ≤ (1 : Int32)) ↔ (fw (l.drop (k - bk l k))).length ≤ 1 := nI_leI (b := 1) (by omega) (by omega)
      by_cases e : (fw (l.drop (k - bk l k))).length ≤ 1
      · rw [if_pos (this.mpr e), decide_eq_false (by omega)]; rfl
      · rw [if_neg (fun z => e (this.mp z)), decide_eq_true ⟨rfl, by omega⟩]; rfl
  have hfirst : (nI k = nI (k - bk l k)) ↔ bk l k = 0 := by
    rw [nI_eq (by omega) (by omega)]; omega
  have hcl : cl1 l k = List.replicate (gsg l k) 32 ++ [ptsN (ge l k - 65).toNatClampNeg] := by
    unfold cl1; rw [if_pos hG]
  have hgs : gsg l k = if (decide ((fw (l.drop (k - bk l k))).all isG = true ∧ 1 < (fw (l.drop (k - bk l k))).length)) = true then (if bk l k = 0 then 2 else 0) else 1 := by
    unfold gsg
    simp only [decide_eq_true_eq]
  -- the end
  have fin : ∀ (m1 : mm) (t1 : List Int32), Lx m1 t1 → Sm lsc m m1 → t1.length < 100 → TL (fun m1 => (mL f (nI o + nI k) m1).bind fun x15 => (fX11_points (x15 - (65 : Int32)) m1).bind fun x16 => oM (fX11_cell x16 m1) fun _ m18 => some (((), m18))) m1 (t1 ++ [ptsN (ge l k - 65).toNatClampNeg]) := by
    intro m1 t1 h1 h2 h3
    obtain ⟨m2, a2, b2, s2⟩ := m_cell (ptsN (ge l k - 65).toNatClampNeg) h1 h3
    refine ⟨m2, ?_, b2, s2⟩
    simp only []
    rw [nI_add, mL_ok hf (by omega), h2.at f hne, hS k hk, sb, hcs, m_points (fun q hq => by rw [h2.at 47 (by decide)]; exact hbase q hq) hj, sb, ← hcn, a2]
    rfl
  unfold TL fX11_writeGreat
  rw [m_wg1 hf hS hb _ _ k (by omega) FU (FU_lt (by omega)), sb, m_wg2 hf hS hb _ _ (by omega), sb]
  simp only []
  rw [hrow, sb, hcl, hgs]
  cases hd : decide ((fw (l.drop (k - bk l k))).all isG = true ∧ 1 < (fw (l.drop (k - bk l k))).length)
  · -- one sign
    obtain ⟨m1, a1, b1, s1⟩ := m_cell 32 hT (by omega)
    obtain ⟨m2, a2, b2, s2⟩ := fin m1 _ b1 s1 (by rw [List.length_append, List.length_singleton]; omega)
    refine ⟨m2, ?_, ?_, s1.tr s2⟩
    · rw [if_pos (by rfl), a1, oMs, sb, if_pos (by rfl), sb]
      exact a2
    · rw [List.append_assoc] at b2; exact b2
  · by_cases e : bk l k = 0
    · obtain ⟨m1, a1, b1, s1⟩ := m_cell 32 hT (by omega)
      obtain ⟨m2, a2, b2, s2⟩ := m_cell 32 b1 (by rw [List.length_append, List.length_singleton]; omega)
      obtain ⟨m3, a3, b3, s3⟩ := fin m2 _ b2 (s1.tr s2) (by simp only [List.length_append, List.length_singleton]; omega)
      refine ⟨m3, ?_, ?_, (s1.tr s2).tr s3⟩
      · rw [if_neg (by decide), if_pos (hfirst.mpr e), a1, oMs, sb, if_neg (by decide), if_pos (hfirst.mpr e), a2, oMs, sb]
        exact a3
      · rw [if_pos rfl, if_pos e]
        rw [List.append_assoc, List.append_assoc] at b3; exact b3
    · obtain ⟨m2, a2, b2, s2⟩ := fin m _ hT Sm.rf (by omega)
      refine ⟨m2, ?_, ?_, s2⟩
      · rw [if_neg (by decide), if_neg (fun z => e (hfirst.mp z)), sb, if_neg (by decide), if_neg (fun z => e (hfirst.mp z)), sb]
        exact a2
      · rw [if_pos rfl, if_neg e]; exact b2
theorem m_sign (c : Int32) : fX11_sign c = some (sgn c) := by
  unfold fX11_sign sgn
  repeat (split; · rfl)
  rfl
theorem m_write_s {f o : Nat} {l t : List Int32} {k : Nat} (hbase : ∀ k, k < 10 → m 47 k = ptsN k) (hf : mk f = 20) (hne : decide (f ∉ lsc) = true) (hS : Sl (m f) o l) (hb : o + l.length ≤ ml f) (hk : k < l.length) (hT : Lx m t) (hl : t.length + 3 ≤ 100) : ∃ m', fX11_write_B3 f (nI o) (nI l.length) (nI k, m) = some (.inl (nI (k + 1), m')) ∧ Lx m' (t ++ cl1 l k) ∧ Sm lsc m m' := by
  have hml := ml_lt f
  have hbh : (if nI k ≤ 0 then (some (0 : Int32)) else (mL f ((nI o + nI k) - (1 : Int32)) m).bind fun x4 => (fX11_isDigit x4).bind fun x5 => if x5 = 0 then (some (0 : Int32)) else some (1 : Int32)) = some (bI (decide (0 < k ∧ isD (ge l (k - 1)) = true))) := by
    by_cases e : k = 0
    · subst e
      rw [if_pos (show nI 0 ≤ 0 by decide), decide_eq_false (by omega)]; rfl
    · rw [if_neg (nI_nle (by omega) (by omega)), nI_add, show (1 : Int32) = nI 1 from rfl, nI_sub (by omega), show o + k - 1 = o + (k - 1) by omega, mL_ok hf (by omega), hS _ (by omega), sb, m_isD, sb]
      cases h1 : isD (ge l (k - 1))
      · rw [if_pos (by rfl)]; simp [bI]
      · rw [if_neg (by decide), decide_eq_true ⟨by omega, rfl⟩]; rfl
  have pre : fX11_write_B3 f (nI o) (nI l.length) (nI k, m) = (fX11_isGreat (ge l k)).bind fun x6 => if x6 = 0 then ((fX11_isSmall (ge l k)).bind fun x7 => if x7 = 0 then ((fX11_isDigit (ge l k)).bind fun x8 => if x8 = 0 then ((fX11_sign (ge l k)).bind fun x9 => oM (fX11_cell x9 m) fun _ m11 => some (.inl (nI k + (1 : Int32), m11))) else Option.bind (α := mm) (if bI (decide (0 < k ∧ isD (ge l (k - 1)) = true)) = 0 then (oM (fX11_cell (60 : Int32) m) fun _ m15 => some m15) else some m) fun q12 => Option.bind (α := Int32) (if ge l k = (48 : Int32) then (some (9 : Int32)) else some (ge l k - (49 : Int32))) fun q16 => (mL 47 q16 q12).bind fun x18 => oM (fX11_cell x18 q12) fun _ m20 => some (.inl (nI k + (1 : Int32), m20))) else Option.bind (α := mm) (if bI (decide (0 < k ∧ isD (ge l (k - 1)) = true)) = 0 then (some m) else if (106 : Int32) < ge l k then (some m) else oM (fX11_cell (48 : Int32) m) fun _ m24 => some m24) fun q21 => (fX11_points (ge l k - (97 : Int32)) q21).bind fun x25 => oM (fX11_cell x25 q21) fun _ m27 => some (.inl (nI k + (1 : Int32), m27))) else oM (fX11_writeGreat f (nI o) (nI l.length) (nI k) m) fun _ m29 => some (.inl (nI k + (1 : Int32), m29)) := by
    unfold fX11_write_B3
    show (if nI l.length ≤ nI k then _ else _) = _
    rw [if_neg (nI_ge hk (by omega))]
    simp only []
    rw [hbh]
    rw [nI_add, mL_ok hf (by omega), hS k hk, sb, sb]
  rw [pre, m_isG, sb]
  cases hG : isG (ge l k)
  · rw [if_pos (by rfl), m_isS, sb]
    have hg0 : ¬ isG (ge l k) = true := by rw [hG]; simp
    cases hs : isS (ge l k)
    · rw [if_pos (by rfl), m_isD, sb]
      cases hd : isD (ge l k)
      · rw [if_pos (by rfl), m_sign, sb]
        obtain ⟨m1, a1, b1, s1⟩ := m_cell (sgn (ge l k)) hT (by omega)
        refine ⟨m1, by rw [a1, oMs, nI_1], ?_, s1⟩
        unfold cl1
        rw [if_neg hg0, if_neg (by rw [hs]; simp), if_neg (by rw [hd]; simp)]
        exact b1
      · rw [if_neg (by decide)]
        obtain ⟨j, hj, hc⟩ := isD_nI hd
        have hcl : cl1 l k = (if 0 < k ∧ isD (ge l (k - 1)) = true then [] else [60]) ++ [if ge l k = 48 then 26 else ptsN (ge l k - 49).toNatClampNeg] := by
          unfold cl1
          rw [if_neg hg0, if_neg (by rw [hs]; simp), if_pos hd]
        have h1 : ∃ m1, (if bI (decide (0 < k ∧ isD (ge l (k - 1)) = true)) = 0 then (oM (fX11_cell (60 : Int32) m) fun _ m15 => some m15) else some m) = some m1 ∧ Lx m1 (t ++ if 0 < k ∧ isD (ge l (k - 1)) = true then [] else [60]) ∧ Sm lsc m m1 := by
          by_cases e : 0 < k ∧ isD (ge l (k - 1)) = true
          · rw [if_pos e, decide_eq_true e, if_neg (by decide), List.append_nil]
            exact ⟨m, rfl, hT, Sm.rf⟩
          · rw [if_neg e, decide_eq_false e, if_pos (by rfl)]
            obtain ⟨m1, a1, b1, s1⟩ := m_cell 60 hT (by omega)
            exact ⟨m1, by rw [a1, oMs], b1, s1⟩
        obtain ⟨m1, a1, b1, s1⟩ := h1
        have hlen : (t ++ if 0 < k ∧ isD (ge l (k - 1)) = true then [] else [(60 : Int32)]).length < 100 := by
          rw [List.length_append]
          split <;> simp <;> omega
        have hv : ∃ q, q < 10 ∧ (if ge l k = (48 : Int32) then (some (9 : Int32)) else some (ge l k - (49 : Int32))) = some (nI q) ∧ (if ge l k = 48 then 26 else ptsN (ge l k - 49).toNatClampNeg) = ptsN q := by
          by_cases e : ge l k = 48
          · rw [if_pos e, if_pos e]; exact ⟨9, by omega, rfl, by decide⟩
          · have hj0 : j ≠ 0 := fun z => e (by rw [hc, z]; rfl)
            have : ge l k - 49 = nI (j - 1) := by
              rw [hc, show (49 : Int32) = nI 49 from rfl, nI_sub (by omega)]; congr 1; omega
            rw [if_neg e, if_neg e, this, nI_clamp (by omega)]
            exact ⟨j - 1, by omega, rfl, rfl⟩
        obtain ⟨q, hq, v1, v2⟩ := hv
        obtain ⟨m2, a2, b2, s2⟩ := m_cell (ptsN q) b1 hlen
        refine ⟨m2, ?_, ?_, s1.tr s2⟩
        · rw [a1, sb, v1, sb, mL_ok rfl (show q < 10 from hq), s1.at 47 (by decide), hbase q hq, sb, a2, oMs, nI_1]
        · rw [hcl, v2, ← List.append_assoc]; exact b2
    · rw [if_neg (by decide)]
      obtain ⟨j, hj, hc, hcs, hcn⟩ := isS_nI hs
      have hcl : cl1 l k = (if (0 < k ∧ isD (ge l (k - 1)) = true) ∧ ge l k ≤ 106 then [48] else []) ++ [ptsN (ge l k - 97).toNatClampNeg] := by
        unfold cl1
        rw [if_neg hg0, if_pos hs]
      have h1 : ∃ m1, (if bI (decide (0 < k ∧ isD (ge l (k - 1)) = true)) = 0 then (some m) else if (106 : Int32) < ge l k then (some m) else oM (fX11_cell (48 : Int32) m) fun _ m24 => some m24) = some m1 ∧ Lx m1 (t ++ if (0 < k ∧ isD (ge l (k - 1)) = true) ∧ ge l k ≤ 106 then [48] else []) ∧ Sm lsc m m1 := by
        by_cases e : 0 < k ∧ isD (ge l (k - 1)) = true
        · rw [decide_eq_true e, if_neg (by decide)]
          by_cases e2 : (106 : Int32) < ge l k
          · rw [if_pos e2, if_neg (fun z => Int32.not_le.mpr e2 z.2), List.append_nil]
            exact ⟨m, rfl, hT, Sm.rf⟩
          · rw [if_neg e2, if_pos ⟨e, Int32.not_lt.mp e2⟩]
            obtain ⟨m1, a1, b1, s1⟩ := m_cell 48 hT (by omega)
            exact ⟨m1, by rw [a1, oMs], b1, s1⟩
        · rw [decide_eq_false e, if_pos (by rfl), if_neg (fun z => e z.1), List.append_nil]
          exact ⟨m, rfl, hT, Sm.rf⟩
      obtain ⟨m1, a1, b1, s1⟩ := h1
      have hlen : (t ++ if (0 < k ∧ isD (ge l (k - 1)) = true) ∧ ge l k ≤ 106 then [(48 : Int32)] else []).length < 100 := by
        rw [List.length_append]
        split <;> simp <;> omega
      obtain ⟨m2, a2, b2, s2⟩ := m_cell (ptsN j) b1 hlen
      refine ⟨m2, ?_, ?_, s1.tr s2⟩
      · rw [a1, sb, hcs, m_points (fun q hq => by rw [s1.at 47 (by decide)]; exact hbase q hq) hj, sb, a2, oMs, nI_1]
      · rw [hcl, hcn, ← List.append_assoc]; exact b2
  · rw [if_neg (by decide)]
    obtain ⟨m1, a1, b1, s1⟩ := m_great hbase hf hne hS hb hk hG hT hl
    exact ⟨m1, by rw [a1, oMs, nI_1], b1, s1⟩
theorem m_write {f o : Nat} {l t : List Int32} (hbase : ∀ k, k < 10 → m 47 k = ptsN k) (hf : mk f = 20) (hne : decide (f ∉ lsc) = true) (hS : Sl (m f) o l) (hb : o + l.length ≤ ml f) (hT : Lx m t) (hl : t.length + 2 * l.length + 4 ≤ 100) : TL (fX11_write f (nI o) (nI l.length)) m (t ++ wrt l) := by
  have key : ∃ b, itr (fX11_write_B3 f (nI o) (nI l.length)) FU ((0 : Int32), m) = some b ∧ (Lx b (t ++ wrt l) ∧ Sm lsc m b) := by
    refine itr_for (X := fun j a => a.1 = nI j ∧ Lx a.2 (t ++ wrtN l j) ∧ Sm lsc m a.2) l.length (fun j a hj hX => ?_) (fun a hX => ?_) (FU_lt (by omega)) ⟨rfl, by simp only [wrtN, List.range_zero, List.flatMap_nil, List.append_nil]; exact hT, Sm.rf⟩
    · obtain ⟨i, m1⟩ := a
      obtain ⟨rfl, x2, x3⟩ := hX
      simp only at x2 x3
      have hw := wrtN_le l (n := j) (by omega)
      obtain ⟨m2, a2, b2, s2⟩ := m_write_s (m := m1) (t := t ++ wrtN l j) (k := j) (fun q hq => by rw [x3.at 47 (by decide)]; exact hbase q hq) hf hne (by rw [x3.at f hne]; exact hS) hb hj x2 (by rw [List.length_append]; omega)
      refine ⟨_, a2, rfl, ?_, x3.tr s2⟩
      rw [wrtN_s, ← List.append_assoc]; exact b2
    · obtain ⟨i, m1⟩ := a
      obtain ⟨rfl, x2, x3⟩ := hX
      simp only at x2 x3
      refine ⟨m1, ?_, x2, x3⟩
      unfold fX11_write_B3
      show (if nI l.length ≤ nI l.length then _ else _) = _
      rw [if_pos (Int32.le_refl _)]
  obtain ⟨b, k1, k2, k3⟩ := key
  refine ⟨b, ?_, k2, k3⟩
  unfold fX11_write
  rw [k1]; rfl
end MG

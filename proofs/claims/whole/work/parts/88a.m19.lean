/-! ===== the reference's calls: setting, the draft, words ===== -/
section MS
variable {S : SS} {m : mm}
theorem MC.genT {Q : Option Int32} {G : mm → Option (Int32 × mm)} {r : SS → aS} {t : Int32} {X : SS} (hM : RM S m) (hQ : Q = some t) (ht : ¬ t ≤ 0) (h1 : r S = tw t X) (h2 : (r (z0 S)).2.2 = z0 S) : MC S m (Option.bind (α := Int32) Q fun q2 => (mPI 48 q2 m).bind fun m4 => if (m4 48 0) ≤ 0 then G m4 else some (((0 : Int32), m4))) r := by
  refine MC.thr (k := t) (X := X) hM h1 h2 ?_
  rw [hQ, sb, mPIs, sb, up_s, if_neg ht]
theorem MC.gen0 {Q : Option Int32} {G : mm → Option (Int32 × mm)} {r : SS → aS} {a : Int32} {X S' : SS} (hQ : Q = some 0) (h1 : r S = rt a X) (h2 : (r (z0 S)).2.2 = S') (h48 : sI S' 48 0 = 0) (hg : ∃ m2, G (up2 m 48 0 0) = some (a, m2) ∧ RM S' m2) : MC S m (Option.bind (α := Int32) Q fun q2 => (mPI 48 q2 m).bind fun m4 => if (m4 48 0) ≤ 0 then G m4 else some (((0 : Int32), m4))) r := by
  obtain ⟨m2, g1, g2⟩ := hg
  refine MC.okr (a := a) (X := X) (S' := S') h1 h2 h48 ⟨m2, ?_, g2⟩
  rw [hQ, sb, mPIs, sb, up_s, if_pos (by decide)]
  exact g1
theorem ne_false {b : Bool} (h : b = true) : ¬ b = false := by rw [h]; decide
theorem m_draftC (hM : RM S m) (hd : WXd S) (ch : Int32) : MC S m (fX11_draft ch m) (fun S => cDraft S ch) := by
  have hdl : (sL S 18 0).length ≤ 12 := hd
  have e1 : fX11_isCharacter ch = some (bI (isC ch)) := by
    unfold fX11_isCharacter isC
    rw [m_in, sb]
    by_cases q : (32 : Int32) ≤ ch ∧ ch ≤ 126
    · rw [decide_eq_true q, if_neg (by decide)]; rfl
    · rw [decide_eq_false q, if_pos bF, m_in, sb]
      by_cases q2 : (119040 : Int32) ≤ ch ∧ ch ≤ 119295
      · rw [decide_eq_true q2, if_neg (by decide)]; rfl
      · rw [decide_eq_false q2, if_pos bF]; rfl
  unfold fX11_draft
  rw [e1, sb]
  by_cases c : isC ch = true
  · by_cases f : (sL S 18 0).length = 12
    · refine MC.genT (t := 2) (X := S) hM ?_ (by decide) ?_ ?_
      · rw [c, if_neg (by decide), hM.draft.1, f, if_pos (by decide)]
      · show cDraft S ch = _
        unfold cDraft
        rw [if_neg (ne_false c), if_pos f]
      · show (cDraft (z0 S) ch).2.2 = _
        unfold cDraft
        rw [if_neg (ne_false c), if_pos (show (sL (z0 S) 18 0).length = 12 from f)]; rfl
    · refine MC.gen0 (a := nI ((sL S 18 0).length + 1)) (X := wSL S 18 0 (sL S 18 0 ++ [ch])) (S' := wSL (z0 S) 18 0 (sL S 18 0 ++ [ch])) ?_ ?_ ?_ rfl ?_
      · rw [c, if_neg (by decide), hM.draft.1, if_neg (show ¬ nI (sL S 18 0).length = (12 : Int32) from fun z => f ((nI_eq (b := 12) (by omega) (by omega)).mp z))]
      · show cDraft S ch = _
        unfold cDraft
        rw [if_neg (ne_false c), if_neg f]
      · show (cDraft (z0 S) ch).2.2 = _
        unfold cDraft
        rw [if_neg (ne_false c), if_neg (show ¬ (sL (z0 S) 18 0).length = 12 from f)]; rfl
      · have hM' := hM.z
        have e19 : (up2 m 48 0 0) 19 0 = nI (sL S 18 0).length := hM'.draft.1
        have e19' : (up2 (up2 m 48 0 0) 18 (sL S 18 0).length ch) 19 0 = nI (sL S 18 0).length := by rw [up_f _ _ _ (by decide)]; exact e19
        rw [e19, mS_ok rfl (show (sL S 18 0).length < 12 by omega), sb, mPIs, sb, e19', nI_1, up_s]
        refine ⟨_, rfl, ?_⟩
        · skip
          refine hM'.w18 ((Sm.up (by decide)).tr (Sm.up (by decide))) ⟨?_, ?_⟩
          · rw [up_s, List.length_append]; rfl
          · rw [up_f _ _ _ (by decide)]
            refine Sl_push hM'.draft.2 ?_ (fun k hk => ?_)
            · show up2 _ 18 (sL S 18 0).length ch 18 (12 * 0 + (sL S 18 0).length) = ch
              rw [Nat.mul_zero, Nat.zero_add, up_s]
            · refine up_n _ _ _ ?_
              have : k < (sL S 18 0).length := hk
              omega
  · rw [Bool.not_eq_true] at c
    refine MC.genT (t := 1) (X := S) hM ?_ (by decide) ?_ ?_
    · rw [c, if_pos bF]
    · show cDraft S ch = _
      unfold cDraft
      rw [if_pos c]
    · show (cDraft (z0 S) ch).2.2 = _
      unfold cDraft
      rw [if_pos c]; rfl
theorem m_setC (hM : RM S m) {c : Nat} (h : Inv S c) (x : Int32) {v : Int32} (hv : v = 0 ∨ v = 1) : MC S m (fX11_set x v m) (fun S => cSet S x v) := by
  have hW := h.1.1.t
  have ha := h.2.2
  unfold fX11_set
  rw [m_elt hM hW.pw, sb]
  by_cases e : elt S x = true
  · obtain ⟨i, rfl, hi⟩ := elt_th hW.pw e
    have i40 := hi.l40 hW
    rw [e, if_neg (by decide), m_plain hM rfl rfl (show i < 40 from i40), sb, hM.2.2.2.2.2.2.2.2.1.1]
    by_cases q : sI S 2 i ≠ 3 ∨ 20 ≤ (sQ S 35).length
    · refine MC.genT (t := 2) (X := S) hM ?_ (by decide) ?_ ?_
      · by_cases q3 : sI S 2 i = 3
        · rw [if_pos q3, if_neg]
          rcases q with q | q
          · exact absurd q3 q
          · exact nI_nlt (a := (sQ S 35).length) (b := 20) q (by omega)
        · rw [if_neg q3]
      · show cSet S _ v = _
        unfold cSet
        rw [if_neg (ne_false e), nth_nI (by omega), if_pos q]
      · show (cSet (z0 S) _ v).2.2 = _
        unfold cSet
        rw [if_neg (ne_false (b := elt (z0 S) (nI i)) e), nth_nI (by omega), if_pos (show sI (z0 S) 2 i ≠ 3 ∨ 20 ≤ (sQ (z0 S) 35).length from q)]; rfl
    · have q3 : sI S 2 i = 3 := by
        by_cases z : sI S 2 i = 3
        · exact z
        · exact absurd (Or.inl z) q
      have q4 : (sQ S 35).length < 20 := by
        rcases Nat.lt_or_ge (sQ S 35).length 20 with z | z
        · exact z
        · exact absurd (Or.inr z) q
      have hz := h.z
      have hM' := hM.z
      have hs : Sd [10] [] [] (z0 S) (wSI (z0 S) 10 i v) := Sd.I (by decide)
      have hI1 : Inv0 (wSI (z0 S) 10 i v) c := hz.1.core hs (hz.1.1.w10 hv hi.lt) rfl
      have hth : th (wSI (z0 S) 10 i v) i := (th_cg (hs.i 0 rfl) (hs.i 1 rfl) i).mpr hi
      have hI2 : Inv0 (if sI (z0 S) 10 i = v then wSI (z0 S) 10 i v else telW (wSI (z0 S) 10 i v) i) c := by
        have := hI1.kTelW hth (by rw [hs.q 35 rfl]; exact Nat.le_of_lt q4)
        split
        · exact hI1
        · exact this
      have s48 : sI (set1S (z0 S) i v) 48 0 = 0 := by
        have hs2 : Sd [10, 25, 15, 38, 44, 45] [17, 33] [30, 35] (z0 S) (set1S (z0 S) i v) := by
          unfold set1S
          refine Sd.tr ?_ ((sd_fit _).mono (by decide))
          refine Sd.tr (hs.mono (by decide)) ?_
          split
          · exact Sd.rf
          · exact (sd_telW _ _).mono (by decide)
        rw [hs2.i 48 rfl]; rfl
      refine MC.gen0 (a := sI S 10 i) (X := set1S S i v) (S' := set1S (z0 S) i v) ?_ ?_ ?_ s48 ?_
      · rw [if_pos q3, if_pos (show nI (sQ S 35).length < (20 : Int32) from nI_lt (b := 20) q4 (by decide))]
      · show cSet S _ v = _
        unfold cSet
        rw [if_neg (ne_false e), nth_nI (by omega), if_neg q]
      · show (cSet (z0 S) _ v).2.2 = _
        unfold cSet
        rw [if_neg (ne_false (b := elt (z0 S) (nI i)) e), nth_nI (by omega), if_neg (show ¬ (sI (z0 S) 2 i ≠ 3 ∨ 20 ≤ (sQ (z0 S) 35).length) from q)]; rfl
      · rw [mLZ_ok rfl (show i < 40 from i40), sb, mSZ_ok rfl (show i < 40 from i40) hv, sb, hM'.p 10 rfl]
        have hM1 : RM (wSI (z0 S) 10 i v) (up2 (up2 m 48 0 0) 10 i v) := hM'.wI0 rfl
        have key : ∃ m2, (if sI (z0 S) 10 i = v then some (up2 (up2 m 48 0 0) 10 i v) else (oM (fX11_tellWords (nI i) (up2 (up2 m 48 0 0) 10 i v)) fun _ m11 => some m11)) = some m2 ∧ RM (if sI (z0 S) 10 i = v then wSI (z0 S) 10 i v else telW (wSI (z0 S) 10 i v) i) m2 := by
          by_cases z : sI (z0 S) 10 i = v
          · rw [if_pos z, if_pos z]; exact ⟨_, rfl, hM1⟩
          · rw [if_neg z, if_neg z]
            obtain ⟨m2, a2, b2⟩ := m_telW hM1 hI1.1.t hI1.2.1 hI1.1.l (by rw [hs.q 35 rfl]; show (sQ S 35).length ≤ 22; omega) hth
            exact ⟨m2, by rw [a2, oMs], b2⟩
        obtain ⟨m2, a2, b2⟩ := key
        obtain ⟨m3, a3, b3, -⟩ := m_fit b2 hI2.1.t hI2.1.l hI2.1.k hI2.1.c
        refine ⟨m3, ?_, b3⟩
        rw [a2, sb, a3, oMs]
        unfold oBo
        rw [if_pos (hz.1.1.b 10 (by decide) i), sb]; rfl
  · rw [Bool.not_eq_true] at e
    refine MC.genT (t := 1) (X := S) hM ?_ (by decide) ?_ ?_
    · rw [e, if_pos bF]
    · show cSet S _ v = _
      unfold cSet
      rw [if_pos e]
    · show (cSet (z0 S) _ v).2.2 = _
      unfold cSet
      rw [if_pos (show elt (z0 S) x = false from e)]; rfl
theorem in_dec {v : Int32} {a b : Int32} (h : a ≤ v ∧ v ≤ b) : fX11_in v a b = some 1 := by rw [m_in, decide_eq_true h]; rfl
theorem in_dec0 {v : Int32} {a b : Int32} (h : ¬ (a ≤ v ∧ v ≤ b)) : fX11_in v a b = some 0 := by rw [m_in, decide_eq_false h]; rfl
theorem m_setRule (hM : RM S m) {c : Nat} (h : Inv S c) (x v : Int32) : MC S m (fX11_setRule x v m) (fun S => cSetRule S x v) := by
  have hW := h.1.1.t
  unfold fX11_setRule
  rw [m_elt hM hW.pw, sb]
  by_cases e : elt S x = true
  · obtain ⟨i, rfl, hi⟩ := elt_th hW.pw e
    have i40 := hi.l40 hW
    rw [e, if_neg (by decide)]
    by_cases q : (-1 : Int32) ≤ v ∧ v ≤ 2
    · rw [in_dec q, sb, if_neg (by decide)]
      have hz := h.z
      have hM' := hM.z
      have hI1 : Inv0 (wSI (z0 S) 13 i v) c := hz.1.i rfl
      refine MC.gen0 (a := sI S 13 i) (X := fit (wSI S 13 i v)) (S' := fit (wSI (z0 S) 13 i v)) rfl ?_ ?_ (by rw [(sd_fit _).i 48 rfl]; rfl) ?_
      · show cSetRule S _ v = _
        unfold cSetRule
        rw [if_neg (ne_false e), nth_nI (by omega), if_neg (show ¬ ¬ ((-1 : Int32) ≤ v ∧ v ≤ 2) from fun z => z q)]
      · show (cSetRule (z0 S) _ v).2.2 = _
        unfold cSetRule
        rw [if_neg (ne_false (b := elt (z0 S) (nI i)) e), nth_nI (by omega), if_neg (show ¬ ¬ ((-1 : Int32) ≤ v ∧ v ≤ 2) from fun z => z q)]; rfl
      · rw [m_plain hM' rfl rfl (show i < 40 from i40), sb, mS_ok rfl (show i < 40 from i40), sb]
        obtain ⟨m3, a3, b3, -⟩ := m_fit (hM'.wI0 (k := 13) (i := i) (v := v) rfl) hI1.1.t hI1.1.l hI1.1.k hI1.1.c
        exact ⟨m3, by rw [a3, oMs]; rfl, b3⟩
    · rw [in_dec0 q, sb, if_pos rfl]
      refine MC.genT (t := 2) (X := S) hM rfl (by decide) ?_ ?_
      · show cSetRule S _ v = _
        unfold cSetRule
        rw [if_neg (ne_false e), if_pos q]
      · show (cSetRule (z0 S) _ v).2.2 = _
        unfold cSetRule
        rw [if_neg (ne_false (b := elt (z0 S) (nI i)) e), if_pos q]; rfl
  · rw [Bool.not_eq_true] at e
    refine MC.genT (t := 1) (X := S) hM ?_ (by decide) ?_ ?_
    · rw [e, if_pos bF]
    · show cSetRule S _ v = _
      unfold cSetRule
      rw [if_pos e]
    · show (cSetRule (z0 S) _ v).2.2 = _
      unfold cSetRule
      rw [if_pos (show elt (z0 S) x = false from e)]; rfl
theorem m_setManner (hM : RM S m) {c : Nat} (h : Inv S c) (x v : Int32) : MC S m (fX11_setManner x v m) (fun S => cSetManner S x v) := by
  have hW := h.1.1.t
  unfold fX11_setManner
  rw [m_elt hM hW.pw, sb]
  by_cases e : elt S x = true
  · obtain ⟨i, rfl, hi⟩ := elt_th hW.pw e
    have i40 := hi.l40 hW
    rw [e, if_neg (by decide)]
    by_cases q : (0 : Int32) ≤ v ∧ v ≤ 2
    · rw [in_dec q, sb, if_neg (by decide), m_plain hM rfl rfl (show i < 40 from i40), sb]
      have nq : ¬ ¬ ((0 : Int32) ≤ v ∧ v ≤ 2) := fun z => z q
      by_cases k : sI S 2 i = 7
      · have hz := h.z
        have hM' := hM.z
        refine MC.gen0 (a := sI S 14 i) (X := swl (wSI S 14 i v) i) (S' := swl (wSI (z0 S) 14 i v) i) (by rw [if_pos k]) ?_ ?_ (by rw [(sd_swl _ _).i 48 rfl]; rfl) ?_
        · show cSetManner S _ v = _
          unfold cSetManner
          rw [if_neg (ne_false e), nth_nI (by omega), if_neg nq, if_neg (fun z => z k)]
        · show (cSetManner (z0 S) _ v).2.2 = _
          unfold cSetManner
          rw [if_neg (ne_false (b := elt (z0 S) (nI i)) e), nth_nI (by omega), if_neg nq, if_neg (show ¬ sI (z0 S) 2 i ≠ 7 from fun z => z k)]; rfl
        · rw [m_plain hM' rfl rfl (show i < 40 from i40), sb, mS_ok rfl (show i < 40 from i40), sb]
          obtain ⟨m3, a3, b3, -⟩ := m_swl (hM'.wI0 (k := 14) (i := i) (v := v) rfl) hz.1.1.l i40
          exact ⟨m3, by rw [a3, oMs]; rfl, b3⟩
      · refine MC.genT (t := 3) (X := S) hM (by rw [if_neg k]) (by decide) ?_ ?_
        · show cSetManner S _ v = _
          unfold cSetManner
          rw [if_neg (ne_false e), nth_nI (by omega), if_neg nq, if_pos k]
        · show (cSetManner (z0 S) _ v).2.2 = _
          unfold cSetManner
          rw [if_neg (ne_false (b := elt (z0 S) (nI i)) e), nth_nI (by omega), if_neg nq, if_pos (show sI (z0 S) 2 i ≠ 7 from k)]; rfl
    · rw [in_dec0 q, sb, if_pos rfl]
      refine MC.genT (t := 2) (X := S) hM rfl (by decide) ?_ ?_
      · show cSetManner S _ v = _
        unfold cSetManner
        rw [if_neg (ne_false e), if_pos q]
      · show (cSetManner (z0 S) _ v).2.2 = _
        unfold cSetManner
        rw [if_neg (ne_false (b := elt (z0 S) (nI i)) e), if_pos q]; rfl
  · rw [Bool.not_eq_true] at e
    refine MC.genT (t := 1) (X := S) hM ?_ (by decide) ?_ ?_
    · rw [e, if_pos bF]
    · show cSetManner S _ v = _
      unfold cSetManner
      rw [if_pos e]
    · show (cSetManner (z0 S) _ v).2.2 = _
      unfold cSetManner
      rw [if_pos (show elt (z0 S) x = false from e)]; rfl
end MS

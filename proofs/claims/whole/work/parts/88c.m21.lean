/-! ===== the reference's adding ===== -/
section MAD
variable {S : SS} {m : mm}
def add7 (S : SS) (p : Nat) (k : Int32) : SS := wSI (wSI (wSI (wSI (wSI (wSI (wSI S 0 0 (nI (made S + 1))) 1 (made S) 1) 2 (made S) k) 3 (made S) (nI p)) 13 (made S) (-1)) 14 (made S) 1) 15 (made S) (-1)
theorem add1_7 (S : SS) (p pl : Nat) (k : Int32) : add1 S p pl k = wSK (ren1 (add7 S p k) (made S)) p (insA (sK S p) pl (made S)) := rfl
theorem add2_48 (S : SS) (p pl : Nat) (k : Int32) : sI (add2 S p pl k) 48 0 = sI S 48 0 := by
  unfold add2
  rw [(sd_fit _).i 48 rfl, (sd_telW _ _).i 48 rfl]
  exact a1_f p pl k (by decide)
theorem m_addK (hM : RM S m) {c : Nat} (h : Inv S c) {p pl k : Nat} (hp : th S p) (hpl : pl ≤ (sK S p).length) (hk : k ≤ 7) (hm : made S < 40) (h10 : (sK S p).length < 10) (ha : (sQ S 35).length < 20) : ∃ m2, ((mPI 0 ((m 0 0) + (1 : Int32)) m).bind fun m18 => (mSZ 1 (m 0 0) (1 : Int32) m18).bind fun m19 => (mS 2 (m 0 0) (nI k) m19).bind fun m20 => (mS 3 (m 0 0) (nI p) m20).bind fun m21 => (mS 13 (m 0 0) (-1 : Int32) m21).bind fun m22 => (mS 14 (m 0 0) (1 : Int32) m22).bind fun m23 => (mS 15 (m 0 0) (-1 : Int32) m23).bind fun m24 => oM (fX11_takeDraft (m 0 0) m24) fun _ m26 => (mL 5 (nI p) m26).bind fun x27 => Option.bind (α := mm) (itr (fX11_add_B190 (nI p) (nI pl) (m 0 0)) FU (x27, m26)) fun q28 => (mS 4 (((10 : Int32) * (nI p)) + (nI pl)) (m 0 0) q28).bind fun m29 => (mL 5 (nI p) m29).bind fun x30 => (mS 5 (nI p) (x30 + (1 : Int32)) m29).bind fun m31 => oM (fX11_tellWords (m 0 0) m31) fun _ m33 => oM (fX11_fitOffset m33) fun _ m35 => some ((m 0 0, m35))) = some (nI (made S), m2) ∧ RM (add2 S p pl (nI k)) m2 := by
  have hW := h.1.1.t
  have hL := h.1.1.l
  have p40 := hp.l40 hW
  have e0 : m 0 0 = nI (made S) := hM.made hW.pw
  generalize hn : made S = n at *
  rw [e0, nI_1, mPIs, sb, mSZ_ok rfl (show n < 40 from hm) (Or.inr rfl), sb, mS_ok rfl (show n < 40 from hm), sb, mS_ok rfl (show n < 40 from hm), sb, mS_ok rfl (show n < 40 from hm), sb, mS_ok rfl (show n < 40 from hm), sb, mS_ok rfl (show n < 40 from hm), sb]
  have hM7 : RM (add7 S p (nI k)) (up2 (up2 (up2 (up2 (up2 (up2 (up2 m 0 0 (nI (n + 1))) 1 n 1) 2 n (nI k)) 3 n (nI p)) 13 n (-1)) 14 n 1) 15 n (-1)) := by
    unfold add7
    rw [hn]
    exact ((((((hM.wI0 rfl).wI0 rfl).wI0 rfl).wI0 rfl).wI0 rfl).wI0 rfl).wI0 rfl
  obtain ⟨m1, a1, b1⟩ := m_takeD (S := add7 S p (nI k)) hM7 hL h.1.1.xd (show n < 40 from hm)
  rw [a1, oMs, m_kidn (S := ren1 (add7 S p (nI k)) n) b1 p40, sb]
  have eK : sK (ren1 (add7 S p (nI k)) n) = sK S := rfl
  rw [eK]
  obtain ⟨m2, a2, s2, b2, c2⟩ := m_shiftR p pl (sK S p).length (nI n) hpl h10 p40 m1
  rw [a2, sb, show (10 : Int32) = nI 10 from rfl, nI_mul, nI_add, mS_ok rfl (show 10 * p + pl < 400 by omega), sb]
  have hk1 : ∀ j, j < 40 → RKd m1 j (sK S j) := fun j hj => RM.kds (S := ren1 (add7 S p (nI k)) n) b1 hj
  have e5 : mL 5 (nI p) (up2 m2 4 (10 * p + pl) (nI n)) = some (nI (sK S p).length) := by
    rw [mL_ok rfl (show p < 40 from p40), up_f _ _ _ (by decide), s2.at 5 (by decide), (hk1 p p40).1]
  rw [e5, sb, nI_1, mS_ok rfl (show p < 40 from p40), sb]
  have hM3 : RM (add1 S p pl (nI k)) (up2 (up2 m2 4 (10 * p + pl) (nI n)) 5 p (nI ((sK S p).length + 1))) := by
    rw [add1_7, hn]
    refine RM.wK b1 (((s2.mono (by decide)).tr (Sm.up (by decide))).tr (Sm.up (by decide))) ⟨?_, fun j hj => ?_, ?_⟩ (fun j hj hne => ?_)
    · rw [up_s, ins_len _ _ _ hpl]
    · rw [ins_len _ _ _ hpl] at hj
      rw [up_f _ _ _ (by decide), gn_ins _ _ _ _ hpl]
      have hkp := (hk1 p p40).2.1
      by_cases j1 : j < pl
      · rw [if_pos j1, up_n _ _ _ (by omega), b2 _ (by omega)]
        exact hkp j (by omega)
      · rw [if_neg j1]
        by_cases j2 : j = pl
        · rw [if_pos j2, j2, up_s]
        · rw [if_neg j2, up_n _ _ _ (by omega), c2 j (by omega) (by omega)]
          exact hkp (j - 1) (by omega)
    · rw [ins_len _ _ _ hpl]; omega
    · have hkj := hk1 j hj
      have l10 := hkj.2.2
      refine ⟨?_, fun q hq => ?_, l10⟩
      · rw [up_n _ _ _ hne, up_f _ _ _ (by decide), s2.at 5 (by decide)]
        exact hkj.1
      · have hq' : q < (sK S j).length := hq
        rw [up_f _ _ _ (by decide), up_n _ _ _ (by omega), b2 _ (by omega)]
        exact hkj.2.1 q hq
  have hz : sK S (made S) = [] := (h.1.1.xz (made S) (Nat.le_refl _)).2.2.2.2.2
  have hI1 := a1_Inv0 h.1 (by rw [hn]; exact hm) hp (pl := pl) h10 hk
  have hthn : th (add1 S p pl (nI k)) n := (a1_th (by rw [hn]; exact hm) p pl (nI k) n).mpr (Or.inr hn.symm)
  obtain ⟨m3, a3, b3⟩ := m_telW hM3 hI1.1.t hI1.2.1 hI1.1.l (by rw [a1_Q]; omega) hthn
  have hI2 : Inv0 (telW (add1 S p pl (nI k)) n) c := hI1.kTelW hthn (by rw [a1_Q]; omega)
  obtain ⟨m4, a4, b4, -⟩ := m_fit b3 hI2.1.t hI2.1.l hI2.1.k hI2.1.c
  rw [a3, oMs, a4, oMs]
  refine ⟨m4, rfl, ?_⟩
  unfold add2
  rw [hn]
  exact b4
theorem m_add (hM : RM S m) {c : Nat} (h : Inv S c) (x y z : Int32) : MC S m (fX11_add x y z m) (fun S => cAdd S x y z) := by
  have hW := h.1.1.t
  have hmI := hM.made hW.pw
  have ha := h.2.2
  unfold fX11_add
  rw [m_elt hM hW.pw, sb]
  by_cases e : elt S x = true
  · obtain ⟨p, rfl, hp⟩ := elt_th hW.pw e
    have p40 := hp.l40 hW
    have h10 := (hW.2.2.2.2.2 p hp).2.1
    rw [e, if_neg (by decide), m_kidn hM p40, sb]
    have m40 := hW.m40
    by_cases q : ((0 : Int32) ≤ y ∧ y ≤ nI (sK S p).length) ∧ ((0 : Int32) ≤ z ∧ z ≤ 7)
    · obtain ⟨pl, pl1, rfl⟩ := nI_of2 (n := (sK S p).length) (M := nI (sK S p).length) (nI_toInt (by omega)) (Int32.not_lt.mpr q.1.1) q.1.2
      obtain ⟨k, k1, rfl⟩ := nI_of2 (n := 7) (M := 7) (by decide) (Int32.not_lt.mpr q.2.1) q.2.2
      have nq : ¬ (¬ ((0 : Int32) ≤ nI pl ∧ nI pl ≤ nI (sK S p).length) ∨ ¬ ((0 : Int32) ≤ nI k ∧ nI k ≤ 7)) := fun w => w.elim (fun z => z q.1) (fun z => z q.2)
      rw [in_dec q.1, sb, if_neg (by decide), in_dec q.2, sb, if_neg (by decide), sb, mPIs, sb]
      have hM' := hM.z
      have hz := h.z
      have e0 : (up2 m 48 0 0) 0 0 = nI (made S) := hmI
      have ek : mL 5 (nI p) (up2 m 48 0 0) = some (nI (sK S p).length) := m_kidn hM' p40
      have e2 : mL 2 (nI p) (up2 m 48 0 0) = some (sI S 2 p) := m_plain hM' rfl rfl (show p < 40 from p40)
      have e37 : (up2 m 48 0 0) 37 0 = nI (sQ S 35).length := hM'.2.2.2.2.2.2.2.2.1.1
      by_cases r : made S = 40 ∨ (sK S p).length = 10 ∨ cnH (sI S 2 p) (nI k) = false ∨ 20 ≤ (sQ S 35).length
      · have key : (if (up2 m 48 0 0) 48 0 = 0 then (if (up2 m 48 0 0) 0 0 = (40 : Int32) then ((mPI 48 (3 : Int32) (up2 m 48 0 0)).bind fun m10 => some m10) else (mL 5 (nI p) (up2 m 48 0 0)).bind fun x11 => if x11 = (10 : Int32) then ((mPI 48 (3 : Int32) (up2 m 48 0 0)).bind fun m12 => some m12) else (mL 2 (nI p) (up2 m 48 0 0)).bind fun x13 => (fX11_canHave x13 (nI k)).bind fun x14 => if x14 = 0 then ((mPI 48 (3 : Int32) (up2 m 48 0 0)).bind fun m15 => some m15) else if ((up2 m 48 0 0) 37 0) < (20 : Int32) then ((mPI 48 (0 : Int32) (up2 m 48 0 0)).bind fun m16 => some m16) else (mPI 48 (3 : Int32) (up2 m 48 0 0)).bind fun m17 => some m17) else some (up2 m 48 0 0)) = some (up2 (up2 m 48 0 0) 48 0 3) := by
          rw [up_s, if_pos rfl, e0]
          by_cases r1 : made S = 40
          · rw [r1, if_pos (show nI 40 = (40 : Int32) from rfl), mPIs, sb]
          · rw [if_neg (show ¬ nI (made S) = (40 : Int32) from fun w => r1 ((nI_eq (b := 40) (by omega) (by omega)).mp w)), ek, sb]
            by_cases r2 : (sK S p).length = 10
            · rw [r2, if_pos (show nI 10 = (10 : Int32) from rfl), mPIs, sb]
            · rw [if_neg (show ¬ nI (sK S p).length = (10 : Int32) from fun w => r2 ((nI_eq (b := 10) (by omega) (by omega)).mp w)), e2, sb, m_canH, sb]
              by_cases r3 : cnH (sI S 2 p) (nI k) = false
              · rw [r3, if_pos bF, mPIs, sb]
              · rw [Bool.not_eq_false] at r3
                rw [r3, if_neg (by decide), e37, if_neg, mPIs, sb]
                rcases r with w | w | w | w
                · exact absurd w r1
                · exact absurd w r2
                · rw [r3] at w; cases w
                · exact nI_nlt (a := (sQ S 35).length) (b := 20) w (by omega)
        have er : cAdd S (nI p) (nI pl) (nI k) = tw 3 S := by
          unfold cAdd
          rw [if_neg (ne_false e), nth_nI (by omega), if_neg nq, if_pos r]
        have ez : (cAdd (z0 S) (nI p) (nI pl) (nI k)).2.2 = z0 S := by
          unfold cAdd
          rw [if_neg (ne_false (b := elt (z0 S) (nI p)) e), nth_nI (by omega), if_neg (show ¬ (¬ ((0 : Int32) ≤ nI pl ∧ nI pl ≤ nI (sK (z0 S) p).length) ∨ ¬ ((0 : Int32) ≤ nI k ∧ nI k ≤ 7)) from nq), if_pos (show made (z0 S) = 40 ∨ (sK (z0 S) p).length = 10 ∨ cnH (sI (z0 S) 2 p) (nI k) = false ∨ 20 ≤ (sQ (z0 S) 35).length from r)]; rfl
        refine ⟨up2 (up2 m 48 0 0) 48 0 3, ?_, ?_⟩
        · show _ = some ((cAdd S (nI p) (nI pl) (nI k)).2.1, up2 (up2 m 48 0 0) 48 0 3)
          rw [er, key, sb, up_s, if_neg (by decide)]; rfl
        · show RM (wSI (cAdd (z0 S) (nI p) (nI pl) (nI k)).2.2 48 0 (cAdd S (nI p) (nI pl) (nI k)).1) _
          rw [ez, er]
          exact hM'.wI0 rfl
      · have r1 : ¬ made S = 40 := fun w => r (Or.inl w)
        have r2 : ¬ (sK S p).length = 10 := fun w => r (Or.inr (Or.inl w))
        have r3 : cnH (sI S 2 p) (nI k) = true := by
          cases w : cnH (sI S 2 p) (nI k) with
          | true => rfl
          | false => exact absurd (Or.inr (Or.inr (Or.inl w))) r
        have r4 : (sQ S 35).length < 20 := by
          rcases Nat.lt_or_ge (sQ S 35).length 20 with w | w
          · exact w
          · exact absurd (Or.inr (Or.inr (Or.inr w))) r
        have eu : up2 (up2 m 48 0 0) 48 0 (0 : Int32) = up2 m 48 0 0 := by
          funext a j
          rw [up2_g, up2_g]
          by_cases w : a = 48 ∧ j = 0
          · rw [if_pos w, if_pos w]
          · rw [if_neg w]
        obtain ⟨m2, g1, g2⟩ := m_addK hM' hz (p := p) (pl := pl) (k := k) hp pl1 k1 (show made S < 40 by omega) (show (sK S p).length < 10 by omega) r4
        refine MC.okr (a := nI (made S)) (X := add2 S p pl (nI k)) (S' := add2 (z0 S) p pl (nI k)) ?_ ?_ (by rw [add2_48]; rfl) ⟨m2, ?_, g2⟩
        · show cAdd S (nI p) (nI pl) (nI k) = _
          unfold cAdd
          rw [if_neg (ne_false e), nth_nI (by omega), nth_nI (by omega), if_neg nq, if_neg r]
        · show (cAdd (z0 S) (nI p) (nI pl) (nI k)).2.2 = _
          unfold cAdd
          rw [if_neg (ne_false (b := elt (z0 S) (nI p)) e), nth_nI (by omega), nth_nI (by omega), if_neg (show ¬ (¬ ((0 : Int32) ≤ nI pl ∧ nI pl ≤ nI (sK (z0 S) p).length) ∨ ¬ ((0 : Int32) ≤ nI k ∧ nI k ≤ 7)) from nq), if_neg (show ¬ (made (z0 S) = 40 ∨ (sK (z0 S) p).length = 10 ∨ cnH (sI (z0 S) 2 p) (nI k) = false ∨ 20 ≤ (sQ (z0 S) 35).length) from r)]; rfl
        · rw [up_s, if_pos rfl, e0, if_neg (show ¬ nI (made S) = (40 : Int32) from fun w => r1 ((nI_eq (b := 40) (by omega) (by omega)).mp w)), ek, sb, if_neg (show ¬ nI (sK S p).length = (10 : Int32) from fun w => r2 ((nI_eq (b := 10) (by omega) (by omega)).mp w)), e2, sb, m_canH, sb, r3, if_neg (by decide), e37, if_pos (show nI (sQ S 35).length < (20 : Int32) from nI_lt (b := 20) r4 (by decide)), mPIs, sb, eu, sb, up_s, if_pos (by decide)]
          rw [e0] at g1 ⊢
          exact g1
    · have cnd : ¬ ((0 : Int32) ≤ y ∧ y ≤ nI (sK S p).length) ∨ ¬ ((0 : Int32) ≤ z ∧ z ≤ 7) := by
        by_cases w : (0 : Int32) ≤ y ∧ y ≤ nI (sK S p).length
        · exact Or.inr (fun w2 => q ⟨w, w2⟩)
        · exact Or.inl w
      refine MC.thr (k := 2) (X := S) hM ?_ ?_ ?_
      · show cAdd S _ y z = _
        unfold cAdd
        rw [if_neg (ne_false e), nth_nI (by omega), if_pos cnd]
      · show (cAdd (z0 S) _ y z).2.2 = _
        unfold cAdd
        rw [if_neg (ne_false (b := elt (z0 S) (nI p)) e), nth_nI (by omega), if_pos (show ¬ ((0 : Int32) ≤ y ∧ y ≤ nI (sK (z0 S) p).length) ∨ ¬ ((0 : Int32) ≤ z ∧ z ≤ 7) from cnd)]; rfl
      · have key : ((fX11_in y (0 : Int32) (nI (sK S p).length)).bind fun x5 => if x5 = 0 then (some (2 : Int32)) else (fX11_in z (0 : Int32) (7 : Int32)).bind fun x6 => if x6 = 0 then (some (2 : Int32)) else some (0 : Int32)) = some 2 := by
          by_cases w : (0 : Int32) ≤ y ∧ y ≤ nI (sK S p).length
          · have w2 : ¬ ((0 : Int32) ≤ z ∧ z ≤ 7) := fun w2 => q ⟨w, w2⟩
            rw [in_dec w, sb, if_neg (by decide), in_dec0 w2, sb, if_pos rfl]
          · rw [in_dec0 w, sb, if_pos rfl]
        rw [key, sb, mPIs, sb, up_s, if_neg (by decide), sb, up_s, if_neg (by decide)]
  · rw [Bool.not_eq_true] at e
    refine MC.thr (k := 1) (X := S) hM ?_ ?_ ?_
    · show cAdd S x y z = _
      unfold cAdd
      rw [if_pos e]
    · show (cAdd (z0 S) x y z).2.2 = _
      unfold cAdd
      rw [if_pos (show elt (z0 S) x = false from e)]; rfl
    · rw [e, if_pos bF, sb, mPIs, sb, up_s, if_neg (by decide), sb, up_s, if_neg (by decide)]
end MAD

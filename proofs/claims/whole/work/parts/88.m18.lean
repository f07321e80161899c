/-! ===== the reference's calls: naming, setting, the draft, words ===== -/
theorem Inv0.z {S : SS} {c : Nat} (h : Inv0 S c) : Inv0 (z0 S) c := h.i rfl
theorem fit_z {S : SS} (h : fit S = S) : fit (z0 S) = z0 S := by
  unfold fit at *
  rw [ln_z]
  by_cases q : 0 < sI S 25 0 ∧ nI (ln S).length ≤ sI S 25 0
  · rw [if_pos q] at h
    rw [if_pos (show 0 < sI (z0 S) 25 0 ∧ nI (ln S).length ≤ sI (z0 S) 25 0 from q)]
    refine wSI_same ?_
    have := congrArg (fun T => sI T 25 0) h
    replace this : sI (wSI S 25 0 (if (ln S).length = 0 then 0 else nI (((ln S).length - 1) / 10 * 10))) 25 0 = sI S 25 0 := this
    rw [sI_I, if_pos ⟨rfl, rfl⟩] at this
    rw [this]; rfl
  · rw [if_neg (show ¬ (0 < sI (z0 S) 25 0 ∧ nI (ln S).length ≤ sI (z0 S) 25 0) from q)]
theorem Inv.z {S : SS} {c : Nat} (h : Inv S c) : Inv (z0 S) c := ⟨h.1.z, fit_z h.2.1, h.2.2⟩
section MR
variable {S : SS} {m : mm}
theorem m_telW (hM : RM S m) (h : WT S) (hV : WV S) (hL : WL S) (h21 : (sQ S 35).length ≤ 22) {i : Nat} (hi : th S i) : TS (fX11_tellWords (nI i)) m (telW S i) := by
  unfold TS fX11_tellWords telW
  rw [m_shows hM h.pw hi.lt, sb]
  by_cases q : shn S i = true
  · have hM0 : RM S (up2 m 29 0 0) := hM.tsc (Sm.up (by decide))
    obtain ⟨m1, a1, b1, s1⟩ := m_words hM0 h hL hi (Tx_0 m) (by decide)
    have hM1 : RM S m1 := hM0.tsc s1
    have hw := wd_len0 S hL i []
    obtain ⟨m2, a2, b2⟩ := m_tel hM1 hV hL h21 (r := rgn S i) (fun j hj => (rgn_th h hi hj).2.l40 h) b1 (by simp at hw; omega)
    rw [q, if_neg (by decide), if_pos rfl, mPIs, sb, a1, oMs, m_region hM1 h.pw hi.lt, sb, a2, oMs]
    exact ⟨m2, rfl, b2⟩
  · rw [if_neg q]
    rw [Bool.not_eq_true] at q
    rw [q, if_pos bF]
    exact ⟨m, rfl, hM⟩
theorem m_takeD (hM : RM S m) (hL : WL S) (hd : WXd S) {i : Nat} (hi : i < 40) : TS (fX11_takeDraft (nI i)) m (ren1 S i) := by
  have hdl : (sL S 18 0).length ≤ 12 := hd
  have hT := hM.2.2.2.2.1
  obtain ⟨m1, a1, b1, b2, s1⟩ := m_copyT (m := m) (a := 18) (o := 0) (b := 6) (p := 12 * i) (l := sL S 18 0) rfl rfl (show 0 + (sL S 18 0).length ≤ 12 by omega) (show 12 * i + (sL S 18 0).length ≤ 480 by omega) (Or.inl (by decide)) (by have := hT.2; rw [Nat.mul_zero] at this; exact this)
  unfold TS fX11_takeDraft
  rw [show (12 : Int32) = nI 12 from rfl, nI_mul, hT.1, show (0 : Int32) = nI 0 from rfl, a1, oMs, mS_ok rfl (show i < 40 from hi), sb, mPIs, sb]
  refine ⟨_, rfl, ?_⟩
  have e19 : m1 19 0 = nI (sL S 18 0).length := by rw [s1.at 19 (by decide)]; exact hT.1
  rw [e19]
  unfold ren1
  have hM1 : RM (wSL S 6 i (sL S 18 0)) (up2 m1 7 i (nI (sL S 18 0).length)) := by
    refine hM.w6 ((s1.mono (by decide)).tr (Sm.up (by decide))) ⟨up_s _ _ _ _, ?_⟩ (fun j hj hne => ?_)
    · rw [up_f _ _ _ (by decide)]; exact b1
    · have g := hM.2.1 j hj
      have gl := (hL j).1
      refine ⟨by rw [up_n _ _ _ hne, s1.at 7 (by decide)]; exact g.1, ?_⟩
      rw [up_f _ _ _ (by decide)]
      exact Sl_eq g.2 (fun k hk => b2 _ (by omega))
  refine hM1.w18 (Sm.up (by decide)) ⟨up_s _ _ _ _, Sl_nil⟩
/-- the calls that change the tree: which they refuse -/
theorem m_t2 {x : Int32} {G : mm → Option (Int32 × mm)} {a : SS → Int32} {F : SS → SS} (hM : RM S m) (h : PW S) (h21 : (sQ S 35).length ≤ 24) (hg : ∀ (i : Nat) (m' : mm), x = nI i → 0 < i → th S i → (sQ S 35).length < 20 → RM (z0 S) m' → sI (F (z0 S)) 48 0 = 0 ∧ ∃ m2, G m' = some (a S, m2) ∧ RM (F (z0 S)) m2) : MC S m ((fX11_isElement x m).bind fun x1 => Option.bind (α := Int32) (if x1 = 0 then (some (1 : Int32)) else if x = 0 then (some (2 : Int32)) else if (m 37 0) < (20 : Int32) then (some (0 : Int32)) else some (2 : Int32)) fun q2 => (mPI 48 q2 m).bind fun m4 => if (m4 48 0) ≤ 0 then G m4 else some (((0 : Int32), m4))) (fun S => if elt S x = false then tw 1 S else if x = 0 ∨ 20 ≤ (sQ S 35).length then tw 2 S else rt (a S) (F S)) := by
  rw [m_elt hM h, sb]
  by_cases e : elt S x = true
  · obtain ⟨i, rfl, hi⟩ := elt_th h e
    have i40 := hi.l40' h
    have e' : ¬ elt S (nI i) = false := by rw [e]; decide
    have ez : ¬ elt (z0 S) (nI i) = false := e'
    rw [e, if_neg (by decide), hM.2.2.2.2.2.2.2.2.1.1]
    by_cases c : nI i = 0 ∨ 20 ≤ (sQ S 35).length
    · refine MC.thr (k := 2) (X := S) hM ?_ ?_ ?_
      · show (if _ then _ else _) = _
        rw [if_neg e', if_pos c]
      · show (if elt (z0 S) (nI i) = false then tw 1 (z0 S) else if nI i = 0 ∨ 20 ≤ (sQ (z0 S) 35).length then tw 2 (z0 S) else _).2.2 = _
        rw [if_neg ez, if_pos (show nI i = 0 ∨ 20 ≤ (sQ (z0 S) 35).length from c)]; rfl
      · have : (if nI i = 0 then some (2 : Int32) else if nI (sQ S 35).length < 20 then some 0 else some 2) = some 2 := by
          by_cases c0 : nI i = 0
          · rw [if_pos c0]
          · rw [if_neg c0, if_neg]
            rcases c with c | c
            · exact absurd c c0
            · exact nI_nlt (a := (sQ S 35).length) (b := 20) c (by omega)
        rw [this, sb, mPIs, sb, up_s, if_neg (by decide)]
    · have c1 : ¬ nI i = 0 := fun z => c (Or.inl z)
      have c2 : (sQ S 35).length < 20 := by
        rcases Nat.lt_or_ge (sQ S 35).length 20 with q | q
        · exact q
        · exact absurd (Or.inr q) c
      have hi0 : 0 < i := by
        rcases Nat.eq_zero_or_pos i with q | q
        · rw [q] at c1; exact absurd rfl c1
        · exact q
      obtain ⟨g1, m2, g2, g3⟩ := hg i _ rfl hi0 hi c2 hM.z
      refine MC.okr (a := a S) (X := F S) (S' := F (z0 S)) ?_ ?_ g1 ⟨m2, ?_, g3⟩
      · show (if _ then _ else _) = _
        rw [if_neg e', if_neg c]
      · show (if elt (z0 S) (nI i) = false then tw 1 (z0 S) else if nI i = 0 ∨ 20 ≤ (sQ (z0 S) 35).length then tw 2 (z0 S) else _).2.2 = _
        rw [if_neg ez, if_neg (show ¬ (nI i = 0 ∨ 20 ≤ (sQ (z0 S) 35).length) from c)]; rfl
      · rw [if_neg c1, if_pos (show nI (sQ S 35).length < (20 : Int32) from nI_lt (b := 20) c2 (by decide)), sb, mPIs, sb, up_s, if_pos (by decide)]
        exact g2
  · rw [Bool.not_eq_true] at e
    refine MC.thr (k := 1) (X := S) hM ?_ ?_ ?_
    · show (if _ then _ else _) = _
      rw [if_pos e]
    · show (if elt (z0 S) x = false then tw 1 (z0 S) else _).2.2 = _
      rw [if_pos (show elt (z0 S) x = false from e)]; rfl
    · rw [e, if_pos bF, sb, mPIs, sb, up_s, if_neg (by decide)]
theorem m_same (hM : RM S m) (hL : WL S) (hd : WXd S) {x : Nat} (hx : x < 40) : (Option.bind (α := Int32) (if nI (sL S 6 x).length = (m 19 0) then (some (1 : Int32)) else some (0 : Int32)) fun q6 => itr (fX11_rename_B64 (nI x) m) FU (q6, (0 : Int32))) = some (bI (decide (sL S 6 x = sL S 18 0))) := by
  have hdl : (sL S 18 0).length ≤ 12 := hd
  have hnl := (hL x).1
  have hT := hM.2.2.2.2.1
  have hN := hM.2.1 x hx
  generalize hd' : sL S 18 0 = d at *
  generalize hn' : sL S 6 x = n at *
  have key : ∃ b, itr (fX11_rename_B64 (nI x) m) FU (bI (decide (n.length = d.length ∧ n.take 0 = d.take 0)), nI 0) = some b ∧ b = bI (decide (n = d)) := by
    refine itr_brk (R := fun b => b = bI (decide (n = d))) (fun j a => a = (bI (decide (n.length = d.length ∧ n.take j = d.take j)), nI j)) d.length (fun j a hj hX => ?_) (fun a hX => ?_) (FU_lt (by omega)) rfl
    · subst hX
      by_cases e : n.length = d.length ∧ n.take j = d.take j
      · refine Or.inl ⟨_, ?_, rfl⟩
        have g1 : mL 6 (nI 12 * nI x + nI j) m = some (ge n j) := hN.at rfl (show 12 * x + n.length ≤ 480 by omega) (by omega)
        have g2 : mL 18 (nI j) m = some (ge d j) := by
          rw [mL_ok rfl (show j < 12 by omega)]
          have := hT.2 j hj
          rw [Nat.mul_zero, Nat.zero_add] at this
          rw [this]
        unfold fX11_rename_B64
        rw [hT.1, decide_eq_true e, if_neg (nI_ge hj (by omega)), if_neg (show ¬ bI true = 0 by decide)]
        show (mL 6 (nI 12 * nI x + nI j) m).bind _ = _
        rw [g1, sb]
        show (mL 18 (nI j) m).bind _ = _
        rw [g2, sb]
        by_cases q : ge n j = ge d j
        · rw [if_pos q, decide_eq_true ⟨e.1, by rw [take_succ_ge (by omega), take_succ_ge hj, e.2, q]⟩, nI_1]; rfl
        · have : ¬ (n.length = d.length ∧ n.take (j + 1) = d.take (j + 1)) := by
            intro z
            have z2 := z.2
            rw [take_succ_ge (by omega), take_succ_ge hj, e.2] at z2
            have := List.append_cancel_left z2
            exact q (by injection this)
          rw [if_neg q, decide_eq_false this, nI_1]; rfl
      · refine Or.inr ⟨bI (decide (n = d)), ?_, rfl⟩
        have : ¬ n = d := fun z => e (by rw [z]; exact ⟨rfl, rfl⟩)
        unfold fX11_rename_B64
        rw [hT.1, decide_eq_false e, decide_eq_false this, if_neg (nI_ge hj (by omega)), if_pos bF]
    · subst hX
      refine ⟨bI (decide (n = d)), ?_, rfl⟩
      unfold fX11_rename_B64
      rw [hT.1, if_pos (Int32.le_refl _)]
      have : decide (n.length = d.length ∧ n.take d.length = d.take d.length) = decide (n = d) := by
        rw [decide_eq_decide]
        constructor
        · intro z
          have z2 := z.2
          rw [← z.1, List.take_length, z.1, List.take_length] at z2
          exact z2
        · intro z
          rw [z]; exact ⟨rfl, rfl⟩
      rw [this]
  obtain ⟨b, k1, k2⟩ := key
  have : (if nI n.length = m 19 0 then some (1 : Int32) else some 0) = some (bI (decide (n.length = d.length ∧ n.take 0 = d.take 0))) := by
    rw [hT.1]
    by_cases q : n.length = d.length
    · rw [if_pos (by rw [q]), decide_eq_true ⟨q, rfl⟩]; rfl
    · rw [if_neg (fun z => q ((nI_eq (by omega) (by omega)).mp z)), decide_eq_false (fun z => q z.1)]; rfl
  rw [this, sb]
  show itr _ FU (_, nI 0) = _
  rw [k1, k2]
theorem rn_th {x i : Nat} : th (ren1 S x) i ↔ th S i := Iff.rfl
theorem ren_I0 {c : Nat} (h : Inv S c) {x : Nat} (hx : th S x) (ha : (sQ S 35).length < 20) : Inv0 (ren1 S x) c ∧ Inv0 (if sL S 6 x = sL S 18 0 then ren1 S x else telW (ren1 S x) x) c := by
  have hs : Sd [] [6, 18] [] S (ren1 S x) := (Sd.L (by decide)).tr (Sd.L (by decide))
  have h1 : Inv0 (ren1 S x) c := h.1.core hs ((h.1.1.w6 h.1.1.xd).w18 (by simp)) rfl
  refine ⟨h1, ?_⟩
  have h2 := h1.kTelW ((th_cg rfl rfl x).mpr hx) (by rw [hs.q 35 rfl]; omega)
  split
  · exact h1
  · exact h2
theorem ren_6 (S : SS) (x : Nat) : sL (ren S x) 6 x = sL S 18 0 ∧ sI (ren S x) 48 0 = sI S 48 0 := by
  have hs : Sd [25, 15, 38, 44, 45] [17, 33] [30, 35] (ren1 S x) (ren S x) := by
    unfold ren
    refine Sd.tr ?_ ((sd_fit _).mono (by decide))
    split
    · exact Sd.rf
    · exact (sd_telW _ _).mono (by decide)
  rw [hs.l 6 rfl, hs.i 48 rfl]
  refine ⟨?_, rfl⟩
  show sL (wSL (wSL S 6 x (sL S 18 0)) 18 0 []) 6 x = _
  rw [sL_L, if_neg (by simp), sL_L, if_pos ⟨rfl, rfl⟩]
theorem m_ren (hM : RM S m) {c : Nat} (h : Inv S c) {x : Nat} (hx : th S x) (ha : (sQ S 35).length < 20) : ∃ m2, ((mL 7 (nI x) m).bind fun x5 => Option.bind (α := Int32) (if x5 = (m 19 0) then (some (1 : Int32)) else some (0 : Int32)) fun q6 => Option.bind (α := Int32) (itr (fX11_rename_B64 (nI x) m) FU (q6, (0 : Int32))) fun q8 => oM (fX11_takeDraft (nI x) m) fun _ m10 => Option.bind (α := mm) (if q8 = 0 then (oM (fX11_tellWords (nI x) m10) fun _ m14 => some m14) else some m10) fun q11 => oM (fX11_fitOffset q11) fun _ m16 => (mL 7 (nI x) m16).bind fun x17 => some ((x17, m16))) = some (nI (sL S 18 0).length, m2) ∧ RM (ren S x) m2 := by
  have hW := h.1.1.t
  have hL := h.1.1.l
  have x40 := hx.l40 hW
  have hsame := m_same hM hL h.1.1.xd x40
  obtain ⟨m1, a1, b1⟩ := m_takeD hM hL h.1.1.xd x40
  obtain ⟨hI1, hI2⟩ := ren_I0 h hx ha
  have key : ∃ m2, (if bI (decide (sL S 6 x = sL S 18 0)) = 0 then (oM (fX11_tellWords (nI x) m1) fun _ m14 => some m14) else some m1) = some m2 ∧ RM (if sL S 6 x = sL S 18 0 then ren1 S x else telW (ren1 S x) x) m2 := by
    by_cases q : sL S 6 x = sL S 18 0
    · rw [if_pos q, decide_eq_true q, if_neg (by decide)]
      exact ⟨m1, rfl, b1⟩
    · rw [if_neg q, decide_eq_false q, if_pos bF]
      obtain ⟨m2, a2, b2⟩ := m_telW b1 hI1.1.t hI1.2.1 hI1.1.l (show (sQ S 35).length ≤ 22 by omega) (rn_th.mpr hx)
      exact ⟨m2, by rw [a2, oMs], b2⟩
  obtain ⟨m2, a2, b2⟩ := key
  obtain ⟨m3, a3, b3, -⟩ := m_fit b2 hI2.1.t hI2.1.l hI2.1.k hI2.1.c
  refine ⟨m3, ?_, b3⟩
  have e6 : sL (ren S x) 6 x = sL S 18 0 := (ren_6 S x).1
  have e7 : mL 7 (nI x) m3 = some (nI (sL S 18 0).length) := by
    rw [mL_ok rfl (show x < 40 from x40), (RM.name (S := ren S x) b3 x40).1, e6]
  rw [mL_ok rfl (show x < 40 from x40), sb, (hM.name x40).1, ← Option.bind_assoc, hsame, sb, a1, oMs, a2, sb, a3, oMs, e7, sb]
theorem m_rename (hM : RM S m) {c : Nat} (h : Inv S c) (x : Int32) : MC S m (fX11_rename x m) (fun S => cRename S x) := by
  refine m_t2 (a := fun S => nI (sL S 18 0).length) (F := fun S => ren S (nth x)) hM h.1.1.t.pw (by have := h.2.2; omega) (fun i m' e i0 hi ha hM' => ?_)
  subst e
  have i40 := hi.l40 h.1.1.t
  rw [nth_nI (by omega)]
  exact ⟨by rw [(ren_6 _ _).2]; rfl, m_ren hM' h.z hi ha⟩
end MR

/-! ===== the reference's hiding ===== -/
section MH
variable {S : SS} {m : mm}
theorem hide_lem {c : Nat} (h : Inv S c) {x : Nat} (hx : th S x) (h0 : 0 < x) (ha : (sQ S 35).length < 20) {T : SS} (hT : tel (wSI S 12 x 1) (rgS S x) (gone S x) = T) : InvT (wSI S 12 x 1) c 19 ∧ InvT T c 20 ∧ Sd [12, 15, 38, 44, 45] [17, 33] [30, 35] S T ∧ rfgO S x = rfg T (dpar S x) ((sK T (dpar S x)).drop (plc S x + 1)) ((sK T (dpar S x)).take (plc S x)) ∧ (gonA T (sI T 20 0) = true → th T (rfgO S x)) := by
  have hW := h.1.1.t
  have hC := h.1.1
  have hs : Sd [12] [] [] S (wSI S 12 x 1) := Sd.I (by decide)
  have hT0 : CoreT (wSI S 12 x 1) := hC.toT.w12 (Or.inr rfl) h0 hx.lt
  have ht0 : ∀ i, th (wSI S 12 x 1) i ↔ th S i := th_cg (hs.i 0 rfl) (hs.i 1 rfl)
  have hI0 : InvT (wSI S 12 x 1) c 19 := ⟨hT0, h.1.2.1.i (by decide) (by decide), h.1.2.2.1.sd hs rfl, by show (sQ S 35).length ≤ 19; omega⟩
  have hg := gone_len hC.l x
  have hI1 : InvT (tel (wSI S 12 x 1) (rgS S x) (gone S x)) c 20 := hI0.kTel (fun r hr => by
    unfold rgS at hr
    split at hr
    · have := rgn_th hW hx hr
      exact ⟨by rw [hs.i 2 rfl]; exact this.1, (ht0 r).mpr this.2⟩
    · cases hr) hg
  have hs1 := sd_tel (wSI S 12 x 1) (rgS S x) (gone S x)
  have hs2 : Sd [12, 15, 38, 44, 45] [17, 33] [30, 35] S (tel (wSI S 12 x 1) (rgS S x) (gone S x)) := (hs.mono (by decide)).tr (hs1.mono (by decide))
  rw [hT] at *
  have e20 : sI T 20 = sI S 20 := hs2.i 20 rfl
  have e12 : sI T 12 = sI (wSI S 12 x 1) 12 := hs1.i 12 rfl
  have c40 := hC.c.2.l40 hW
  have htT : ∀ i, th T i ↔ th S i := th_cg (hs2.i 0 rfl) (hs2.i 1 rfl)
  have shT : ∀ i, i < made S → shn T i = (shn S i && !wthn S i x) := fun i hi => by
    rw [shn_cg (S := wSI S 12 x 1) (hs1.i 3 rfl) e12]
    exact hid_shn hW i hi
  obtain ⟨u1, u2⟩ := hW.up h0 hx
  obtain ⟨n1, n2⟩ := sib_ne hW h0 hx
  have hh : ∀ j, j ≠ x → hid T j = hid S j := fun j hj => by
    unfold hid
    rw [e12, sI_I, if_neg (fun z => hj z.2)]
  have er : rfgO S x = rfg T (dpar S x) ((sK T (dpar S x)).drop (plc S x + 1)) ((sK T (dpar S x)).take (plc S x)) := by
    rw [hs2.2.2.2]
    exact (rfg_cg (fun j hj => hh j (n1 j hj)) (fun j hj => hh j (n2 j hj))).symm
  refine ⟨hI0, hI1, hs2, er, fun g => ?_⟩
  rw [e20, hC.c.1, gon_nI c40, hs2.i 1 rfl, decide_eq_false hC.c.2.2, Bool.false_or, shT _ hC.c.2.lt, hC.xs] at g
  have hin : x ∈ an S (cur S) := by
    simp only [Bool.true_and, Bool.not_not] at g
    exact of_decide_eq_true g
  have hxs := anc_shn hW _ hC.c.2.lt hC.xs x hin
  have hps := (shn_up hW h0 hx hxs).1
  rw [er]
  have hpT : shn T (dpar S x) = true := by
    rw [shT _ u1.lt, hps]
    have : wthn S (dpar S x) x = false := decide_eq_false (hW.not_up h0 hx)
    rw [this]; rfl
  exact (rfg_in hI1.1.1 ((htT _).mpr u1) hpT (fun j hj => List.mem_of_mem_drop hj) (fun j hj => List.mem_of_mem_take hj)).1
theorem m_rgS (hM : RM S m) (h : PW S) {x : Nat} (hx : x < made S) : ((fX11_shows (nI x) m).bind fun x14 => if x14 = 0 then (some (-1 : Int32)) else (fX11_regionOf (nI x) m).bind fun x17 => some x17) = some (rI (rgS S x)) := by
  rw [m_shows hM h hx, sb]
  unfold rgS
  by_cases q : shn S x = true
  · rw [q, if_neg (by decide), if_pos rfl, m_region hM h hx]; rfl
  · rw [if_neg q]
    rw [Bool.not_eq_true] at q
    rw [q, if_pos bF]; rfl
theorem rgS_40 (h : WT S) {x : Nat} (hx : th S x) (i : Nat) (hi : rgS S x = some i) : i < 40 := by
  unfold rgS at hi
  split at hi
  · exact (rgn_th h hx hi).2.l40 h
  · cases hi
theorem hd3_I0 {c : Nat} (h : Inv S c) {x : Nat} (hx : th S x) (h0 : 0 < x) (v : Int32) (ha : (sQ S 35).length < 20) : Inv0 (hd3 S x v) c := by
  unfold hd3
  split
  · exact hide_on h hx h0 ha
  · split
    · exact hide_off h hx h0 ha
    · exact h.1
theorem hd3_48 (S : SS) (x : Nat) (v : Int32) : sI (fit (hd3 S x v)) 48 0 = sI S 48 0 := by
  rw [(sd_fit _).i 48 rfl]
  unfold hd3
  split
  · rw [(sd_los _ _).i 48 rfl, (sd_tel _ _ _).i 48 rfl]; rfl
  · split
    · rw [(sd_telW _ _).i 48 rfl]; rfl
    · rfl
theorem m_hideK (hM : RM S m) {c : Nat} (h : Inv S c) {x : Nat} (hx : th S x) (h0 : 0 < x) (ha : (sQ S 35).length < 20) (v : Int32) : ∃ m2, (if v = 0 then (if sI S 12 x = 0 then (some m) else if v = 0 then ((mSZ 12 (nI x) (0 : Int32) m).bind fun m8 => oM (fX11_tellWords (nI x) m8) fun _ m10 => some m10) else some m) else if sI S 12 x = 0 then ((fX11_shows (nI x) m).bind fun x14 => Option.bind (α := Int32) (if x14 = 0 then (some (-1 : Int32)) else (fX11_regionOf (nI x) m).bind fun x17 => some x17) fun q15 => (mSZ 12 (nI x) (1 : Int32) m).bind fun m18 => oM (fX11_makeGone (nI x) m18) fun _ m20 => oM (fX11_tell q15 m20) fun _ m22 => (mL 3 (nI x) m22).bind fun x23 => (fX11_placeOf (nI x) m22).bind fun x24 => (fX11_placeOf (nI x) m22).bind fun x25 => oM (fX11_lose x23 (x24 + (1 : Int32)) (x25 - (1 : Int32)) m22) fun _ m27 => some m27) else if sI S 12 x = 0 then (some m) else if v = 0 then ((mSZ 12 (nI x) (0 : Int32) m).bind fun m11 => oM (fX11_tellWords (nI x) m11) fun _ m13 => some m13) else some m) = some m2 ∧ RM (hd3 S x v) m2 := by
  have hW := h.1.1.t
  have hC := h.1.1
  have x40 := hx.l40 hW
  unfold hd3
  by_cases v0 : v = 0
  · rw [if_pos v0, if_neg (show ¬ (v ≠ 0 ∧ sI S 12 x = 0) from fun z => z.1 v0)]
    by_cases q : sI S 12 x = 0
    · rw [if_pos q, if_neg (show ¬ (sI S 12 x ≠ 0 ∧ v = 0) from fun z => z.1 q)]
      exact ⟨m, rfl, hM⟩
    · rw [if_neg q, if_pos v0, if_pos ⟨q, v0⟩, mSZ_ok rfl (show x < 40 from x40) (Or.inl rfl), sb]
      have hs : Sd [12] [] [] S (wSI S 12 x 0) := Sd.I (by decide)
      have hT0 : CoreT (wSI S 12 x 0) := hC.toT.w12 (Or.inl rfl) h0 hx.lt
      obtain ⟨m2, a2, b2⟩ := m_telW (hM.wI0 (k := 12) (i := x) (v := 0) rfl) hT0.1 (h.1.2.1.i (by decide) (by decide)) hT0.2.1 (show (sQ S 35).length ≤ 22 by omega) ((th_cg (hs.i 0 rfl) (hs.i 1 rfl) x).mpr hx)
      exact ⟨m2, by rw [a2, oMs], b2⟩
  · rw [if_neg v0]
    by_cases q : sI S 12 x = 0
    · rw [if_pos q, if_pos (show v ≠ 0 ∧ sI S 12 x = 0 from ⟨v0, q⟩)]
      obtain ⟨hI0, hI1, hs2, er, hth⟩ := hide_lem h hx h0 ha rfl
      have e0 := m_rgS hM hW.pw hx.lt
      rw [← Option.bind_assoc, e0, sb, mSZ_ok rfl (show x < 40 from x40) (Or.inr rfl), sb]
      have hM1 : RM (wSI S 12 x 1) (up2 m 12 x 1) := hM.wI0 rfl
      obtain ⟨m1, a1, b1, s1⟩ := m_gone hM1 hI0.1.2.1 x40
      have hM2 := hM1.tsc s1
      have hg : (gone (wSI S 12 x 1) x) = gone S x := rfl
      rw [hg] at b1
      obtain ⟨m2, a2, b2⟩ := m_tel hM2 hI0.2.1 hI0.1.2.1 (show (sQ S 35).length ≤ 22 by omega) (r := rgS S x) (rgS_40 hW hx) b1 (gone_len hC.l x)
      rw [a1, oMs, a2, oMs]
      generalize hT : tel (wSI S 12 x 1) (rgS S x) (gone S x) = T at *
      have hWT : WT T := hI1.1.1
      have hxT : th T x := (th_cg (hs2.i 0 rfl) (hs2.i 1 rfl) x).mpr hx
      have ed : dpar T x = dpar S x := dpar_cg (hs2.i 3 rfl) x
      have ep : plc T x = plc S x := plc_cg (hs2.i 3 rfl) hs2.2.2.2 x
      have e3 : mL 3 (nI x) m2 = some (nI (dpar S x)) := by rw [m_par b2 hWT hxT h0, ed]
      have e4 : fX11_placeOf (nI x) m2 = some (nI (plc S x)) := by rw [m_place b2 hWT h0 hxT, ep]
      rw [e3, sb, e4, sb, sb, nI_1]
      obtain ⟨u1, u2⟩ := hWT.up h0 hxT
      have hpl : plc S x < (sK T (dpar S x)).length := by
        rw [ed] at u2
        unfold plc
        rw [← hs2.2.2.2]
        exact List.idxOf_lt_length_of_mem u2
      have hcur : cur T = cur S := cur_cg (hs2.i 20 rfl)
      obtain ⟨m3, a3, b3⟩ := m_lose b2 hWT hI1.2.1 hI1.1.2.1 (Nat.le_trans hI1.2.2.2 (by decide)) (p := dpar S x) (k1 := plc S x + 1) (k2 := plc S x) (by rw [ed] at u1; exact u1) hpl (Nat.le_of_lt hpl) ⟨by rw [hs2.i 20 rfl, hcur]; exact hC.c.1, by rw [hcur, made_cg (hs2.i 0 rfl)]; exact hC.c.2.lt⟩ (by
        rw [hs2.i 21 rfl]
        rcases hC.xf with w | ⟨f, f1, f2, f3, f4⟩
        · exact Or.inl w
        · exact Or.inr ⟨f, f1, by rw [made_cg (hs2.i 0 rfl)]; exact f2.lt⟩) (by rw [← er]; exact hth)
      rw [← er] at b3
      exact ⟨m3, by rw [a3, oMs], b3⟩
    · rw [if_neg q, if_neg q, if_neg v0, if_neg (show ¬ (v ≠ 0 ∧ sI S 12 x = 0) from fun z => q z.2), if_neg (show ¬ (sI S 12 x ≠ 0 ∧ v = 0) from fun z => v0 z.2)]
      exact ⟨m, rfl, hM⟩
theorem m_hideC (hM : RM S m) {c : Nat} (h : Inv S c) (x v : Int32) : MC S m (fX11_hide x v m) (fun S => cHide S x v) := by
  have ha := h.2.2
  refine m_t2 (a := fun S => sI S 12 (nth x)) (F := fun S => fit (hd3 S (nth x) v)) hM h.1.1.t.pw (by omega) (fun i m' e i0 hi ha hM' => ?_)
  subst e
  have i40 := hi.l40 h.1.1.t
  rw [nth_nI (by omega)]
  refine ⟨by rw [hd3_48]; rfl, ?_⟩
  have hz := h.z
  obtain ⟨m2, a2, b2⟩ := m_hideK hM' hz hi i0 ha v
  have hI := hd3_I0 hz hi i0 v ha
  obtain ⟨m3, a3, b3, -⟩ := m_fit b2 hI.1.t hI.1.l hI.1.k hI.1.c
  refine ⟨m3, ?_, b3⟩
  rw [mLZ_ok rfl (show i < 40 from i40), sb, hM'.p 12 rfl, a2, sb, a3, oMs]
  unfold oBo
  rw [if_pos (hz.1.1.b 12 (by decide) i), sb]; rfl
end MH

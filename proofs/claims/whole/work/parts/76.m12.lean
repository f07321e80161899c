/-! ===== the reference's cursor: going, heads of tables ===== -/
theorem sI_N {S : SS} {k i : Nat} {v : Int32} {k' j : Nat} (h : k' ≠ k) : sI (wSI S k i v) k' j = sI S k' j := by rw [sI_I, if_neg (fun z => h z.1)]
theorem hd1_len {S : SS} (hL : WL S) (f t : Nat) : (hd1 S f t).length ≤ 12 := by
  unfold hd1
  split
  · simp
  · have := (hL (kid S (dpar S t) 0)).1
    have e : pt [] (sL S 6 (kid S (dpar S t) 0)) = sL S 6 (kid S (dpar S t) 0) := by unfold pt sep; simp
    rw [e]; exact this
theorem hd2_len {S : SS} (hL : WL S) (f t : Nat) : (hd2 S f t).length ≤ 25 := by
  have h1 := hd1_len hL f t
  unfold hd2
  split
  · omega
  · have := (hL (kid S (tbl S t) (plc S t))).1
    have := pt_len (hd1 S f t) (sL S 6 (kid S (tbl S t) (plc S t)))
    omega
theorem hds_len {S : SS} (hL : WL S) (f t : Nat) : (hds S f t).length ≤ 25 := by
  unfold hds
  split
  · exact hd2_len hL f t
  · simp
section MH
variable {S : SS} {m : mm}
theorem m_par (hM : RM S m) (h : WT S) {i : Nat} (hi : th S i) (h0 : 0 < i) : mL 3 (nI i) m = some (nI (dpar S i)) := by
  rw [m_plain hM rfl rfl (show i < 40 from hi.l40 h), (h.pw.par h0 hi.lt).2]
theorem m_par0 (hM : RM S m) (h : WT S) : mL 3 (nI 0) m = some (-1) := by
  rw [m_plain hM rfl rfl (show 0 < 40 by decide), h.pw.2.2.2.1]
theorem m_kid0 (hM : RM S m) {i : Nat} (hi : i < 40) (hk : 0 < (sK S i).length) (h10 : (sK S i).length ≤ 10) : mL 4 ((10 : Int32) * nI i) m = some (nI (kid S i 0)) := by
  have := m_kid hM hi hk h10
  rw [show nI 0 = (0 : Int32) from rfl, Int32.add_zero] at this
  exact this
theorem WT.kpos (h : WT S) {i : Nat} (h0 : 0 < i) (hi : th S i) : 0 < (sK S (dpar S i)).length := by
  have := (h.up h0 hi).2
  exact List.length_pos_of_mem this
theorem WT.kth (h : WT S) {i k : Nat} (hi : th S i) (hk : k < (sK S i).length) : th S (kid S i k) ∧ 0 < kid S i k ∧ dpar S (kid S i k) = i := (h.kids hi).2.2 _ (gn_mem hk)
theorem m_heads (hM : RM S m) (h : WT S) (hL : WL S) {f t : Nat} (hf : th S f) (ht : th S t) (hT : Tx m []) : TP (fX11_partHeads (nI f) (nI t)) m (hds S f t) := by
  have f40 := hf.l40 h
  have t40 := ht.l40 h
  have hne : (nI f = nI t) ↔ f = t := nI_eq (by omega) (by omega)
  -- whether there are heads
  have pre : ∀ r : mm → Option (Unit × mm), True := fun _ => trivial
  obtain ⟨x1, e1⟩ : ∃ x1, mL 3 (nI t) m = some x1 := ⟨_, m_plain hM rfl rfl (show t < 40 from t40)⟩
  obtain ⟨x2, e2⟩ : ∃ x2, mL 3 (nI f) m = some x2 := ⟨_, m_plain hM rfl rfl (show f < 40 from f40)⟩
  have hare : ((if nI f = nI t then (some (0 : Int32)) else if x1 = (-1 : Int32) then (some (0 : Int32)) else if x2 = (-1 : Int32) then (some (0 : Int32)) else (mL 2 x1 m).bind fun x5 => if x5 = (6 : Int32) then ((mL 2 x2 m).bind fun x6 => if x6 = (6 : Int32) then ((mL 3 x1 m).bind fun x7 => (mL 3 x2 m).bind fun x8 => if x7 = x8 then (some (1 : Int32)) else some (0 : Int32)) else some (0 : Int32)) else some (0 : Int32))) = some (bI (decide (f ≠ t ∧ t ≠ 0 ∧ f ≠ 0 ∧ sI S 2 (dpar S t) = 6 ∧ sI S 2 (dpar S f) = 6 ∧ dpar S (dpar S t) = dpar S (dpar S f)))) := by
    by_cases c1 : f = t
    · rw [if_pos (hne.mpr c1), decide_eq_false (fun z => z.1 c1)]; rfl
    rw [if_neg (fun z => c1 (hne.mp z))]
    by_cases c2 : t = 0
    · subst c2
      rw [m_par0 hM h] at e1
      rw [if_pos (Option.some.inj e1).symm, decide_eq_false (fun z => z.2.1 rfl)]; rfl
    have c2' : 0 < t := by omega
    obtain ⟨tu, tk⟩ := h.up c2' ht
    have tu40 := tu.l40 h
    rw [m_par hM h ht c2'] at e1
    have e1' := Option.some.inj e1
    subst e1'
    rw [if_neg (nI_m1 (by omega))]
    by_cases c3 : f = 0
    · subst c3
      rw [m_par0 hM h] at e2
      rw [if_pos (Option.some.inj e2).symm, decide_eq_false (fun z => z.2.2.1 rfl)]; rfl
    have c3' : 0 < f := by omega
    obtain ⟨fu, fk⟩ := h.up c3' hf
    have fu40 := fu.l40 h
    rw [m_par hM h hf c3'] at e2
    have e2' := Option.some.inj e2
    subst e2'
    rw [if_neg (nI_m1 (by omega)), m_plain hM rfl rfl (show dpar S t < 40 from tu40), sb]
    by_cases c4 : sI S 2 (dpar S t) = 6
    · rw [if_pos c4, m_plain hM rfl rfl (show dpar S f < 40 from fu40), sb]
      by_cases c5 : sI S 2 (dpar S f) = 6
      · have n1 : 0 < dpar S t := by
          rcases Nat.eq_zero_or_pos (dpar S t) with q | q
          · rw [q, h.2.2.1] at c4; exact absurd c4 (by decide)
          · exact q
        have n2 : 0 < dpar S f := by
          rcases Nat.eq_zero_or_pos (dpar S f) with q | q
          · rw [q, h.2.2.1] at c5; exact absurd c5 (by decide)
          · exact q
        have l1 := (h.up n1 tu).1.l40 h
        have l2 := (h.up n2 fu).1.l40 h
        rw [if_pos c5, m_par hM h tu n1, sb, m_par hM h fu n2, sb]
        by_cases c6 : dpar S (dpar S t) = dpar S (dpar S f)
        · rw [if_pos (by rw [c6]), decide_eq_true ⟨c1, c2, c3, c4, c5, c6⟩]; rfl
        · rw [if_neg (fun z => c6 ((nI_eq (by omega) (by omega)).mp z)), decide_eq_false (fun z => c6 z.2.2.2.2.2)]; rfl
      · rw [if_neg c5, decide_eq_false (fun z => c5 z.2.2.2.2.1)]; rfl
    · rw [if_neg c4, decide_eq_false (fun z => c4 z.2.2.2.1)]; rfl
  unfold TP fX11_partHeads
  rw [e1, sb, e2, sb, hare, sb]
  unfold hds hdB
  by_cases c : f ≠ t ∧ t ≠ 0 ∧ f ≠ 0 ∧ sI S 2 (dpar S t) = 6 ∧ sI S 2 (dpar S f) = 6 ∧ dpar S (dpar S t) = dpar S (dpar S f)
  · rw [decide_eq_true c, if_neg (by decide), m_level hM h.pw ht.lt, sb]
    obtain ⟨c1, c2, c3, c4, c5, c6⟩ := c
    by_cases c7 : lvl S t = 0
    · rw [if_pos c7, decide_eq_false (fun z => z.2.2.2.2.2.2 c7), if_neg (by simp)]
      exact ⟨m, rfl, hT, Sm.rf⟩
    · rw [if_neg c7, decide_eq_true ⟨c1, c2, c3, c4, c5, c6, c7⟩, if_pos rfl]
      have t0 : 0 < t := by omega
      have f0 : 0 < f := by omega
      obtain ⟨tu, tk⟩ := h.up t0 ht
      obtain ⟨fu, fk⟩ := h.up f0 hf
      have tu40 := tu.l40 h
      have fu40 := fu.l40 h
      rw [m_par hM h ht t0] at e1
      have e1' := Option.some.inj e1
      subst e1'
      rw [m_par hM h hf f0] at e2
      have e2' := Option.some.inj e2
      subst e2'
      have n1 : 0 < dpar S t := by
        rcases Nat.eq_zero_or_pos (dpar S t) with q | q
        · rw [q, h.2.2.1] at c4; exact absurd c4 (by decide)
        · exact q
      have hkr := h.kpos t0 ht
      have hr10 := (h.kids tu).2.1
      obtain ⟨ta, tb⟩ := h.up n1 tu
      have ta40 := ta.l40 h
      have hkt := h.kpos n1 tu
      have ht10 := (h.kids ta).2.1
      have hkid := h.kth tu hkr
      have k40 := hkid.1.l40 h
      have hfst := h.kth ta hkt
      have fst40 := hfst.1.l40 h
      have hrow : (nI (dpar S t) = nI (dpar S f)) ↔ dpar S t = dpar S f := nI_eq (by omega) (by omega)
      -- the row's head
      have s1 : ∃ m1, (if nI (dpar S t) = nI (dpar S f) then (some m) else (mL 4 ((10 : Int32) * nI (dpar S t)) m).bind fun x12 => if x12 = nI t then (some m) else (mL 4 ((10 : Int32) * nI (dpar S t)) m).bind fun x13 => oM (fX11_partName x13 m) fun _ m15 => some m15) = some m1 ∧ Tx m1 (hd1 S f t) ∧ Sm tsc m m1 := by
        unfold hd1
        by_cases d1 : dpar S t = dpar S f
        · rw [if_pos (hrow.mpr d1), if_pos (Or.inl d1)]; exact ⟨m, rfl, hT, Sm.rf⟩
        · rw [if_neg (fun z => d1 (hrow.mp z)), m_kid0 hM tu40 hkr hr10, sb]
          by_cases d2 : kid S (dpar S t) 0 = t
          · rw [if_pos (by rw [d2]), if_pos (Or.inr d2)]; exact ⟨m, rfl, hT, Sm.rf⟩
          · rw [if_neg (fun z => d2 ((nI_eq (by omega) (by omega)).mp z)), if_neg (fun z => z.elim d1 d2), sb]
            obtain ⟨m1, a1, b1, s1⟩ := m_name hM hL k40 hT (by decide)
            exact ⟨m1, by rw [a1, oMs], b1, s1⟩
      obtain ⟨m1, a1, b1, s1⟩ := s1
      have hM1 := hM.tsc s1
      rw [a1, sb, m_par hM1 h tu n1, sb, m_kid0 hM1 ta40 hkt ht10, sb, m_place hM1 h t0 ht, sb, m_place hM1 h f0 hf, sb]
      have p1 : plc S t < 10 := by have := List.idxOf_lt_length_of_mem tk; unfold plc; omega
      have p2 : plc S f < 10 := by have := List.idxOf_lt_length_of_mem fk; have := (h.kids fu).2.1; unfold plc; omega
      have hf10 := (h.kids hfst.1).2.1
      unfold hd2
      show ∃ m', (if nI (plc S t) = nI (plc S f) then _ else _) = _ ∧ _
      by_cases d3 : plc S t = plc S f
      · rw [if_pos (by rw [d3]), if_pos (Or.inl d3)]; exact ⟨m1, rfl, b1, s1⟩
      · rw [if_neg (fun z => d3 ((nI_eq (by omega) (by omega)).mp z)), m_kidn hM1 fst40, sb]
        have et : kid S (dpar S (dpar S t)) 0 = tbl S t := rfl
        rw [et] at hfst fst40 hf10 ⊢
        by_cases d4 : (sK S (tbl S t)).length ≤ plc S t
        · rw [if_pos (nI_le d4 (by omega)), if_pos (Or.inr (Or.inl d4))]; exact ⟨m1, rfl, b1, s1⟩
        · rw [if_neg (nI_ge (by omega) (by omega)), m_kid hM1 fst40 (by omega) hf10, sb]
          have hk2 := h.kth hfst.1 (k := plc S t) (by omega)
          have k240 := hk2.1.l40 h
          have eg : gn (sK S (tbl S t)) (plc S t) = kid S (tbl S t) (plc S t) := rfl
          rw [eg]
          by_cases d5 : kid S (tbl S t) (plc S t) = t
          · rw [if_pos (by rw [d5]), if_pos (Or.inr (Or.inr d5))]; exact ⟨m1, rfl, b1, s1⟩
          · rw [if_neg (fun z => d5 ((nI_eq (by omega) (by omega)).mp z)), if_neg (fun z => z.elim d3 (fun z => z.elim d4 d5)), sb]
            have l1 := hd1_len hL f t
            obtain ⟨m2, a2, b2, s2⟩ := m_name hM1 hL k240 b1 (by omega)
            exact ⟨m2, by rw [a2, oMs], b2, s1.tr s2⟩
  · rw [decide_eq_false c, if_pos (by rfl), decide_eq_false (fun z => c ⟨z.1, z.2.1, z.2.2.1, z.2.2.2.1, z.2.2.2.2.1, z.2.2.2.2.2.1⟩), if_neg (by simp)]
    exact ⟨m, rfl, hT, Sm.rf⟩
theorem m_go (hM : RM S m) (h : WT S) (hL : WL S) (hV : WV S) (hC : WC S) {x : Nat} (hx : th S x) : TS (fX11_go (nI x)) m (go S x) := by
  obtain ⟨c1, c2⟩ := hC
  have x40 := hx.l40 h
  have c40 := c2.l40 h
  have hM0 : RM (wSI S 22 0 0) (up2 m 22 0 0) := hM.wI0 rfl
  have sd0 : Sd [22] [] [] S (wSI S 22 0 0) := Sd.I (by decide)
  have hW0 := h.sd sd0 rfl
  have hL0 : WL (wSI S 22 0 0) := hL
  have hM1 : RM (wSI S 22 0 0) (up2 (up2 m 22 0 0) 29 0 0) := hM0.sm (Sm.up (by decide))
  have th0 : ∀ i, th (wSI S 22 0 0) i ↔ th S i := th_cg (sd0.i 0 rfl) (sd0.i 1 rfl)
  obtain ⟨m2, a2, b2, s2⟩ := m_heads hM1 hW0 hL0 ((th0 _).mpr c2) ((th0 _).mpr hx) (Tx_0 _)
  have hM2 := hM1.tsc s2
  have hcur : ∀ {m' : mm}, RM (wSI S 22 0 0) m' → m' 20 0 = nI (cur S) := fun h' => by
    rw [h'.p 20 rfl, sI_I, if_neg (by simp)]; exact c1
  -- the heads don't rest on typing
  have hh : hds (wSI S 22 0 0) (cur S) x = hds S (cur S) x := by
    have i2 := sd0.i 2 rfl
    have i3 := sd0.i 3 rfl
    have i13 := sd0.i 13 rfl
    unfold hds hdB hd2 hd1 tbl kid
    rw [dpar_cg i3, dpar_cg i3, dpar_cg i3, dpar_cg i3, i2, lvl_cg i3 i13, plc_cg i3 rfl, plc_cg i3 rfl]
    rfl
  rw [hh] at b2
  have q5 : (if nI x = m2 20 0 then (some (m2 25 0)) else some (0 : Int32)) = some (if x = cur S then sI S 25 0 else 0) := by
    rw [hcur hM2, hM2.p 25 rfl, sI_N (by decide)]
    by_cases e : x = cur S
    · rw [if_pos (by rw [e]), if_pos e]
    · rw [if_neg (fun z => e ((nI_eq (by omega) (by omega)).mp z)), if_neg e]
  have hM3 : RM (wSI (wSI S 22 0 0) 25 0 (if x = cur S then sI S 25 0 else 0)) (up2 m2 25 0 (if x = cur S then sI S 25 0 else 0)) := hM2.wI0 rfl
  have hM4 : RM (wSI (wSI (wSI S 22 0 0) 25 0 (if x = cur S then sI S 25 0 else 0)) 20 0 (nI x)) (up2 (up2 m2 25 0 (if x = cur S then sI S 25 0 else 0)) 20 0 (nI x)) := hM3.wI0 rfl
  have sd4 : Sd [20, 22, 25] [] [] S (wSI (wSI (wSI S 22 0 0) 25 0 (if x = cur S then sI S 25 0 else 0)) 20 0 (nI x)) := ((Sd.I (by decide)).tr (Sd.I (by decide))).tr (Sd.I (by decide))
  have hT4 : Tx (up2 (up2 m2 25 0 (if x = cur S then sI S 25 0 else 0)) 20 0 (nI x)) (hds S (cur S) x) := b2.sm (ks := [25, 20]) ((Sm.up (by decide)).tr (Sm.up (by decide))) rfl rfl
  have hl := hds_len hL (cur S) x
  obtain ⟨m5, a5, b5, s5⟩ := m_words (t := hds S (cur S) x) hM4 (h.sd sd4 rfl) hL ((th_cg (sd4.i 0 rfl) (sd4.i 1 rfl) x).mpr hx) hT4 (by omega)
  have ew := wd_cg (S := S) (sd4.i 2 rfl) (sd4.i 3 rfl) (sd4.i 10 rfl) (sd4.i 12 rfl) (sd4.i 13 rfl) rfl rfl rfl x (hds S (cur S) x)
  rw [ew] at b5
  have hwl := wd_len0 S hL x (hds S (cur S) x)
  obtain ⟨m6, a6, b6⟩ := m_cAns (hM4.tsc s5) hV.2.2.2.1 b5 (by omega)
  refine ⟨m6, ?_, b6⟩
  unfold fX11_go
  rw [mPZ_ok (Or.inl rfl), sb, mPIs, sb, hcur hM1, a2, oMs, q5, sb, mPIs, sb, mPIs, sb, a5, oMs, a6, oMs]
theorem rI_some (x : Nat) : rI (some x) = nI x := rfl
theorem m_goO (hM : RM S m) (h : WT S) (hL : WL S) (hV : WV S) (hC : WC S) {o : Option Nat} (ho : ∀ x, o = some x → th S x) {w : Int64} {p : List Int32} (hw : wdc w = p) (hp : (lg_cmp w 0 ≤ 0) ↔ p.length = 0) (hl : p.length ≤ 8) : TS (fX11_goOr (rI o) w) m (goO S o p) := by
  unfold TS fX11_goOr
  cases o with
  | none =>
    rw [if_pos (show rI none = -1 from rfl)]
    obtain ⟨m1, a1, b1⟩ := m_say hM hV.2.2.2.1 hw hp hl
    exact ⟨m1, by rw [a1, oMs], b1⟩
  | some x =>
    have hx := ho x rfl
    have := hx.l40 h
    rw [if_neg (show ¬ rI (some x) = -1 from nI_m1 (by omega))]
    obtain ⟨m1, a1, b1⟩ := m_go hM h hL hV hC hx
    exact ⟨m1, by rw [rI_some, a1, oMs], b1⟩
theorem f_none : fX11_none = some 232519525 := by decide +kernel
theorem f_end : fX11_end = some 1668964 := by decide +kernel
theorem d_none : wdc 232519525 = wNone := by decide +kernel
theorem d_end : wdc 1668964 = wEnd := by decide +kernel
theorem g_none : (lg_cmp (232519525 : Int64) 0 ≤ 0) ↔ wNone.length = 0 := by decide +kernel
theorem g_end : (lg_cmp (1668964 : Int64) 0 ≤ 0) ↔ wEnd.length = 0 := by decide +kernel
theorem ord_thm (h : WT S) {j : Nat} (hj : j < (ord S).length) : th S (gn (ord S) j) := ord_th h 40 0 _ h.2.1 (gn_mem hj)
theorem m_cpl (hM : RM S m) (h : WT S) (hC : WC S) (hs : shn S (cur S) = true) : ∃ m', fX11_layCursor m = some (nI (cpl S), m') ∧ Sn (m' 49) 0 (ord S) ∧ m' 50 0 = nI (ord S).length ∧ Sm osc m m' ∧ cpl S < (ord S).length := by
  obtain ⟨c1, c2⟩ := hC
  have hmem := ord_shn h _ c2.lt c2 hs
  have hlt : cpl S < (ord S).length := List.idxOf_lt_length_of_mem hmem
  have hol := ord_len h
  obtain ⟨m1, a1, a2, a3, a4⟩ := m_order hM h
  have hM1 : RM S m1 := hM.sm (a4.mono (by decide))
  have hF : ∀ j, j < (ord S).length → fX11_layCursor_B6 m1 (nI j) = if gn (ord S) j = cur S then some (.inr (nI j)) else some (.inl (nI (j + 1))) := by
    intro j hj
    have hg : gn (ord S) j < 40 := (ord_th h 40 0 _ h.2.1 (gn_mem hj)).l40 h
    have hc := c2.l40 h
    have e := a2 j hj
    rw [Nat.zero_add] at e
    unfold fX11_layCursor_B6
    rw [mL_ok rfl (show j < 40 by omega), e, sb, hM1.p 20 rfl, c1]
    by_cases q : gn (ord S) j = cur S
    · rw [if_pos q, if_pos (by rw [q])]
    · rw [if_neg q, if_neg (fun z => q ((nI_eq (by omega) (by omega)).mp z)), nI_1]
  have key : ∃ b, itr (fX11_layCursor_B6 m1) FU (0 : Int32) = some b ∧ b = nI (cpl S) := by
    refine itr_for (X := fun j a => a = nI j) (cpl S) (fun j a hj hX => ?_) (fun a hX => ?_) (FU_lt (by omega)) rfl
    · subst hX
      exact ⟨nI (j + 1), by rw [hF j (by omega), if_neg (gn_lt_idx hj)], rfl⟩
    · subst hX
      exact ⟨nI (cpl S), by have := hF _ hlt; rw [if_pos (show gn (ord S) (cpl S) = cur S from gn_idx hmem)] at this; exact this, rfl⟩
  obtain ⟨b, k1, rfl⟩ := key
  refine ⟨m1, ?_, a2, a3, a4, hlt⟩
  unfold fX11_layCursor
  rw [a1, oMs, k1]; rfl
theorem m_ordAt {m' : mm} (h : WT S) (h1 : Sn (m' 49) 0 (ord S)) {j : Nat} (hj : j < (ord S).length) : mL 49 (nI j) m' = some (nI (gn (ord S) j)) := by
  have := ord_len h
  have e := h1 j hj
  rw [Nat.zero_add] at e
  rw [mL_ok rfl (show j < 40 by omega), e]
theorem m_prev (hM : RM S m) (h : WT S) (hL : WL S) (hV : WV S) (hC : WC S) (hs : shn S (cur S) = true) : TS (fX11_step (-1)) m (gPrev S) := by
  obtain ⟨m1, a1, a2, a3, a4, a5⟩ := m_cpl hM h hC hs
  have hM1 : RM S m1 := hM.sm (a4.mono (by decide))
  have hol := ord_len h
  have hq : ∃ o : Option Nat, (if cpl S = 0 then none else some (gn (ord S) (cpl S - 1))) = o ∧ ((fX11_in (nI (cpl S) + -1) (0 : Int32) ((m1 50 0) - (1 : Int32))).bind fun x3 => (if x3 = 0 then (some (-1 : Int32)) else (mL 49 (nI (cpl S) + -1) m1).bind fun x6 => some x6)) = some (rI o) ∧ ∀ x, o = some x → th S x := by
    refine ⟨_, rfl, ?_, fun x hx => ?_⟩
    · rw [m_in, sb, a3]
      by_cases e : cpl S = 0
      · rw [e, if_pos rfl, decide_eq_false (fun z => absurd z.1 (show ¬ (0 : Int32) ≤ nI 0 + -1 by decide)), if_pos (by rfl)]; rfl
      · have e2 : nI (cpl S) + -1 = nI (cpl S - 1) := by
          have := nI_dec (cpl S - 1)
          rw [show cpl S - 1 + 1 = cpl S by omega] at this
          exact this
        rw [e2, if_neg e, show (1 : Int32) = nI 1 from rfl, nI_sub (by omega), decide_eq_true ⟨nI_pos' (by omega), nI_le (by omega) (by omega)⟩, if_neg (by decide), m_ordAt h a2 (by omega), sb]; rfl
    · split at hx
      · cases hx
      · cases hx
        exact ord_thm h (by omega)
  obtain ⟨o, o1, o2, o3⟩ := hq
  obtain ⟨m2, b1, b2⟩ := m_goO hM1 h hL hV hC o3 d_end g_end (by decide)
  refine ⟨m2, ?_, by unfold gPrev; rw [o1]; exact b2⟩
  unfold fX11_step
  rw [a1, oMs, ← Option.bind_assoc, o2, sb, f_end, sb, b1, oMs]
theorem m_next (hM : RM S m) (h : WT S) (hL : WL S) (hV : WV S) (hC : WC S) (hs : shn S (cur S) = true) : TS (fX11_step 1) m (gNext S) := by
  obtain ⟨m1, a1, a2, a3, a4, a5⟩ := m_cpl hM h hC hs
  have hM1 : RM S m1 := hM.sm (a4.mono (by decide))
  have hol := ord_len h
  have hq : ∃ o : Option Nat, (if cpl S + 1 < (ord S).length then some (gn (ord S) (cpl S + 1)) else none) = o ∧ ((fX11_in (nI (cpl S) + 1) (0 : Int32) ((m1 50 0) - (1 : Int32))).bind fun x3 => (if x3 = 0 then (some (-1 : Int32)) else (mL 49 (nI (cpl S) + 1) m1).bind fun x6 => some x6)) = some (rI o) ∧ ∀ x, o = some x → th S x := by
    refine ⟨_, rfl, ?_, fun x hx => ?_⟩
    · rw [m_in, sb, a3, nI_1, show (1 : Int32) = nI 1 from rfl, nI_sub (by omega)]
      by_cases e : cpl S + 1 < (ord S).length
      · rw [if_pos e, decide_eq_true ⟨nI_pos' (by omega), nI_le (by omega) (by omega)⟩, if_neg (by decide), m_ordAt h a2 (by omega), sb]; rfl
      · rw [if_neg e, decide_eq_false (fun z => nI_ge (show (ord S).length - 1 < cpl S + 1 by omega) (by omega) z.2), if_pos (by rfl)]; rfl
    · split at hx
      · cases hx
        exact ord_thm h (by omega)
      · cases hx
  obtain ⟨o, o1, o2, o3⟩ := hq
  obtain ⟨m2, b1, b2⟩ := m_goO hM1 h hL hV hC o3 d_end g_end (by decide)
  refine ⟨m2, ?_, by unfold gNext; rw [o1]; exact b2⟩
  unfold fX11_step
  rw [a1, oMs, ← Option.bind_assoc, o2, sb, f_end, sb, b1, oMs]
end MH

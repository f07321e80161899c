/-! ===== hiding and removing ===== -/
section RE
variable {S : SS}
theorem anc_shn (h : WT S) : ∀ i, i < made S → shn S i = true → ∀ j ∈ an S i, shn S j = true := by
  refine an_ind h.pw (fun hi j hj => ?_) (fun i i0 il ih hi j hj => ?_)
  · rw [an_0 h.pw] at hj
    rw [List.mem_singleton.mp hj]; exact hi
  · rw [an_s h.pw i0 il] at hj
    rcases List.mem_cons.mp hj with e | hj
    · rw [e]; exact hi
    · rw [shn_s h.pw i0 il, Bool.and_eq_true] at hi
      exact ih hi.2 j hj
theorem fnd_cg {T : SS} {l : List Nat} (h : ∀ j ∈ l, hid T j = hid S j) : fnd T l = fnd S l := by
  unfold fnd
  induction l with
  | nil => rfl
  | cons a l ih =>
    rw [List.find?_cons, List.find?_cons, h a List.mem_cons_self, ih (fun j hj => h j (List.mem_cons_of_mem _ hj))]
theorem rfg_cg {T : SS} {p : Nat} {b a : List Nat} (hb : ∀ j ∈ b, hid T j = hid S j) (ha : ∀ j ∈ a, hid T j = hid S j) : rfg T p b a = rfg S p b a := by
  unfold rfg
  rw [fnd_cg hb, fnd_cg (l := a.reverse) (fun j hj => ha j (List.mem_reverse.mp hj))]
theorem gon_cg {T : SS} (h1 : sI T 1 = sI S 1) (h3 : sI T 3 = sI S 3) (h12 : sI T 12 = sI S 12) (v : Int32) : gonA T v = gonA S v := by
  unfold gonA
  rw [h1, shn_cg h3 h12]
theorem gon_nI {T : SS} {f : Nat} (hf : f < 40) : gonA T (nI f) = (decide (sI T 1 f = 0) || !shn T f) := by
  unfold gonA nth
  rw [nI_clamp (by omega), decide_eq_true (nI_m1 (by omega)), Bool.true_and]
theorem gone_len (hL : WL S) (x : Nat) : (gone S x).length ≤ 80 := by
  have h1 := kw_len (sI S 2 x)
  have h2 := (hL x).1
  have h3 := pt_len [103, 111, 110, 101] (if (sL S 6 x).length = 0 then kw (sI S 2 x) else sL S 6 x)
  have h4 : (if (sL S 6 x).length = 0 then kw (sI S 2 x) else sL S 6 x).length ≤ 12 := by split <;> omega
  rw [show ([103, 111, 110, 101] : List Int32).length = 4 from rfl] at h3
  unfold gone
  omega
theorem hide_on {c : Nat} (h : Inv S c) {x : Nat} (hx : th S x) (h0 : 0 < x) (ha : (sQ S 35).length < 20) : Inv0 (los (tel (wSI S 12 x 1) (rgS S x) (gone S x)) (rfgO S x)) c := by
  have hW := h.1.1.t
  have hC := h.1.1
  have hs : Sd [12] [] [] S (wSI S 12 x 1) := Sd.I (by decide)
  have hT0 : CoreT (wSI S 12 x 1) := hC.toT.w12 (Or.inr rfl) h0 hx.lt
  have ht0 : ∀ i, th (wSI S 12 x 1) i ↔ th S i := th_cg (hs.i 0 rfl) (hs.i 1 rfl)
  have hI0 : InvT (wSI S 12 x 1) c 19 := ⟨hT0, h.1.2.1.i (by decide) (by decide), h.1.2.2.1.sd hs rfl, by show (sQ S 35).length ≤ 19; omega⟩
  have hg := gone_len hC.l x
  have hI1 : InvT (tel (wSI S 12 x 1) (rgS S x) (gone S x)) c 20 := hI0.kTel (fun r hr => by
    unfold rgS at hr
    split at hr
    · have := rgn_th hW hx hr
      exact ⟨by rw [hs.i 2 rfl]; exact this.1, (ht0 r).mpr this.2⟩
    · cases hr) hg
  have hs1 := sd_tel (wSI S 12 x 1) (rgS S x) (gone S x)
  have hs2 : Sd [12, 15, 38, 44, 45] [17, 33] [30, 35] S (tel (wSI S 12 x 1) (rgS S x) (gone S x)) := (hs.mono (by decide)).tr (hs1.mono (by decide))
  generalize hT : tel (wSI S 12 x 1) (rgS S x) (gone S x) = T at *
  have e20 : sI T 20 = sI S 20 := hs2.i 20 rfl
  have e12 : sI T 12 = sI (wSI S 12 x 1) 12 := hs1.i 12 rfl
  have hcu : cur T = cur S := cur_cg e20
  have c40 := hC.c.2.l40 hW
  have htT : ∀ i, th T i ↔ th S i := th_cg (hs2.i 0 rfl) (hs2.i 1 rfl)
  have shT : ∀ i, i < made S → shn T i = (shn S i && !wthn S i x) := fun i hi => by
    rw [shn_cg (S := wSI S 12 x 1) (hs1.i 3 rfl) e12]
    exact hid_shn hW i hi
  have key := InvT.kLos (r := rfgO S x) hI1 (fun g => ?_) ⟨by rw [e20, hcu]; exact hC.c.1, by rw [hcu, made_cg (hs2.i 0 rfl)]; exact hC.c.2.lt⟩ ?_ ?_
  · exact key.1.toI key.2 (by decide)
  · rw [e20, hC.c.1, gon_nI c40, hs2.i 1 rfl, decide_eq_false hC.c.2.2, Bool.false_or, shT _ hC.c.2.lt, hC.xs] at g
    have hin : x ∈ an S (cur S) := by
      simp only [Bool.true_and, Bool.not_not] at g
      exact of_decide_eq_true g
    have hxs := anc_shn hW _ hC.c.2.lt hC.xs x hin
    obtain ⟨u1, u2⟩ := hW.up h0 hx
    have hps := (shn_up hW h0 hx hxs).1
    obtain ⟨n1, n2⟩ := sib_ne hW h0 hx
    have hh : ∀ j, j ≠ x → hid T j = hid S j := fun j hj => by
      unfold hid
      rw [e12, sI_I, if_neg (fun z => hj z.2)]
    have er : rfgO S x = rfg T (dpar S x) ((sK S (dpar S x)).drop (plc S x + 1)) ((sK S (dpar S x)).take (plc S x)) := (rfg_cg (fun j hj => hh j (n1 j hj)) (fun j hj => hh j (n2 j hj))).symm
    rw [er]
    have hpT : shn T (dpar S x) = true := by
      rw [shT _ u1.lt, hps]
      have : wthn S (dpar S x) x = false := decide_eq_false (hW.not_up h0 hx)
      rw [this]; rfl
    exact rfg_in hI1.1.1 ((htT _).mpr u1) hpT (fun j hj => by rw [hs2.2.2.2]; exact List.mem_of_mem_drop hj) (fun j hj => by rw [hs2.2.2.2]; exact List.mem_of_mem_take hj)
  · rw [hs2.i 21 rfl, hs2.i 2 rfl]
    rcases hC.xf with q | ⟨f, f1, f2, f3, f4⟩
    · exact Or.inl q
    · exact Or.inr ⟨f, f1, by rw [made_cg (hs2.i 0 rfl)]; exact f2.lt, f4⟩
  · exact hC.xt.cg (hs2.i 2 rfl) e20 (hs2.i 21 rfl) (hs2.i 22 rfl)
theorem unh_shn (h : WT S) {x : Nat} : ∀ i, i < made S → shn S i = true → shn (wSI S 12 x 0) i = true := by
  have hs : Sd [12] [] [] S (wSI S 12 x 0) := Sd.I (by decide)
  have h2 : PW (wSI S 12 x 0) := h.pw.cg (hs.i 0 rfl) (hs.i 3 rfl)
  have hh : ∀ i, hid S i = false → hid (wSI S 12 x 0) i = false := fun i hi => by
    unfold hid at *
    rw [sI_I]
    split
    · simp
    · exact hi
  refine an_ind h.pw (fun hi => ?_) (fun i i0 il ih hi => ?_)
  · rw [shn_0 h.pw] at hi
    rw [shn_0 h2, hh 0 (by simpa using hi)]; rfl
  · rw [shn_s h.pw i0 il, Bool.and_eq_true] at hi
    rw [shn_s h2 i0 (by rw [made_cg (hs.i 0 rfl)]; exact il), dpar_cg (hs.i 3 rfl), ih hi.2, hh i (by simpa using hi.1)]; rfl
theorem hide_off {c : Nat} (h : Inv S c) {x : Nat} (hx : th S x) (h0 : 0 < x) (ha : (sQ S 35).length < 20) : Inv0 (telW (wSI S 12 x 0) x) c := by
  have hC := h.1.1
  have hs : Sd [12] [] [] S (wSI S 12 x 0) := Sd.I (by decide)
  have ht0 : ∀ i, th (wSI S 12 x 0) i ↔ th S i := th_cg (hs.i 0 rfl) (hs.i 1 rfl)
  have hT0 : CoreT (wSI S 12 x 0) := hC.toT.w12 (Or.inl rfl) h0 hx.lt
  have hcu : cur (wSI S 12 x 0) = cur S := cur_cg (hs.i 20 rfl)
  have hc0 : CoreC (wSI S 12 x 0) := by
    refine ⟨hC.c.cg (hs.i 0 rfl) (hs.i 1 rfl) (hs.i 20 rfl), ?_, ?_, hC.xt.cg (hs.i 2 rfl) (hs.i 20 rfl) (hs.i 21 rfl) (hs.i 22 rfl)⟩
    · unfold WXs
      rw [hcu]; exact unh_shn hC.t _ hC.c.2.lt hC.xs
    · unfold WXf
      rw [hs.i 21 rfl, hs.i 2 rfl]
      rcases hC.xf with q | ⟨f, f1, f2, f3, f4⟩
      · exact Or.inl q
      · exact Or.inr ⟨f, f1, (ht0 f).mpr f2, unh_shn hC.t _ f2.lt f3, f4⟩
  have hI0 : InvT (wSI S 12 x 0) c 20 := ⟨hT0, h.1.2.1.i (by decide) (by decide), h.1.2.2.1.sd hs rfl, by show (sQ S 35).length ≤ 20; omega⟩
  exact (hI0.kTelW ((ht0 x).mpr hx)).toI (hc0.sd (sd_telW _ x) rfl) (by decide)
theorem Inv.kHide {c : Nat} (h : Inv S c) {x : Nat} (hx : th S x) (h0 : 0 < x) (v : Int32) (ha : (sQ S 35).length < 20) : Inv (fit (hd3 S x v)) c := by
  unfold hd3
  split
  · exact (hide_on h hx h0 ha).toFit
  · split
    · exact (hide_off h hx h0 ha).toFit
    · exact h.1.toFit
/-! removing -/
theorem rmF_s (x n : Nat) : rmF S x (n + 1) = rm1 x (rmF S x n) n := by
  unfold rmF
  rw [List.range_succ, List.foldl_append]; rfl
theorem sd_rm1 (x : Nat) (T : SS) (j : Nat) : Sd [1, 45] [17] [] T (rm1 x T j) := Sd.if (Sd.tr (Sd.I (by decide)) ((sd_swl _ j).mono (by decide))) Sd.rf
theorem sd_rmF (x : Nat) : ∀ n, Sd [1, 45] [17] [] S (rmF S x n)
  | 0 => Sd.rf
  | n + 1 => by rw [rmF_s]; exact (sd_rmF x n).tr (sd_rm1 x _ n)
theorem wthn_cg {T : SS} (h3 : sI T 3 = sI S 3) (i x : Nat) : wthn T i x = wthn S i x := by unfold wthn; rw [an_cg h3]
theorem rmF_1 (x : Nat) : ∀ n j, sI (rmF S x n) 1 j = if j < n ∧ wthn S j x = true then 0 else sI S 1 j
  | 0, j => by rw [if_neg (by omega)]; rfl
  | n + 1, j => by
    have hw : wthn (rmF S x n) n x = wthn S n x := wthn_cg ((sd_rmF x n).i 3 rfl) n x
    have hn := rmF_1 x n n
    rw [if_neg (by omega)] at hn
    rw [rmF_s]
    unfold rm1
    rw [hw, hn]
    by_cases e : sI S 1 n ≠ 0 ∧ wthn S n x = true
    · rw [if_pos e, (sd_swl _ n).i 1 rfl, sI_I]
      by_cases ej : j = n
      · subst ej; rw [if_pos ⟨rfl, rfl⟩, if_pos ⟨by omega, e.2⟩]
      · rw [if_neg (fun z => ej z.2), rmF_1 x n j]
        by_cases q : j < n ∧ wthn S j x = true
        · rw [if_pos q, if_pos ⟨by omega, q.2⟩]
        · rw [if_neg q, if_neg (fun z => q ⟨by omega, z.2⟩)]
    · rw [if_neg e, rmF_1 x n j]
      by_cases q : j < n ∧ wthn S j x = true
      · rw [if_pos q, if_pos ⟨by omega, q.2⟩]
      · rw [if_neg q]
        by_cases q2 : j < n + 1 ∧ wthn S j x = true
        · have : j = n := by
            by_cases z : j < n
            · exact absurd ⟨z, q2.2⟩ q
            · omega
          subst this
          rw [if_pos q2]
          by_cases z : sI S 1 j = 0
          · exact z
          · exact absurd ⟨z, q2.2⟩ e
        · rw [if_neg q2]
theorem swl_17 (T : SS) (r j : Nat) : sL (swl T r) 17 j = if j = r then [] else sL T 17 j := by
  unfold swl
  by_cases e : (sL T 17 r).length = 0
  · rw [if_pos e]
    by_cases q : j = r
    · subst q; rw [if_pos rfl]; exact List.eq_nil_of_length_eq_zero e
    · rw [if_neg q]
  · rw [if_neg e, sL_L]
    by_cases q : j = r
    · rw [if_pos ⟨rfl, q⟩, if_pos q]
    · rw [if_neg (fun z => q z.2), if_neg q]; rfl
theorem rmF_17 (x : Nat) : ∀ n j, sL (rmF S x n) 17 j = if j < n ∧ sI S 1 j ≠ 0 ∧ wthn S j x = true then [] else sL S 17 j
  | 0, j => by rw [if_neg (by omega)]; rfl
  | n + 1, j => by
    have hw : wthn (rmF S x n) n x = wthn S n x := wthn_cg ((sd_rmF x n).i 3 rfl) n x
    have hn := rmF_1 (S := S) x n n
    rw [if_neg (by omega)] at hn
    rw [rmF_s]
    unfold rm1
    rw [hw, hn]
    by_cases e : sI S 1 n ≠ 0 ∧ wthn S n x = true
    · rw [if_pos e, swl_17]
      by_cases ej : j = n
      · subst ej; rw [if_pos rfl, if_pos ⟨by omega, e⟩]
      · rw [if_neg ej]
        show sL (rmF S x n) 17 j = _
        rw [rmF_17 x n j]
        by_cases q : j < n ∧ sI S 1 j ≠ 0 ∧ wthn S j x = true
        · rw [if_pos q, if_pos ⟨by omega, q.2⟩]
        · rw [if_neg q, if_neg (fun z => q ⟨by omega, z.2⟩)]
    · rw [if_neg e, rmF_17 x n j]
      by_cases q : j < n ∧ sI S 1 j ≠ 0 ∧ wthn S j x = true
      · rw [if_pos q, if_pos ⟨by omega, q.2⟩]
      · rw [if_neg q, if_neg (fun z => q ⟨by
          by_cases z2 : j < n
          · exact z2
          · have : j = n := by omega
            subst this
            exact absurd z.2 e, z.2⟩)]
theorem rm2_i (x : Nat) (k : Nat) (hk : k ≠ 1) (hk2 : k ≠ 45) : sI (rm2 S x) k = sI S k := (sd_rmF x _).1 k (by simp [hk, hk2])
theorem rm2_l (x : Nat) (k : Nat) (hk : k ≠ 17) : sL (rm2 S x) k = sL S k := (sd_rmF x _).2.1 k (by simp [hk])
theorem rm2_q (x : Nat) : sQ (rm2 S x) = sQ S := funext fun k => (sd_rmF x _).2.2.1 k List.not_mem_nil
theorem rm2_K (x j : Nat) : sK (rm2 S x) j = if j = dpar S x then (sK S (dpar S x)).eraseIdx (plc S x) else sK S j := by
  unfold rm2
  rw [sK_K, (sd_rmF x _).2.2.2]
theorem rm2_1 (x j : Nat) : sI (rm2 S x) 1 j = if j < made S ∧ wthn S j x = true then 0 else sI S 1 j := rmF_1 x _ j
theorem rm2_17 (x j : Nat) : sL (rm2 S x) 17 j = if j < made S ∧ sI S 1 j ≠ 0 ∧ wthn S j x = true then [] else sL S 17 j := rmF_17 x _ j
theorem rm2_made (x : Nat) : made (rm2 S x) = made S := made_cg (rm2_i x 0 (by decide) (by decide))
theorem rm2_th (x i : Nat) : th (rm2 S x) i ↔ (th S i ∧ x ∉ an S i) := by
  unfold th
  rw [rm2_made, rm2_1]
  constructor
  · rintro ⟨a, b⟩
    by_cases q : i < made S ∧ wthn S i x = true
    · rw [if_pos q] at b; exact absurd rfl b
    · rw [if_neg q] at b
      exact ⟨⟨a, b⟩, fun z => q ⟨a, decide_eq_true z⟩⟩
  · rintro ⟨⟨a, b⟩, d⟩
    refine ⟨a, ?_⟩
    rw [if_neg (fun z => d (of_decide_eq_true z.2))]; exact b
theorem eraseIdx_split {l : List Nat} {i : Nat} : l.eraseIdx i = l.take i ++ l.drop (i + 1) := List.eraseIdx_eq_take_drop_succ l i
theorem rm2_WT (h : WT S) {x : Nat} (hx : th S x) (h0 : 0 < x) : WT (rm2 S x) := by
  have hth := rm2_th (S := S) x
  have e3 : sI (rm2 S x) 3 = sI S 3 := rm2_i x 3 (by decide) (by decide)
  obtain ⟨u1, u2⟩ := h.up h0 hx
  obtain ⟨n1, n2⟩ := sib_ne h h0 hx
  have hsub : ∀ j, j ∈ (sK S (dpar S x)).eraseIdx (plc S x) ↔ (j ∈ sK S (dpar S x) ∧ j ≠ x) := fun j => by
    rw [eraseIdx_split, List.mem_append]
    constructor
    · rintro (z | z)
      · exact ⟨List.mem_of_mem_take z, n2 j z⟩
      · exact ⟨List.mem_of_mem_drop z, n1 j z⟩
    · rintro ⟨z, zn⟩
      obtain ⟨p1, p2⟩ := plc_gn h h0 hx
      rw [← List.take_append_drop (plc S x) (sK S (dpar S x)), drop_gn p1, p2] at z
      rcases List.mem_append.mp z with q | q
      · exact Or.inl q
      · rcases List.mem_cons.mp q with q | q
        · exact absurd q zn
        · exact Or.inr q
  have hpar : ∀ i, dpar (rm2 S x) i = dpar S i := dpar_cg e3
  refine ⟨h.pw.cg (rm2_i x 0 (by decide) (by decide)) e3, (hth 0).mpr ⟨h.2.1, ?_⟩, ?_, ?_, fun i i0 hi => ?_, fun i hi => ?_⟩
  · rw [an_0 h.pw]
    intro z
    have := List.mem_singleton.mp z
    omega
  · rw [rm2_i x 2 (by decide) (by decide)]; exact h.2.2.1
  · rw [rm2_i x 12 (by decide) (by decide)]; exact h.2.2.2.1
  · rw [hpar, rm2_K]
    obtain ⟨a, b⟩ := (hth i).mp hi
    obtain ⟨v1, v2⟩ := h.up i0 a
    rw [an_s h.pw i0 a.lt] at b
    refine ⟨(hth _).mpr ⟨v1, fun z => b (List.mem_cons_of_mem _ z)⟩, ?_⟩
    by_cases e : dpar S i = dpar S x
    · rw [if_pos e]
      exact (hsub i).mpr ⟨by rw [← e]; exact v2, fun z => b (by rw [z]; exact List.mem_cons_self)⟩
    · rw [if_neg e]; exact v2
  · obtain ⟨a, b⟩ := (hth i).mp hi
    obtain ⟨k1, k2, k3⟩ := h.kids a
    have hkid : ∀ j, j ∈ sK S i → j ≠ x → th (rm2 S x) j ∧ 0 < j ∧ dpar (rm2 S x) j = i := fun j hj hne => by
      obtain ⟨c1, c2, c3⟩ := k3 j hj
      refine ⟨(hth j).mpr ⟨c1, fun z => ?_⟩, c2, by rw [hpar]; exact c3⟩
      rw [an_s h.pw c2 c1.lt, c3] at z
      rcases List.mem_cons.mp z with q | q
      · exact hne q.symm
      · exact b q
    rw [rm2_K]
    by_cases e : i = dpar S x
    · rw [if_pos e]
      subst e
      refine ⟨k1.eraseIdx _, ?_, fun j hj => ?_⟩
      · have := List.length_eraseIdx_le (sK S (dpar S x)) (plc S x)
        omega
      · obtain ⟨q1, q2⟩ := (hsub j).mp hj
        exact hkid j q1 q2
    · rw [if_neg e]
      refine ⟨k1, k2, fun j hj => hkid j hj (fun z => ?_)⟩
      rw [z] at hj
      exact e ((k3 x hj).2.2).symm
theorem rm2_InvT {c : Nat} (h : Inv S c) {x : Nat} (hx : th S x) (h0 : 0 < x) {a : Nat} (ha : (sQ S 35).length ≤ a) : InvT (rm2 S x) c a := by
  have hC := h.1.1
  have hth := rm2_th (S := S) x
  refine ⟨⟨rm2_WT hC.t hx h0, fun i => ?_, fun i hi => ?_, fun k hk i => ?_, ?_, fun i hi => ?_, ?_, ?_, ?_, fun i hi => ?_⟩, ?_, ?_, by rw [rm2_q]; exact ha⟩
  · rw [rm2_l x 6 (by decide), rm2_l x 8 (by decide), rm2_17]
    refine ⟨(hC.l i).1, (hC.l i).2.1, ?_⟩
    split
    · simp
    · exact (hC.l i).2.2
  · rw [rm2_i x 2 (by decide) (by decide)]
    exact hC.k i ((hth i).mp hi).1
  · by_cases e : k = 1
    · subst e
      rw [rm2_1]
      split
      · exact Or.inl rfl
      · exact hC.b 1 hk i
    · rw [rm2_i x k e (fun z => by subst z; revert hk; decide)]; exact hC.b k hk i
  · exact hC.xc.cg (rm2_i x 2 (by decide) (by decide)) (rm2_l x 8 (by decide))
  · rw [rm2_17] at hi
    rw [rm2_i x 2 (by decide) (by decide)]
    split at hi
    · simp at hi
    · rename_i q
      obtain ⟨a1, a2⟩ := hC.xk i hi
      exact ⟨a1, (hth i).mpr ⟨a2, fun z => q ⟨a2.lt, a2.2, decide_eq_true z⟩⟩⟩
  · unfold WXd
    rw [rm2_l x 18 (by decide)]; exact hC.xd
  · unfold WXo
    rw [rm2_i x 25 (by decide) (by decide)]; exact hC.xo
  · exact hC.xp.cg (rm2_i x 26 (by decide) (by decide)) (rm2_i x 27 (by decide) (by decide))
  · rw [rm2_made] at hi
    obtain ⟨z1, z2, z3, z4, z5, z6⟩ := hC.xz i hi
    have hpx := (hC.t.up h0 hx).1.lt
    rw [rm2_l x 8 (by decide), rm2_17, if_neg (by omega), rm2_i x 10 (by decide) (by decide), rm2_i x 11 (by decide) (by decide), rm2_i x 12 (by decide) (by decide), rm2_K, if_neg (by omega)]
    exact ⟨z1, z2, z3, z4, z5, z6⟩
  · exact h.1.2.1.cg (by rw [rm2_q]) (by rw [rm2_q]) (rm2_l x 33 (by decide)) (rm2_l x 39 (by decide)) (rm2_i x 38 (by decide) (by decide)) (rm2_i x 41 (by decide) (by decide))
  · have := h.1.2.2.1
    unfold WN at *
    rw [rm2_i x 46 (by decide) (by decide), rm2_i x 43 (by decide) (by decide), rm2_i x 15 (by decide) (by decide)]; exact this
theorem rem_Inv0 {c : Nat} (h : Inv S c) {x : Nat} (hx : th S x) (h0 : 0 < x) (ha : (sQ S 35).length < 20) : Inv0 (los (tel (rm2 S x) (rgS S x) (gone S x)) (rfgO S x)) c := by
  have hW := h.1.1.t
  have hC := h.1.1
  have hth := rm2_th (S := S) x
  have hI0 : InvT (rm2 S x) c 19 := rm2_InvT h hx h0 (by omega)
  have hg := gone_len hC.l x
  obtain ⟨u1, u2⟩ := hW.up h0 hx
  have hI1 : InvT (tel (rm2 S x) (rgS S x) (gone S x)) c 20 := hI0.kTel (fun r hr => by
    unfold rgS at hr
    split at hr
    · have h2 := rgn_th hW hx hr
      rw [rgn_s hW.pw h0 hx.lt] at hr
      have hm : r ∈ an S (dpar S x) := List.mem_of_find?_eq_some hr
      refine ⟨by rw [rm2_i x 2 (by decide) (by decide)]; exact h2.1, (hth r).mpr ⟨h2.2, fun z => ?_⟩⟩
      have q1 := an_mem hW.pw u1.lt r hm
      have q2 := an_mem hW.pw h2.2.lt x z
      have q3 := (hW.pw.par h0 hx.lt).1
      omega
    · cases hr) hg
  have hs1 := sd_tel (rm2 S x) (rgS S x) (gone S x)
  have hi : ∀ k, k ≠ 1 → k ≠ 45 → decide (k ∉ [15, 38, 44, 45]) = true → sI (tel (rm2 S x) (rgS S x) (gone S x)) k = sI S k := fun k h1 h2 h3 => (hs1.i k h3).trans (rm2_i x k h1 h2)
  have e1 : sI (tel (rm2 S x) (rgS S x) (gone S x)) 1 = sI (rm2 S x) 1 := hs1.i 1 rfl
  have eK : sK (tel (rm2 S x) (rgS S x) (gone S x)) = sK (rm2 S x) := hs1.2.2.2
  have htT : ∀ i, th (tel (rm2 S x) (rgS S x) (gone S x)) i ↔ (th S i ∧ x ∉ an S i) := fun i => (th_cg (hs1.i 0 rfl) (hs1.i 1 rfl) i).trans (hth i)
  generalize hT : tel (rm2 S x) (rgS S x) (gone S x) = T at *
  have e20 : sI T 20 = sI S 20 := hi 20 (by decide) (by decide) rfl
  have e12 : sI T 12 = sI S 12 := hi 12 (by decide) (by decide) rfl
  have e3 : sI T 3 = sI S 3 := hi 3 (by decide) (by decide) rfl
  have e0 : sI T 0 = sI S 0 := hi 0 (by decide) (by decide) rfl
  have hcu : cur T = cur S := cur_cg e20
  have c40 := hC.c.2.l40 hW
  have shT : ∀ i, shn T i = shn S i := shn_cg e3 e12
  have key := InvT.kLos (r := rfgO S x) hI1 (fun g => ?_) ⟨by rw [e20, hcu]; exact hC.c.1, by rw [hcu, made_cg e0]; exact hC.c.2.lt⟩ ?_ ?_
  · exact key.1.toI key.2 (by decide)
  · rw [e20, hC.c.1, gon_nI c40, shT, hC.xs, e1, rm2_1] at g
    have hin : x ∈ an S (cur S) := by
      by_cases q : cur S < made S ∧ wthn S (cur S) x = true
      · exact of_decide_eq_true q.2
      · rw [if_neg q, decide_eq_false hC.c.2.2] at g
        simp at g
    have hxs := anc_shn hW _ hC.c.2.lt hC.xs x hin
    have hps := (shn_up hW h0 hx hxs).1
    have hh : ∀ j, hid T j = hid S j := fun j => by unfold hid; rw [e12]
    have er : rfgO S x = rfg T (dpar S x) ((sK S (dpar S x)).drop (plc S x + 1)) ((sK S (dpar S x)).take (plc S x)) := (rfg_cg (fun j _ => hh j) (fun j _ => hh j)).symm
    rw [er]
    have hKT : sK T (dpar S x) = (sK S (dpar S x)).take (plc S x) ++ (sK S (dpar S x)).drop (plc S x + 1) := by
      rw [eK, rm2_K, if_pos rfl, eraseIdx_split]
    exact rfg_in hI1.1.1 ((htT _).mpr ⟨u1, hW.not_up h0 hx⟩) (by rw [shT]; exact hps) (fun j hj => by rw [hKT]; exact List.mem_append_right _ hj) (fun j hj => by rw [hKT]; exact List.mem_append_left _ hj)
  · rw [hi 21 (by decide) (by decide) rfl, hi 2 (by decide) (by decide) rfl]
    rcases hC.xf with q | ⟨f, f1, f2, f3, f4⟩
    · exact Or.inl q
    · exact Or.inr ⟨f, f1, by rw [made_cg e0]; exact f2.lt, f4⟩
  · exact hC.xt.cg (hi 2 (by decide) (by decide) rfl) e20 (hi 21 (by decide) (by decide) rfl) (hi 22 (by decide) (by decide) rfl)
theorem Inv.kRemove {c : Nat} (h : Inv S c) {x : Nat} (hx : th S x) (h0 : 0 < x) (ha : (sQ S 35).length < 20) : Inv (rm3 S x) c := (rem_Inv0 h hx h0 ha).toFit
end RE

/-! ===== the reference's hiding ===== -/
section MH
variable {S : SS} {m : mm}
theorem hide_lem {c : Nat} (h : Inv S c) {x : Nat} (hx : th S x) (h0 : 0 < x) (ha : (sQ S 35).length < 20) {T : SS} (hT : tel (wSI S 12 x 1) (rgS S x) (gone S x) = T) : InvT (wSI S 12 x 1) c 19 ∧ InvT T c 20 ∧ Sd [12, 15, 38, 44, 45] [17, 33] [30, 35] S T ∧ rfgO S x = rfg T (dpar S x) ((sK T (dpar S x)).drop (plc S x + 1)) ((sK T (dpar S x)).take (plc S x)) ∧ (gonA T (sI T 20 0) = true → th T (rfgO S x)) := by
  have hW := h.1.1.t
  have hC := h.1.1
  have hs : Sd [12] [] [] S (wSI S 12 x 1) := Sd.I (by decide)
  have hT0 : CoreT (wSI S 12 x 1) := hC.toT.w12 (Or.inr rfl) h0 hx.lt
  have ht0 : ∀ i, th (wSI S 12 x 1) i ↔ th S i := th_cg (hs.i 0 rfl) (hs.i 1 rfl)
  have hI0 : InvT (wSI S 12 x 1) c 19 := ⟨hT0, h.1.2.1.i (by decide) (by decide), h.1.2.2.1.sd hs rfl, by show (sQ S 35).length ≤ 19; omega⟩
  have hg := gone_len hC.l x
  have hI1 : InvT (tel (wSI S 12 x 1) (rgS S x) (gone S x)) c 20 := hI0.kTel (fun r hr => by
    unfold rgS at hr
    split at hr
    · have := rgn_th hW hx hr
      exact ⟨by rw [hs.i 2 rfl]; exact this.1, (ht0 r).mpr this.2⟩
    · cases hr) hg
  have hs1 := sd_tel (wSI S 12 x 1) (rgS S x) (gone S x)
  have hs2 : Sd [12, 15, 38, 44, 45] [17, 33] [30, 35] S (tel (wSI S 12 x 1) (rgS S x) (gone S x)) := (hs.mono (by decide)).tr (hs1.mono (by decide))
  rw [hT] at *
  have e20 : sI T 20 = sI S 20 := hs2.i 20 rfl
  have e12 : sI T 12 = sI (wSI S 12 x 1) 12 := hs1.i 12 rfl
  have c40 := hC.c.2.l40 hW
  have htT : ∀ i, th T i ↔ th S i := th_cg (hs2.i 0 rfl) (hs2.i 1 rfl)
  have shT : ∀ i, i < made S → shn T i = (shn S i && !wthn S i x) := fun i hi => by
    rw [shn_cg (S := wSI S 12 x 1) (hs1.i 3 rfl) e12]
    exact hid_shn hW i hi
  obtain ⟨u1, u2⟩ := hW.up h0 hx
  obtain ⟨n1, n2⟩ := sib_ne hW h0 hx
  have hh : ∀ j, j ≠ x → hid T j = hid S j := fun j hj => by
    unfold hid
    rw [e12, sI_I, if_neg (fun z => hj z.2)]
  have er : rfgO S x = rfg T (dpar S x) ((sK T (dpar S x)).drop (plc S x + 1)) ((sK T (dpar S x)).take (plc S x)) := by
    rw [hs2.2.2.2]
    exact (rfg_cg (fun j hj => hh j (n1 j hj)) (fun j hj => hh j (n2 j hj))).symm
  refine ⟨hI0, hI1, hs2, er, fun g => ?_⟩
  rw [e20, hC.c.1, gon_nI c40, hs2.i 1 rfl, decide_eq_false hC.c.2.2, Bool.false_or, shT _ hC.c.2.lt, hC.xs] at g
  have hin : x ∈ an S (cur S) := by
    simp only [Bool.true_and, Bool.not_not] at g
    exact of_decide_eq_true g
  have hxs := anc_shn hW _ hC.c.2.lt hC.xs x hin
  have hps := (shn_up hW h0 hx hxs).1
  rw [er]
  have hpT : shn T (dpar S x) = true := by
    rw [shT _ u1.lt, hps]
    have : wthn S (dpar S x) x = false := decide_eq_false (hW.not_up h0 hx)
    rw [this]; rfl
  exact (rfg_in hI1.1.1 ((htT _).mpr u1) hpT (fun j hj => List.mem_of_mem_drop hj) (fun j hj => List.mem_of_mem_take hj)).1
theorem rgS_40 (h : WT S) {x : Nat} (hx : th S x) (i : Nat) (hi : rgS S x = some i) : i < 40 := by
  unfold rgS at hi
  split at hi
  · exact (rgn_th h hx hi).2.l40 h
  · cases hi
theorem hd3_I0 {c : Nat} (h : Inv S c) {x : Nat} (hx : th S x) (h0 : 0 < x) (v : Int32) (ha : (sQ S 35).length < 20) : Inv0 (hd3 S x v) c := by
  unfold hd3
  split
  · exact hide_on h hx h0 ha
  · split
    · exact hide_off h hx h0 ha
    · exact h.1
theorem hd3_48 (S : SS) (x : Nat) (v : Int32) : sI (fit (hd3 S x v)) 48 0 = sI S 48 0 := by
  rw [(sd_fit _).i 48 rfl]
  unfold hd3
  split
  · rw [(sd_los _ _).i 48 rfl, (sd_tel _ _ _).i 48 rfl]; rfl
  · split
    · rw [(sd_telW _ _).i 48 rfl]; rfl
    · rfl
end MH

/-! ===== the reference's removing ===== -/
section MV
variable {S : SS} {m : mm}
theorem gn_erase (l : List Nat) (p k : Nat) : gn (l.eraseIdx p) k = if k < p then gn l k else gn l (k + 1) := by
  unfold gn
  rw [List.getD_eq_getElem?_getD, List.getD_eq_getElem?_getD, List.getD_eq_getElem?_getD, List.getElem?_eraseIdx]
  split <;> rfl
theorem rem_lem {c : Nat} (h : Inv S c) {x : Nat} (hx : th S x) (h0 : 0 < x) (ha : (sQ S 35).length < 20) {T : SS} (hT : tel (rm2 S x) (rgS S x) (gone S x) = T) : InvT (rm2 S x) c 19 ∧ InvT T c 20 ∧ sK T = sK (rm2 S x) ∧ (∀ k, k ≠ 1 → k ≠ 45 → decide (k ∉ [15, 38, 44, 45]) = true → sI T k = sI S k) ∧ th T (dpar S x) ∧ rfgO S x = rfg T (dpar S x) ((sK T (dpar S x)).drop (plc S x)) ((sK T (dpar S x)).take (plc S x)) ∧ (gonA T (sI T 20 0) = true → th T (rfgO S x)) := by
  have hW := h.1.1.t
  have hC := h.1.1
  have hth := rm2_th (S := S) x
  have hI0 : InvT (rm2 S x) c 19 := rm2_InvT h hx h0 (by omega)
  have hg := gone_len hC.l x
  obtain ⟨u1, u2⟩ := hW.up h0 hx
  have hI1 : InvT (tel (rm2 S x) (rgS S x) (gone S x)) c 20 := hI0.kTel (fun r hr => by
    unfold rgS at hr
    split at hr
    · have h2 := rgn_th hW hx hr
      rw [rgn_s hW.pw h0 hx.lt] at hr
      have hm : r ∈ an S (dpar S x) := List.mem_of_find?_eq_some hr
      refine ⟨by rw [rm2_i x 2 (by decide) (by decide)]; exact h2.1, (hth r).mpr ⟨h2.2, fun z => ?_⟩⟩
      have q1 := an_mem hW.pw u1.lt r hm
      have q2 := an_mem hW.pw h2.2.lt x z
      have q3 := (hW.pw.par h0 hx.lt).1
      omega
    · cases hr) hg
  have hs1 := sd_tel (rm2 S x) (rgS S x) (gone S x)
  have hi : ∀ k, k ≠ 1 → k ≠ 45 → decide (k ∉ [15, 38, 44, 45]) = true → sI (tel (rm2 S x) (rgS S x) (gone S x)) k = sI S k := fun k h1 h2 h3 => (hs1.i k h3).trans (rm2_i x k h1 h2)
  have e1 : sI (tel (rm2 S x) (rgS S x) (gone S x)) 1 = sI (rm2 S x) 1 := hs1.i 1 rfl
  have eK : sK (tel (rm2 S x) (rgS S x) (gone S x)) = sK (rm2 S x) := hs1.2.2.2
  have htT : ∀ i, th (tel (rm2 S x) (rgS S x) (gone S x)) i ↔ (th S i ∧ x ∉ an S i) := fun i => (th_cg (hs1.i 0 rfl) (hs1.i 1 rfl) i).trans (hth i)
  rw [hT] at *
  have e20 : sI T 20 = sI S 20 := hi 20 (by decide) (by decide) rfl
  have e12 : sI T 12 = sI S 12 := hi 12 (by decide) (by decide) rfl
  have e3 : sI T 3 = sI S 3 := hi 3 (by decide) (by decide) rfl
  have c40 := hC.c.2.l40 hW
  have shT : ∀ i, shn T i = shn S i := shn_cg e3 e12
  have hh : ∀ j, hid T j = hid S j := fun j => by unfold hid; rw [e12]
  have hKT : sK T (dpar S x) = (sK S (dpar S x)).take (plc S x) ++ (sK S (dpar S x)).drop (plc S x + 1) := by
    rw [eK, rm2_K, if_pos rfl, eraseIdx_split]
  have hpl : plc S x < (sK S (dpar S x)).length := List.idxOf_lt_length_of_mem u2
  have htl : ((sK S (dpar S x)).take (plc S x)).length = plc S x := by rw [List.length_take]; omega
  have er : rfgO S x = rfg T (dpar S x) ((sK T (dpar S x)).drop (plc S x)) ((sK T (dpar S x)).take (plc S x)) := by
    rw [hKT, List.drop_left' htl, List.take_left' htl]
    exact (rfg_cg (fun j _ => hh j) (fun j _ => hh j)).symm
  have htp : th T (dpar S x) := (htT _).mpr ⟨u1, hW.not_up h0 hx⟩
  refine ⟨hI0, hI1, eK, hi, htp, er, fun g => ?_⟩
  rw [e20, hC.c.1, gon_nI c40, shT, hC.xs, e1, rm2_1] at g
  have hin : x ∈ an S (cur S) := by
    by_cases q : cur S < made S ∧ wthn S (cur S) x = true
    · exact of_decide_eq_true q.2
    · rw [if_neg q, decide_eq_false hC.c.2.2] at g
      simp at g
  have hxs := anc_shn hW _ hC.c.2.lt hC.xs x hin
  have hps := (shn_up hW h0 hx hxs).1
  rw [er]
  exact (rfg_in hI1.1.1 htp (by rw [shT]; exact hps) (fun j hj => List.mem_of_mem_drop hj) (fun j hj => List.mem_of_mem_take hj)).1
theorem rmF_WL (hL : WL S) (x n : Nat) : WL (rmF S x n) := fun i => by
  have hs := sd_rmF (S := S) x n
  rw [hs.l 6 rfl, hs.l 8 rfl, rmF_17]
  refine ⟨(hL i).1, (hL i).2.1, ?_⟩
  split
  · simp
  · exact (hL i).2.2
theorem rm3_48 (S : SS) (x : Nat) : sI (rm3 S x) 48 0 = sI S 48 0 := by
  unfold rm3
  rw [(sd_fit _).i 48 rfl, (sd_los _ _).i 48 rfl, (sd_tel _ _ _).i 48 rfl, rm2_i x 48 (by decide) (by decide)]
end MV

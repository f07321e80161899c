/-! ===== the reference's cursor: going, heads of tables ===== -/
theorem sI_N {S : SS} {k i : Nat} {v : Int32} {k' j : Nat} (h : k' ≠ k) : sI (wSI S k i v) k' j = sI S k' j := by rw [sI_I, if_neg (fun z => h z.1)]
theorem hd1_len {S : SS} (hL : WL S) (f t : Nat) : (hd1 S f t).length ≤ 12 := by
  unfold hd1
  split
  · simp
  · have := (hL (kid S (dpar S t) 0)).1
    have e : pt [] (sL S 6 (kid S (dpar S t) 0)) = sL S 6 (kid S (dpar S t) 0) := by unfold pt sep; simp
    rw [e]; exact this
theorem hd2_len {S : SS} (hL : WL S) (f t : Nat) : (hd2 S f t).length ≤ 25 := by
  have h1 := hd1_len hL f t
  unfold hd2
  split
  · omega
  · have := (hL (kid S (tbl S t) (plc S t))).1
    have := pt_len (hd1 S f t) (sL S 6 (kid S (tbl S t) (plc S t)))
    omega
theorem hds_len {S : SS} (hL : WL S) (f t : Nat) : (hds S f t).length ≤ 25 := by
  unfold hds
  split
  · exact hd2_len hL f t
  · simp
section MH
variable {S : SS} {m : mm}
theorem m_par (hM : RM S m) (h : WT S) {i : Nat} (hi : th S i) (h0 : 0 < i) : mL 3 (nI i) m = some (nI (dpar S i)) := by
  rw [m_plain hM rfl rfl (show i < 40 from hi.l40 h), (h.pw.par h0 hi.lt).2]
theorem m_par0 (hM : RM S m) (h : WT S) : mL 3 (nI 0) m = some (-1) := by
  rw [m_plain hM rfl rfl (show 0 < 40 by decide), h.pw.2.2.2.1]
theorem m_kid0 (hM : RM S m) {i : Nat} (hi : i < 40) (hk : 0 < (sK S i).length) (h10 : (sK S i).length ≤ 10) : mL 4 ((10 : Int32) * nI i) m = some (nI (kid S i 0)) := by
  have := m_kid hM hi hk h10
  rw [show nI 0 = (0 : Int32) from rfl, Int32.add_zero] at this
  exact this
theorem WT.kpos (h : WT S) {i : Nat} (h0 : 0 < i) (hi : th S i) : 0 < (sK S (dpar S i)).length := by
  have := (h.up h0 hi).2
  exact List.length_pos_of_mem this
theorem WT.kth (h : WT S) {i k : Nat} (hi : th S i) (hk : k < (sK S i).length) : th S (kid S i k) ∧ 0 < kid S i k ∧ dpar S (kid S i k) = i := (h.kids hi).2.2 _ (gn_mem hk)
theorem rI_some (x : Nat) : rI (some x) = nI x := rfl
theorem d_none : wdc 232519525 = wNone := by decide +kernel
theorem d_end : wdc 1668964 = wEnd := by decide +kernel
theorem g_none : (lg_cmp (232519525 : Int64) 0 ≤ 0) ↔ wNone.length = 0 := by decide +kernel
theorem g_end : (lg_cmp (1668964 : Int64) 0 ≤ 0) ↔ wEnd.length = 0 := by decide +kernel
theorem ord_thm (h : WT S) {j : Nat} (hj : j < (ord S).length) : th S (gn (ord S) j) := ord_th h 40 0 _ h.2.1 (gn_mem hj)
theorem m_ordAt {m' : mm} (h : WT S) (h1 : Sn (m' 49) 0 (ord S)) {j : Nat} (hj : j < (ord S).length) : mL 49 (nI j) m' = some (nI (gn (ord S) j)) := by
  have := ord_len h
  have e := h1 j hj
  rw [Nat.zero_add] at e
  rw [mL_ok rfl (show j < 40 by omega), e]
end MH

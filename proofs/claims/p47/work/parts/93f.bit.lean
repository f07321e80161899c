/-! ===== names and contents as numbers (the first rows are the kit's, to paste) ===== -/
theorem wb_tb (n : Nat) : (lN n).toBitVec = BitVec.ofNat 64 n := rfl
theorem wb_inj {a b : Int64} (h : a.toBitVec = b.toBitVec) : a = b := Int64.toBitVec_inj.mp h
theorem wb_tn {n : Nat} (h : n < 2 ^ 64) : (lN n).toBitVec.toNat = n := by rw [wb_tb, BitVec.toNat_ofNat, Nat.mod_eq_of_lt h]
theorem wb_of (x : Int64) : ∃ n, n < 2 ^ 64 ∧ x = lN n := ⟨x.toBitVec.toNat, x.toBitVec.isLt, wb_inj (by rw [wb_tb]; simp)⟩
theorem wb_c : ∀ k, k < 64 → ((nI k).toInt64 &&& 63) = lN k := by decide +kernel
theorem wb_sm : ∀ k, k < 64 → (BitVec.ofNat 64 k).smod 64 = BitVec.ofNat 64 k := by decide +kernel
theorem wb_lt2 {a b : Nat} (h : a < b) : 2 ^ a < 2 ^ b := Nat.pow_lt_pow_right (by decide) h
theorem wb_shl (n : Nat) {k : Nat} (hk : k < 64) : lN n <<< ((nI k).toInt64 &&& 63) = lN (n * 2 ^ k) := by
  rw [wb_c k hk]
  apply wb_inj
  rw [Int64.toBitVec_shiftLeft, wb_tb, wb_tb, wb_tb, wb_sm k hk]
  apply BitVec.eq_of_toNat_eq
  rw [BitVec.shiftLeft_eq', BitVec.toNat_shiftLeft, BitVec.toNat_ofNat, BitVec.toNat_ofNat, BitVec.toNat_ofNat, Nat.mod_eq_of_lt (show k < 2 ^ 64 by omega), Nat.shiftLeft_eq, Nat.mul_mod, Nat.mod_mod, ← Nat.mul_mod]
theorem wb_and {a b : Nat} (ha : a < 2 ^ 64) (hb : b < 2 ^ 64) : lN a &&& lN b = lN (a &&& b) := by
  apply wb_inj
  rw [Int64.toBitVec_and, wb_tb, wb_tb, wb_tb]
  apply BitVec.eq_of_toNat_eq
  rw [BitVec.toNat_and, BitVec.toNat_ofNat, BitVec.toNat_ofNat, BitVec.toNat_ofNat, Nat.mod_eq_of_lt ha, Nat.mod_eq_of_lt hb, Nat.mod_eq_of_lt (Nat.and_lt_two_pow _ hb)]
theorem wb_mask {n k : Nat} (hn : n < 2 ^ 64) (hk : k < 64) : lN n &&& lN (2 ^ k - 1) = lN (n % 2 ^ k) := by
  rw [wb_and hn (by have := wb_lt2 hk; omega), Nat.and_two_pow_sub_one_eq_mod]
theorem u_tn {n : Nat} (h : n < 2 ^ 64) : (UInt64.ofNat n).toNat = n := Nat.mod_eq_of_lt h
theorem g_or {k p a b : Nat} (hp : 2 ^ k = p) (ha : a < p) (h : b * p + a < 2 ^ 64) : lN (b * p) ||| lN a = lN (b * p + a) := by
  subst hp
  have h1 : b * 2 ^ k ||| a = b * 2 ^ k + a := by rw [← Nat.shiftLeft_eq, Nat.shiftLeft_add_eq_or_of_lt ha]
  have h3 : UInt64.ofNat (b * 2 ^ k) ||| UInt64.ofNat a = UInt64.ofNat (b * 2 ^ k + a) := UInt64.toNat_inj.mp (by rw [UInt64.toNat_or, u_tn (by omega), u_tn (by omega), u_tn h, h1])
  have h2 := congrArg UInt64.toInt64 h3
  exact h2
theorem g_or' {k p a b : Nat} (hp : 2 ^ k = p) (ha : a < p) (h : a + b * p < 2 ^ 64) : lN a ||| lN (b * p) = lN (a + b * p) := by
  rw [Int64.or_comm, g_or hp ha (by omega), Nat.add_comm]
theorem pf_lI {a : Nat} (h : a < 2 ^ 63) : (lN a).toInt = (a : Int) := lg_ofNat_toInt h
theorem pf_shr {a d : Nat} {D : Int64} (hD : (D.toBitVec.smod 64).toNat = d) (h : a < 2 ^ 62) : lN a >>> D = lN (a / 2 ^ d) := by
  have hd : a / 2 ^ d ≤ a := Nat.div_le_self _ _
  apply Int64.toInt_inj.mp
  have e : (lN a >>> D).toInt = (lN a).toInt >>> d := by
    rw [← hD]
    exact BitVec.toInt_sshiftRight ..
  rw [e, Int.shiftRight_eq_div_pow, pf_lI (by omega), pf_lI (by omega)]
  rfl
theorem clr_bits {a q : Nat} (hq : q ≤ 5) (ha : a < 2 ^ (7 * (q + 1))) : lN a &&& (lN (127 * 2 ^ (7 * q)) ^^^ (-1 : Int64)) = lN (a % 2 ^ (7 * q)) := by
  have h1 : a < 2 ^ 64 := Nat.lt_of_lt_of_le ha (Nat.pow_le_pow_right (by decide) (by omega))
  have hall : (-1 : Int64).toBitVec = BitVec.allOnes 64 := by decide
  apply wb_inj
  rw [Int64.toBitVec_and, Int64.toBitVec_xor, hall, wb_tb, wb_tb, wb_tb]
  apply BitVec.eq_of_getLsbD_eq
  intro i hi
  rw [BitVec.getLsbD_and, BitVec.getLsbD_xor, BitVec.getLsbD_allOnes, BitVec.getLsbD_ofNat, BitVec.getLsbD_ofNat, BitVec.getLsbD_ofNat, Nat.testBit_mod_two_pow, Nat.testBit_mul_two_pow, show (127 : Nat) = 2 ^ 7 - 1 from rfl, Nat.testBit_two_pow_sub_one]
  by_cases w : i < 7 * q
  · simp [hi, w, show ¬ 7 * q ≤ i by omega]
  · by_cases v : i < 7 * (q + 1)
    · simp [hi, w, show 7 * q ≤ i by omega, show i - 7 * q < 7 by omega]
    · have : a.testBit i = false := Nat.testBit_lt_two_pow (Nat.lt_of_lt_of_le ha (Nat.pow_le_pow_right (by decide) (by omega)))
      simp [hi, w, this]
theorem okC_tl {b : Nat} {c : Int32} {l : List Int32} (h : okC b (c :: l)) : okC b l := fun d hd => h d (List.mem_cons_of_mem _ hd)
theorem okC_app {b : Nat} {l : List Int32} {c : Int32} (h : okC b l) (hc : ∃ n, 0 < n ∧ n < 2 ^ b ∧ c = nI n) : okC b (l ++ [c]) := fun d hd => by
  rcases List.mem_append.mp hd with q | q
  · exact h d q
  · rw [List.mem_singleton.mp q]; exact hc
theorem okC_take {b n : Nat} {l : List Int32} (h : okC b l) : okC b (l.take n) := fun d hd => h d (List.mem_of_mem_take hd)
theorem okC_drop {b n : Nat} {l : List Int32} (h : okC b l) : okC b (l.drop n) := fun d hd => h d (List.mem_of_mem_drop hd)
theorem okC_n {b : Nat} (hb : b ≤ 30) {c : Int32} (h : ∃ n, 0 < n ∧ n < 2 ^ b ∧ c = nI n) : 0 < c.toNatClampNeg ∧ c.toNatClampNeg < 2 ^ b ∧ c = nI c.toNatClampNeg := by
  obtain ⟨n, h1, h2, rfl⟩ := h
  have : 2 ^ b ≤ 2 ^ 30 := Nat.pow_le_pow_right (by decide) hb
  rw [nI_clamp (by omega)]
  exact ⟨h1, h2, rfl⟩
theorem pkx_lt {b : Nat} (hb : b ≤ 30) : ∀ {l : List Int32}, okC b l → pkF b l < 2 ^ (b * l.length)
  | [], _ => by simp [pkF]
  | c :: l, h => by
    have ih := pkx_lt hb (okC_tl h)
    have hc := (okC_n hb (h c List.mem_cons_self)).2.1
    have e : 2 ^ (b * (c :: l).length) = 2 ^ b * 2 ^ (b * l.length) := by rw [← Nat.pow_add]; congr 1; rw [List.length_cons, Nat.mul_add]; omega
    rw [e]
    show c.toNatClampNeg + 2 ^ b * pkF b l < _
    have h2 : 2 ^ b * (pkF b l + 1) ≤ 2 ^ b * 2 ^ (b * l.length) := Nat.mul_le_mul_left _ ih
    rw [Nat.mul_add] at h2
    omega
theorem pk_app {b : Nat} : ∀ {l : List Int32} {c : Int32}, pkF b (l ++ [c]) = pkF b l + c.toNatClampNeg * 2 ^ (b * l.length)
  | [], c => by simp [pkF]
  | a :: l, c => by
    have ih := pk_app (b := b) (l := l) (c := c)
    show a.toNatClampNeg + 2 ^ b * pkF b (l ++ [c]) = a.toNatClampNeg + 2 ^ b * pkF b l + _
    rw [ih, Nat.mul_add, List.length_cons, Nat.mul_add, Nat.pow_add, Nat.mul_one, Nat.add_assoc]
    congr 2
    rw [Nat.mul_comm (2 ^ (b * l.length)), Nat.mul_left_comm]
theorem pk_get {b : Nat} (hb : b ≤ 30) : ∀ {l : List Int32} {k : Nat}, okC b l → k < l.length → pkF b l / 2 ^ (b * k) % 2 ^ b = (ge l k).toNatClampNeg
  | [], k, _, hk => absurd hk (Nat.not_lt_zero k)
  | c :: l, 0, h, _ => by
    have hc := (okC_n hb (h c List.mem_cons_self)).2.1
    rw [Nat.mul_zero, Nat.pow_zero, Nat.div_one]
    show (c.toNatClampNeg + 2 ^ b * pkF b l) % 2 ^ b = c.toNatClampNeg
    rw [Nat.add_mul_mod_self_left, Nat.mod_eq_of_lt hc]
  | c :: l, k + 1, h, hk => by
    have hc := (okC_n hb (h c List.mem_cons_self)).2.1
    have ih := pk_get hb (okC_tl h) (k := k) (by rw [List.length_cons] at hk; omega)
    have e : pkF b (c :: l) / 2 ^ (b * (k + 1)) = pkF b l / 2 ^ (b * k) := by
      rw [show b * (k + 1) = b + b * k by rw [Nat.mul_add]; omega, Nat.pow_add, ← Nat.div_div_eq_div_mul]
      congr 1
      show (c.toNatClampNeg + 2 ^ b * pkF b l) / 2 ^ b = _
      rw [Nat.add_mul_div_left _ _ (Nat.two_pow_pos b), Nat.div_eq_of_lt hc, Nat.zero_add]
    rw [e, ih]
    show (ge l k).toNatClampNeg = (ge (c :: l) (k + 1)).toNatClampNeg
    unfold ge
    simp
theorem pk_ge {b : Nat} (hb : b ≤ 30) {l : List Int32} (h : okC b l) (h0 : 0 < l.length) : 2 ^ (b * (l.length - 1)) ≤ pkF b l := by
  obtain ⟨l', c, rfl⟩ : ∃ l' c, l = l' ++ [c] := ⟨l.dropLast, l.getLast (List.ne_nil_of_length_pos h0), (List.dropLast_concat_getLast _).symm⟩
  have hc := (okC_n hb (h c (by simp))).1
  rw [pk_app, List.length_append, List.length_singleton, Nat.add_sub_cancel]
  have : 1 * 2 ^ (b * l'.length) ≤ c.toNatClampNeg * 2 ^ (b * l'.length) := Nat.mul_le_mul_right _ hc
  omega
theorem pk_take {b : Nat} (hb : b ≤ 30) {l : List Int32} {c : Int32} (h : okC b (l ++ [c])) : pkF b (l ++ [c]) % 2 ^ (b * l.length) = pkF b l := by
  rw [pk_app, Nat.add_mul_mod_self_right]
  exact Nat.mod_eq_of_lt (pkx_lt hb (fun d hd => h d (List.mem_append_left _ hd)))
/-- shifted and masked -/
theorem sh_mask {a d w : Nat} {i : Int32} (hi : i = nI d) (hd : d < 64) (hw : w < 32) (ha : a < 2 ^ 62) {M : Int64} (hM : M = lN (2 ^ w - 1)) : ((lN a >>> (i.toInt64 &&& 63)) &&& M).toInt32 = nI (a / 2 ^ d % 2 ^ w) := by
  subst hi hM
  have hs : ((lN d).toBitVec.smod 64).toNat = d := by
    rw [wb_tb, wb_sm d hd, BitVec.toNat_ofNat, Nat.mod_eq_of_lt (by omega)]
  rw [wb_c d hd, pf_shr hs ha, wb_mask (by have := Nat.div_le_self a (2 ^ d); omega) (by omega), lN_i]
theorem nm_at {l : List Int32} (hl : l.length ≤ 3) (hc : okC 20 l) {k : Nat} (hk : k < l.length) : ((lN (pkF 20 l) >>> (((20 : Int32) * nI k).toInt64 &&& 63)) &&& (1048575 : Int64)).toInt32 = ge l k := by
  have h1 := pkx_lt (b := 20) (by decide) hc
  have h2 : 2 ^ (20 * l.length) ≤ 2 ^ 60 := Nat.pow_le_pow_right (by decide) (by omega)
  rw [sh_mask (a := pkF 20 l) (i := (20 : Int32) * nI k) (M := (1048575 : Int64)) (d := 20 * k) (w := 20) (by rw [show (20 : Int32) = nI 20 from rfl, nI_mul]) (by omega) (by decide) (by omega) rfl, pk_get (by decide) hc hk]
  exact (okC_n (by decide) (hc _ (ge_mem hk))).2.2.symm
theorem r_nmany {l : List Int32} (hl : l.length ≤ 3) (hc : okC 20 l) : fL_nameMany (lN (pkF 20 l)) = some (nI l.length) := by
  have h1 := pkx_lt (b := 20) (by decide) hc
  unfold fL_nameMany
  rcases (show l.length = 0 ∨ l.length = 1 ∨ l.length = 2 ∨ l.length = 3 by omega) with q | q | q | q
  · have : l = [] := List.length_eq_zero_iff.mp q
    subst this
    rfl
  · have h2 := pk_ge (b := 20) (by decide) hc (by omega)
    rw [q] at h1 h2 ⊢
    have a1 : (1048576 : Int64) = lN 1048576 := rfl
    have e1 : ¬ lg_cmp (lN (pkF 20 l)) 0 = 0 := fun z => by
      have := (pk_lEQ (a := pkF 20 l) (b := 0) (by omega) (by decide)).mp ((lg_cmp_eq _ _).mp z)
      simp at h2; omega
    rw [if_neg e1, if_neg]
    · rfl
    · intro z
      rw [a1] at z
      have := (pk_lLE (by decide) (by omega)).mp ((lg_cmp_ge _ _).mp z)
      simp at h1; omega
  · have h2 := pk_ge (b := 20) (by decide) hc (by omega)
    rw [q] at h1 h2 ⊢
    have a1 : (1048576 : Int64) = lN 1048576 := rfl
    have a2 : (1099511627776 : Int64) = lN 1099511627776 := rfl
    have e1 : ¬ lg_cmp (lN (pkF 20 l)) 0 = 0 := fun z => by
      have := (pk_lEQ (a := pkF 20 l) (b := 0) (by omega) (by decide)).mp ((lg_cmp_eq _ _).mp z)
      simp at h2; omega
    rw [if_neg e1, if_pos, if_neg]
    · rfl
    · intro z
      rw [a2] at z
      have := (pk_lLE (by decide) (by omega)).mp ((lg_cmp_ge _ _).mp z)
      simp at h1; omega
    · rw [a1]
      exact (lg_cmp_ge _ _).mpr ((pk_lLE (by decide) (by omega)).mpr (by simp at h2; omega))
  · have h2 := pk_ge (b := 20) (by decide) hc (by omega)
    rw [q] at h1 h2 ⊢
    have a1 : (1048576 : Int64) = lN 1048576 := rfl
    have a2 : (1099511627776 : Int64) = lN 1099511627776 := rfl
    have e1 : ¬ lg_cmp (lN (pkF 20 l)) 0 = 0 := fun z => by
      have := (pk_lEQ (a := pkF 20 l) (b := 0) (by omega) (by decide)).mp ((lg_cmp_eq _ _).mp z)
      simp at h2; omega
    rw [if_neg e1, if_pos, if_pos]
    · rfl
    · rw [a2]
      exact (lg_cmp_ge _ _).mpr ((pk_lLE (by decide) (by omega)).mpr (by simp at h2; omega))
    · rw [a1]
      exact (lg_cmp_ge _ _).mpr ((pk_lLE (by decide) (by omega)).mpr (by simp at h2; omega))
section BIT
variable {B : Nat} {h : hp} {m : LY} {S : SS}
theorem RD.ok6 (x : RD B h m S) {j : Nat} (hj : j < made S) : (sL S 6 j).length ≤ 3 ∧ okC 20 (sL S 6 j) := ⟨(x.k.2 j hj).2.2.1, (x.k.2 j hj).2.2.2.1⟩
theorem RD.ok8 (x : RD B h m S) {j : Nat} (hj : j < made S) : okC 7 (sL S 8 j) := (x.k.2 j hj).2.2.2.2
theorem r_many (x : RD B h m S) {j : Nat} (hj : j < made S) : (oJL (some (B + 92)) (nI j) h).bind (fun x1 => fL_nameMany x1) = some (nI (sL S 6 j).length) := by
  rw [x.nm hj, sb, r_nmany (x.ok6 hj).1 (x.ok6 hj).2]
/-- a character of a content -/
theorem rl_typed (x : RD B h m S) {j k : Nat} (hj : j < made S) (h12 : (sL S 8 j).length ≤ 12) (hk : k < (sL S 8 j).length) : fL_typed (some (B + 93)) (nI j) (nI k) h = some (ge (sL S 8 j) k) := by
  have l10 := x.m10
  have hc := x.ok8 hj
  unfold fL_typed
  rw [show (oNz (6 : Int32)).bind (fun _ => (oJL (some (B + 93)) (((2 : Int32) * nI j) + (nI k / (6 : Int32))) h).bind fun x1 => (oNz (6 : Int32)).bind fun _ => some (((x1 >>> (((7 : Int32) * (nI k - nI k / (6 : Int32) * (6 : Int32))).toInt64 &&& 63)) &&& (127 : Int64)).toInt32)) = (oJL (some (B + 93)) (((2 : Int32) * nI j) + (nI k / (6 : Int32))) h).bind fun x1 => some (((x1 >>> (((7 : Int32) * (nI k - nI k / (6 : Int32) * (6 : Int32))).toInt64 &&& 63)) &&& (127 : Int64)).toInt32) from rfl, show (6 : Int32) = nI 6 from rfl, nI_div (by omega) (by decide), show (2 : Int32) = nI 2 from rfl, nI_mul, nI_add]
  by_cases q : k < 6
  · rw [Nat.div_eq_of_lt q, x.q.t (k := 2 * j + 0) (by omega), sb, Nat.add_zero (2 * j), (x.l.e hj).2.2.2.2.2.2.2.1]
    congr 1
    have h1 := pkx_lt (b := 7) (by decide) (okC_take (n := 6) hc)
    have h2 : 2 ^ (7 * ((sL S 8 j).take 6).length) ≤ 2 ^ 42 := Nat.pow_le_pow_right (by decide) (by rw [List.length_take]; omega)
    have hk6 : k < ((sL S 8 j).take 6).length := by rw [List.length_take]; omega
    rw [sh_mask (a := pkF 7 ((sL S 8 j).take 6)) (i := (7 : Int32) * (nI k - nI 0 * nI 6)) (M := (127 : Int64)) (d := 7 * k) (w := 7) (by rw [show nI 0 * nI 6 = nI 0 from rfl, show nI k - nI 0 = nI k from nI_sub (Nat.zero_le k), show (7 : Int32) = nI 7 from rfl, nI_mul]) (by omega) (by decide) (by omega) rfl, pk_get (by decide) (okC_take hc) hk6, ge_take q]
    exact (okC_n (by decide) (hc _ (ge_mem hk))).2.2.symm
  · have e1 : k / 6 = 1 := by omega
    rw [e1, x.q.t (k := 2 * j + 1) (by omega), sb, (x.l.e hj).2.2.2.2.2.2.2.2.1]
    congr 1
    have h1 := pkx_lt (b := 7) (by decide) (okC_drop (n := 6) hc)
    have h2 : 2 ^ (7 * ((sL S 8 j).drop 6).length) ≤ 2 ^ 42 := Nat.pow_le_pow_right (by decide) (by rw [List.length_drop]; omega)
    have hk6 : k - 6 < ((sL S 8 j).drop 6).length := by rw [List.length_drop]; omega
    rw [sh_mask (a := pkF 7 ((sL S 8 j).drop 6)) (i := (7 : Int32) * (nI k - nI 1 * nI 6)) (M := (127 : Int64)) (d := 7 * (k - 6)) (w := 7) (by rw [show nI 1 * nI 6 = nI 6 from rfl, nI_sub (by omega), show (7 : Int32) = nI 7 from rfl, nI_mul]) (by omega) (by decide) (by omega) rfl, pk_get (by decide) (okC_drop hc) hk6, ge_drop, show 6 + (k - 6) = k by omega]
    exact (okC_n (by decide) (hc _ (ge_mem hk))).2.2.symm
end BIT

/-! ===== the world of the run, out of what the Statement gives of its start ===== -/
def FL0 : List Cond := flatC (Jvm.Cond.and given_1 narrow_1)
def posL : List Nat := [76, 85, 95, 104, 112, 121, 128, 136, 713, 743, 330, 358, 391, 431, 193, 199, 206, 455, 484, 492, 500, 527, 76, 76, 654, 581, 620, 76, 76, 76, 186, 212, 220, 231, 238, 246, 254, 263, 140, 166, 689, 553, 271, 301, 76]
def srL : List Nat := [328, 329, 330, 331, 332, 333, 334, 335, 1259, 1260, 973, 981, 990, 995, 654, 655, 669, 1043, 1071, 1080, 1105, 1110, 328, 328, 1172, 1128, 1154, 328, 328, 328, 576, 670, 706, 707, 708, 713, 760, 776, 517, 552, 1220, 1119, 797, 859, 328]
def strN (i : Nat) : String × Nat × String := strT.getD i ("", 0, "")
def sTm (i : Nat) : Term := .string (strN i).1 (strN i).2.1
def sVal (i : Nat) : Term := .field (sTm i) "java/lang/String" "value" "[B"
theorem fl_m {i : Nat} {w : Cond} (h : FL0[i]? = some w) : w ∈ FL0 := List.mem_of_getElem? h
theorem fl_sr : ∀ i, i < 45 → lw_tbl[srL.getD i 0]? = some (Cond.stringRef (strN i).1 (strN i).2.1 (strN i).2.2) := by decide +kernel
theorem fl_ex : ∀ i, i < 45 → FL0[posL.getD i 0]? = some (Cond.exactly (sTm i) "java/lang/String") := by decide +kernel
theorem fl_co : ∀ i, i < 45 → FL0[posL.getD i 0 + 1]? = some (Cond.eq (.field (sTm i) "java/lang/String" "coder" "B") (.int 0)) := by decide +kernel
theorem fl_ar : ∀ i, i < 45 → FL0[posL.getD i 0 + 2]? = some (Cond.arrayOf (sVal i) .byte) := by decide +kernel
theorem fl_le : ∀ i, i < 45 → FL0[posL.getD i 0 + 3]? = some (Cond.eq (.length (sVal i)) (.int (Int32.ofNat (strL i)))) := by decide +kernel
theorem fl_el : ∀ i, i < 45 → ∀ j, j < strL i → FL0[posL.getD i 0 + 4 + j]? = some (Cond.eq (.elem (sVal i) (.int (Int32.ofNat j))) (.int (strB i j))) := by decide +kernel
theorem strL_lt : ∀ i, i < 45 → strL i < 2 ^ 31 := by decide +kernel
def lTm : Term := .static RX0 "LETTERS" "[I"
theorem fl_la : FL0[10]? = some (Cond.arrayOf lTm .int) := by decide +kernel
theorem fl_ll : FL0[11]? = some (Cond.eq (.length lTm) (.int (Int32.ofNat 26))) := by decide +kernel
theorem fl_lx : ∀ j, j < 26 → FL0[12 + j]? = some (Cond.eq (.elem lTm (.int (Int32.ofNat j))) (.int (lett j))) := by decide +kernel
theorem fl_cs : FL0[4]? = some (Cond.eq (.static "java/lang/String" "COMPACT_STRINGS" "Z") (.int 1)) := by decide +kernel
theorem fl_si : FL0[5]? = some (Cond.isRef (.static "jdk/internal/util/Preconditions" "SIOOBE_FORMATTER" "Ljava/util/function/BiFunction;")) := by decide +kernel
theorem fl_un : FL0[38]? = some (Cond.isRef (.static Bundle.tN "UNASSIGNED_STACK" Bundle.steD)) := by decide +kernel
theorem fl_su : FL0[39]? = some (Cond.isRef (.static Bundle.tN "SUPPRESSED_SENTINEL" Bundle.listD)) := by decide +kernel
theorem fl_n0 : FL0[50]? = some (Cond.not (.castable exA exI)) := by decide +kernel
theorem fl_n1 : FL0[51]? = some (Cond.not (.castable exS exI)) := by decide +kernel
theorem fl_n2 : FL0[63]? = some (Cond.not (.castable exS exA)) := by decide +kernel
theorem tb_lL : Cond.laysStatic RX0 "LETTERS" "[I" ∈ lw_tbl := List.mem_of_getElem? (i := 387) (by decide +kernel)
theorem tb_iL : Cond.initialized RX0 ∈ lw_tbl := List.mem_of_getElem? (i := 39) (by decide +kernel)
theorem tb_lC : Cond.laysStatic "java/lang/String" "COMPACT_STRINGS" "Z" ∈ lw_tbl := List.mem_of_getElem? (i := 352) (by decide +kernel)
theorem tb_iC : Cond.initialized "java/lang/String" ∈ lw_tbl := List.mem_of_getElem? (i := 40) (by decide +kernel)
theorem tb_lS : Cond.laysStatic "jdk/internal/util/Preconditions" "SIOOBE_FORMATTER" "Ljava/util/function/BiFunction;" ∈ lw_tbl := List.mem_of_getElem? (i := 360) (by decide +kernel)
theorem tb_iS : Cond.initialized "jdk/internal/util/Preconditions" ∈ lw_tbl := List.mem_of_getElem? (i := 42) (by decide +kernel)
theorem tb_lU : Cond.laysStatic Bundle.tN "UNASSIGNED_STACK" Bundle.steD ∈ lw_tbl := List.mem_of_getElem? (i := 503) (by decide +kernel)
theorem tb_lN : Cond.laysStatic Bundle.tN "SUPPRESSED_SENTINEL" Bundle.listD ∈ lw_tbl := List.mem_of_getElem? (i := 505) (by decide +kernel)
theorem tb_iT : Cond.initialized Bundle.tN ∈ lw_tbl := List.mem_of_getElem? (i := 44) (by decide +kernel)
theorem tb_aI : Cond.arrayClass .int ∈ lw_tbl := List.mem_of_getElem? (i := 85) (by decide +kernel)
theorem tb_aJ : Cond.arrayClass .long ∈ lw_tbl := List.mem_of_getElem? (i := 1270) (by decide +kernel)
theorem tb_oE : Cond.arrayOver (.object RX2) ∈ lw_tbl := List.mem_of_getElem? (i := 71) (by decide +kernel)
theorem tb_oC : Cond.arrayOver (.object RX1) ∈ lw_tbl := List.mem_of_getElem? (i := 193) (by decide +kernel)
theorem tb_mn : Cond.methodLinkNest RX5 28 yX8_init "BrailleDesk" ∈ lw_tbl := List.mem_of_getElem? (i := 292) (by decide +kernel)
theorem insX : ∀ ci, ci < 11 → ∃ n, Cond.instantiable (hk_C ci) n ∈ lw_tbl := by
  intro ci h
  rcases (show ci = 0 ∨ ci = 1 ∨ ci = 2 ∨ ci = 3 ∨ ci = 4 ∨ ci = 5 ∨ ci = 6 ∨ ci = 7 ∨ ci = 8 ∨ ci = 9 ∨ ci = 10 by omega) with rfl | rfl | rfl | rfl | rfl | rfl | rfl | rfl | rfl | rfl | rfl
  · exact ⟨2, List.mem_of_getElem? (i := 73) (by decide +kernel)⟩
  · exact ⟨15, List.mem_of_getElem? (i := 65) (by decide +kernel)⟩
  · exact ⟨3, List.mem_of_getElem? (i := 270) (by decide +kernel)⟩
  · exact ⟨2, List.mem_of_getElem? (i := 187) (by decide +kernel)⟩
  · exact ⟨7, List.mem_of_getElem? (i := 264) (by decide +kernel)⟩
  · exact ⟨5, List.mem_of_getElem? (i := 240) (by decide +kernel)⟩
  · exact ⟨6, List.mem_of_getElem? (i := 59) (by decide +kernel)⟩
  · exact ⟨3, List.mem_of_getElem? (i := 291) (by decide +kernel)⟩
  · exact ⟨11, List.mem_of_getElem? (i := 181) (by decide +kernel)⟩
  · exact ⟨7, List.mem_of_getElem? (i := 51) (by decide +kernel)⟩
  · exact ⟨7, List.mem_of_getElem? (i := 51) (by decide +kernel)⟩
theorem XW_tbl {w : Cond} (h : w ∈ XW) : w ∈ lw_tbl := (List.mem_filter.mp h).1
theorem K_at {s : State} {args : Array Value} (hts : ∀ w ∈ lw_tbl, w.before args s = true) : ∃ D : va_G, ∀ (c : Nat) (q : vw_C), hk_cls[c]? = some q → u_Kn s q.1 q.2.1 q.2.2 (D.1 c) (D.2 c) := by
  have h0 : ∀ ci : Nat, ∃ z : ClassId × (Nat → Nat), ci < 11 → u_Kn s (hk_C ci) (hk_T ci) (hk_N ci) z.1 z.2 := by
    intro ci
    by_cases h : ci < 11
    · obtain ⟨n, hn⟩ := insX ci h
      obtain ⟨cC, iS, hk⟩ := u_known (C := hk_C ci) (T := hk_T ci) (N := hk_N ci) (n := n) hts (fun w hw => XW_tbl (cls_w h w hw)) (hts _ hn)
      exact ⟨(cC, iS), fun _ => hk⟩
    · exact ⟨(Classical.choice ⟨(0 : ClassId)⟩, fun _ => 0), fun z => absurd z h⟩
  obtain ⟨f, hf⟩ := Classical.axiomOfChoice h0
  refine ⟨(fun c => (f c).1, fun c => (f c).2), fun c q hq => ?_⟩
  have hc : c < 11 := (List.getElem?_eq_some_iff.mp hq).1
  rw [cls_at hc] at hq
  cases hq
  exact hf c hc
theorem A_prim {s : State} {args : Array Value} {ty : FieldType} (hp : ty = .int ∨ ty = .boolean ∨ ty = .long) (h : (Cond.arrayClass ty).before args s = true) : ∃ cA : ClassId, ArrOfT s cA ty ∧ va_RA s cA ty := by
  obtain ⟨cA, kA, comp, h1, h2, h3⟩ := Cond.arrayClass_spec h
  refine ⟨cA, fun N z => ⟨fun k q => ?_, kA, h2, comp, h3⟩, ?_⟩
  · rcases hp with rfl | rfl | rfl <;> cases q
  · rcases hp with rfl | rfl | rfl <;> exact h1
theorem A_obj {s : State} {args : Array Value} {C : String} (h : (Cond.arrayOver (.object C)).before args s = true) : ∃ cA : ClassId, ArrOfT s cA (.object C) ∧ va_RA s cA (.object C) := by
  obtain ⟨comp, cA, kA, f4, -, f2, f3, f1⟩ := Cond.arrayOver_spec h
  exact ⟨cA, fun N z => ⟨(fun k h => by cases h), kA, f2, comp, f3⟩, kA, comp, f2, f3, f4, f1⟩
theorem strs_at {args : Array Value} {s : State} {A : Nat → Prop} (hs : ∀ w ∈ FL0, w.before args s = true) (hA : ∀ a : Nat, a < s.heap.size → ¬ A a) : ∃ adK adV : Nat → Nat, ∀ i : Nat, i < 45 → (sTm i).eval args s none [] s = some (.ref (adK i)) ∧ va_O "java/lang/String" (adK i) A s s.heap ∧ va_OF "java/lang/String" "coder" "B" (.int 0) (adK i) A s s.heap ∧ va_OF "java/lang/String" "value" "[B" (.ref (adV i)) (adK i) A s s.heap ∧ va_T .byte (adV i) (strL i) (fun j => .int (strB i j)) A s s.heap := by
  have h0 : ∀ i : Nat, ∃ q : Nat × Nat, i < 45 → (sTm i).eval args s none [] s = some (.ref q.1) ∧ va_O "java/lang/String" q.1 A s s.heap ∧ va_OF "java/lang/String" "coder" "B" (.int 0) q.1 A s s.heap ∧ va_OF "java/lang/String" "value" "[B" (.ref q.2) q.1 A s s.heap ∧ va_T .byte q.2 (strL i) (fun j => .int (strB i j)) A s s.heap := by
    intro i
    by_cases hi : i < 45
    · obtain ⟨a, c, cA, kA, q1, q2, q3, q4, q5, q6, -⟩ := Cond.exactly_spec (args := args) (first := s) (o := none) (s := s) (idx := []) (t := sTm i) (cls := "java/lang/String") (hs _ (fl_m (fl_ex i hi)))
      obtain ⟨t, ht, hT⟩ := va_Tof (f := fun j => .int (strB i j)) (A := A) (strL_lt i hi) (hs _ (fl_m (fl_ar i hi))) (va_eqt (hs _ (fl_m (fl_le i hi)))) (fun j hj => va_eqt (hs _ (fl_m (fl_el i hi j hj)))) hA
      exact ⟨(a, t), fun _ => ⟨q1, ⟨cA, q3, q5, by rw [q6]; exact q2, hA a (Array.getElem?_eq_some_iff.mp q3).1⟩, vk_OFof q1 (va_eqt (hs _ (fl_m (fl_co i hi)))) hA, vk_OFof q1 ht hA, hT⟩⟩
    · exact ⟨(0, 0), fun h => absurd h hi⟩
  obtain ⟨ad, had⟩ := Classical.axiomOfChoice h0
  exact ⟨fun i => (ad i).1, fun i => (ad i).2, fun i hi => had i hi⟩
theorem strN_at {i : Nat} {q : String × Nat × String} (h : strT[i]? = some q) : i < 45 ∧ strN i = q := by
  refine ⟨(List.getElem?_eq_some_iff.mp h).1, ?_⟩
  unfold strN
  rw [List.getD_eq_getElem?_getD, h]
  rfl
/-- the world of the run -/
theorem start_at {s : State} {args : Array Value} (l : Launch) (hl : l.stackTraces = false) (hts : ∀ w ∈ lw_tbl, w.before args s = true) (hgv : (Jvm.Cond.and given_1 narrow_1).before args s = true) {b L : Nat} {xs : Nat → Int32} (hX : va_X b L xs s s.heap) (hbl : b < s.heap.size) : ∃ G : gG, gl G = l ∧ gb G = s.heap.size ∧ SW G s s.heap ∧ gxb G = b ∧ gxL G = L := by
  have hs : ∀ w ∈ FL0, w.before args s = true := flat_of_before _ hgv
  have hA : ∀ a : Nat, a < s.heap.size → ¬ (fun q => s.heap.size ≤ q) a := fun a h => Nat.not_le.mpr h
  obtain ⟨D, hD⟩ := K_at hts
  obtain ⟨cI, cI1, cI2⟩ := A_prim (Or.inl rfl) (hts _ tb_aI)
  obtain ⟨cJ, cJ1, cJ2⟩ := A_prim (Or.inr (Or.inr rfl)) (hts _ tb_aJ)
  obtain ⟨cE, cE1, cE2⟩ := A_obj (hts _ tb_oE)
  obtain ⟨cC, cC1, cC2⟩ := A_obj (hts _ tb_oC)
  obtain ⟨adK, adV, hstr⟩ := strs_at (A := fun q => s.heap.size ≤ q) hs hA
  obtain ⟨tL, hL1, hL2⟩ := va_Tof (f := fun j => .int (lett j)) (A := fun q => s.heap.size ≤ q) (show 26 < 2 ^ 31 by decide) (hs _ (fl_m fl_la)) (va_eqt (hs _ (fl_m fl_ll))) (fun j hj => va_eqt (hs _ (fl_m (fl_lx j hj)))) hA
  let G : gG := (l, D, (fun k => if k = 20 then cI else if k = 21 then cI else if k = 22 then cE else if k = 23 then cC else cJ), s.heap.size, adK, adV, tL, (b, L, xs))
  refine ⟨G, rfl, rfl, ⟨⟨fun w hw => va_Nw.of (XW_ot hw).1 (hts w (XW_tbl hw)), va_Nw.of rfl (hts _ tb_mn), ?_, va_AO.of (hts _ tb_oC), va_AO.of (hts _ tb_oE), ?_, hX, Nat.not_le.mpr hbl⟩, ⟨hD, ?_⟩, hl, ?_, fun i hi => (hstr i hi).2, va_Zof (hts _ tb_lL) (hts _ tb_iL) hL1 hA, hL2, va_Zof (hts _ tb_lC) (hts _ tb_iC) (va_eqt (hs _ (fl_m fl_cs))) hA, va_Zqof (hts _ tb_lS) (hts _ tb_iS) (hs _ (fl_m fl_si)) hA, vx_Zqof (hts _ tb_lU) (hts _ tb_iT) (hs _ (fl_m fl_un)) hA, vx_Zqof (hts _ tb_lN) (hts _ tb_iT) (hs _ (fl_m fl_su)) hA⟩, rfl, rfl⟩
  · intro ty a ht
    have hw : (Cond.arrayClass ty).before args s = true := by rcases ht with rfl | rfl <;> exact hts _ (by first | exact tb_aI | exact tb_aJ)
    exact word_at (State.WarmedH.refl s) (Or.inr ⟨ty, rfl⟩) hw
  · intro q hq
    simp only [nc3, List.mem_cons, List.not_mem_nil, or_false] at hq
    rcases hq with rfl | rfl | rfl
    · exact va_Nc.of (hs _ (fl_m fl_n0))
    · exact va_Nc.of (hs _ (fl_m fl_n1))
    · exact va_Nc.of (hs _ (fl_m fl_n2))
  · intro k q hq
    match k, hq with
    | 0, hq => cases hq; exact ⟨cI1, cI2⟩
    | 1, hq => cases hq; exact ⟨cI1, cI2⟩
    | 2, hq => cases hq; exact ⟨cE1, cE2⟩
    | 3, hq => cases hq; exact ⟨cC1, cC2⟩
    | 4, hq => cases hq; exact ⟨cJ1, cJ2⟩
    | k + 5, hq => exact absurd hq (fun z => nomatch z)
  · intro i q hi
    obtain ⟨h1, rfl⟩ := strN_at hi
    exact vk_R.of (A := args) (hts _ (List.mem_of_getElem? (fl_sr i h1))) (hstr i h1).1

/-! ===== methods: their functions and rows ===== -/
theorem dX5_cellInOtherRow_0 : decode cX5_cellInOtherRow 0 = .ok (.aload_n 0, 1) := by decide +kernel
theorem dX5_cellInOtherRow_1 : decode cX5_cellInOtherRow 1 = .ok (.getfield 48, 3) := by decide +kernel
theorem dX5_cellInOtherRow_4 : decode cX5_cellInOtherRow 4 = .ok (.getfield 119, 3) := by decide +kernel
theorem dX5_cellInOtherRow_7 : decode cX5_cellInOtherRow 7 = .ok (.astore_n 2, 1) := by decide +kernel
theorem dX5_cellInOtherRow_8 : decode cX5_cellInOtherRow 8 = .ok (.aload_n 2, 1) := by decide +kernel
theorem dX5_cellInOtherRow_9 : decode cX5_cellInOtherRow 9 = .ok (.ifnull 19, 3) := by decide +kernel
theorem dX5_cellInOtherRow_12 : decode cX5_cellInOtherRow 12 = .ok (.aload_n 2, 1) := by decide +kernel
theorem dX5_cellInOtherRow_13 : decode cX5_cellInOtherRow 13 = .ok (.getfield 172, 3) := by decide +kernel
theorem dX5_cellInOtherRow_16 : decode cX5_cellInOtherRow 16 = .ok (.bipush 6, 2) := by decide +kernel
theorem dX5_cellInOtherRow_18 : decode cX5_cellInOtherRow 18 = .ok (.if_icmp .ne 10, 3) := by decide +kernel
theorem dX5_cellInOtherRow_21 : decode cX5_cellInOtherRow 21 = .ok (.aload_n 2, 1) := by decide +kernel
theorem dX5_cellInOtherRow_22 : decode cX5_cellInOtherRow 22 = .ok (.getfield 119, 3) := by decide +kernel
theorem dX5_cellInOtherRow_25 : decode cX5_cellInOtherRow 25 = .ok (.ifnonnull 5, 3) := by decide +kernel
theorem dX5_cellInOtherRow_28 : decode cX5_cellInOtherRow 28 = .ok (.aconst_null, 1) := by decide +kernel
theorem dX5_cellInOtherRow_29 : decode cX5_cellInOtherRow 29 = .ok (.areturn, 1) := by decide +kernel
theorem dX5_cellInOtherRow_30 : decode cX5_cellInOtherRow 30 = .ok (.aload_n 2, 1) := by decide +kernel
theorem dX5_cellInOtherRow_31 : decode cX5_cellInOtherRow 31 = .ok (.getfield 119, 3) := by decide +kernel
theorem dX5_cellInOtherRow_34 : decode cX5_cellInOtherRow 34 = .ok (.astore_n 3, 1) := by decide +kernel
theorem dX5_cellInOtherRow_35 : decode cX5_cellInOtherRow 35 = .ok (.aload_n 2, 1) := by decide +kernel
theorem dX5_cellInOtherRow_36 : decode cX5_cellInOtherRow 36 = .ok (.aload_n 0, 1) := by decide +kernel
theorem dX5_cellInOtherRow_37 : decode cX5_cellInOtherRow 37 = .ok (.getfield 48, 3) := by decide +kernel
theorem dX5_cellInOtherRow_40 : decode cX5_cellInOtherRow 40 = .ok (.invokevirtual 187, 3) := by decide +kernel
theorem dX5_cellInOtherRow_43 : decode cX5_cellInOtherRow 43 = .ok (.istore 4, 2) := by decide +kernel
theorem dX5_cellInOtherRow_45 : decode cX5_cellInOtherRow 45 = .ok (.aload_n 3, 1) := by decide +kernel
theorem dX5_cellInOtherRow_46 : decode cX5_cellInOtherRow 46 = .ok (.aload_n 2, 1) := by decide +kernel
theorem dX5_cellInOtherRow_47 : decode cX5_cellInOtherRow 47 = .ok (.invokevirtual 187, 3) := by decide +kernel
theorem dX5_cellInOtherRow_50 : decode cX5_cellInOtherRow 50 = .ok (.istore 5, 2) := by decide +kernel
theorem dX5_cellInOtherRow_52 : decode cX5_cellInOtherRow 52 = .ok (.iconst 1, 1) := by decide +kernel
theorem dX5_cellInOtherRow_53 : decode cX5_cellInOtherRow 53 = .ok (.istore 6, 2) := by decide +kernel
theorem dX5_cellInOtherRow_55 : decode cX5_cellInOtherRow 55 = .ok (.iload 6, 2) := by decide +kernel
theorem dX5_cellInOtherRow_57 : decode cX5_cellInOtherRow 57 = .ok (.bipush 10, 2) := by decide +kernel
theorem dX5_cellInOtherRow_59 : decode cX5_cellInOtherRow 59 = .ok (.if_icmp .ge 48, 3) := by decide +kernel
theorem dX5_cellInOtherRow_62 : decode cX5_cellInOtherRow 62 = .ok (.aload_n 3, 1) := by decide +kernel
theorem dX5_cellInOtherRow_63 : decode cX5_cellInOtherRow 63 = .ok (.iload 5, 2) := by decide +kernel
theorem dX5_cellInOtherRow_65 : decode cX5_cellInOtherRow 65 = .ok (.iload 6, 2) := by decide +kernel
theorem dX5_cellInOtherRow_67 : decode cX5_cellInOtherRow 67 = .ok (.iload_n 1, 1) := by decide +kernel
theorem dX5_cellInOtherRow_68 : decode cX5_cellInOtherRow 68 = .ok (.imul, 1) := by decide +kernel
theorem dX5_cellInOtherRow_69 : decode cX5_cellInOtherRow 69 = .ok (.iadd, 1) := by decide +kernel
theorem dX5_cellInOtherRow_70 : decode cX5_cellInOtherRow 70 = .ok (.invokevirtual 193, 3) := by decide +kernel
theorem dX5_cellInOtherRow_73 : decode cX5_cellInOtherRow 73 = .ok (.astore 7, 2) := by decide +kernel
theorem dX5_cellInOtherRow_75 : decode cX5_cellInOtherRow 75 = .ok (.aload 7, 2) := by decide +kernel
theorem dX5_cellInOtherRow_77 : decode cX5_cellInOtherRow 77 = .ok (.ifnonnull 7, 3) := by decide +kernel
theorem dX5_cellInOtherRow_80 : decode cX5_cellInOtherRow 80 = .ok (.aconst_null, 1) := by decide +kernel
theorem dX5_cellInOtherRow_81 : decode cX5_cellInOtherRow 81 = .ok (.goto 10, 3) := by decide +kernel
theorem dX5_cellInOtherRow_84 : decode cX5_cellInOtherRow 84 = .ok (.aload 7, 2) := by decide +kernel
theorem dX5_cellInOtherRow_86 : decode cX5_cellInOtherRow 86 = .ok (.iload 4, 2) := by decide +kernel
theorem dX5_cellInOtherRow_88 : decode cX5_cellInOtherRow 88 = .ok (.invokevirtual 193, 3) := by decide +kernel
theorem dX5_cellInOtherRow_91 : decode cX5_cellInOtherRow 91 = .ok (.astore 8, 2) := by decide +kernel
theorem dX5_cellInOtherRow_93 : decode cX5_cellInOtherRow 93 = .ok (.aload 8, 2) := by decide +kernel
theorem dX5_cellInOtherRow_95 : decode cX5_cellInOtherRow 95 = .ok (.ifnull 6, 3) := by decide +kernel
theorem dX5_cellInOtherRow_98 : decode cX5_cellInOtherRow 98 = .ok (.aload 8, 2) := by decide +kernel
theorem dX5_cellInOtherRow_100 : decode cX5_cellInOtherRow 100 = .ok (.areturn, 1) := by decide +kernel
theorem dX5_cellInOtherRow_101 : decode cX5_cellInOtherRow 101 = .ok (.iinc 6 1, 3) := by decide +kernel
theorem dX5_cellInOtherRow_104 : decode cX5_cellInOtherRow 104 = .ok (.goto (-49), 3) := by decide +kernel
theorem dX5_cellInOtherRow_107 : decode cX5_cellInOtherRow 107 = .ok (.aconst_null, 1) := by decide +kernel
theorem dX5_cellInOtherRow_108 : decode cX5_cellInOtherRow 108 = .ok (.areturn, 1) := by decide +kernel
theorem dX5_isInRow_0 : decode cX5_isInRow 0 = .ok (.aload_n 0, 1) := by decide +kernel
theorem dX5_isInRow_1 : decode cX5_isInRow 1 = .ok (.getfield 48, 3) := by decide +kernel
theorem dX5_isInRow_4 : decode cX5_isInRow 4 = .ok (.getfield 119, 3) := by decide +kernel
theorem dX5_isInRow_7 : decode cX5_isInRow 7 = .ok (.ifnull 22, 3) := by decide +kernel
theorem dX5_isInRow_10 : decode cX5_isInRow 10 = .ok (.aload_n 0, 1) := by decide +kernel
theorem dX5_isInRow_11 : decode cX5_isInRow 11 = .ok (.getfield 48, 3) := by decide +kernel
theorem dX5_isInRow_14 : decode cX5_isInRow 14 = .ok (.getfield 119, 3) := by decide +kernel
theorem dX5_isInRow_17 : decode cX5_isInRow 17 = .ok (.getfield 172, 3) := by decide +kernel
theorem dX5_isInRow_20 : decode cX5_isInRow 20 = .ok (.bipush 6, 2) := by decide +kernel
theorem dX5_isInRow_22 : decode cX5_isInRow 22 = .ok (.if_icmp .ne 7, 3) := by decide +kernel
theorem dX5_isInRow_25 : decode cX5_isInRow 25 = .ok (.iconst 1, 1) := by decide +kernel
theorem dX5_isInRow_26 : decode cX5_isInRow 26 = .ok (.goto 4, 3) := by decide +kernel
theorem dX5_isInRow_29 : decode cX5_isInRow 29 = .ok (.iconst 0, 1) := by decide +kernel
theorem dX5_isInRow_30 : decode cX5_isInRow 30 = .ok (.ireturn, 1) := by decide +kernel
theorem dX5_takeFocus_0 : decode cX5_takeFocus 0 = .ok (.aload_n 0, 1) := by decide +kernel
theorem dX5_takeFocus_1 : decode cX5_takeFocus 1 = .ok (.getfield 48, 3) := by decide +kernel
theorem dX5_takeFocus_4 : decode cX5_takeFocus 4 = .ok (.invokevirtual 196, 3) := by decide +kernel
theorem dX5_takeFocus_7 : decode cX5_takeFocus 7 = .ok (.ifCond .eq 11, 3) := by decide +kernel
theorem dX5_takeFocus_10 : decode cX5_takeFocus 10 = .ok (.aload_n 0, 1) := by decide +kernel
theorem dX5_takeFocus_11 : decode cX5_takeFocus 11 = .ok (.aload_n 0, 1) := by decide +kernel
theorem dX5_takeFocus_12 : decode cX5_takeFocus 12 = .ok (.getfield 48, 3) := by decide +kernel
theorem dX5_takeFocus_15 : decode cX5_takeFocus 15 = .ok (.putfield 72, 3) := by decide +kernel
theorem dX5_takeFocus_18 : decode cX5_takeFocus 18 = .ok (.return_, 1) := by decide +kernel
theorem dX5_act_0 : decode cX5_act 0 = .ok (.aload_n 0, 1) := by decide +kernel
theorem dX5_act_1 : decode cX5_act 1 = .ok (.invokevirtual 139, 3) := by decide +kernel
theorem dX5_act_4 : decode cX5_act 4 = .ok (.aload_n 0, 1) := by decide +kernel
theorem dX5_act_5 : decode cX5_act 5 = .ok (.getfield 48, 3) := by decide +kernel
theorem dX5_act_8 : decode cX5_act 8 = .ok (.getfield 172, 3) := by decide +kernel
theorem dX5_act_11 : decode cX5_act 11 = .ok (.tableswitch 109 2 4 #[25, 47, 93], 25) := by decide +kernel
theorem dX5_act_36 : decode cX5_act 36 = .ok (.aload_n 0, 1) := by decide +kernel
theorem dX5_act_37 : decode cX5_act 37 = .ok (.getfield 48, 3) := by decide +kernel
theorem dX5_act_40 : decode cX5_act 40 = .ok (.dup, 1) := by decide +kernel
theorem dX5_act_41 : decode cX5_act 41 = .ok (.getfield 213, 3) := by decide +kernel
theorem dX5_act_44 : decode cX5_act 44 = .ok (.iconst 1, 1) := by decide +kernel
theorem dX5_act_45 : decode cX5_act 45 = .ok (.iadd, 1) := by decide +kernel
theorem dX5_act_46 : decode cX5_act 46 = .ok (.putfield 213, 3) := by decide +kernel
theorem dX5_act_49 : decode cX5_act 49 = .ok (.aload_n 0, 1) := by decide +kernel
theorem dX5_act_50 : decode cX5_act 50 = .ok (.ldc 216, 2) := by decide +kernel
theorem dX5_act_52 : decode cX5_act 52 = .ok (.invokevirtual 161, 3) := by decide +kernel
theorem dX5_act_55 : decode cX5_act 55 = .ok (.goto 71, 3) := by decide +kernel
theorem dX5_act_58 : decode cX5_act 58 = .ok (.aload_n 0, 1) := by decide +kernel
theorem dX5_act_59 : decode cX5_act 59 = .ok (.getfield 48, 3) := by decide +kernel
theorem dX5_act_62 : decode cX5_act 62 = .ok (.aload_n 0, 1) := by decide +kernel
theorem dX5_act_63 : decode cX5_act 63 = .ok (.getfield 48, 3) := by decide +kernel
theorem dX5_act_66 : decode cX5_act 66 = .ok (.getfield 217, 3) := by decide +kernel
theorem dX5_act_69 : decode cX5_act 69 = .ok (.ifCond .ne 7, 3) := by decide +kernel
theorem dX5_act_72 : decode cX5_act 72 = .ok (.iconst 1, 1) := by decide +kernel
theorem dX5_act_73 : decode cX5_act 73 = .ok (.goto 4, 3) := by decide +kernel
theorem dX5_act_76 : decode cX5_act 76 = .ok (.iconst 0, 1) := by decide +kernel
theorem dX5_act_77 : decode cX5_act 77 = .ok (.putfield 217, 3) := by decide +kernel
theorem dX5_act_80 : decode cX5_act 80 = .ok (.aload_n 0, 1) := by decide +kernel
theorem dX5_act_81 : decode cX5_act 81 = .ok (.aload_n 0, 1) := by decide +kernel
theorem dX5_act_82 : decode cX5_act 82 = .ok (.getfield 48, 3) := by decide +kernel
theorem dX5_act_85 : decode cX5_act 85 = .ok (.getfield 217, 3) := by decide +kernel
theorem dX5_act_88 : decode cX5_act 88 = .ok (.ifCond .eq 8, 3) := by decide +kernel
theorem dX5_act_91 : decode cX5_act 91 = .ok (.ldc 220, 2) := by decide +kernel
theorem dX5_act_93 : decode cX5_act 93 = .ok (.goto 5, 3) := by decide +kernel
theorem dX5_act_96 : decode cX5_act 96 = .ok (.ldc 222, 2) := by decide +kernel
theorem dX5_act_98 : decode cX5_act 98 = .ok (.invokevirtual 161, 3) := by decide +kernel
theorem dX5_act_101 : decode cX5_act 101 = .ok (.goto 25, 3) := by decide +kernel
theorem dX5_act_104 : decode cX5_act 104 = .ok (.aload_n 0, 1) := by decide +kernel
theorem dX5_act_105 : decode cX5_act 105 = .ok (.getfield 29, 3) := by decide +kernel
theorem dX5_act_108 : decode cX5_act 108 = .ok (.invokevirtual 224, 3) := by decide +kernel
theorem dX5_act_111 : decode cX5_act 111 = .ok (.aload_n 0, 1) := by decide +kernel
theorem dX5_act_112 : decode cX5_act 112 = .ok (.ldc 227, 2) := by decide +kernel
theorem dX5_act_114 : decode cX5_act 114 = .ok (.invokevirtual 161, 3) := by decide +kernel
theorem dX5_act_117 : decode cX5_act 117 = .ok (.goto 9, 3) := by decide +kernel
theorem dX5_act_120 : decode cX5_act 120 = .ok (.aload_n 0, 1) := by decide +kernel
theorem dX5_act_121 : decode cX5_act 121 = .ok (.ldc 122, 2) := by decide +kernel
theorem dX5_act_123 : decode cX5_act 123 = .ok (.invokevirtual 161, 3) := by decide +kernel
theorem dX5_act_126 : decode cX5_act 126 = .ok (.return_, 1) := by decide +kernel
abbrev mX5_cellInOtherRow : gM := (yX5_cellInOtherRow, cX5_cellInOtherRow, 9, (Option.some (FieldType.object "BrailleDesk$Element")), [])
theorem caX5_cellInOtherRow : cal mX5_cellInOtherRow 1 := ⟨xw 1172 (by decide +kernel) rfl, xw 94 (by decide +kernel) rfl, by decide, by decide +kernel⟩
theorem cvX5_cellInOtherRow : calV mX5_cellInOtherRow := ⟨xw 1171 (by decide +kernel) rfl, xw 15 (by decide +kernel) rfl⟩
abbrev mX5_isInRow : gM := (yX5_isInRow, cX5_isInRow, 1, (Option.some FieldType.boolean), [])
theorem caX5_isInRow : cal mX5_isInRow 0 := ⟨xw 1176 (by decide +kernel) rfl, xw 94 (by decide +kernel) rfl, by decide, by decide +kernel⟩
theorem cvX5_isInRow : calV mX5_isInRow := ⟨xw 1175 (by decide +kernel) rfl, xw 16 (by decide +kernel) rfl⟩
abbrev mX5_takeFocus : gM := (yX5_takeFocus, cX5_takeFocus, 1, (Option.none : Option FieldType), [])
theorem caX5_takeFocus : cal mX5_takeFocus 0 := ⟨xw 1189 (by decide +kernel) rfl, xw 94 (by decide +kernel) rfl, by decide, by decide +kernel⟩
theorem cvX5_takeFocus : calV mX5_takeFocus := ⟨xw 1188 (by decide +kernel) rfl, xw 17 (by decide +kernel) rfl⟩
abbrev mX5_act : gM := (yX5_act, cX5_act, 1, (Option.none : Option FieldType), [])
theorem caX5_act : cal mX5_act 0 := ⟨xw 1194 (by decide +kernel) rfl, xw 94 (by decide +kernel) rfl, by decide, by decide +kernel⟩
theorem cvX5_act : calV mX5_act := ⟨xw 1193 (by decide +kernel) rfl, xw 18 (by decide +kernel) rfl⟩
theorem lkX5_196 : Cond.methodLink RX5 196 yX2_canHaveFocus ∈ XW := xw 1190 (by decide +kernel) rfl
theorem lkX5_139 : Cond.methodLink RX5 139 yX5_takeFocus ∈ XW := xw 1186 (by decide +kernel) rfl
theorem flX5_213 : fl RX5 213 1 9 := ⟨by decide, by decide, xw 177 (by decide +kernel) rfl⟩
theorem flX5_217 : fl RX5 217 1 8 := ⟨by decide, by decide, xw 176 (by decide +kernel) rfl⟩
theorem lkX5_224 : Cond.methodLink RX5 224 yX8_begin ∈ XW := xw 1198 (by decide +kernel) rfl
/-! BrailleDesk$Reader.cellInOtherRow -/
def fX5_cellInOtherRow_B55 (c1 : Int32) (c3 : Option Nat) (c4 : Int32) (c5 : Int32) (h : hp) (a : Int32) : Option (Int32 ⊕ (Option Nat ⊕ Unit)) :=
  if (10 : Int32) ≤ a then
  (some (.inr (.inr ())))
  else
  (oOb 1 c3 h).bind fun b =>
  (fX2_shownChild b (c5 + (a * c1)) h).bind fun x1 =>
  Option.bind (α := Option Nat)
  (if x1 = none then
  (some none)
  else
  (oOb 1 x1 h).bind fun b =>
  (fX2_shownChild b c4 h).bind fun x4 =>
  some x4)
  fun q2 =>
  if q2 = none then
  (some (.inl (a + (1 : Int32))))
  else
  some (.inr (.inl (q2)))
theorem lX5_cellInOtherRow_55 {G : gG} {Q : hQ} {P : (Option Nat ⊕ Unit) → Prop} {k n : Nat} (c1 : Int32) (c3 : Option Nat) (c4 : Int32) (c5 : Int32) (h : hp) (hJ : ∀ q : Unit, P (.inr q) → gV G mX5_cellInOtherRow 2 Q 107 [none, none, none, none, none, none, none, none, none] [] (k) (n) h) (hR : ∀ r : Option Nat, P (.inl (r)) → (pP gR Q h) r) : ∀ (fu : Nat) (a : Int32), okB (itr (fX5_cellInOtherRow_B55 c1 c3 c4 c5 h) fu a) P → gV G mX5_cellInOtherRow 2 Q 55 [none, some (si c1), none, some (sr c3), some (si c4), some (si c5), some (si a), none, none] [] (k) (n) h :=
  lpg (X := fun (a : Int32) => gV G mX5_cellInOtherRow 2 Q 55 [none, some (si c1), none, some (sr c3), some (si c4), some (si c5), some (si a), none, none] [] (k) (n) h) (fun a P2 hL hE hF => by
    delta fX5_cellInOtherRow_B55 at hF
    refine v_iload (pc := 55) (i := 6) dX5_cellInOtherRow_55 rfl ?_
    refine v_bipush (pc := 57) (v := (10 : Int32)) dX5_cellInOtherRow_57 rfl ?_
    refine v_icmp_ge (pc := 59) 107 dX5_cellInOtherRow_59 rfl (fun hc => ?_) (fun hc => ?_)
    · replace hF := (okB_if hF).1 hc
      exact v_lle [none, none, none, none, none, none, none, none, none] trivial (hJ _ (hE _ (okB_some hF)))
    replace hF := (okB_if hF).2 hc
    refine v_aload_n (pc := 62) (i := 3) dX5_cellInOtherRow_62 rfl rfl ?_
    refine v_iload (pc := 63) (i := 5) dX5_cellInOtherRow_63 rfl ?_
    refine v_iload (pc := 65) (i := 6) dX5_cellInOtherRow_65 rfl ?_
    refine v_iload_n (pc := 67) (i := 1) dX5_cellInOtherRow_67 rfl rfl ?_
    refine v_imul (pc := 68) dX5_cellInOtherRow_68 ?_
    refine v_iadd (pc := 69) dX5_cellInOtherRow_69 ?_
    refine cp_V (pc := 70) gR (as := [si (c5 + (a * c1))]) (st := []) (ci := 1) (k := k) (n := n) dX5_cellInOtherRow_70 lkX5_193 caX2_shownChild cvX2_shownChild rfl (by decide) rfl (fun b Q1 hq => tX2_shownChild b (c5 + (a * c1)) h Q1 hq) ⟨by decide, by decide⟩ (Nat.le_of_ble_eq_true rfl) rfl hF (fun x1 hF => ?_)
    show gV G mX5_cellInOtherRow 2 Q 73 [none, some (si c1), none, some (sr c3), some (si c4), some (si c5), some (si a), none, none] [sr x1] (k) (n) h
    refine v_astore (pc := 73) (i := 7) [none, some (si c1), none, some (sr c3), some (si c4), some (si c5), some (si a), some (sr x1), none] dX5_cellInOtherRow_73 (by decide) rfl rfl ?_
    refine v_aload (pc := 75) (i := 7) dX5_cellInOtherRow_75 rfl ?_
    refine mg (X := fun q2 => gV G mX5_cellInOtherRow 2 Q 91 [none, some (si c1), none, some (sr c3), some (si c4), some (si c5), some (si a), none, none] [sr q2] (k) (n) h) hF (fun _ hj3 hF => ?_) (fun q2 hF => ?_)
    · refine s_ifnonnull (pc := 77) 84 dX5_cellInOtherRow_77 rfl hF (fun hF => ?_) (fun hF => ?_)
      · refine v_aload (pc := 84) (i := 7) dX5_cellInOtherRow_84 rfl ?_
        refine v_iload (pc := 86) (i := 4) dX5_cellInOtherRow_86 rfl ?_
        refine cp_V (pc := 88) gR (as := [si c4]) (st := []) (ci := 1) (k := k) (n := n) dX5_cellInOtherRow_88 lkX5_193 caX2_shownChild cvX2_shownChild rfl (by decide) rfl (fun b Q1 hq => tX2_shownChild b c4 h Q1 hq) ⟨by decide, by decide⟩ (Nat.le_of_ble_eq_true rfl) rfl hF (fun x4 hF => ?_)
        show gV G mX5_cellInOtherRow 2 Q 91 [none, some (si c1), none, some (sr c3), some (si c4), some (si c5), some (si a), some (sr x1), none] [sr x4] (k) (n) h
        exact v_lle [none, some (si c1), none, some (sr c3), some (si c4), some (si c5), some (si a), none, none] ⟨rfl, rfl, rfl, rfl, rfl, trivial⟩ (hj3 _ (okB_some hF))
      refine v_null (pc := 80) dX5_cellInOtherRow_80 ?_
      refine v_goto (pc := 81) 91 dX5_cellInOtherRow_81 rfl ?_
      exact v_lle [none, some (si c1), none, some (sr c3), some (si c4), some (si c5), some (si a), none, none] ⟨rfl, rfl, rfl, rfl, rfl, trivial⟩ (hj3 _ (okB_some hF))
    refine v_astore (pc := 91) (i := 8) [none, some (si c1), none, some (sr c3), some (si c4), some (si c5), some (si a), none, some (sr q2)] dX5_cellInOtherRow_91 (by decide) rfl rfl ?_
    refine v_aload (pc := 93) (i := 8) dX5_cellInOtherRow_93 rfl ?_
    refine s_ifnull (pc := 95) 101 dX5_cellInOtherRow_95 rfl hF (fun hF => ?_) (fun hF => ?_)
    · refine v_iinc (pc := 101) (i := 6) (a + (1 : Int32)) [none, some (si c1), none, some (sr c3), some (si c4), some (si c5), some (si (a + (1 : Int32))), none, some (sr q2)] dX5_cellInOtherRow_101 rfl rfl rfl rfl ?_
      refine v_goto (pc := 104) 55 dX5_cellInOtherRow_104 rfl ?_
      exact v_lle [none, some (si c1), none, some (sr c3), some (si c4), some (si c5), some (si (a + (1 : Int32))), none, none] ⟨rfl, rfl, rfl, rfl, rfl, trivial⟩ (hL _ (okB_some hF))
    refine v_aload (pc := 98) (i := 8) dX5_cellInOtherRow_98 rfl ?_
    exact v_aret (pc := 100) dX5_cellInOtherRow_100 rfl (Or.inl ⟨_, rfl⟩) (hR _ (hE _ (okB_some hF))))
def fX5_cellInOtherRow (a0 : Nat) (a1 : Int32) (h : hp) : Option Option Nat :=
  (oGR 4 5 (some a0) h).bind fun x1 =>
  (oGR 1 2 x1 h).bind fun x2 =>
  if x2 = none then
  (some (none))
  else
  (oGI 1 1 x2 h).bind fun x3 =>
  if x3 = (6 : Int32) then
  ((oGR 1 2 x2 h).bind fun x4 =>
  if x4 = none then
  (some (none))
  else
  (oGR 1 2 x2 h).bind fun x5 =>
  (oGR 4 5 (some a0) h).bind fun x6 =>
  (oOb 1 x2 h).bind fun b =>
  (fX2_placeOf b x6 h).bind fun x7 =>
  (oOb 1 x5 h).bind fun b =>
  (fX2_placeOf b x2 h).bind fun x8 =>
  oR (τ := Option Nat) (σ := Unit)
  (itr (fX5_cellInOtherRow_B55 a1 x5 x7 x8 h) FU (1 : Int32))
  fun q9 =>
  some (none))
  else
  some (none)
theorem tX5_cellInOtherRow {G : gG} (a0 : Nat) (a1 : Int32) (h : hp) (Q : hQ) (hF : okB (fX5_cellInOtherRow a0 a1 h) (pP gR Q h)) : gS G mX5_cellInOtherRow 2 0 0 [sr (some a0), si a1] h Q := by
  delta fX5_cellInOtherRow at hF
  refine gS_at [some (sr (some a0)), some (si a1), none, none, none, none, none, none, none] pl_X5 rfl (Nat.le_of_ble_eq_true rfl) rfl ?_
  refine v_aload_n (pc := 0) (i := 0) dX5_cellInOtherRow_0 rfl rfl ?_
  refine s_getR (pc := 1) dX5_cellInOtherRow_1 flX5_48 rfl hF (fun x1 hF => ?_)
  refine s_getR (pc := 4) dX5_cellInOtherRow_4 flX5_119 rfl hF (fun x2 hF => ?_)
  refine v_astore_n (pc := 7) (i := 2) [some (sr (some a0)), some (si a1), some (sr x2), none, none, none, none, none, none] dX5_cellInOtherRow_7 rfl (by decide) rfl rfl ?_
  refine v_aload_n (pc := 8) (i := 2) dX5_cellInOtherRow_8 rfl rfl ?_
  refine s_ifnull (pc := 9) 28 dX5_cellInOtherRow_9 rfl hF (fun hF => ?_) (fun hF => ?_)
  · refine v_null (pc := 28) dX5_cellInOtherRow_28 ?_
    exact v_aret (pc := 29) dX5_cellInOtherRow_29 rfl (Or.inl ⟨_, rfl⟩) (okr hF fun q => q)
  refine v_aload_n (pc := 12) (i := 2) dX5_cellInOtherRow_12 rfl rfl ?_
  refine s_getI (pc := 13) dX5_cellInOtherRow_13 flX5_172 rfl hF (fun x3 hF => ?_)
  refine v_bipush (pc := 16) (v := (6 : Int32)) dX5_cellInOtherRow_16 rfl ?_
  refine v_icmp_ne (pc := 18) 28 dX5_cellInOtherRow_18 rfl (fun hc => ?_) (fun hc => ?_)
  · replace hF := (okB_if hF).2 hc
    refine v_null (pc := 28) dX5_cellInOtherRow_28 ?_
    exact v_aret (pc := 29) dX5_cellInOtherRow_29 rfl (Or.inl ⟨_, rfl⟩) (okr hF fun q => q)
  replace hF := (okB_if hF).1 hc
  refine v_aload_n (pc := 21) (i := 2) dX5_cellInOtherRow_21 rfl rfl ?_
  refine s_getR (pc := 22) dX5_cellInOtherRow_22 flX5_119 rfl hF (fun x4 hF => ?_)
  refine s_ifnonnull (pc := 25) 30 dX5_cellInOtherRow_25 rfl hF (fun hF => ?_) (fun hF => ?_)
  · refine v_aload_n (pc := 30) (i := 2) dX5_cellInOtherRow_30 rfl rfl ?_
    refine s_getR (pc := 31) dX5_cellInOtherRow_31 flX5_119 rfl hF (fun x5 hF => ?_)
    refine v_astore_n (pc := 34) (i := 3) [some (sr (some a0)), some (si a1), some (sr x2), some (sr x5), none, none, none, none, none] dX5_cellInOtherRow_34 rfl (by decide) rfl rfl ?_
    refine v_aload_n (pc := 35) (i := 2) dX5_cellInOtherRow_35 rfl rfl ?_
    refine v_aload_n (pc := 36) (i := 0) dX5_cellInOtherRow_36 rfl rfl ?_
    refine s_getR (pc := 37) dX5_cellInOtherRow_37 flX5_48 rfl hF (fun x6 hF => ?_)
    refine cp_V (pc := 40) gI (as := [sr x6]) (st := []) (ci := 1) (k := 0) (n := 0) dX5_cellInOtherRow_40 lkX5_187 caX2_placeOf cvX2_placeOf rfl (by decide) rfl (fun b Q1 hq => tX2_placeOf b x6 h Q1 hq) ⟨by decide, by decide⟩ (Nat.le_of_ble_eq_true rfl) rfl hF (fun x7 hF => ?_)
    show gV G mX5_cellInOtherRow 2 Q 43 [some (sr (some a0)), some (si a1), some (sr x2), some (sr x5), none, none, none, none, none] [si x7] (0) (0) h
    refine v_istore (pc := 43) (i := 4) [some (sr (some a0)), some (si a1), some (sr x2), some (sr x5), some (si x7), none, none, none, none] dX5_cellInOtherRow_43 (by decide) rfl rfl ?_
    refine v_aload_n (pc := 45) (i := 3) dX5_cellInOtherRow_45 rfl rfl ?_
    refine v_aload_n (pc := 46) (i := 2) dX5_cellInOtherRow_46 rfl rfl ?_
    refine cp_V (pc := 47) gI (as := [sr x2]) (st := []) (ci := 1) (k := 0) (n := 0) dX5_cellInOtherRow_47 lkX5_187 caX2_placeOf cvX2_placeOf rfl (by decide) rfl (fun b Q1 hq => tX2_placeOf b x2 h Q1 hq) ⟨by decide, by decide⟩ (Nat.le_of_ble_eq_true rfl) rfl hF (fun x8 hF => ?_)
    show gV G mX5_cellInOtherRow 2 Q 50 [some (sr (some a0)), some (si a1), some (sr x2), some (sr x5), some (si x7), none, none, none, none] [si x8] (0) (0) h
    refine v_istore (pc := 50) (i := 5) [some (sr (some a0)), some (si a1), some (sr x2), some (sr x5), some (si x7), some (si x8), none, none, none] dX5_cellInOtherRow_50 (by decide) rfl rfl ?_
    refine v_iconst (pc := 52) (v := (1 : Int32)) dX5_cellInOtherRow_52 rfl ?_
    refine v_istore (pc := 53) (i := 6) [some (sr (some a0)), some (si a1), some (sr x2), some (sr x5), some (si x7), some (si x8), some (si (1 : Int32)), none, none] dX5_cellInOtherRow_53 (by decide) rfl rfl ?_
    refine mgR (X := fun q9 => gV G mX5_cellInOtherRow 2 Q 107 [none, none, none, none, none, none, none, none, none] [] (0) (0) h) hF (fun _ hj10 hr10 hF => v_lle [none, some (si a1), none, some (sr x5), some (si x7), some (si x8), some (si (1 : Int32)), none, none] ⟨rfl, rfl, rfl, rfl, rfl, trivial⟩ (lX5_cellInOtherRow_55 a1 x5 x7 x8 h hj10 (fun _ hp => (hr10 _ hp)) _ _ hF)) (fun q9 hF => ?_)
    refine v_null (pc := 107) dX5_cellInOtherRow_107 ?_
    exact v_aret (pc := 108) dX5_cellInOtherRow_108 rfl (Or.inl ⟨_, rfl⟩) (okr hF fun q => q)
  refine v_null (pc := 28) dX5_cellInOtherRow_28 ?_
  exact v_aret (pc := 29) dX5_cellInOtherRow_29 rfl (Or.inl ⟨_, rfl⟩) (okr hF fun q => q)
/-! BrailleDesk$Reader.isInRow -/
def fX5_isInRow (a0 : Nat) (h : hp) : Option Int32 :=
  (oGR 4 5 (some a0) h).bind fun x1 =>
  (oGR 1 2 x1 h).bind fun x2 =>
  if x2 = none then
  (some ((0 : Int32)))
  else
  (oGR 4 5 (some a0) h).bind fun x3 =>
  (oGR 1 2 x3 h).bind fun x4 =>
  (oGI 1 1 x4 h).bind fun x5 =>
  if x5 = (6 : Int32) then
  (some ((1 : Int32)))
  else
  some ((0 : Int32))
theorem tX5_isInRow {G : gG} (a0 : Nat) (h : hp) (Q : hQ) (hF : okB (fX5_isInRow a0 h) (pP gI Q h)) : gS G mX5_isInRow 0 0 0 [sr (some a0)] h Q := by
  delta fX5_isInRow at hF
  refine gS_at [some (sr (some a0))] pl_X5 rfl (Nat.le_of_ble_eq_true rfl) rfl ?_
  refine v_aload_n (pc := 0) (i := 0) dX5_isInRow_0 rfl rfl ?_
  refine s_getR (pc := 1) dX5_isInRow_1 flX5_48 rfl hF (fun x1 hF => ?_)
  refine s_getR (pc := 4) dX5_isInRow_4 flX5_119 rfl hF (fun x2 hF => ?_)
  refine s_ifnull (pc := 7) 29 dX5_isInRow_7 rfl hF (fun hF => ?_) (fun hF => ?_)
  · refine v_iconst (pc := 29) (v := (0 : Int32)) dX5_isInRow_29 rfl ?_
    exact v_iret (pc := 30) dX5_isInRow_30 rfl rfl (okr hF fun q => q)
  refine v_aload_n (pc := 10) (i := 0) dX5_isInRow_10 rfl rfl ?_
  refine s_getR (pc := 11) dX5_isInRow_11 flX5_48 rfl hF (fun x3 hF => ?_)
  refine s_getR (pc := 14) dX5_isInRow_14 flX5_119 rfl hF (fun x4 hF => ?_)
  refine s_getI (pc := 17) dX5_isInRow_17 flX5_172 rfl hF (fun x5 hF => ?_)
  refine v_bipush (pc := 20) (v := (6 : Int32)) dX5_isInRow_20 rfl ?_
  refine v_icmp_ne (pc := 22) 29 dX5_isInRow_22 rfl (fun hc => ?_) (fun hc => ?_)
  · replace hF := (okB_if hF).2 hc
    refine v_iconst (pc := 29) (v := (0 : Int32)) dX5_isInRow_29 rfl ?_
    exact v_iret (pc := 30) dX5_isInRow_30 rfl rfl (okr hF fun q => q)
  replace hF := (okB_if hF).1 hc
  refine v_iconst (pc := 25) (v := (1 : Int32)) dX5_isInRow_25 rfl ?_
  refine v_goto (pc := 26) 30 dX5_isInRow_26 rfl ?_
  exact v_iret (pc := 30) dX5_isInRow_30 rfl rfl (okr hF fun q => q)
/-! BrailleDesk$Reader.takeFocus -/
def fX5_takeFocus (a0 : Nat) (h : hp) : Option (Unit × hp) :=
  (oGR 4 5 (some a0) h).bind fun x1 =>
  (oOb 1 x1 h).bind fun b =>
  (fX2_canHaveFocus b h).bind fun x2 =>
  if x2 = 0 then
  (some (((), h)))
  else
  (oGR 4 5 (some a0) h).bind fun x3 =>
  (oPR 4 6 (some a0) x3 h).bind fun h4 =>
  some (((), h4))
theorem tX5_takeFocus {G : gG} (a0 : Nat) (h : hp) (Q : hQ) (hF : okB (fX5_takeFocus a0 h) (pH gU Q)) : gS G mX5_takeFocus 1 0 0 [sr (some a0)] h Q := by
  delta fX5_takeFocus at hF
  refine gS_at [some (sr (some a0))] pl_X5 rfl (Nat.le_of_ble_eq_true rfl) rfl ?_
  refine v_aload_n (pc := 0) (i := 0) dX5_takeFocus_0 rfl rfl ?_
  refine s_getR (pc := 1) dX5_takeFocus_1 flX5_48 rfl hF (fun x1 hF => ?_)
  refine cp_V (pc := 4) gI (as := []) (st := []) (ci := 1) (k := 0) (n := 0) dX5_takeFocus_4 lkX5_196 caX2_canHaveFocus cvX2_canHaveFocus rfl (by decide) rfl (fun b Q1 hq => tX2_canHaveFocus b h Q1 hq) ⟨by decide, by decide⟩ (Nat.le_of_ble_eq_true rfl) rfl hF (fun x2 hF => ?_)
  show gV G mX5_takeFocus 1 Q 7 [some (sr (some a0))] [si x2] (0) (0) h
  refine v_if_eq (pc := 7) 18 dX5_takeFocus_7 rfl (fun hc => ?_) (fun hc => ?_)
  · replace hF := (okB_if hF).1 hc
    exact v_ret (pc := 18) dX5_takeFocus_18 rfl (okr hF fun q => q)
  replace hF := (okB_if hF).2 hc
  refine v_aload_n (pc := 10) (i := 0) dX5_takeFocus_10 rfl rfl ?_
  refine v_aload_n (pc := 11) (i := 0) dX5_takeFocus_11 rfl rfl ?_
  refine s_getR (pc := 12) dX5_takeFocus_12 flX5_48 rfl hF (fun x3 hF => ?_)
  refine s_putR (pc := 15) dX5_takeFocus_15 flX5_72 (Or.inl rfl) rfl hF (fun h4 hF => ?_)
  exact v_ret (pc := 18) dX5_takeFocus_18 rfl (okr hF fun q => q)
/-! BrailleDesk$Reader.act -/
def fX5_act (a0 : Nat) (h : hp) : Option (Unit × hp) :=
  (oOb 4 (some a0) h).bind fun b =>
  o2 (fX5_takeFocus b h) fun _ h2 =>
  (oGR 4 5 (some a0) h2).bind fun x3 =>
  (oGI 1 1 x3 h2).bind fun x4 =>
  if x4 = 2 then
  ((oGR 4 5 (some a0) h2).bind fun x5 =>
  (oGI 1 9 x5 h2).bind fun x6 =>
  (oPI 1 9 x5 (x6 + (1 : Int32)) h2).bind fun h7 =>
  (oOb 4 (some a0) h7).bind fun b =>
  o2 (fX5_say b 32 h7) fun _ h9 =>
  some (((), h9)))
  else
  if x4 = 3 then
  ((oGR 4 5 (some a0) h2).bind fun x10 =>
  (oGR 4 5 (some a0) h2).bind fun x11 =>
  (oGI 1 8 x11 h2).bind fun x12 =>
  Option.bind (α := Int32)
  (if x12 = 0 then
  (some (1 : Int32))
  else
  some (0 : Int32))
  fun q13 =>
  (oPZ 1 8 x10 q13 h2).bind fun h15 =>
  (oGR 4 5 (some a0) h15).bind fun x16 =>
  (oGI 1 8 x16 h15).bind fun x17 =>
  Option.bind (α := Nat)
  (if x17 = 0 then
  (some 34)
  else
  some 33)
  fun q18 =>
  (oOb 4 (some a0) h15).bind fun b =>
  o2 (fX5_say b q18 h15) fun _ h21 =>
  some (((), h21)))
  else
  if x4 = 4 then
  ((oGR 4 3 (some a0) h2).bind fun x22 =>
  (oOb 7 x22 h2).bind fun b =>
  o2 (fX8_begin b h2) fun _ h24 =>
  (oOb 4 (some a0) h24).bind fun b =>
  o2 (fX5_say b 35 h24) fun _ h26 =>
  some (((), h26)))
  else
  (oOb 4 (some a0) h2).bind fun b =>
  o2 (fX5_say b 31 h2) fun _ h28 =>
  some (((), h28))
theorem tX5_act {G : gG} (a0 : Nat) (h : hp) (Q : hQ) (hF : okB (fX5_act a0 h) (pH gU Q)) : gS G mX5_act 6 0 0 [sr (some a0)] h Q := by
  delta fX5_act at hF
  refine gS_at [some (sr (some a0))] pl_X5 rfl (Nat.le_of_ble_eq_true rfl) rfl ?_
  refine v_aload_n (pc := 0) (i := 0) dX5_act_0 rfl rfl ?_
  refine ch_V (pc := 1) gU (as := []) (st := []) (ci := 4) (k := 0) (n := 0) dX5_act_1 lkX5_139 caX5_takeFocus cvX5_takeFocus rfl (by decide) rfl (fun b Q1 hq => tX5_takeFocus b h Q1 hq) ⟨by decide, by decide⟩ (Nat.le_of_ble_eq_true rfl) rfl hF (fun x1 h2 hF => ?_)
  show gV G mX5_act 6 Q 4 [some (sr (some a0))] [] (0) (0) h2
  refine v_aload_n (pc := 4) (i := 0) dX5_act_4 rfl rfl ?_
  refine s_getR (pc := 5) dX5_act_5 flX5_48 rfl hF (fun x3 hF => ?_)
  refine s_getI (pc := 8) dX5_act_8 flX5_172 rfl hF (fun x4 hF => ?_)
  by_cases hc2 : x4 = (2 : Int32)
  · replace hF := (okB_if hF).1 hc2
    refine v_tableIn (pc := 11) 36 dX5_act_11 (by rw [hc2]; decide) (by rw [hc2]; decide) (by rw [hc2]; rfl) rfl ?_
    refine v_aload_n (pc := 36) (i := 0) dX5_act_36 rfl rfl ?_
    refine s_getR (pc := 37) dX5_act_37 flX5_48 rfl hF (fun x5 hF => ?_)
    refine v_dup (pc := 40) dX5_act_40 rfl ?_
    refine s_getI (pc := 41) dX5_act_41 flX5_213 rfl hF (fun x6 hF => ?_)
    refine v_iconst (pc := 44) (v := (1 : Int32)) dX5_act_44 rfl ?_
    refine v_iadd (pc := 45) dX5_act_45 ?_
    refine s_putI (pc := 46) dX5_act_46 flX5_213 (Or.inl rfl) rfl hF (fun h7 hF => ?_)
    refine v_aload_n (pc := 49) (i := 0) dX5_act_49 rfl rfl ?_
    refine v_ldcS (pc := 50) 32 dX5_act_50 rfl ?_
    refine ch_V (pc := 52) gU (as := [sr (some (ga G 32))]) (st := []) (ci := 4) (k := 0) (n := 0) dX5_act_52 lkX5_161 caX5_say cvX5_say rfl (by decide) rfl (fun b Q1 hq => tX5_say b 32 h7 Q1 hq) ⟨by decide, by decide⟩ (Nat.le_of_ble_eq_true rfl) rfl hF (fun x8 h9 hF => ?_)
    show gV G mX5_act 6 Q 55 [some (sr (some a0))] [] (0) (0) h9
    refine v_goto (pc := 55) 126 dX5_act_55 rfl ?_
    exact v_ret (pc := 126) dX5_act_126 rfl (okr hF fun q => q)
  replace hF := (okB_if hF).2 hc2
  by_cases hc3 : x4 = (3 : Int32)
  · replace hF := (okB_if hF).1 hc3
    refine v_tableIn (pc := 11) 58 dX5_act_11 (by rw [hc3]; decide) (by rw [hc3]; decide) (by rw [hc3]; rfl) rfl ?_
    refine v_aload_n (pc := 58) (i := 0) dX5_act_58 rfl rfl ?_
    refine s_getR (pc := 59) dX5_act_59 flX5_48 rfl hF (fun x10 hF => ?_)
    refine v_aload_n (pc := 62) (i := 0) dX5_act_62 rfl rfl ?_
    refine s_getR (pc := 63) dX5_act_63 flX5_48 rfl hF (fun x11 hF => ?_)
    refine s_getI (pc := 66) dX5_act_66 flX5_217 rfl hF (fun x12 hF => ?_)
    refine mg (X := fun q13 => gV G mX5_act 6 Q 77 [some (sr (some a0))] [si q13, sr x10] (0) (0) h2) hF (fun _ hj14 hF => ?_) (fun q13 hF => ?_)
    · refine v_if_ne (pc := 69) 76 dX5_act_69 rfl (fun hc => ?_) (fun hc => ?_)
      · replace hF := (okB_if hF).2 hc
        refine v_iconst (pc := 76) (v := (0 : Int32)) dX5_act_76 rfl ?_
        exact v_lle [some (sr (some a0))] ⟨rfl, trivial⟩ (hj14 _ (okB_some hF))
      replace hF := (okB_if hF).1 hc
      refine v_iconst (pc := 72) (v := (1 : Int32)) dX5_act_72 rfl ?_
      refine v_goto (pc := 73) 77 dX5_act_73 rfl ?_
      exact v_lle [some (sr (some a0))] ⟨rfl, trivial⟩ (hj14 _ (okB_some hF))
    refine s_putZ (pc := 77) dX5_act_77 flX5_217 (Or.inl rfl) rfl hF (fun h15 hF => ?_)
    refine v_aload_n (pc := 80) (i := 0) dX5_act_80 rfl rfl ?_
    refine v_aload_n (pc := 81) (i := 0) dX5_act_81 rfl rfl ?_
    refine s_getR (pc := 82) dX5_act_82 flX5_48 rfl hF (fun x16 hF => ?_)
    refine s_getI (pc := 85) dX5_act_85 flX5_217 rfl hF (fun x17 hF => ?_)
    refine mg (X := fun q18 => gV G mX5_act 6 Q 98 [none] [sr (some (ga G q18)), sr (some a0)] (0) (0) h15) hF (fun _ hj19 hF => ?_) (fun q18 hF => ?_)
    · refine v_if_eq (pc := 88) 96 dX5_act_88 rfl (fun hc => ?_) (fun hc => ?_)
      · replace hF := (okB_if hF).1 hc
        refine v_ldcS (pc := 96) 34 dX5_act_96 rfl ?_
        exact v_lle [none] trivial (hj19 _ (okB_some hF))
      replace hF := (okB_if hF).2 hc
      refine v_ldcS (pc := 91) 33 dX5_act_91 rfl ?_
      refine v_goto (pc := 93) 98 dX5_act_93 rfl ?_
      exact v_lle [none] trivial (hj19 _ (okB_some hF))
    refine ch_V (pc := 98) gU (as := [sr (some (ga G q18))]) (st := []) (ci := 4) (k := 0) (n := 0) dX5_act_98 lkX5_161 caX5_say cvX5_say rfl (by decide) rfl (fun b Q1 hq => tX5_say b q18 h15 Q1 hq) ⟨by decide, by decide⟩ (Nat.le_of_ble_eq_true rfl) rfl hF (fun x20 h21 hF => ?_)
    show gV G mX5_act 6 Q 101 [none] [] (0) (0) h21
    refine v_goto (pc := 101) 126 dX5_act_101 rfl ?_
    exact v_ret (pc := 126) dX5_act_126 rfl (okr hF fun q => q)
  replace hF := (okB_if hF).2 hc3
  by_cases hc4 : x4 = (4 : Int32)
  · replace hF := (okB_if hF).1 hc4
    refine v_tableIn (pc := 11) 104 dX5_act_11 (by rw [hc4]; decide) (by rw [hc4]; decide) (by rw [hc4]; rfl) rfl ?_
    refine v_aload_n (pc := 104) (i := 0) dX5_act_104 rfl rfl ?_
    refine s_getR (pc := 105) dX5_act_105 flX5_29 rfl hF (fun x22 hF => ?_)
    refine ch_V (pc := 108) gU (as := []) (st := []) (ci := 7) (k := 0) (n := 0) dX5_act_108 lkX5_224 caX8_begin cvX8_begin rfl (by decide) rfl (fun b Q1 hq => tX8_begin b h2 Q1 hq) ⟨by decide, by decide⟩ (Nat.le_of_ble_eq_true rfl) rfl hF (fun x23 h24 hF => ?_)
    show gV G mX5_act 6 Q 111 [some (sr (some a0))] [] (0) (0) h24
    refine v_aload_n (pc := 111) (i := 0) dX5_act_111 rfl rfl ?_
    refine v_ldcS (pc := 112) 35 dX5_act_112 rfl ?_
    refine ch_V (pc := 114) gU (as := [sr (some (ga G 35))]) (st := []) (ci := 4) (k := 0) (n := 0) dX5_act_114 lkX5_161 caX5_say cvX5_say rfl (by decide) rfl (fun b Q1 hq => tX5_say b 35 h24 Q1 hq) ⟨by decide, by decide⟩ (Nat.le_of_ble_eq_true rfl) rfl hF (fun x25 h26 hF => ?_)
    show gV G mX5_act 6 Q 117 [some (sr (some a0))] [] (0) (0) h26
    refine v_goto (pc := 117) 126 dX5_act_117 rfl ?_
    exact v_ret (pc := 126) dX5_act_126 rfl (okr hF fun q => q)
  replace hF := (okB_if hF).2 hc4
  refine v_tableD (pc := 11) 120 dX5_act_11 (fun i hi hx => ?_) rfl ?_
  · have hi : i = 0 ∨ i = 1 ∨ i = 2 := by omega
    rcases hi with rfl | rfl | rfl
    · exact absurd hx (fun e => hc2 (Int32.toInt_inj.mp (e.trans (by decide))))
    · exact absurd hx (fun e => hc3 (Int32.toInt_inj.mp (e.trans (by decide))))
    · exact absurd hx (fun e => hc4 (Int32.toInt_inj.mp (e.trans (by decide))))
  refine v_aload_n (pc := 120) (i := 0) dX5_act_120 rfl rfl ?_
  refine v_ldcS (pc := 121) 31 dX5_act_121 rfl ?_
  refine ch_V (pc := 123) gU (as := [sr (some (ga G 31))]) (st := []) (ci := 4) (k := 0) (n := 0) dX5_act_123 lkX5_161 caX5_say cvX5_say rfl (by decide) rfl (fun b Q1 hq => tX5_say b 31 h2 Q1 hq) ⟨by decide, by decide⟩ (Nat.le_of_ble_eq_true rfl) rfl hF (fun x27 h28 hF => ?_)
  show gV G mX5_act 6 Q 126 [some (sr (some a0))] [] (0) (0) h28
  exact v_ret (pc := 126) dX5_act_126 rfl (okr hF fun q => q)

/-! ===== the law's methods over its arrays: their functions and rows ===== -/
theorem dL_says_0 : decode cL_says 0 = .ok (.iload_n 1, 1) := by decide +kernel
theorem dL_says_1 : decode cL_says 1 = .ok (.istore 8, 2) := by decide +kernel
theorem dL_says_3 : decode cL_says 3 = .ok (.iconst 0, 1) := by decide +kernel
theorem dL_says_4 : decode cL_says 4 = .ok (.istore 9, 2) := by decide +kernel
theorem dL_says_6 : decode cL_says 6 = .ok (.iload 9, 2) := by decide +kernel
theorem dL_says_8 : decode cL_says 8 = .ok (.bipush 7, 2) := by decide +kernel
theorem dL_says_10 : decode cL_says 10 = .ok (.if_icmp .ge 98, 3) := by decide +kernel
theorem dL_says_13 : decode cL_says 13 = .ok (.iload 9, 2) := by decide +kernel
theorem dL_says_15 : decode cL_says 15 = .ok (.ifCond .ne 16, 3) := by decide +kernel
theorem dL_says_18 : decode cL_says 18 = .ok (.iload_n 1, 1) := by decide +kernel
theorem dL_says_19 : decode cL_says 19 = .ok (.ifCond .le 8, 3) := by decide +kernel
theorem dL_says_22 : decode cL_says 22 = .ok (.bipush 32, 2) := by decide +kernel
theorem dL_says_24 : decode cL_says 24 = .ok (.goto 62, 3) := by decide +kernel
theorem dL_says_27 : decode cL_says 27 = .ok (.iconst 0, 1) := by decide +kernel
theorem dL_says_28 : decode cL_says 28 = .ok (.goto 58, 3) := by decide +kernel
theorem dL_says_31 : decode cL_says 31 = .ok (.iload 9, 2) := by decide +kernel
theorem dL_says_33 : decode cL_says 33 = .ok (.iconst 1, 1) := by decide +kernel
theorem dL_says_34 : decode cL_says 34 = .ok (.if_icmp .ne 7, 3) := by decide +kernel
theorem dL_says_37 : decode cL_says 37 = .ok (.iload_n 2, 1) := by decide +kernel
theorem dL_says_38 : decode cL_says 38 = .ok (.goto 48, 3) := by decide +kernel
theorem dL_says_41 : decode cL_says 41 = .ok (.iload 9, 2) := by decide +kernel
theorem dL_says_43 : decode cL_says 43 = .ok (.iconst 2, 1) := by decide +kernel
theorem dL_says_44 : decode cL_says 44 = .ok (.if_icmp .ne 7, 3) := by decide +kernel
theorem dL_says_47 : decode cL_says 47 = .ok (.iload_n 3, 1) := by decide +kernel
theorem dL_says_48 : decode cL_says 48 = .ok (.goto 38, 3) := by decide +kernel
theorem dL_says_51 : decode cL_says 51 = .ok (.iload 9, 2) := by decide +kernel
theorem dL_says_53 : decode cL_says 53 = .ok (.iconst 3, 1) := by decide +kernel
theorem dL_says_54 : decode cL_says 54 = .ok (.if_icmp .ne 8, 3) := by decide +kernel
theorem dL_says_57 : decode cL_says 57 = .ok (.iload 4, 2) := by decide +kernel
theorem dL_says_59 : decode cL_says 59 = .ok (.goto 27, 3) := by decide +kernel
theorem dL_says_62 : decode cL_says 62 = .ok (.iload 9, 2) := by decide +kernel
theorem dL_says_64 : decode cL_says 64 = .ok (.iconst 4, 1) := by decide +kernel
theorem dL_says_65 : decode cL_says 65 = .ok (.if_icmp .ne 8, 3) := by decide +kernel
theorem dL_says_68 : decode cL_says 68 = .ok (.iload 5, 2) := by decide +kernel
theorem dL_says_70 : decode cL_says 70 = .ok (.goto 16, 3) := by decide +kernel
theorem dL_says_73 : decode cL_says 73 = .ok (.iload 9, 2) := by decide +kernel
theorem dL_says_75 : decode cL_says 75 = .ok (.iconst 5, 1) := by decide +kernel
theorem dL_says_76 : decode cL_says 76 = .ok (.if_icmp .ne 8, 3) := by decide +kernel
theorem dL_says_79 : decode cL_says 79 = .ok (.iload 6, 2) := by decide +kernel
theorem dL_says_81 : decode cL_says 81 = .ok (.goto 5, 3) := by decide +kernel
theorem dL_says_84 : decode cL_says 84 = .ok (.iload 7, 2) := by decide +kernel
theorem dL_says_86 : decode cL_says 86 = .ok (.istore 10, 2) := by decide +kernel
theorem dL_says_88 : decode cL_says 88 = .ok (.iload 10, 2) := by decide +kernel
theorem dL_says_90 : decode cL_says 90 = .ok (.ifCond .le 12, 3) := by decide +kernel
theorem dL_says_93 : decode cL_says 93 = .ok (.aload_n 0, 1) := by decide +kernel
theorem dL_says_94 : decode cL_says 94 = .ok (.iload 8, 2) := by decide +kernel
theorem dL_says_96 : decode cL_says 96 = .ok (.iload 10, 2) := by decide +kernel
theorem dL_says_98 : decode cL_says 98 = .ok (.iastore, 1) := by decide +kernel
theorem dL_says_99 : decode cL_says 99 = .ok (.iinc 8 1, 3) := by decide +kernel
theorem dL_says_102 : decode cL_says 102 = .ok (.iinc 9 1, 3) := by decide +kernel
theorem dL_says_105 : decode cL_says 105 = .ok (.goto (-99), 3) := by decide +kernel
theorem dL_says_108 : decode cL_says 108 = .ok (.iload 8, 2) := by decide +kernel
theorem dL_says_110 : decode cL_says 110 = .ok (.ireturn, 1) := by decide +kernel
theorem dL_saysKind_0 : decode cL_saysKind 0 = .ok (.iload_n 2, 1) := by decide +kernel
theorem dL_saysKind_1 : decode cL_saysKind 1 = .ok (.iconst 1, 1) := by decide +kernel
theorem dL_saysKind_2 : decode cL_saysKind 2 = .ok (.if_icmp .ne 5, 3) := by decide +kernel
theorem dL_saysKind_5 : decode cL_saysKind 5 = .ok (.iload_n 1, 1) := by decide +kernel
theorem dL_saysKind_6 : decode cL_saysKind 6 = .ok (.ireturn, 1) := by decide +kernel
theorem dL_saysKind_7 : decode cL_saysKind 7 = .ok (.iload_n 2, 1) := by decide +kernel
theorem dL_saysKind_8 : decode cL_saysKind 8 = .ok (.ifCond .ne 20, 3) := by decide +kernel
theorem dL_saysKind_11 : decode cL_saysKind 11 = .ok (.aload_n 0, 1) := by decide +kernel
theorem dL_saysKind_12 : decode cL_saysKind 12 = .ok (.iload_n 1, 1) := by decide +kernel
theorem dL_saysKind_13 : decode cL_saysKind 13 = .ok (.bipush 103, 2) := by decide +kernel
theorem dL_saysKind_15 : decode cL_saysKind 15 = .ok (.bipush 114, 2) := by decide +kernel
theorem dL_saysKind_17 : decode cL_saysKind 17 = .ok (.bipush 111, 2) := by decide +kernel
theorem dL_saysKind_19 : decode cL_saysKind 19 = .ok (.bipush 117, 2) := by decide +kernel
theorem dL_saysKind_21 : decode cL_saysKind 21 = .ok (.bipush 112, 2) := by decide +kernel
theorem dL_saysKind_23 : decode cL_saysKind 23 = .ok (.iconst 0, 1) := by decide +kernel
theorem dL_saysKind_24 : decode cL_saysKind 24 = .ok (.invokestatic 20, 3) := by decide +kernel
theorem dL_saysKind_27 : decode cL_saysKind 27 = .ok (.ireturn, 1) := by decide +kernel
theorem dL_saysKind_28 : decode cL_saysKind 28 = .ok (.iload_n 2, 1) := by decide +kernel
theorem dL_saysKind_29 : decode cL_saysKind 29 = .ok (.iconst 2, 1) := by decide +kernel
theorem dL_saysKind_30 : decode cL_saysKind 30 = .ok (.if_icmp .ne 21, 3) := by decide +kernel
theorem dL_saysKind_33 : decode cL_saysKind 33 = .ok (.aload_n 0, 1) := by decide +kernel
theorem dL_saysKind_34 : decode cL_saysKind 34 = .ok (.iload_n 1, 1) := by decide +kernel
theorem dL_saysKind_35 : decode cL_saysKind 35 = .ok (.bipush 98, 2) := by decide +kernel
theorem dL_saysKind_37 : decode cL_saysKind 37 = .ok (.bipush 117, 2) := by decide +kernel
theorem dL_saysKind_39 : decode cL_saysKind 39 = .ok (.bipush 116, 2) := by decide +kernel
theorem dL_saysKind_41 : decode cL_saysKind 41 = .ok (.bipush 116, 2) := by decide +kernel
theorem dL_saysKind_43 : decode cL_saysKind 43 = .ok (.bipush 111, 2) := by decide +kernel
theorem dL_saysKind_45 : decode cL_saysKind 45 = .ok (.bipush 110, 2) := by decide +kernel
theorem dL_saysKind_47 : decode cL_saysKind 47 = .ok (.invokestatic 20, 3) := by decide +kernel
theorem dL_saysKind_50 : decode cL_saysKind 50 = .ok (.ireturn, 1) := by decide +kernel
theorem dL_saysKind_51 : decode cL_saysKind 51 = .ok (.iload_n 2, 1) := by decide +kernel
theorem dL_saysKind_52 : decode cL_saysKind 52 = .ok (.iconst 3, 1) := by decide +kernel
theorem dL_saysKind_53 : decode cL_saysKind 53 = .ok (.if_icmp .ne 20, 3) := by decide +kernel
theorem dL_saysKind_56 : decode cL_saysKind 56 = .ok (.aload_n 0, 1) := by decide +kernel
theorem dL_saysKind_57 : decode cL_saysKind 57 = .ok (.iload_n 1, 1) := by decide +kernel
theorem dL_saysKind_58 : decode cL_saysKind 58 = .ok (.bipush 99, 2) := by decide +kernel
theorem dL_saysKind_60 : decode cL_saysKind 60 = .ok (.bipush 104, 2) := by decide +kernel
theorem dL_saysKind_62 : decode cL_saysKind 62 = .ok (.bipush 101, 2) := by decide +kernel
theorem dL_saysKind_64 : decode cL_saysKind 64 = .ok (.bipush 99, 2) := by decide +kernel
theorem dL_saysKind_66 : decode cL_saysKind 66 = .ok (.bipush 107, 2) := by decide +kernel
theorem dL_saysKind_68 : decode cL_saysKind 68 = .ok (.iconst 0, 1) := by decide +kernel
theorem dL_saysKind_69 : decode cL_saysKind 69 = .ok (.invokestatic 20, 3) := by decide +kernel
theorem dL_saysKind_72 : decode cL_saysKind 72 = .ok (.ireturn, 1) := by decide +kernel
theorem dL_saysKind_73 : decode cL_saysKind 73 = .ok (.iload_n 2, 1) := by decide +kernel
theorem dL_saysKind_74 : decode cL_saysKind 74 = .ok (.iconst 4, 1) := by decide +kernel
theorem dL_saysKind_75 : decode cL_saysKind 75 = .ok (.if_icmp .ne 19, 3) := by decide +kernel
theorem dL_saysKind_78 : decode cL_saysKind 78 = .ok (.aload_n 0, 1) := by decide +kernel
theorem dL_saysKind_79 : decode cL_saysKind 79 = .ok (.iload_n 1, 1) := by decide +kernel
theorem dL_saysKind_80 : decode cL_saysKind 80 = .ok (.bipush 101, 2) := by decide +kernel
theorem dL_saysKind_82 : decode cL_saysKind 82 = .ok (.bipush 100, 2) := by decide +kernel
theorem dL_saysKind_84 : decode cL_saysKind 84 = .ok (.bipush 105, 2) := by decide +kernel
theorem dL_saysKind_86 : decode cL_saysKind 86 = .ok (.bipush 116, 2) := by decide +kernel
theorem dL_saysKind_88 : decode cL_saysKind 88 = .ok (.iconst 0, 1) := by decide +kernel
theorem dL_saysKind_89 : decode cL_saysKind 89 = .ok (.iconst 0, 1) := by decide +kernel
theorem dL_saysKind_90 : decode cL_saysKind 90 = .ok (.invokestatic 20, 3) := by decide +kernel
theorem dL_saysKind_93 : decode cL_saysKind 93 = .ok (.ireturn, 1) := by decide +kernel
theorem dL_saysKind_94 : decode cL_saysKind 94 = .ok (.iload_n 2, 1) := by decide +kernel
theorem dL_saysKind_95 : decode cL_saysKind 95 = .ok (.iconst 5, 1) := by decide +kernel
theorem dL_saysKind_96 : decode cL_saysKind 96 = .ok (.if_icmp .ne 22, 3) := by decide +kernel
theorem dL_saysKind_99 : decode cL_saysKind 99 = .ok (.aload_n 0, 1) := by decide +kernel
theorem dL_saysKind_100 : decode cL_saysKind 100 = .ok (.iload_n 1, 1) := by decide +kernel
theorem dL_saysKind_101 : decode cL_saysKind 101 = .ok (.bipush 116, 2) := by decide +kernel
theorem dL_saysKind_103 : decode cL_saysKind 103 = .ok (.bipush 97, 2) := by decide +kernel
theorem dL_saysKind_105 : decode cL_saysKind 105 = .ok (.bipush 98, 2) := by decide +kernel
theorem dL_saysKind_107 : decode cL_saysKind 107 = .ok (.bipush 108, 2) := by decide +kernel
theorem dL_saysKind_109 : decode cL_saysKind 109 = .ok (.bipush 101, 2) := by decide +kernel
theorem dL_saysKind_111 : decode cL_saysKind 111 = .ok (.iconst 0, 1) := by decide +kernel
theorem dL_saysKind_112 : decode cL_saysKind 112 = .ok (.invokestatic 20, 3) := by decide +kernel
theorem dL_saysKind_115 : decode cL_saysKind 115 = .ok (.goto 17, 3) := by decide +kernel
theorem dL_saysKind_118 : decode cL_saysKind 118 = .ok (.aload_n 0, 1) := by decide +kernel
theorem dL_saysKind_119 : decode cL_saysKind 119 = .ok (.iload_n 1, 1) := by decide +kernel
theorem dL_saysKind_120 : decode cL_saysKind 120 = .ok (.bipush 114, 2) := by decide +kernel
theorem dL_saysKind_122 : decode cL_saysKind 122 = .ok (.bipush 111, 2) := by decide +kernel
theorem dL_saysKind_124 : decode cL_saysKind 124 = .ok (.bipush 119, 2) := by decide +kernel
theorem dL_saysKind_126 : decode cL_saysKind 126 = .ok (.iconst 0, 1) := by decide +kernel
theorem dL_saysKind_127 : decode cL_saysKind 127 = .ok (.iconst 0, 1) := by decide +kernel
theorem dL_saysKind_128 : decode cL_saysKind 128 = .ok (.iconst 0, 1) := by decide +kernel
theorem dL_saysKind_129 : decode cL_saysKind 129 = .ok (.invokestatic 20, 3) := by decide +kernel
theorem dL_saysKind_132 : decode cL_saysKind 132 = .ok (.ireturn, 1) := by decide +kernel
theorem dL_nameMany_0 : decode cL_nameMany 0 = .ok (.lload_n 0, 1) := by decide +kernel
theorem dL_nameMany_1 : decode cL_nameMany 1 = .ok (.lconst 0, 1) := by decide +kernel
theorem dL_nameMany_2 : decode cL_nameMany 2 = .ok (.lcmp, 1) := by decide +kernel
theorem dL_nameMany_3 : decode cL_nameMany 3 = .ok (.ifCond .ne 7, 3) := by decide +kernel
theorem dL_nameMany_6 : decode cL_nameMany 6 = .ok (.iconst 0, 1) := by decide +kernel
theorem dL_nameMany_7 : decode cL_nameMany 7 = .ok (.goto 28, 3) := by decide +kernel
theorem dL_nameMany_10 : decode cL_nameMany 10 = .ok (.lload_n 0, 1) := by decide +kernel
theorem dL_nameMany_11 : decode cL_nameMany 11 = .ok (.ldc2_w 24, 3) := by decide +kernel
theorem dL_nameMany_14 : decode cL_nameMany 14 = .ok (.lcmp, 1) := by decide +kernel
theorem dL_nameMany_15 : decode cL_nameMany 15 = .ok (.ifCond .ge 7, 3) := by decide +kernel
theorem dL_nameMany_18 : decode cL_nameMany 18 = .ok (.iconst 1, 1) := by decide +kernel
theorem dL_nameMany_19 : decode cL_nameMany 19 = .ok (.goto 16, 3) := by decide +kernel
theorem dL_nameMany_22 : decode cL_nameMany 22 = .ok (.lload_n 0, 1) := by decide +kernel
theorem dL_nameMany_23 : decode cL_nameMany 23 = .ok (.ldc2_w 26, 3) := by decide +kernel
theorem dL_nameMany_26 : decode cL_nameMany 26 = .ok (.lcmp, 1) := by decide +kernel
theorem dL_nameMany_27 : decode cL_nameMany 27 = .ok (.ifCond .ge 7, 3) := by decide +kernel
theorem dL_nameMany_30 : decode cL_nameMany 30 = .ok (.iconst 2, 1) := by decide +kernel
theorem dL_nameMany_31 : decode cL_nameMany 31 = .ok (.goto 4, 3) := by decide +kernel
theorem dL_nameMany_34 : decode cL_nameMany 34 = .ok (.iconst 3, 1) := by decide +kernel
theorem dL_nameMany_35 : decode cL_nameMany 35 = .ok (.ireturn, 1) := by decide +kernel
theorem dL_typed_0 : decode cL_typed 0 = .ok (.aload_n 0, 1) := by decide +kernel
theorem dL_typed_1 : decode cL_typed 1 = .ok (.iconst 2, 1) := by decide +kernel
theorem dL_typed_2 : decode cL_typed 2 = .ok (.iload_n 1, 1) := by decide +kernel
theorem dL_typed_3 : decode cL_typed 3 = .ok (.imul, 1) := by decide +kernel
theorem dL_typed_4 : decode cL_typed 4 = .ok (.iload_n 2, 1) := by decide +kernel
theorem dL_typed_5 : decode cL_typed 5 = .ok (.bipush 6, 2) := by decide +kernel
theorem dL_typed_7 : decode cL_typed 7 = .ok (.idiv, 1) := by decide +kernel
theorem dL_typed_8 : decode cL_typed 8 = .ok (.iadd, 1) := by decide +kernel
theorem dL_typed_9 : decode cL_typed 9 = .ok (.laload, 1) := by decide +kernel
theorem dL_typed_10 : decode cL_typed 10 = .ok (.bipush 7, 2) := by decide +kernel
theorem dL_typed_12 : decode cL_typed 12 = .ok (.iload_n 2, 1) := by decide +kernel
theorem dL_typed_13 : decode cL_typed 13 = .ok (.bipush 6, 2) := by decide +kernel
theorem dL_typed_15 : decode cL_typed 15 = .ok (.irem, 1) := by decide +kernel
theorem dL_typed_16 : decode cL_typed 16 = .ok (.imul, 1) := by decide +kernel
theorem dL_typed_17 : decode cL_typed 17 = .ok (.lshr, 1) := by decide +kernel
theorem dL_typed_18 : decode cL_typed 18 = .ok (.ldc2_w 28, 3) := by decide +kernel
theorem dL_typed_21 : decode cL_typed 21 = .ok (.land, 1) := by decide +kernel
theorem dL_typed_22 : decode cL_typed 22 = .ok (.l2i, 1) := by decide +kernel
theorem dL_typed_23 : decode cL_typed 23 = .ok (.ireturn, 1) := by decide +kernel
abbrev mL_says : gM := (yL_says, cL_says, 11, (Option.some FieldType.int), [])
theorem caL_says : cal mL_says 8 := ⟨xw 894 (by decide +kernel) rfl, xw 28 (by decide +kernel) rfl, by decide, by decide +kernel⟩
theorem csL_says : Cond.static yL_says ∈ XW := xw 893 (by decide +kernel) rfl
abbrev mL_saysKind : gM := (yL_saysKind, cL_saysKind, 3, (Option.some FieldType.int), [])
theorem caL_saysKind : cal mL_saysKind 3 := ⟨xw 891 (by decide +kernel) rfl, xw 28 (by decide +kernel) rfl, by decide, by decide +kernel⟩
theorem csL_saysKind : Cond.static yL_saysKind ∈ XW := xw 890 (by decide +kernel) rfl
abbrev mL_nameMany : gM := (yL_nameMany, cL_nameMany, 2, (Option.some FieldType.int), [])
theorem caL_nameMany : cal mL_nameMany 1 := ⟨xw 872 (by decide +kernel) rfl, xw 28 (by decide +kernel) rfl, by decide, by decide +kernel⟩
theorem csL_nameMany : Cond.static yL_nameMany ∈ XW := xw 871 (by decide +kernel) rfl
abbrev mL_typed : gM := (yL_typed, cL_typed, 3, (Option.some FieldType.int), [])
theorem caL_typed : cal mL_typed 3 := ⟨xw 907 (by decide +kernel) rfl, xw 28 (by decide +kernel) rfl, by decide, by decide +kernel⟩
theorem csL_typed : Cond.static yL_typed ∈ XW := xw 906 (by decide +kernel) rfl
theorem lkL_20 : Cond.methodLink RL 20 yL_says ∈ XW := xw 892 (by decide +kernel) rfl
theorem clL_24 : Cond.constantLong RL 24 (1048576 : Int64) ∈ XW := xw 873 (by decide +kernel) rfl
theorem clL_26 : Cond.constantLong RL 26 (1099511627776 : Int64) ∈ XW := xw 874 (by decide +kernel) rfl
theorem clL_28 : Cond.constantLong RL 28 (127 : Int64) ∈ XW := xw 908 (by decide +kernel) rfl
/-! BrailleDeskLaw.says -/
theorem lL_says_6 {G : gG} {Q : hQ} {P : (Int32 × hp) → Prop} {k n : Nat} (c0 : (Option Nat)) (c1 : Int32) (c2 : Int32) (c3 : Int32) (c4 : Int32) (c5 : Int32) (c6 : Int32) (c7 : Int32) (hJ : ∀ q : (Int32 × hp), P q → gV G mL_says 0 Q 108 [none, none, none, none, none, none, none, none, some (si q.1), none, none] [] (k) (n) q.2) : ∀ (fu : Nat) (a : (Int32 × Int32 × hp)), okB (itr (fL_says_B6 c0 c1 c2 c3 c4 c5 c6 c7) fu a) P → gV G mL_says 0 Q 6 [some (sr c0), some (si c1), some (si c2), some (si c3), some (si c4), some (si c5), some (si c6), some (si c7), some (si a.1), some (si a.2.1), none] [] (k) (n) a.2.2 :=
  lpg (X := fun (a : (Int32 × Int32 × hp)) => gV G mL_says 0 Q 6 [some (sr c0), some (si c1), some (si c2), some (si c3), some (si c4), some (si c5), some (si c6), some (si c7), some (si a.1), some (si a.2.1), none] [] (k) (n) a.2.2) (fun a P2 hL hE hF => by
    delta fL_says_B6 at hF
    refine v_iload (pc := 6) (i := 9) dL_says_6 rfl ?_
    refine v_bipush (pc := 8) (v := (7 : Int32)) dL_says_8 rfl ?_
    refine v_icmp_ge (pc := 10) 108 dL_says_10 rfl (fun hc => ?_) (fun hc => ?_)
    · replace hF := (okB_if hF).1 hc
      exact v_lle [none, none, none, none, none, none, none, none, some (si a.1), none, none] ⟨rfl, trivial⟩ (hJ (a.1, a.2.2) (hE _ (okB_some hF)))
    replace hF := (okB_if hF).2 hc
    refine v_iload (pc := 13) (i := 9) dL_says_13 rfl ?_
    refine mg (X := fun q1 => gV G mL_says 0 Q 86 [some (sr c0), some (si c1), some (si c2), some (si c3), some (si c4), some (si c5), some (si c6), some (si c7), some (si a.1), some (si a.2.1), none] [si q1] (k) (n) a.2.2) hF (fun _ hj2 hF => ?_) (fun q1 hF => ?_)
    · refine v_if_ne (pc := 15) 31 dL_says_15 rfl (fun hc => ?_) (fun hc => ?_)
      · replace hF := (okB_if hF).2 hc
        refine v_iload (pc := 31) (i := 9) dL_says_31 rfl ?_
        refine v_iconst (pc := 33) (v := (1 : Int32)) dL_says_33 rfl ?_
        refine v_icmp_ne (pc := 34) 41 dL_says_34 rfl (fun hc => ?_) (fun hc => ?_)
        · replace hF := (okB_if hF).2 hc
          refine v_iload (pc := 41) (i := 9) dL_says_41 rfl ?_
          refine v_iconst (pc := 43) (v := (2 : Int32)) dL_says_43 rfl ?_
          refine v_icmp_ne (pc := 44) 51 dL_says_44 rfl (fun hc => ?_) (fun hc => ?_)
          · replace hF := (okB_if hF).2 hc
            refine v_iload (pc := 51) (i := 9) dL_says_51 rfl ?_
            refine v_iconst (pc := 53) (v := (3 : Int32)) dL_says_53 rfl ?_
            refine v_icmp_ne (pc := 54) 62 dL_says_54 rfl (fun hc => ?_) (fun hc => ?_)
            · replace hF := (okB_if hF).2 hc
              refine v_iload (pc := 62) (i := 9) dL_says_62 rfl ?_
              refine v_iconst (pc := 64) (v := (4 : Int32)) dL_says_64 rfl ?_
              refine v_icmp_ne (pc := 65) 73 dL_says_65 rfl (fun hc => ?_) (fun hc => ?_)
              · replace hF := (okB_if hF).2 hc
                refine v_iload (pc := 73) (i := 9) dL_says_73 rfl ?_
                refine v_iconst (pc := 75) (v := (5 : Int32)) dL_says_75 rfl ?_
                refine v_icmp_ne (pc := 76) 84 dL_says_76 rfl (fun hc => ?_) (fun hc => ?_)
                · replace hF := (okB_if hF).2 hc
                  refine v_iload (pc := 84) (i := 7) dL_says_84 rfl ?_
                  exact v_lle [some (sr c0), some (si c1), some (si c2), some (si c3), some (si c4), some (si c5), some (si c6), some (si c7), some (si a.1), some (si a.2.1), none] ⟨rfl, rfl, rfl, rfl, rfl, rfl, rfl, rfl, rfl, rfl, trivial⟩ (hj2 c7 (okB_some hF))
                replace hF := (okB_if hF).1 hc
                refine v_iload (pc := 79) (i := 6) dL_says_79 rfl ?_
                refine v_goto (pc := 81) 86 dL_says_81 rfl ?_
                exact v_lle [some (sr c0), some (si c1), some (si c2), some (si c3), some (si c4), some (si c5), some (si c6), some (si c7), some (si a.1), some (si a.2.1), none] ⟨rfl, rfl, rfl, rfl, rfl, rfl, rfl, rfl, rfl, rfl, trivial⟩ (hj2 c6 (okB_some hF))
              replace hF := (okB_if hF).1 hc
              refine v_iload (pc := 68) (i := 5) dL_says_68 rfl ?_
              refine v_goto (pc := 70) 86 dL_says_70 rfl ?_
              exact v_lle [some (sr c0), some (si c1), some (si c2), some (si c3), some (si c4), some (si c5), some (si c6), some (si c7), some (si a.1), some (si a.2.1), none] ⟨rfl, rfl, rfl, rfl, rfl, rfl, rfl, rfl, rfl, rfl, trivial⟩ (hj2 c5 (okB_some hF))
            replace hF := (okB_if hF).1 hc
            refine v_iload (pc := 57) (i := 4) dL_says_57 rfl ?_
            refine v_goto (pc := 59) 86 dL_says_59 rfl ?_
            exact v_lle [some (sr c0), some (si c1), some (si c2), some (si c3), some (si c4), some (si c5), some (si c6), some (si c7), some (si a.1), some (si a.2.1), none] ⟨rfl, rfl, rfl, rfl, rfl, rfl, rfl, rfl, rfl, rfl, trivial⟩ (hj2 c4 (okB_some hF))
          replace hF := (okB_if hF).1 hc
          refine v_iload_n (pc := 47) (i := 3) dL_says_47 rfl rfl ?_
          refine v_goto (pc := 48) 86 dL_says_48 rfl ?_
          exact v_lle [some (sr c0), some (si c1), some (si c2), some (si c3), some (si c4), some (si c5), some (si c6), some (si c7), some (si a.1), some (si a.2.1), none] ⟨rfl, rfl, rfl, rfl, rfl, rfl, rfl, rfl, rfl, rfl, trivial⟩ (hj2 c3 (okB_some hF))
        replace hF := (okB_if hF).1 hc
        refine v_iload_n (pc := 37) (i := 2) dL_says_37 rfl rfl ?_
        refine v_goto (pc := 38) 86 dL_says_38 rfl ?_
        exact v_lle [some (sr c0), some (si c1), some (si c2), some (si c3), some (si c4), some (si c5), some (si c6), some (si c7), some (si a.1), some (si a.2.1), none] ⟨rfl, rfl, rfl, rfl, rfl, rfl, rfl, rfl, rfl, rfl, trivial⟩ (hj2 c2 (okB_some hF))
      replace hF := (okB_if hF).1 hc
      refine v_iload_n (pc := 18) (i := 1) dL_says_18 rfl rfl ?_
      refine v_if_le (pc := 19) 27 dL_says_19 rfl (fun hc => ?_) (fun hc => ?_)
      · replace hF := (okB_if hF).1 hc
        refine v_iconst (pc := 27) (v := (0 : Int32)) dL_says_27 rfl ?_
        refine v_goto (pc := 28) 86 dL_says_28 rfl ?_
        exact v_lle [some (sr c0), some (si c1), some (si c2), some (si c3), some (si c4), some (si c5), some (si c6), some (si c7), some (si a.1), some (si a.2.1), none] ⟨rfl, rfl, rfl, rfl, rfl, rfl, rfl, rfl, rfl, rfl, trivial⟩ (hj2 (0 : Int32) (okB_some hF))
      replace hF := (okB_if hF).2 hc
      refine v_bipush (pc := 22) (v := (32 : Int32)) dL_says_22 rfl ?_
      refine v_goto (pc := 24) 86 dL_says_24 rfl ?_
      exact v_lle [some (sr c0), some (si c1), some (si c2), some (si c3), some (si c4), some (si c5), some (si c6), some (si c7), some (si a.1), some (si a.2.1), none] ⟨rfl, rfl, rfl, rfl, rfl, rfl, rfl, rfl, rfl, rfl, trivial⟩ (hj2 (32 : Int32) (okB_some hF))
    refine v_istore (pc := 86) (i := 10) [some (sr c0), some (si c1), some (si c2), some (si c3), some (si c4), some (si c5), some (si c6), some (si c7), some (si a.1), some (si a.2.1), some (si q1)] dL_says_86 (by decide) rfl rfl ?_
    refine v_iload (pc := 88) (i := 10) dL_says_88 rfl ?_
    refine v_if_le (pc := 90) 102 dL_says_90 rfl (fun hc => ?_) (fun hc => ?_)
    · replace hF := (okB_if hF).1 hc
      refine v_iinc (pc := 102) (i := 9) (a.2.1 + (1 : Int32)) [some (sr c0), some (si c1), some (si c2), some (si c3), some (si c4), some (si c5), some (si c6), some (si c7), some (si a.1), some (si (a.2.1 + (1 : Int32))), some (si q1)] dL_says_102 rfl rfl rfl rfl ?_
      refine v_goto (pc := 105) 6 dL_says_105 rfl ?_
      exact v_lle [some (sr c0), some (si c1), some (si c2), some (si c3), some (si c4), some (si c5), some (si c6), some (si c7), some (si a.1), some (si (a.2.1 + (1 : Int32))), none] ⟨rfl, rfl, rfl, rfl, rfl, rfl, rfl, rfl, rfl, rfl, trivial⟩ (hL (a.1, a.2.1 + (1 : Int32), a.2.2) (okB_some hF))
    replace hF := (okB_if hF).2 hc
    refine v_aload_n (pc := 93) (i := 0) dL_says_93 rfl rfl ?_
    refine v_iload (pc := 94) (i := 8) dL_says_94 rfl ?_
    refine v_iload (pc := 96) (i := 10) dL_says_96 rfl ?_
    refine s_iast (pc := 98) dL_says_98 hF (fun h3 hF => ?_)
    refine v_iinc (pc := 99) (i := 8) (a.1 + (1 : Int32)) [some (sr c0), some (si c1), some (si c2), some (si c3), some (si c4), some (si c5), some (si c6), some (si c7), some (si (a.1 + (1 : Int32))), some (si a.2.1), some (si q1)] dL_says_99 rfl rfl rfl rfl ?_
    refine v_iinc (pc := 102) (i := 9) (a.2.1 + (1 : Int32)) [some (sr c0), some (si c1), some (si c2), some (si c3), some (si c4), some (si c5), some (si c6), some (si c7), some (si (a.1 + (1 : Int32))), some (si (a.2.1 + (1 : Int32))), some (si q1)] dL_says_102 rfl rfl rfl rfl ?_
    refine v_goto (pc := 105) 6 dL_says_105 rfl ?_
    exact v_lle [some (sr c0), some (si c1), some (si c2), some (si c3), some (si c4), some (si c5), some (si c6), some (si c7), some (si (a.1 + (1 : Int32))), some (si (a.2.1 + (1 : Int32))), none] ⟨rfl, rfl, rfl, rfl, rfl, rfl, rfl, rfl, rfl, rfl, trivial⟩ (hL (a.1 + (1 : Int32), a.2.1 + (1 : Int32), h3) (okB_some hF)))
theorem tL_says {G : gG} (a0 : (Option Nat)) (a1 : Int32) (a2 : Int32) (a3 : Int32) (a4 : Int32) (a5 : Int32) (a6 : Int32) (a7 : Int32) (h : hp) (Q : hQ) (hF : okB (fL_says a0 a1 a2 a3 a4 a5 a6 a7 h) (pH gI Q)) : gS G mL_says 0 0 0 [sr a0, si a1, si a2, si a3, si a4, si a5, si a6, si a7] h Q := by
  delta fL_says at hF
  refine gS_at [some (sr a0), some (si a1), some (si a2), some (si a3), some (si a4), some (si a5), some (si a6), some (si a7), none, none, none] pl_L rfl (Nat.le_of_ble_eq_true rfl) rfl ?_
  refine v_iload_n (pc := 0) (i := 1) dL_says_0 rfl rfl ?_
  refine v_istore (pc := 1) (i := 8) [some (sr a0), some (si a1), some (si a2), some (si a3), some (si a4), some (si a5), some (si a6), some (si a7), some (si a1), none, none] dL_says_1 (by decide) rfl rfl ?_
  refine v_iconst (pc := 3) (v := (0 : Int32)) dL_says_3 rfl ?_
  refine v_istore (pc := 4) (i := 9) [some (sr a0), some (si a1), some (si a2), some (si a3), some (si a4), some (si a5), some (si a6), some (si a7), some (si a1), some (si (0 : Int32)), none] dL_says_4 (by decide) rfl rfl ?_
  refine mg (X := fun q1 => gV G mL_says 0 Q 108 [none, none, none, none, none, none, none, none, some (si q1.1), none, none] [] (0) (0) q1.2) hF (fun _ hj2 hF => v_lle [some (sr a0), some (si a1), some (si a2), some (si a3), some (si a4), some (si a5), some (si a6), some (si a7), some (si a1), some (si (0 : Int32)), none] ⟨rfl, rfl, rfl, rfl, rfl, rfl, rfl, rfl, rfl, rfl, trivial⟩ (lL_says_6 a0 a1 a2 a3 a4 a5 a6 a7 hj2 FU (a1, (0 : Int32), h) hF)) (fun q1 hF => ?_)
  refine v_iload (pc := 108) (i := 8) dL_says_108 rfl ?_
  exact v_iret (pc := 110) dL_says_110 rfl rfl (okr hF fun q => q)
/-! BrailleDeskLaw.saysKind -/
theorem tL_saysKind {G : gG} (a0 : (Option Nat)) (a1 : Int32) (a2 : Int32) (h : hp) (Q : hQ) (hF : okB (fL_saysKind a0 a1 a2 h) (pH gI Q)) : gS G mL_saysKind 1 0 0 [sr a0, si a1, si a2] h Q := by
  delta fL_saysKind at hF
  refine gS_at [some (sr a0), some (si a1), some (si a2)] pl_L rfl (Nat.le_of_ble_eq_true rfl) rfl ?_
  refine v_iload_n (pc := 0) (i := 2) dL_saysKind_0 rfl rfl ?_
  refine v_iconst (pc := 1) (v := (1 : Int32)) dL_saysKind_1 rfl ?_
  refine v_icmp_ne (pc := 2) 7 dL_saysKind_2 rfl (fun hc => ?_) (fun hc => ?_)
  · replace hF := (okB_if hF).2 hc
    refine v_iload_n (pc := 7) (i := 2) dL_saysKind_7 rfl rfl ?_
    refine v_if_ne (pc := 8) 28 dL_saysKind_8 rfl (fun hc => ?_) (fun hc => ?_)
    · replace hF := (okB_if hF).2 hc
      refine v_iload_n (pc := 28) (i := 2) dL_saysKind_28 rfl rfl ?_
      refine v_iconst (pc := 29) (v := (2 : Int32)) dL_saysKind_29 rfl ?_
      refine v_icmp_ne (pc := 30) 51 dL_saysKind_30 rfl (fun hc => ?_) (fun hc => ?_)
      · replace hF := (okB_if hF).2 hc
        refine v_iload_n (pc := 51) (i := 2) dL_saysKind_51 rfl rfl ?_
        refine v_iconst (pc := 52) (v := (3 : Int32)) dL_saysKind_52 rfl ?_
        refine v_icmp_ne (pc := 53) 73 dL_saysKind_53 rfl (fun hc => ?_) (fun hc => ?_)
        · replace hF := (okB_if hF).2 hc
          refine v_iload_n (pc := 73) (i := 2) dL_saysKind_73 rfl rfl ?_
          refine v_iconst (pc := 74) (v := (4 : Int32)) dL_saysKind_74 rfl ?_
          refine v_icmp_ne (pc := 75) 94 dL_saysKind_75 rfl (fun hc => ?_) (fun hc => ?_)
          · replace hF := (okB_if hF).2 hc
            refine v_iload_n (pc := 94) (i := 2) dL_saysKind_94 rfl rfl ?_
            refine v_iconst (pc := 95) (v := (5 : Int32)) dL_saysKind_95 rfl ?_
            refine v_icmp_ne (pc := 96) 118 dL_saysKind_96 rfl (fun hc => ?_) (fun hc => ?_)
            · replace hF := (okB_if hF).2 hc
              refine v_aload_n (pc := 118) (i := 0) dL_saysKind_118 rfl rfl ?_
              refine v_iload_n (pc := 119) (i := 1) dL_saysKind_119 rfl rfl ?_
              refine v_bipush (pc := 120) (v := (114 : Int32)) dL_saysKind_120 rfl ?_
              refine v_bipush (pc := 122) (v := (111 : Int32)) dL_saysKind_122 rfl ?_
              refine v_bipush (pc := 124) (v := (119 : Int32)) dL_saysKind_124 rfl ?_
              refine v_iconst (pc := 126) (v := (0 : Int32)) dL_saysKind_126 rfl ?_
              refine v_iconst (pc := 127) (v := (0 : Int32)) dL_saysKind_127 rfl ?_
              refine v_iconst (pc := 128) (v := (0 : Int32)) dL_saysKind_128 rfl ?_
              refine ch_S (pc := 129) gI (as := [sr a0, si a1, si (114 : Int32), si (111 : Int32), si (119 : Int32), si (0 : Int32), si (0 : Int32), si (0 : Int32)]) (st := []) (N := mL_says) (k := 0) (n := 0) (k1 := 0) (n1 := 0) dL_saysKind_129 lkL_20 caL_says csL_says rfl (fun Q1 hq => tL_says a0 a1 (114 : Int32) (111 : Int32) (119 : Int32) (0 : Int32) (0 : Int32) (0 : Int32) h Q1 hq) ⟨by decide, by decide⟩ (Nat.le_of_ble_eq_true rfl) rfl hF (fun x1 h2 hF => ?_)
              show gV G mL_saysKind 1 Q 132 [some (sr a0), some (si a1), some (si a2)] [si x1] (0) (0) h2
              exact v_iret (pc := 132) dL_saysKind_132 rfl rfl (okr hF fun q => q)
            replace hF := (okB_if hF).1 hc
            refine v_aload_n (pc := 99) (i := 0) dL_saysKind_99 rfl rfl ?_
            refine v_iload_n (pc := 100) (i := 1) dL_saysKind_100 rfl rfl ?_
            refine v_bipush (pc := 101) (v := (116 : Int32)) dL_saysKind_101 rfl ?_
            refine v_bipush (pc := 103) (v := (97 : Int32)) dL_saysKind_103 rfl ?_
            refine v_bipush (pc := 105) (v := (98 : Int32)) dL_saysKind_105 rfl ?_
            refine v_bipush (pc := 107) (v := (108 : Int32)) dL_saysKind_107 rfl ?_
            refine v_bipush (pc := 109) (v := (101 : Int32)) dL_saysKind_109 rfl ?_
            refine v_iconst (pc := 111) (v := (0 : Int32)) dL_saysKind_111 rfl ?_
            refine ch_S (pc := 112) gI (as := [sr a0, si a1, si (116 : Int32), si (97 : Int32), si (98 : Int32), si (108 : Int32), si (101 : Int32), si (0 : Int32)]) (st := []) (N := mL_says) (k := 0) (n := 0) (k1 := 0) (n1 := 0) dL_saysKind_112 lkL_20 caL_says csL_says rfl (fun Q1 hq => tL_says a0 a1 (116 : Int32) (97 : Int32) (98 : Int32) (108 : Int32) (101 : Int32) (0 : Int32) h Q1 hq) ⟨by decide, by decide⟩ (Nat.le_of_ble_eq_true rfl) rfl hF (fun x3 h4 hF => ?_)
            show gV G mL_saysKind 1 Q 115 [some (sr a0), some (si a1), some (si a2)] [si x3] (0) (0) h4
            refine v_goto (pc := 115) 132 dL_saysKind_115 rfl ?_
            exact v_iret (pc := 132) dL_saysKind_132 rfl rfl (okr hF fun q => q)
          replace hF := (okB_if hF).1 hc
          refine v_aload_n (pc := 78) (i := 0) dL_saysKind_78 rfl rfl ?_
          refine v_iload_n (pc := 79) (i := 1) dL_saysKind_79 rfl rfl ?_
          refine v_bipush (pc := 80) (v := (101 : Int32)) dL_saysKind_80 rfl ?_
          refine v_bipush (pc := 82) (v := (100 : Int32)) dL_saysKind_82 rfl ?_
          refine v_bipush (pc := 84) (v := (105 : Int32)) dL_saysKind_84 rfl ?_
          refine v_bipush (pc := 86) (v := (116 : Int32)) dL_saysKind_86 rfl ?_
          refine v_iconst (pc := 88) (v := (0 : Int32)) dL_saysKind_88 rfl ?_
          refine v_iconst (pc := 89) (v := (0 : Int32)) dL_saysKind_89 rfl ?_
          refine ch_S (pc := 90) gI (as := [sr a0, si a1, si (101 : Int32), si (100 : Int32), si (105 : Int32), si (116 : Int32), si (0 : Int32), si (0 : Int32)]) (st := []) (N := mL_says) (k := 0) (n := 0) (k1 := 0) (n1 := 0) dL_saysKind_90 lkL_20 caL_says csL_says rfl (fun Q1 hq => tL_says a0 a1 (101 : Int32) (100 : Int32) (105 : Int32) (116 : Int32) (0 : Int32) (0 : Int32) h Q1 hq) ⟨by decide, by decide⟩ (Nat.le_of_ble_eq_true rfl) rfl hF (fun x5 h6 hF => ?_)
          show gV G mL_saysKind 1 Q 93 [some (sr a0), some (si a1), some (si a2)] [si x5] (0) (0) h6
          exact v_iret (pc := 93) dL_saysKind_93 rfl rfl (okr hF fun q => q)
        replace hF := (okB_if hF).1 hc
        refine v_aload_n (pc := 56) (i := 0) dL_saysKind_56 rfl rfl ?_
        refine v_iload_n (pc := 57) (i := 1) dL_saysKind_57 rfl rfl ?_
        refine v_bipush (pc := 58) (v := (99 : Int32)) dL_saysKind_58 rfl ?_
        refine v_bipush (pc := 60) (v := (104 : Int32)) dL_saysKind_60 rfl ?_
        refine v_bipush (pc := 62) (v := (101 : Int32)) dL_saysKind_62 rfl ?_
        refine v_bipush (pc := 64) (v := (99 : Int32)) dL_saysKind_64 rfl ?_
        refine v_bipush (pc := 66) (v := (107 : Int32)) dL_saysKind_66 rfl ?_
        refine v_iconst (pc := 68) (v := (0 : Int32)) dL_saysKind_68 rfl ?_
        refine ch_S (pc := 69) gI (as := [sr a0, si a1, si (99 : Int32), si (104 : Int32), si (101 : Int32), si (99 : Int32), si (107 : Int32), si (0 : Int32)]) (st := []) (N := mL_says) (k := 0) (n := 0) (k1 := 0) (n1 := 0) dL_saysKind_69 lkL_20 caL_says csL_says rfl (fun Q1 hq => tL_says a0 a1 (99 : Int32) (104 : Int32) (101 : Int32) (99 : Int32) (107 : Int32) (0 : Int32) h Q1 hq) ⟨by decide, by decide⟩ (Nat.le_of_ble_eq_true rfl) rfl hF (fun x7 h8 hF => ?_)
        show gV G mL_saysKind 1 Q 72 [some (sr a0), some (si a1), some (si a2)] [si x7] (0) (0) h8
        exact v_iret (pc := 72) dL_saysKind_72 rfl rfl (okr hF fun q => q)
      replace hF := (okB_if hF).1 hc
      refine v_aload_n (pc := 33) (i := 0) dL_saysKind_33 rfl rfl ?_
      refine v_iload_n (pc := 34) (i := 1) dL_saysKind_34 rfl rfl ?_
      refine v_bipush (pc := 35) (v := (98 : Int32)) dL_saysKind_35 rfl ?_
      refine v_bipush (pc := 37) (v := (117 : Int32)) dL_saysKind_37 rfl ?_
      refine v_bipush (pc := 39) (v := (116 : Int32)) dL_saysKind_39 rfl ?_
      refine v_bipush (pc := 41) (v := (116 : Int32)) dL_saysKind_41 rfl ?_
      refine v_bipush (pc := 43) (v := (111 : Int32)) dL_saysKind_43 rfl ?_
      refine v_bipush (pc := 45) (v := (110 : Int32)) dL_saysKind_45 rfl ?_
      refine ch_S (pc := 47) gI (as := [sr a0, si a1, si (98 : Int32), si (117 : Int32), si (116 : Int32), si (116 : Int32), si (111 : Int32), si (110 : Int32)]) (st := []) (N := mL_says) (k := 0) (n := 0) (k1 := 0) (n1 := 0) dL_saysKind_47 lkL_20 caL_says csL_says rfl (fun Q1 hq => tL_says a0 a1 (98 : Int32) (117 : Int32) (116 : Int32) (116 : Int32) (111 : Int32) (110 : Int32) h Q1 hq) ⟨by decide, by decide⟩ (Nat.le_of_ble_eq_true rfl) rfl hF (fun x9 h10 hF => ?_)
      show gV G mL_saysKind 1 Q 50 [some (sr a0), some (si a1), some (si a2)] [si x9] (0) (0) h10
      exact v_iret (pc := 50) dL_saysKind_50 rfl rfl (okr hF fun q => q)
    replace hF := (okB_if hF).1 hc
    refine v_aload_n (pc := 11) (i := 0) dL_saysKind_11 rfl rfl ?_
    refine v_iload_n (pc := 12) (i := 1) dL_saysKind_12 rfl rfl ?_
    refine v_bipush (pc := 13) (v := (103 : Int32)) dL_saysKind_13 rfl ?_
    refine v_bipush (pc := 15) (v := (114 : Int32)) dL_saysKind_15 rfl ?_
    refine v_bipush (pc := 17) (v := (111 : Int32)) dL_saysKind_17 rfl ?_
    refine v_bipush (pc := 19) (v := (117 : Int32)) dL_saysKind_19 rfl ?_
    refine v_bipush (pc := 21) (v := (112 : Int32)) dL_saysKind_21 rfl ?_
    refine v_iconst (pc := 23) (v := (0 : Int32)) dL_saysKind_23 rfl ?_
    refine ch_S (pc := 24) gI (as := [sr a0, si a1, si (103 : Int32), si (114 : Int32), si (111 : Int32), si (117 : Int32), si (112 : Int32), si (0 : Int32)]) (st := []) (N := mL_says) (k := 0) (n := 0) (k1 := 0) (n1 := 0) dL_saysKind_24 lkL_20 caL_says csL_says rfl (fun Q1 hq => tL_says a0 a1 (103 : Int32) (114 : Int32) (111 : Int32) (117 : Int32) (112 : Int32) (0 : Int32) h Q1 hq) ⟨by decide, by decide⟩ (Nat.le_of_ble_eq_true rfl) rfl hF (fun x11 h12 hF => ?_)
    show gV G mL_saysKind 1 Q 27 [some (sr a0), some (si a1), some (si a2)] [si x11] (0) (0) h12
    exact v_iret (pc := 27) dL_saysKind_27 rfl rfl (okr hF fun q => q)
  replace hF := (okB_if hF).1 hc
  refine v_iload_n (pc := 5) (i := 1) dL_saysKind_5 rfl rfl ?_
  exact v_iret (pc := 6) dL_saysKind_6 rfl rfl (okr hF fun q => q)
/-! BrailleDeskLaw.nameMany -/
theorem tL_nameMany {G : gG} (a0 : Int64) (h : hp) (Q : hQ) (hF : okB (fL_nameMany a0) (pP gI Q h)) : gS G mL_nameMany 0 0 0 [sl a0] h Q := by
  delta fL_nameMany at hF
  refine gS_at [some (sl a0), none] pl_L rfl (Nat.le_of_ble_eq_true rfl) rfl ?_
  refine v_lload_n (pc := 0) (i := 0) dL_nameMany_0 rfl rfl ?_
  refine v_lconst (pc := 1) (v := (0 : Int64)) dL_nameMany_1 rfl ?_
  refine v_lcmp (pc := 2) dL_nameMany_2 ?_
  refine v_if_ne (pc := 3) 10 dL_nameMany_3 rfl (fun hc => ?_) (fun hc => ?_)
  · replace hF := (okB_if hF).2 hc
    refine v_lload_n (pc := 10) (i := 0) dL_nameMany_10 rfl rfl ?_
    refine v_ldc2 (pc := 11) (v := (1048576 : Int64)) dL_nameMany_11 clL_24 ?_
    refine v_lcmp (pc := 14) dL_nameMany_14 ?_
    refine v_if_ge (pc := 15) 22 dL_nameMany_15 rfl (fun hc => ?_) (fun hc => ?_)
    · replace hF := (okB_if hF).1 hc
      refine v_lload_n (pc := 22) (i := 0) dL_nameMany_22 rfl rfl ?_
      refine v_ldc2 (pc := 23) (v := (1099511627776 : Int64)) dL_nameMany_23 clL_26 ?_
      refine v_lcmp (pc := 26) dL_nameMany_26 ?_
      refine v_if_ge (pc := 27) 34 dL_nameMany_27 rfl (fun hc => ?_) (fun hc => ?_)
      · replace hF := (okB_if hF).1 hc
        refine v_iconst (pc := 34) (v := (3 : Int32)) dL_nameMany_34 rfl ?_
        exact v_iret (pc := 35) dL_nameMany_35 rfl rfl (okr hF fun q => q)
      replace hF := (okB_if hF).2 hc
      refine v_iconst (pc := 30) (v := (2 : Int32)) dL_nameMany_30 rfl ?_
      refine v_goto (pc := 31) 35 dL_nameMany_31 rfl ?_
      exact v_iret (pc := 35) dL_nameMany_35 rfl rfl (okr hF fun q => q)
    replace hF := (okB_if hF).2 hc
    refine v_iconst (pc := 18) (v := (1 : Int32)) dL_nameMany_18 rfl ?_
    refine v_goto (pc := 19) 35 dL_nameMany_19 rfl ?_
    exact v_iret (pc := 35) dL_nameMany_35 rfl rfl (okr hF fun q => q)
  replace hF := (okB_if hF).1 hc
  refine v_iconst (pc := 6) (v := (0 : Int32)) dL_nameMany_6 rfl ?_
  refine v_goto (pc := 7) 35 dL_nameMany_7 rfl ?_
  exact v_iret (pc := 35) dL_nameMany_35 rfl rfl (okr hF fun q => q)
/-! BrailleDeskLaw.typed -/
theorem tL_typed {G : gG} (a0 : (Option Nat)) (a1 : Int32) (a2 : Int32) (h : hp) (Q : hQ) (hF : okB (fL_typed a0 a1 a2 h) (pP gI Q h)) : gS G mL_typed 0 0 0 [sr a0, si a1, si a2] h Q := by
  delta fL_typed at hF
  refine gS_at [some (sr a0), some (si a1), some (si a2)] pl_L rfl (Nat.le_of_ble_eq_true rfl) rfl ?_
  refine v_aload_n (pc := 0) (i := 0) dL_typed_0 rfl rfl ?_
  refine v_iconst (pc := 1) (v := (2 : Int32)) dL_typed_1 rfl ?_
  refine v_iload_n (pc := 2) (i := 1) dL_typed_2 rfl rfl ?_
  refine v_imul (pc := 3) dL_typed_3 ?_
  refine v_iload_n (pc := 4) (i := 2) dL_typed_4 rfl rfl ?_
  refine v_bipush (pc := 5) (v := (6 : Int32)) dL_typed_5 rfl ?_
  refine s_idiv (pc := 7) dL_typed_7 hF (fun hF => ?_)
  refine v_iadd (pc := 8) dL_typed_8 ?_
  refine s_lald (pc := 9) dL_typed_9 hF (fun x1 hF => ?_)
  refine v_bipush (pc := 10) (v := (7 : Int32)) dL_typed_10 rfl ?_
  refine v_iload_n (pc := 12) (i := 2) dL_typed_12 rfl rfl ?_
  refine v_bipush (pc := 13) (v := (6 : Int32)) dL_typed_13 rfl ?_
  refine s_irem (pc := 15) dL_typed_15 hF (fun hF => ?_)
  refine v_imul (pc := 16) dL_typed_16 ?_
  refine v_lshr (pc := 17) dL_typed_17 ?_
  refine v_ldc2 (pc := 18) (v := (127 : Int64)) dL_typed_18 clL_28 ?_
  refine v_land (pc := 21) dL_typed_21 ?_
  refine v_l2i (pc := 22) dL_typed_22 ?_
  exact v_iret (pc := 23) dL_typed_23 rfl rfl (okr hF fun q => q)

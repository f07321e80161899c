/-! ===== methods: their functions and rows ===== -/
theorem dX5_say_0 : decode cX5_say 0 = .ok (.aload_n 0, 1) := by decide +kernel
theorem dX5_say_1 : decode cX5_say 1 = .ok (.getfield 38, 3) := by decide +kernel
theorem dX5_say_4 : decode cX5_say 4 = .ok (.invokevirtual 63, 3) := by decide +kernel
theorem dX5_say_7 : decode cX5_say 7 = .ok (.aload_n 0, 1) := by decide +kernel
theorem dX5_say_8 : decode cX5_say 8 = .ok (.getfield 38, 3) := by decide +kernel
theorem dX5_say_11 : decode cX5_say 11 = .ok (.aload_n 1, 1) := by decide +kernel
theorem dX5_say_12 : decode cX5_say 12 = .ok (.invokevirtual 88, 3) := by decide +kernel
theorem dX5_say_15 : decode cX5_say 15 = .ok (.aload_n 0, 1) := by decide +kernel
theorem dX5_say_16 : decode cX5_say 16 = .ok (.getfield 15, 3) := by decide +kernel
theorem dX5_say_19 : decode cX5_say 19 = .ok (.aload_n 0, 1) := by decide +kernel
theorem dX5_say_20 : decode cX5_say 20 = .ok (.getfield 38, 3) := by decide +kernel
theorem dX5_say_23 : decode cX5_say 23 = .ok (.invokevirtual 158, 3) := by decide +kernel
theorem dX5_say_26 : decode cX5_say 26 = .ok (.return_, 1) := by decide +kernel
theorem dX5_putHeads_0 : decode cX5_putHeads 0 = .ok (.aload_n 2, 1) := by decide +kernel
theorem dX5_putHeads_1 : decode cX5_putHeads 1 = .ok (.getfield 119, 3) := by decide +kernel
theorem dX5_putHeads_4 : decode cX5_putHeads 4 = .ok (.astore_n 3, 1) := by decide +kernel
theorem dX5_putHeads_5 : decode cX5_putHeads 5 = .ok (.aload_n 1, 1) := by decide +kernel
theorem dX5_putHeads_6 : decode cX5_putHeads 6 = .ok (.getfield 119, 3) := by decide +kernel
theorem dX5_putHeads_9 : decode cX5_putHeads 9 = .ok (.astore 4, 2) := by decide +kernel
theorem dX5_putHeads_11 : decode cX5_putHeads 11 = .ok (.aload_n 1, 1) := by decide +kernel
theorem dX5_putHeads_12 : decode cX5_putHeads 12 = .ok (.aload_n 2, 1) := by decide +kernel
theorem dX5_putHeads_13 : decode cX5_putHeads 13 = .ok (.if_acmp .eq 31, 3) := by decide +kernel
theorem dX5_putHeads_16 : decode cX5_putHeads 16 = .ok (.aload_n 3, 1) := by decide +kernel
theorem dX5_putHeads_17 : decode cX5_putHeads 17 = .ok (.ifnull 27, 3) := by decide +kernel
theorem dX5_putHeads_20 : decode cX5_putHeads 20 = .ok (.aload 4, 2) := by decide +kernel
theorem dX5_putHeads_22 : decode cX5_putHeads 22 = .ok (.ifnull 22, 3) := by decide +kernel
theorem dX5_putHeads_25 : decode cX5_putHeads 25 = .ok (.aload_n 3, 1) := by decide +kernel
theorem dX5_putHeads_26 : decode cX5_putHeads 26 = .ok (.getfield 172, 3) := by decide +kernel
theorem dX5_putHeads_29 : decode cX5_putHeads 29 = .ok (.bipush 6, 2) := by decide +kernel
theorem dX5_putHeads_31 : decode cX5_putHeads 31 = .ok (.if_icmp .ne 13, 3) := by decide +kernel
theorem dX5_putHeads_34 : decode cX5_putHeads 34 = .ok (.aload 4, 2) := by decide +kernel
theorem dX5_putHeads_36 : decode cX5_putHeads 36 = .ok (.getfield 172, 3) := by decide +kernel
theorem dX5_putHeads_39 : decode cX5_putHeads 39 = .ok (.bipush 6, 2) := by decide +kernel
theorem dX5_putHeads_41 : decode cX5_putHeads 41 = .ok (.if_icmp .eq 4, 3) := by decide +kernel
theorem dX5_putHeads_44 : decode cX5_putHeads 44 = .ok (.return_, 1) := by decide +kernel
theorem dX5_putHeads_45 : decode cX5_putHeads 45 = .ok (.aload_n 3, 1) := by decide +kernel
theorem dX5_putHeads_46 : decode cX5_putHeads 46 = .ok (.getfield 119, 3) := by decide +kernel
theorem dX5_putHeads_49 : decode cX5_putHeads 49 = .ok (.astore 5, 2) := by decide +kernel
theorem dX5_putHeads_51 : decode cX5_putHeads 51 = .ok (.aload 5, 2) := by decide +kernel
theorem dX5_putHeads_53 : decode cX5_putHeads 53 = .ok (.ifnull 20, 3) := by decide +kernel
theorem dX5_putHeads_56 : decode cX5_putHeads 56 = .ok (.aload 5, 2) := by decide +kernel
theorem dX5_putHeads_58 : decode cX5_putHeads 58 = .ok (.aload 4, 2) := by decide +kernel
theorem dX5_putHeads_60 : decode cX5_putHeads 60 = .ok (.getfield 119, 3) := by decide +kernel
theorem dX5_putHeads_63 : decode cX5_putHeads 63 = .ok (.if_acmp .ne 10, 3) := by decide +kernel
theorem dX5_putHeads_66 : decode cX5_putHeads 66 = .ok (.aload_n 2, 1) := by decide +kernel
theorem dX5_putHeads_67 : decode cX5_putHeads 67 = .ok (.invokevirtual 175, 3) := by decide +kernel
theorem dX5_putHeads_70 : decode cX5_putHeads 70 = .ok (.ifCond .ne 4, 3) := by decide +kernel
theorem dX5_putHeads_73 : decode cX5_putHeads 73 = .ok (.return_, 1) := by decide +kernel
theorem dX5_putHeads_74 : decode cX5_putHeads 74 = .ok (.aload_n 3, 1) := by decide +kernel
theorem dX5_putHeads_75 : decode cX5_putHeads 75 = .ok (.iconst 0, 1) := by decide +kernel
theorem dX5_putHeads_76 : decode cX5_putHeads 76 = .ok (.invokevirtual 179, 3) := by decide +kernel
theorem dX5_putHeads_79 : decode cX5_putHeads 79 = .ok (.astore 6, 2) := by decide +kernel
theorem dX5_putHeads_81 : decode cX5_putHeads 81 = .ok (.aload_n 3, 1) := by decide +kernel
theorem dX5_putHeads_82 : decode cX5_putHeads 82 = .ok (.aload 4, 2) := by decide +kernel
theorem dX5_putHeads_84 : decode cX5_putHeads 84 = .ok (.if_acmp .eq 26, 3) := by decide +kernel
theorem dX5_putHeads_87 : decode cX5_putHeads 87 = .ok (.aload 6, 2) := by decide +kernel
theorem dX5_putHeads_89 : decode cX5_putHeads 89 = .ok (.ifnull 21, 3) := by decide +kernel
theorem dX5_putHeads_92 : decode cX5_putHeads 92 = .ok (.aload 6, 2) := by decide +kernel
theorem dX5_putHeads_94 : decode cX5_putHeads 94 = .ok (.aload_n 2, 1) := by decide +kernel
theorem dX5_putHeads_95 : decode cX5_putHeads 95 = .ok (.if_acmp .eq 15, 3) := by decide +kernel
theorem dX5_putHeads_98 : decode cX5_putHeads 98 = .ok (.aload_n 0, 1) := by decide +kernel
theorem dX5_putHeads_99 : decode cX5_putHeads 99 = .ok (.getfield 38, 3) := by decide +kernel
theorem dX5_putHeads_102 : decode cX5_putHeads 102 = .ok (.aload 6, 2) := by decide +kernel
theorem dX5_putHeads_104 : decode cX5_putHeads 104 = .ok (.getfield 182, 3) := by decide +kernel
theorem dX5_putHeads_107 : decode cX5_putHeads 107 = .ok (.invokevirtual 185, 3) := by decide +kernel
theorem dX5_putHeads_110 : decode cX5_putHeads 110 = .ok (.aload_n 3, 1) := by decide +kernel
theorem dX5_putHeads_111 : decode cX5_putHeads 111 = .ok (.aload_n 2, 1) := by decide +kernel
theorem dX5_putHeads_112 : decode cX5_putHeads 112 = .ok (.invokevirtual 187, 3) := by decide +kernel
theorem dX5_putHeads_115 : decode cX5_putHeads 115 = .ok (.istore 7, 2) := by decide +kernel
theorem dX5_putHeads_117 : decode cX5_putHeads 117 = .ok (.aload 5, 2) := by decide +kernel
theorem dX5_putHeads_119 : decode cX5_putHeads 119 = .ok (.iconst 0, 1) := by decide +kernel
theorem dX5_putHeads_120 : decode cX5_putHeads 120 = .ok (.invokevirtual 179, 3) := by decide +kernel
theorem dX5_putHeads_123 : decode cX5_putHeads 123 = .ok (.astore 8, 2) := by decide +kernel
theorem dX5_putHeads_125 : decode cX5_putHeads 125 = .ok (.aload 8, 2) := by decide +kernel
theorem dX5_putHeads_127 : decode cX5_putHeads 127 = .ok (.ifnonnull 7, 3) := by decide +kernel
theorem dX5_putHeads_130 : decode cX5_putHeads 130 = .ok (.aconst_null, 1) := by decide +kernel
theorem dX5_putHeads_131 : decode cX5_putHeads 131 = .ok (.goto 10, 3) := by decide +kernel
theorem dX5_putHeads_134 : decode cX5_putHeads 134 = .ok (.aload 8, 2) := by decide +kernel
theorem dX5_putHeads_136 : decode cX5_putHeads 136 = .ok (.iload 7, 2) := by decide +kernel
theorem dX5_putHeads_138 : decode cX5_putHeads 138 = .ok (.invokevirtual 179, 3) := by decide +kernel
theorem dX5_putHeads_141 : decode cX5_putHeads 141 = .ok (.astore 9, 2) := by decide +kernel
theorem dX5_putHeads_143 : decode cX5_putHeads 143 = .ok (.iload 7, 2) := by decide +kernel
theorem dX5_putHeads_145 : decode cX5_putHeads 145 = .ok (.aload 4, 2) := by decide +kernel
theorem dX5_putHeads_147 : decode cX5_putHeads 147 = .ok (.aload_n 1, 1) := by decide +kernel
theorem dX5_putHeads_148 : decode cX5_putHeads 148 = .ok (.invokevirtual 187, 3) := by decide +kernel
theorem dX5_putHeads_151 : decode cX5_putHeads 151 = .ok (.if_icmp .eq 26, 3) := by decide +kernel
theorem dX5_putHeads_154 : decode cX5_putHeads 154 = .ok (.aload 9, 2) := by decide +kernel
theorem dX5_putHeads_156 : decode cX5_putHeads 156 = .ok (.ifnull 21, 3) := by decide +kernel
theorem dX5_putHeads_159 : decode cX5_putHeads 159 = .ok (.aload 9, 2) := by decide +kernel
theorem dX5_putHeads_161 : decode cX5_putHeads 161 = .ok (.aload_n 2, 1) := by decide +kernel
theorem dX5_putHeads_162 : decode cX5_putHeads 162 = .ok (.if_acmp .eq 15, 3) := by decide +kernel
theorem dX5_putHeads_165 : decode cX5_putHeads 165 = .ok (.aload_n 0, 1) := by decide +kernel
theorem dX5_putHeads_166 : decode cX5_putHeads 166 = .ok (.getfield 38, 3) := by decide +kernel
theorem dX5_putHeads_169 : decode cX5_putHeads 169 = .ok (.aload 9, 2) := by decide +kernel
theorem dX5_putHeads_171 : decode cX5_putHeads 171 = .ok (.getfield 182, 3) := by decide +kernel
theorem dX5_putHeads_174 : decode cX5_putHeads 174 = .ok (.invokevirtual 185, 3) := by decide +kernel
theorem dX5_putHeads_177 : decode cX5_putHeads 177 = .ok (.return_, 1) := by decide +kernel
theorem dX5_goTo_0 : decode cX5_goTo 0 = .ok (.aload_n 1, 1) := by decide +kernel
theorem dX5_goTo_1 : decode cX5_goTo 1 = .ok (.ifnonnull 9, 3) := by decide +kernel
theorem dX5_goTo_4 : decode cX5_goTo 4 = .ok (.aload_n 0, 1) := by decide +kernel
theorem dX5_goTo_5 : decode cX5_goTo 5 = .ok (.aload_n 2, 1) := by decide +kernel
theorem dX5_goTo_6 : decode cX5_goTo 6 = .ok (.invokevirtual 161, 3) := by decide +kernel
theorem dX5_goTo_9 : decode cX5_goTo 9 = .ok (.return_, 1) := by decide +kernel
theorem dX5_goTo_10 : decode cX5_goTo 10 = .ok (.aload_n 0, 1) := by decide +kernel
theorem dX5_goTo_11 : decode cX5_goTo 11 = .ok (.getfield 48, 3) := by decide +kernel
theorem dX5_goTo_14 : decode cX5_goTo 14 = .ok (.astore_n 3, 1) := by decide +kernel
theorem dX5_goTo_15 : decode cX5_goTo 15 = .ok (.aload_n 0, 1) := by decide +kernel
theorem dX5_goTo_16 : decode cX5_goTo 16 = .ok (.getfield 29, 3) := by decide +kernel
theorem dX5_goTo_19 : decode cX5_goTo 19 = .ok (.invokevirtual 79, 3) := by decide +kernel
theorem dX5_goTo_22 : decode cX5_goTo 22 = .ok (.aload_n 0, 1) := by decide +kernel
theorem dX5_goTo_23 : decode cX5_goTo 23 = .ok (.aload_n 1, 1) := by decide +kernel
theorem dX5_goTo_24 : decode cX5_goTo 24 = .ok (.invokevirtual 82, 3) := by decide +kernel
theorem dX5_goTo_27 : decode cX5_goTo 27 = .ok (.aload_n 0, 1) := by decide +kernel
theorem dX5_goTo_28 : decode cX5_goTo 28 = .ok (.getfield 38, 3) := by decide +kernel
theorem dX5_goTo_31 : decode cX5_goTo 31 = .ok (.invokevirtual 63, 3) := by decide +kernel
theorem dX5_goTo_34 : decode cX5_goTo 34 = .ok (.aload_n 0, 1) := by decide +kernel
theorem dX5_goTo_35 : decode cX5_goTo 35 = .ok (.aload_n 3, 1) := by decide +kernel
theorem dX5_goTo_36 : decode cX5_goTo 36 = .ok (.aload_n 1, 1) := by decide +kernel
theorem dX5_goTo_37 : decode cX5_goTo 37 = .ok (.invokevirtual 164, 3) := by decide +kernel
theorem dX5_goTo_40 : decode cX5_goTo 40 = .ok (.aload_n 1, 1) := by decide +kernel
theorem dX5_goTo_41 : decode cX5_goTo 41 = .ok (.aload_n 0, 1) := by decide +kernel
theorem dX5_goTo_42 : decode cX5_goTo 42 = .ok (.getfield 38, 3) := by decide +kernel
theorem dX5_goTo_45 : decode cX5_goTo 45 = .ok (.invokevirtual 66, 3) := by decide +kernel
theorem dX5_goTo_48 : decode cX5_goTo 48 = .ok (.aload_n 0, 1) := by decide +kernel
theorem dX5_goTo_49 : decode cX5_goTo 49 = .ok (.getfield 15, 3) := by decide +kernel
theorem dX5_goTo_52 : decode cX5_goTo 52 = .ok (.aload_n 0, 1) := by decide +kernel
theorem dX5_goTo_53 : decode cX5_goTo 53 = .ok (.getfield 38, 3) := by decide +kernel
theorem dX5_goTo_56 : decode cX5_goTo 56 = .ok (.invokevirtual 158, 3) := by decide +kernel
theorem dX5_goTo_59 : decode cX5_goTo 59 = .ok (.return_, 1) := by decide +kernel
theorem dX5_firstShownChild_0 : decode cX5_firstShownChild 0 = .ok (.iconst 0, 1) := by decide +kernel
theorem dX5_firstShownChild_1 : decode cX5_firstShownChild 1 = .ok (.istore_n 1, 1) := by decide +kernel
theorem dX5_firstShownChild_2 : decode cX5_firstShownChild 2 = .ok (.iload_n 1, 1) := by decide +kernel
theorem dX5_firstShownChild_3 : decode cX5_firstShownChild 3 = .ok (.aload_n 0, 1) := by decide +kernel
theorem dX5_firstShownChild_4 : decode cX5_firstShownChild 4 = .ok (.getfield 48, 3) := by decide +kernel
theorem dX5_firstShownChild_7 : decode cX5_firstShownChild 7 = .ok (.invokevirtual 190, 3) := by decide +kernel
theorem dX5_firstShownChild_10 : decode cX5_firstShownChild 10 = .ok (.if_icmp .ge 24, 3) := by decide +kernel
theorem dX5_firstShownChild_13 : decode cX5_firstShownChild 13 = .ok (.aload_n 0, 1) := by decide +kernel
theorem dX5_firstShownChild_14 : decode cX5_firstShownChild 14 = .ok (.getfield 48, 3) := by decide +kernel
theorem dX5_firstShownChild_17 : decode cX5_firstShownChild 17 = .ok (.iload_n 1, 1) := by decide +kernel
theorem dX5_firstShownChild_18 : decode cX5_firstShownChild 18 = .ok (.invokevirtual 193, 3) := by decide +kernel
theorem dX5_firstShownChild_21 : decode cX5_firstShownChild 21 = .ok (.astore_n 2, 1) := by decide +kernel
theorem dX5_firstShownChild_22 : decode cX5_firstShownChild 22 = .ok (.aload_n 2, 1) := by decide +kernel
theorem dX5_firstShownChild_23 : decode cX5_firstShownChild 23 = .ok (.ifnull 5, 3) := by decide +kernel
theorem dX5_firstShownChild_26 : decode cX5_firstShownChild 26 = .ok (.aload_n 2, 1) := by decide +kernel
theorem dX5_firstShownChild_27 : decode cX5_firstShownChild 27 = .ok (.areturn, 1) := by decide +kernel
theorem dX5_firstShownChild_28 : decode cX5_firstShownChild 28 = .ok (.iinc 1 1, 3) := by decide +kernel
theorem dX5_firstShownChild_31 : decode cX5_firstShownChild 31 = .ok (.goto (-29), 3) := by decide +kernel
theorem dX5_firstShownChild_34 : decode cX5_firstShownChild 34 = .ok (.aconst_null, 1) := by decide +kernel
theorem dX5_firstShownChild_35 : decode cX5_firstShownChild 35 = .ok (.areturn, 1) := by decide +kernel
theorem dX5_cellInOtherRow_0 : decode cX5_cellInOtherRow 0 = .ok (.aload_n 0, 1) := by decide +kernel
theorem dX5_cellInOtherRow_1 : decode cX5_cellInOtherRow 1 = .ok (.getfield 48, 3) := by decide +kernel
theorem dX5_cellInOtherRow_4 : decode cX5_cellInOtherRow 4 = .ok (.getfield 119, 3) := by decide +kernel
theorem dX5_cellInOtherRow_7 : decode cX5_cellInOtherRow 7 = .ok (.astore_n 2, 1) := by decide +kernel
theorem dX5_cellInOtherRow_8 : decode cX5_cellInOtherRow 8 = .ok (.aload_n 2, 1) := by decide +kernel
theorem dX5_cellInOtherRow_9 : decode cX5_cellInOtherRow 9 = .ok (.ifnull 19, 3) := by decide +kernel
theorem dX5_cellInOtherRow_12 : decode cX5_cellInOtherRow 12 = .ok (.aload_n 2, 1) := by decide +kernel
theorem dX5_cellInOtherRow_13 : decode cX5_cellInOtherRow 13 = .ok (.getfield 172, 3) := by decide +kernel
theorem dX5_cellInOtherRow_16 : decode cX5_cellInOtherRow 16 = .ok (.bipush 6, 2) := by decide +kernel
theorem dX5_cellInOtherRow_18 : decode cX5_cellInOtherRow 18 = .ok (.if_icmp .ne 10, 3) := by decide +kernel
theorem dX5_cellInOtherRow_21 : decode cX5_cellInOtherRow 21 = .ok (.aload_n 2, 1) := by decide +kernel
theorem dX5_cellInOtherRow_22 : decode cX5_cellInOtherRow 22 = .ok (.getfield 119, 3) := by decide +kernel
theorem dX5_cellInOtherRow_25 : decode cX5_cellInOtherRow 25 = .ok (.ifnonnull 5, 3) := by decide +kernel
theorem dX5_cellInOtherRow_28 : decode cX5_cellInOtherRow 28 = .ok (.aconst_null, 1) := by decide +kernel
theorem dX5_cellInOtherRow_29 : decode cX5_cellInOtherRow 29 = .ok (.areturn, 1) := by decide +kernel
theorem dX5_cellInOtherRow_30 : decode cX5_cellInOtherRow 30 = .ok (.aload_n 2, 1) := by decide +kernel
theorem dX5_cellInOtherRow_31 : decode cX5_cellInOtherRow 31 = .ok (.getfield 119, 3) := by decide +kernel
theorem dX5_cellInOtherRow_34 : decode cX5_cellInOtherRow 34 = .ok (.astore_n 3, 1) := by decide +kernel
theorem dX5_cellInOtherRow_35 : decode cX5_cellInOtherRow 35 = .ok (.aload_n 2, 1) := by decide +kernel
theorem dX5_cellInOtherRow_36 : decode cX5_cellInOtherRow 36 = .ok (.aload_n 0, 1) := by decide +kernel
theorem dX5_cellInOtherRow_37 : decode cX5_cellInOtherRow 37 = .ok (.getfield 48, 3) := by decide +kernel
theorem dX5_cellInOtherRow_40 : decode cX5_cellInOtherRow 40 = .ok (.invokevirtual 187, 3) := by decide +kernel
theorem dX5_cellInOtherRow_43 : decode cX5_cellInOtherRow 43 = .ok (.istore 4, 2) := by decide +kernel
theorem dX5_cellInOtherRow_45 : decode cX5_cellInOtherRow 45 = .ok (.aload_n 3, 1) := by decide +kernel
theorem dX5_cellInOtherRow_46 : decode cX5_cellInOtherRow 46 = .ok (.aload_n 2, 1) := by decide +kernel
theorem dX5_cellInOtherRow_47 : decode cX5_cellInOtherRow 47 = .ok (.invokevirtual 187, 3) := by decide +kernel
theorem dX5_cellInOtherRow_50 : decode cX5_cellInOtherRow 50 = .ok (.istore 5, 2) := by decide +kernel
theorem dX5_cellInOtherRow_52 : decode cX5_cellInOtherRow 52 = .ok (.iconst 1, 1) := by decide +kernel
theorem dX5_cellInOtherRow_53 : decode cX5_cellInOtherRow 53 = .ok (.istore 6, 2) := by decide +kernel
theorem dX5_cellInOtherRow_55 : decode cX5_cellInOtherRow 55 = .ok (.iload 6, 2) := by decide +kernel
theorem dX5_cellInOtherRow_57 : decode cX5_cellInOtherRow 57 = .ok (.bipush 10, 2) := by decide +kernel
theorem dX5_cellInOtherRow_59 : decode cX5_cellInOtherRow 59 = .ok (.if_icmp .ge 48, 3) := by decide +kernel
theorem dX5_cellInOtherRow_62 : decode cX5_cellInOtherRow 62 = .ok (.aload_n 3, 1) := by decide +kernel
theorem dX5_cellInOtherRow_63 : decode cX5_cellInOtherRow 63 = .ok (.iload 5, 2) := by decide +kernel
theorem dX5_cellInOtherRow_65 : decode cX5_cellInOtherRow 65 = .ok (.iload 6, 2) := by decide +kernel
theorem dX5_cellInOtherRow_67 : decode cX5_cellInOtherRow 67 = .ok (.iload_n 1, 1) := by decide +kernel
theorem dX5_cellInOtherRow_68 : decode cX5_cellInOtherRow 68 = .ok (.imul, 1) := by decide +kernel
theorem dX5_cellInOtherRow_69 : decode cX5_cellInOtherRow 69 = .ok (.iadd, 1) := by decide +kernel
theorem dX5_cellInOtherRow_70 : decode cX5_cellInOtherRow 70 = .ok (.invokevirtual 193, 3) := by decide +kernel
theorem dX5_cellInOtherRow_73 : decode cX5_cellInOtherRow 73 = .ok (.astore 7, 2) := by decide +kernel
theorem dX5_cellInOtherRow_75 : decode cX5_cellInOtherRow 75 = .ok (.aload 7, 2) := by decide +kernel
theorem dX5_cellInOtherRow_77 : decode cX5_cellInOtherRow 77 = .ok (.ifnonnull 7, 3) := by decide +kernel
theorem dX5_cellInOtherRow_80 : decode cX5_cellInOtherRow 80 = .ok (.aconst_null, 1) := by decide +kernel
theorem dX5_cellInOtherRow_81 : decode cX5_cellInOtherRow 81 = .ok (.goto 10, 3) := by decide +kernel
theorem dX5_cellInOtherRow_84 : decode cX5_cellInOtherRow 84 = .ok (.aload 7, 2) := by decide +kernel
theorem dX5_cellInOtherRow_86 : decode cX5_cellInOtherRow 86 = .ok (.iload 4, 2) := by decide +kernel
theorem dX5_cellInOtherRow_88 : decode cX5_cellInOtherRow 88 = .ok (.invokevirtual 193, 3) := by decide +kernel
theorem dX5_cellInOtherRow_91 : decode cX5_cellInOtherRow 91 = .ok (.astore 8, 2) := by decide +kernel
theorem dX5_cellInOtherRow_93 : decode cX5_cellInOtherRow 93 = .ok (.aload 8, 2) := by decide +kernel
theorem dX5_cellInOtherRow_95 : decode cX5_cellInOtherRow 95 = .ok (.ifnull 6, 3) := by decide +kernel
theorem dX5_cellInOtherRow_98 : decode cX5_cellInOtherRow 98 = .ok (.aload 8, 2) := by decide +kernel
theorem dX5_cellInOtherRow_100 : decode cX5_cellInOtherRow 100 = .ok (.areturn, 1) := by decide +kernel
theorem dX5_cellInOtherRow_101 : decode cX5_cellInOtherRow 101 = .ok (.iinc 6 1, 3) := by decide +kernel
theorem dX5_cellInOtherRow_104 : decode cX5_cellInOtherRow 104 = .ok (.goto (-49), 3) := by decide +kernel
theorem dX5_cellInOtherRow_107 : decode cX5_cellInOtherRow 107 = .ok (.aconst_null, 1) := by decide +kernel
theorem dX5_cellInOtherRow_108 : decode cX5_cellInOtherRow 108 = .ok (.areturn, 1) := by decide +kernel
theorem dX5_isInRow_0 : decode cX5_isInRow 0 = .ok (.aload_n 0, 1) := by decide +kernel
theorem dX5_isInRow_1 : decode cX5_isInRow 1 = .ok (.getfield 48, 3) := by decide +kernel
theorem dX5_isInRow_4 : decode cX5_isInRow 4 = .ok (.getfield 119, 3) := by decide +kernel
theorem dX5_isInRow_7 : decode cX5_isInRow 7 = .ok (.ifnull 22, 3) := by decide +kernel
theorem dX5_isInRow_10 : decode cX5_isInRow 10 = .ok (.aload_n 0, 1) := by decide +kernel
theorem dX5_isInRow_11 : decode cX5_isInRow 11 = .ok (.getfield 48, 3) := by decide +kernel
theorem dX5_isInRow_14 : decode cX5_isInRow 14 = .ok (.getfield 119, 3) := by decide +kernel
theorem dX5_isInRow_17 : decode cX5_isInRow 17 = .ok (.getfield 172, 3) := by decide +kernel
theorem dX5_isInRow_20 : decode cX5_isInRow 20 = .ok (.bipush 6, 2) := by decide +kernel
theorem dX5_isInRow_22 : decode cX5_isInRow 22 = .ok (.if_icmp .ne 7, 3) := by decide +kernel
theorem dX5_isInRow_25 : decode cX5_isInRow 25 = .ok (.iconst 1, 1) := by decide +kernel
theorem dX5_isInRow_26 : decode cX5_isInRow 26 = .ok (.goto 4, 3) := by decide +kernel
theorem dX5_isInRow_29 : decode cX5_isInRow 29 = .ok (.iconst 0, 1) := by decide +kernel
theorem dX5_isInRow_30 : decode cX5_isInRow 30 = .ok (.ireturn, 1) := by decide +kernel
theorem dX5_takeFocus_0 : decode cX5_takeFocus 0 = .ok (.aload_n 0, 1) := by decide +kernel
theorem dX5_takeFocus_1 : decode cX5_takeFocus 1 = .ok (.getfield 48, 3) := by decide +kernel
theorem dX5_takeFocus_4 : decode cX5_takeFocus 4 = .ok (.invokevirtual 196, 3) := by decide +kernel
theorem dX5_takeFocus_7 : decode cX5_takeFocus 7 = .ok (.ifCond .eq 11, 3) := by decide +kernel
theorem dX5_takeFocus_10 : decode cX5_takeFocus 10 = .ok (.aload_n 0, 1) := by decide +kernel
theorem dX5_takeFocus_11 : decode cX5_takeFocus 11 = .ok (.aload_n 0, 1) := by decide +kernel
theorem dX5_takeFocus_12 : decode cX5_takeFocus 12 = .ok (.getfield 48, 3) := by decide +kernel
theorem dX5_takeFocus_15 : decode cX5_takeFocus 15 = .ok (.putfield 72, 3) := by decide +kernel
theorem dX5_takeFocus_18 : decode cX5_takeFocus 18 = .ok (.return_, 1) := by decide +kernel
abbrev mX5_say : gM := (yX5_say, cX5_say, 2, (Option.none : Option FieldType), [])
theorem caX5_say : cal mX5_say 1 := ⟨xw 584 (by decide +kernel) rfl, xw 36 (by decide +kernel) rfl, by decide, by decide +kernel⟩
theorem cvX5_say : calV mX5_say := ⟨xw 583 (by decide +kernel) rfl, xw 3 (by decide +kernel) rfl⟩
abbrev mX5_putHeads : gM := (yX5_putHeads, cX5_putHeads, 10, (Option.none : Option FieldType), [])
theorem caX5_putHeads : cal mX5_putHeads 2 := ⟨xw 629 (by decide +kernel) rfl, xw 36 (by decide +kernel) rfl, by decide, by decide +kernel⟩
theorem cvX5_putHeads : calV mX5_putHeads := ⟨xw 628 (by decide +kernel) rfl, xw 7 (by decide +kernel) rfl⟩
abbrev mX5_goTo : gM := (yX5_goTo, cX5_goTo, 4, (Option.none : Option FieldType), [])
theorem caX5_goTo : cal mX5_goTo 2 := ⟨xw 580 (by decide +kernel) rfl, xw 36 (by decide +kernel) rfl, by decide, by decide +kernel⟩
theorem cvX5_goTo : calV mX5_goTo := ⟨xw 579 (by decide +kernel) rfl, xw 2 (by decide +kernel) rfl⟩
abbrev mX5_firstShownChild : gM := (yX5_firstShownChild, cX5_firstShownChild, 3, (Option.some (FieldType.object "BrailleDesk$Element")), [])
theorem caX5_firstShownChild : cal mX5_firstShownChild 0 := ⟨xw 674 (by decide +kernel) rfl, xw 36 (by decide +kernel) rfl, by decide, by decide +kernel⟩
theorem cvX5_firstShownChild : calV mX5_firstShownChild := ⟨xw 673 (by decide +kernel) rfl, xw 9 (by decide +kernel) rfl⟩
abbrev mX5_cellInOtherRow : gM := (yX5_cellInOtherRow, cX5_cellInOtherRow, 9, (Option.some (FieldType.object "BrailleDesk$Element")), [])
theorem caX5_cellInOtherRow : cal mX5_cellInOtherRow 1 := ⟨xw 683 (by decide +kernel) rfl, xw 36 (by decide +kernel) rfl, by decide, by decide +kernel⟩
theorem cvX5_cellInOtherRow : calV mX5_cellInOtherRow := ⟨xw 682 (by decide +kernel) rfl, xw 10 (by decide +kernel) rfl⟩
abbrev mX5_isInRow : gM := (yX5_isInRow, cX5_isInRow, 1, (Option.some FieldType.boolean), [])
theorem caX5_isInRow : cal mX5_isInRow 0 := ⟨xw 687 (by decide +kernel) rfl, xw 36 (by decide +kernel) rfl, by decide, by decide +kernel⟩
theorem cvX5_isInRow : calV mX5_isInRow := ⟨xw 686 (by decide +kernel) rfl, xw 11 (by decide +kernel) rfl⟩
abbrev mX5_takeFocus : gM := (yX5_takeFocus, cX5_takeFocus, 1, (Option.none : Option FieldType), [])
theorem caX5_takeFocus : cal mX5_takeFocus 0 := ⟨xw 700 (by decide +kernel) rfl, xw 36 (by decide +kernel) rfl, by decide, by decide +kernel⟩
theorem cvX5_takeFocus : calV mX5_takeFocus := ⟨xw 699 (by decide +kernel) rfl, xw 12 (by decide +kernel) rfl⟩
theorem lkX5_158 : Cond.methodLink RX5 158 yX9_comeAnswer ∈ XW := xw 601 (by decide +kernel) rfl
theorem flX5_119 : fl RX5 119 1 2 := ⟨by decide, by decide, xw 96 (by decide +kernel) rfl⟩
theorem flX5_172 : fl RX5 172 1 1 := ⟨by decide, by decide, xw 92 (by decide +kernel) rfl⟩
theorem lkX5_175 : Cond.methodLink RX5 175 yX2_levelNow ∈ XW := xw 630 (by decide +kernel) rfl
theorem lkX5_179 : Cond.methodLink RX5 179 yX2_child ∈ XW := xw 631 (by decide +kernel) rfl
theorem flX5_182 : fl RX5 182 1 5 := ⟨by decide, by decide, xw 104 (by decide +kernel) rfl⟩
theorem lkX5_185 : Cond.methodLink RX5 185 yX1_part ∈ XW := xw 635 (by decide +kernel) rfl
theorem lkX5_187 : Cond.methodLink RX5 187 yX2_placeOf ∈ XW := xw 640 (by decide +kernel) rfl
theorem lkX5_164 : Cond.methodLink RX5 164 yX5_putHeads ∈ XW := xw 626 (by decide +kernel) rfl
theorem lkX5_161 : Cond.methodLink RX5 161 yX5_say ∈ XW := xw 581 (by decide +kernel) rfl
theorem lkX5_190 : Cond.methodLink RX5 190 yX2_size ∈ XW := xw 675 (by decide +kernel) rfl
theorem lkX5_193 : Cond.methodLink RX5 193 yX2_shownChild ∈ XW := xw 679 (by decide +kernel) rfl
theorem lkX5_196 : Cond.methodLink RX5 196 yX2_canHaveFocus ∈ XW := xw 701 (by decide +kernel) rfl
/-! BrailleDesk$Reader.say -/
theorem tX5_say {G : gG} (a0 : Nat) (a1 : Nat) (h : hp) (Q : hQ) (hF : okB (fX5_say a0 a1 h) (pH gU Q)) : gS G mX5_say 5 0 0 [sr (some a0), sr (some (ga G a1))] h Q := by
  delta fX5_say at hF
  refine gS_at [some (sr (some a0)), some (sr (some (ga G a1)))] pl_X5 rfl (Nat.le_of_ble_eq_true rfl) rfl ?_
  refine v_aload_n (pc := 0) (i := 0) dX5_say_0 rfl rfl ?_
  refine s_getR (pc := 1) dX5_say_1 flX5_38 rfl hF (fun x1 hF => ?_)
  refine ch_V (pc := 4) gU (as := []) (st := []) (ci := 0) (N := mX1_clear) (k := 0) (n := 0) (k1 := 0) (n1 := 0) dX5_say_4 lkX5_63 caX1_clear cvX1_clear rfl (by decide) rfl (fun b Q1 hq => tX1_clear b h Q1 hq) ⟨by decide, by decide⟩ (Nat.le_of_ble_eq_true rfl) rfl hF (fun x2 h3 hF => ?_)
  show gV G mX5_say 5 Q 7 [some (sr (some a0)), some (sr (some (ga G a1)))] [] (0) (0) h3
  refine v_aload_n (pc := 7) (i := 0) dX5_say_7 rfl rfl ?_
  refine s_getR (pc := 8) dX5_say_8 flX5_38 rfl hF (fun x4 hF => ?_)
  refine v_aload_n (pc := 11) (i := 1) dX5_say_11 rfl rfl ?_
  refine ch_V (pc := 12) gU (as := [sr (some (ga G a1))]) (st := []) (ci := 0) (N := mX1_part_) (k := 0) (n := 0) (k1 := 0) (n1 := 0) dX5_say_12 lkX5_88 caX1_part_ cvX1_part_ rfl (by decide) rfl (fun b Q1 hq => tX1_part_ b a1 h3 Q1 hq) ⟨by decide, by decide⟩ (Nat.le_of_ble_eq_true rfl) rfl hF (fun x5 h6 hF => ?_)
  show gV G mX5_say 5 Q 15 [some (sr (some a0)), some (sr (some (ga G a1)))] [] (0) (0) h6
  refine v_aload_n (pc := 15) (i := 0) dX5_say_15 rfl rfl ?_
  refine s_getR (pc := 16) dX5_say_16 flX5_15 rfl hF (fun x7 hF => ?_)
  refine v_aload_n (pc := 19) (i := 0) dX5_say_19 rfl rfl ?_
  refine s_getR (pc := 20) dX5_say_20 flX5_38 rfl hF (fun x8 hF => ?_)
  refine ch_V (pc := 23) gU (as := [sr x8]) (st := []) (ci := 8) (N := mX9_comeAnswer) (k := 0) (n := 0) (k1 := 0) (n1 := 0) dX5_say_23 lkX5_158 caX9_comeAnswer cvX9_comeAnswer rfl (by decide) rfl (fun b Q1 hq => tX9_comeAnswer b x8 h6 Q1 hq) ⟨by decide, by decide⟩ (Nat.le_of_ble_eq_true rfl) rfl hF (fun x9 h10 hF => ?_)
  show gV G mX5_say 5 Q 26 [some (sr (some a0)), some (sr (some (ga G a1)))] [] (0) (0) h10
  exact v_ret (pc := 26) dX5_say_26 rfl (okr hF fun q => q)
/-! BrailleDesk$Reader.putHeads -/
theorem tX5_putHeads {G : gG} (a0 : Nat) (a1 : (Option Nat)) (a2 : (Option Nat)) (h : hp) (Q : hQ) (hF : okB (fX5_putHeads a0 a1 a2 h) (pH gU Q)) : gS G mX5_putHeads 2 0 0 [sr (some a0), sr a1, sr a2] h Q := by
  delta fX5_putHeads at hF
  refine gS_at [some (sr (some a0)), some (sr a1), some (sr a2), none, none, none, none, none, none, none] pl_X5 rfl (Nat.le_of_ble_eq_true rfl) rfl ?_
  refine v_aload_n (pc := 0) (i := 2) dX5_putHeads_0 rfl rfl ?_
  refine s_getR (pc := 1) dX5_putHeads_1 flX5_119 rfl hF (fun x1 hF => ?_)
  refine v_astore_n (pc := 4) (i := 3) [some (sr (some a0)), some (sr a1), some (sr a2), some (sr x1), none, none, none, none, none, none] dX5_putHeads_4 rfl (by decide) rfl rfl ?_
  refine v_aload_n (pc := 5) (i := 1) dX5_putHeads_5 rfl rfl ?_
  refine s_getR (pc := 6) dX5_putHeads_6 flX5_119 rfl hF (fun x2 hF => ?_)
  refine v_astore (pc := 9) (i := 4) [some (sr (some a0)), some (sr a1), some (sr a2), some (sr x1), some (sr x2), none, none, none, none, none] dX5_putHeads_9 (by decide) rfl rfl ?_
  refine v_aload_n (pc := 11) (i := 1) dX5_putHeads_11 rfl rfl ?_
  refine v_aload_n (pc := 12) (i := 2) dX5_putHeads_12 rfl rfl ?_
  refine v_acmp_eq (pc := 13) 44 dX5_putHeads_13 rfl (fun hc => ?_) (fun hc => ?_)
  · replace hF := (okB_if hF).1 hc
    exact v_ret (pc := 44) dX5_putHeads_44 rfl (okr hF fun q => q)
  replace hF := (okB_if hF).2 hc
  refine v_aload_n (pc := 16) (i := 3) dX5_putHeads_16 rfl rfl ?_
  refine s_ifnull (pc := 17) 44 dX5_putHeads_17 rfl hF (fun hF => ?_) (fun hF => ?_)
  · exact v_ret (pc := 44) dX5_putHeads_44 rfl (okr hF fun q => q)
  refine v_aload (pc := 20) (i := 4) dX5_putHeads_20 rfl ?_
  refine s_ifnull (pc := 22) 44 dX5_putHeads_22 rfl hF (fun hF => ?_) (fun hF => ?_)
  · exact v_ret (pc := 44) dX5_putHeads_44 rfl (okr hF fun q => q)
  refine v_aload_n (pc := 25) (i := 3) dX5_putHeads_25 rfl rfl ?_
  refine s_getI (pc := 26) dX5_putHeads_26 flX5_172 rfl hF (fun x3 hF => ?_)
  refine v_bipush (pc := 29) (v := (6 : Int32)) dX5_putHeads_29 rfl ?_
  refine v_icmp_ne (pc := 31) 44 dX5_putHeads_31 rfl (fun hc => ?_) (fun hc => ?_)
  · replace hF := (okB_if hF).2 hc
    exact v_ret (pc := 44) dX5_putHeads_44 rfl (okr hF fun q => q)
  replace hF := (okB_if hF).1 hc
  refine v_aload (pc := 34) (i := 4) dX5_putHeads_34 rfl ?_
  refine s_getI (pc := 36) dX5_putHeads_36 flX5_172 rfl hF (fun x4 hF => ?_)
  refine v_bipush (pc := 39) (v := (6 : Int32)) dX5_putHeads_39 rfl ?_
  refine v_icmp_eq (pc := 41) 45 dX5_putHeads_41 rfl (fun hc => ?_) (fun hc => ?_)
  · replace hF := (okB_if hF).1 hc
    refine v_aload_n (pc := 45) (i := 3) dX5_putHeads_45 rfl rfl ?_
    refine s_getR (pc := 46) dX5_putHeads_46 flX5_119 rfl hF (fun x5 hF => ?_)
    refine v_astore (pc := 49) (i := 5) [some (sr (some a0)), some (sr a1), some (sr a2), some (sr x1), some (sr x2), some (sr x5), none, none, none, none] dX5_putHeads_49 (by decide) rfl rfl ?_
    refine v_aload (pc := 51) (i := 5) dX5_putHeads_51 rfl ?_
    refine s_ifnull (pc := 53) 73 dX5_putHeads_53 rfl hF (fun hF => ?_) (fun hF => ?_)
    · exact v_ret (pc := 73) dX5_putHeads_73 rfl (okr hF fun q => q)
    refine v_aload (pc := 56) (i := 5) dX5_putHeads_56 rfl ?_
    refine v_aload (pc := 58) (i := 4) dX5_putHeads_58 rfl ?_
    refine s_getR (pc := 60) dX5_putHeads_60 flX5_119 rfl hF (fun x6 hF => ?_)
    refine v_acmp_ne (pc := 63) 73 dX5_putHeads_63 rfl (fun hc => ?_) (fun hc => ?_)
    · replace hF := (okB_if hF).2 hc
      exact v_ret (pc := 73) dX5_putHeads_73 rfl (okr hF fun q => q)
    replace hF := (okB_if hF).1 hc
    refine v_aload_n (pc := 66) (i := 2) dX5_putHeads_66 rfl rfl ?_
    refine cp_V (pc := 67) gI (as := []) (st := []) (ci := 1) (N := mX2_levelNow) (k := 0) (n := 0) (k1 := 0) (n1 := 0) dX5_putHeads_67 lkX5_175 caX2_levelNow cvX2_levelNow rfl (by decide) rfl (fun b Q1 hq => tX2_levelNow b h Q1 hq) ⟨by decide, by decide⟩ (Nat.le_of_ble_eq_true rfl) rfl hF (fun x7 hF => ?_)
    show gV G mX5_putHeads 2 Q 70 [some (sr (some a0)), some (sr a1), some (sr a2), some (sr x1), some (sr x2), some (sr x5), none, none, none, none] [si x7] (0) (0) h
    refine v_if_ne (pc := 70) 74 dX5_putHeads_70 rfl (fun hc => ?_) (fun hc => ?_)
    · replace hF := (okB_if hF).2 hc
      refine v_aload_n (pc := 74) (i := 3) dX5_putHeads_74 rfl rfl ?_
      refine v_iconst (pc := 75) (v := (0 : Int32)) dX5_putHeads_75 rfl ?_
      refine cp_V (pc := 76) gR (as := [si (0 : Int32)]) (st := []) (ci := 1) (N := mX2_child) (k := 0) (n := 0) (k1 := 0) (n1 := 0) dX5_putHeads_76 lkX5_179 caX2_child cvX2_child rfl (by decide) rfl (fun b Q1 hq => tX2_child b (0 : Int32) h Q1 hq) ⟨by decide, by decide⟩ (Nat.le_of_ble_eq_true rfl) rfl hF (fun x8 hF => ?_)
      show gV G mX5_putHeads 2 Q 79 [some (sr (some a0)), some (sr a1), some (sr a2), some (sr x1), some (sr x2), some (sr x5), none, none, none, none] [sr x8] (0) (0) h
      refine v_astore (pc := 79) (i := 6) [some (sr (some a0)), some (sr a1), some (sr a2), some (sr x1), some (sr x2), some (sr x5), some (sr x8), none, none, none] dX5_putHeads_79 (by decide) rfl rfl ?_
      refine v_aload_n (pc := 81) (i := 3) dX5_putHeads_81 rfl rfl ?_
      refine v_aload (pc := 82) (i := 4) dX5_putHeads_82 rfl ?_
      refine mg (X := fun q9 => gV G mX5_putHeads 2 Q 110 [some (sr (some a0)), some (sr a1), some (sr a2), some (sr x1), some (sr x2), some (sr x5), none, none, none, none] [] (0) (0) q9) hF (fun _ hj10 hF => ?_) (fun q9 hF => ?_)
      · refine v_acmp_eq (pc := 84) 110 dX5_putHeads_84 rfl (fun hc => ?_) (fun hc => ?_)
        · replace hF := (okB_if hF).1 hc
          exact v_lle [some (sr (some a0)), some (sr a1), some (sr a2), some (sr x1), some (sr x2), some (sr x5), none, none, none, none] ⟨rfl, rfl, rfl, rfl, rfl, rfl, trivial⟩ (hj10 h (okB_some hF))
        replace hF := (okB_if hF).2 hc
        refine v_aload (pc := 87) (i := 6) dX5_putHeads_87 rfl ?_
        refine s_ifnull (pc := 89) 110 dX5_putHeads_89 rfl hF (fun hF => ?_) (fun hF => ?_)
        · exact v_lle [some (sr (some a0)), some (sr a1), some (sr a2), some (sr x1), some (sr x2), some (sr x5), none, none, none, none] ⟨rfl, rfl, rfl, rfl, rfl, rfl, trivial⟩ (hj10 h (okB_some hF))
        refine v_aload (pc := 92) (i := 6) dX5_putHeads_92 rfl ?_
        refine v_aload_n (pc := 94) (i := 2) dX5_putHeads_94 rfl rfl ?_
        refine v_acmp_eq (pc := 95) 110 dX5_putHeads_95 rfl (fun hc => ?_) (fun hc => ?_)
        · replace hF := (okB_if hF).1 hc
          exact v_lle [some (sr (some a0)), some (sr a1), some (sr a2), some (sr x1), some (sr x2), some (sr x5), none, none, none, none] ⟨rfl, rfl, rfl, rfl, rfl, rfl, trivial⟩ (hj10 h (okB_some hF))
        replace hF := (okB_if hF).2 hc
        refine v_aload_n (pc := 98) (i := 0) dX5_putHeads_98 rfl rfl ?_
        refine s_getR (pc := 99) dX5_putHeads_99 flX5_38 rfl hF (fun x11 hF => ?_)
        refine v_aload (pc := 102) (i := 6) dX5_putHeads_102 rfl ?_
        refine s_getR (pc := 104) dX5_putHeads_104 flX5_182 rfl hF (fun x12 hF => ?_)
        refine ch_V (pc := 107) gU (as := [sr x12]) (st := []) (ci := 0) (N := mX1_part) (k := 0) (n := 0) (k1 := 0) (n1 := 0) dX5_putHeads_107 lkX5_185 caX1_part cvX1_part rfl (by decide) rfl (fun b Q1 hq => tX1_part b x12 h Q1 hq) ⟨by decide, by decide⟩ (Nat.le_of_ble_eq_true rfl) rfl hF (fun x13 h14 hF => ?_)
        show gV G mX5_putHeads 2 Q 110 [some (sr (some a0)), some (sr a1), some (sr a2), some (sr x1), some (sr x2), some (sr x5), some (sr x8), none, none, none] [] (0) (0) h14
        exact v_lle [some (sr (some a0)), some (sr a1), some (sr a2), some (sr x1), some (sr x2), some (sr x5), none, none, none, none] ⟨rfl, rfl, rfl, rfl, rfl, rfl, trivial⟩ (hj10 h14 (okB_some hF))
      refine v_aload_n (pc := 110) (i := 3) dX5_putHeads_110 rfl rfl ?_
      refine v_aload_n (pc := 111) (i := 2) dX5_putHeads_111 rfl rfl ?_
      refine cp_V (pc := 112) gI (as := [sr a2]) (st := []) (ci := 1) (N := mX2_placeOf) (k := 0) (n := 0) (k1 := 0) (n1 := 0) dX5_putHeads_112 lkX5_187 caX2_placeOf cvX2_placeOf rfl (by decide) rfl (fun b Q1 hq => tX2_placeOf b a2 q9 Q1 hq) ⟨by decide, by decide⟩ (Nat.le_of_ble_eq_true rfl) rfl hF (fun x15 hF => ?_)
      show gV G mX5_putHeads 2 Q 115 [some (sr (some a0)), some (sr a1), some (sr a2), some (sr x1), some (sr x2), some (sr x5), none, none, none, none] [si x15] (0) (0) q9
      refine v_istore (pc := 115) (i := 7) [some (sr (some a0)), some (sr a1), some (sr a2), some (sr x1), some (sr x2), some (sr x5), none, some (si x15), none, none] dX5_putHeads_115 (by decide) rfl rfl ?_
      refine v_aload (pc := 117) (i := 5) dX5_putHeads_117 rfl ?_
      refine v_iconst (pc := 119) (v := (0 : Int32)) dX5_putHeads_119 rfl ?_
      refine cp_V (pc := 120) gR (as := [si (0 : Int32)]) (st := []) (ci := 1) (N := mX2_child) (k := 0) (n := 0) (k1 := 0) (n1 := 0) dX5_putHeads_120 lkX5_179 caX2_child cvX2_child rfl (by decide) rfl (fun b Q1 hq => tX2_child b (0 : Int32) q9 Q1 hq) ⟨by decide, by decide⟩ (Nat.le_of_ble_eq_true rfl) rfl hF (fun x16 hF => ?_)
      show gV G mX5_putHeads 2 Q 123 [some (sr (some a0)), some (sr a1), some (sr a2), some (sr x1), some (sr x2), some (sr x5), none, some (si x15), none, none] [sr x16] (0) (0) q9
      refine v_astore (pc := 123) (i := 8) [some (sr (some a0)), some (sr a1), some (sr a2), some (sr x1), some (sr x2), some (sr x5), none, some (si x15), some (sr x16), none] dX5_putHeads_123 (by decide) rfl rfl ?_
      refine v_aload (pc := 125) (i := 8) dX5_putHeads_125 rfl ?_
      refine mg (X := fun q17 => gV G mX5_putHeads 2 Q 141 [some (sr (some a0)), some (sr a1), some (sr a2), none, some (sr x2), none, none, some (si x15), none, none] [sr q17] (0) (0) q9) hF (fun _ hj18 hF => ?_) (fun q17 hF => ?_)
      · refine s_ifnonnull (pc := 127) 134 dX5_putHeads_127 rfl hF (fun hF => ?_) (fun hF => ?_)
        · refine v_aload (pc := 134) (i := 8) dX5_putHeads_134 rfl ?_
          refine v_iload (pc := 136) (i := 7) dX5_putHeads_136 rfl ?_
          refine cp_V (pc := 138) gR (as := [si x15]) (st := []) (ci := 1) (N := mX2_child) (k := 0) (n := 0) (k1 := 0) (n1 := 0) dX5_putHeads_138 lkX5_179 caX2_child cvX2_child rfl (by decide) rfl (fun b Q1 hq => tX2_child b x15 q9 Q1 hq) ⟨by decide, by decide⟩ (Nat.le_of_ble_eq_true rfl) rfl hF (fun x19 hF => ?_)
          show gV G mX5_putHeads 2 Q 141 [some (sr (some a0)), some (sr a1), some (sr a2), some (sr x1), some (sr x2), some (sr x5), none, some (si x15), some (sr x16), none] [sr x19] (0) (0) q9
          exact v_lle [some (sr (some a0)), some (sr a1), some (sr a2), none, some (sr x2), none, none, some (si x15), none, none] ⟨rfl, rfl, rfl, rfl, rfl, trivial⟩ (hj18 x19 (okB_some hF))
        refine v_null (pc := 130) dX5_putHeads_130 ?_
        refine v_goto (pc := 131) 141 dX5_putHeads_131 rfl ?_
        exact v_lle [some (sr (some a0)), some (sr a1), some (sr a2), none, some (sr x2), none, none, some (si x15), none, none] ⟨rfl, rfl, rfl, rfl, rfl, trivial⟩ (hj18 (none : Option Nat) (okB_some hF))
      refine v_astore (pc := 141) (i := 9) [some (sr (some a0)), some (sr a1), some (sr a2), none, some (sr x2), none, none, some (si x15), none, some (sr q17)] dX5_putHeads_141 (by decide) rfl rfl ?_
      refine v_iload (pc := 143) (i := 7) dX5_putHeads_143 rfl ?_
      refine v_aload (pc := 145) (i := 4) dX5_putHeads_145 rfl ?_
      refine v_aload_n (pc := 147) (i := 1) dX5_putHeads_147 rfl rfl ?_
      refine cp_V (pc := 148) gI (as := [sr a1]) (st := [si x15]) (ci := 1) (N := mX2_placeOf) (k := 0) (n := 0) (k1 := 0) (n1 := 0) dX5_putHeads_148 lkX5_187 caX2_placeOf cvX2_placeOf rfl (by decide) rfl (fun b Q1 hq => tX2_placeOf b a1 q9 Q1 hq) ⟨by decide, by decide⟩ (Nat.le_of_ble_eq_true rfl) rfl hF (fun x20 hF => ?_)
      show gV G mX5_putHeads 2 Q 151 [some (sr (some a0)), some (sr a1), some (sr a2), none, some (sr x2), none, none, some (si x15), none, some (sr q17)] [si x20, si x15] (0) (0) q9
      refine v_icmp_eq (pc := 151) 177 dX5_putHeads_151 rfl (fun hc => ?_) (fun hc => ?_)
      · replace hF := (okB_if hF).1 hc
        exact v_ret (pc := 177) dX5_putHeads_177 rfl (okr hF fun q => q)
      replace hF := (okB_if hF).2 hc
      refine v_aload (pc := 154) (i := 9) dX5_putHeads_154 rfl ?_
      refine s_ifnull (pc := 156) 177 dX5_putHeads_156 rfl hF (fun hF => ?_) (fun hF => ?_)
      · exact v_ret (pc := 177) dX5_putHeads_177 rfl (okr hF fun q => q)
      refine v_aload (pc := 159) (i := 9) dX5_putHeads_159 rfl ?_
      refine v_aload_n (pc := 161) (i := 2) dX5_putHeads_161 rfl rfl ?_
      refine v_acmp_eq (pc := 162) 177 dX5_putHeads_162 rfl (fun hc => ?_) (fun hc => ?_)
      · replace hF := (okB_if hF).1 hc
        exact v_ret (pc := 177) dX5_putHeads_177 rfl (okr hF fun q => q)
      replace hF := (okB_if hF).2 hc
      refine v_aload_n (pc := 165) (i := 0) dX5_putHeads_165 rfl rfl ?_
      refine s_getR (pc := 166) dX5_putHeads_166 flX5_38 rfl hF (fun x21 hF => ?_)
      refine v_aload (pc := 169) (i := 9) dX5_putHeads_169 rfl ?_
      refine s_getR (pc := 171) dX5_putHeads_171 flX5_182 rfl hF (fun x22 hF => ?_)
      refine ch_V (pc := 174) gU (as := [sr x22]) (st := []) (ci := 0) (N := mX1_part) (k := 0) (n := 0) (k1 := 0) (n1 := 0) dX5_putHeads_174 lkX5_185 caX1_part cvX1_part rfl (by decide) rfl (fun b Q1 hq => tX1_part b x22 q9 Q1 hq) ⟨by decide, by decide⟩ (Nat.le_of_ble_eq_true rfl) rfl hF (fun x23 h24 hF => ?_)
      show gV G mX5_putHeads 2 Q 177 [some (sr (some a0)), some (sr a1), some (sr a2), none, some (sr x2), none, none, some (si x15), none, some (sr q17)] [] (0) (0) h24
      exact v_ret (pc := 177) dX5_putHeads_177 rfl (okr hF fun q => q)
    replace hF := (okB_if hF).1 hc
    exact v_ret (pc := 73) dX5_putHeads_73 rfl (okr hF fun q => q)
  replace hF := (okB_if hF).2 hc
  exact v_ret (pc := 44) dX5_putHeads_44 rfl (okr hF fun q => q)
/-! BrailleDesk$Reader.goTo -/
theorem tX5_goTo {G : gG} (a0 : Nat) (a1 : (Option Nat)) (a2 : Nat) (h : hp) (Q : hQ) (hF : okB (fX5_goTo a0 a1 a2 h) (pH gU Q)) : gS G mX5_goTo 6 0 0 [sr (some a0), sr a1, sr (some (ga G a2))] h Q := by
  delta fX5_goTo at hF
  refine gS_at [some (sr (some a0)), some (sr a1), some (sr (some (ga G a2))), none] pl_X5 rfl (Nat.le_of_ble_eq_true rfl) rfl ?_
  refine v_aload_n (pc := 0) (i := 1) dX5_goTo_0 rfl rfl ?_
  refine s_ifnonnull (pc := 1) 10 dX5_goTo_1 rfl hF (fun hF => ?_) (fun hF => ?_)
  · refine v_aload_n (pc := 10) (i := 0) dX5_goTo_10 rfl rfl ?_
    refine s_getR (pc := 11) dX5_goTo_11 flX5_48 rfl hF (fun x1 hF => ?_)
    refine v_astore_n (pc := 14) (i := 3) [some (sr (some a0)), some (sr a1), some (sr (some (ga G a2))), some (sr x1)] dX5_goTo_14 rfl (by decide) rfl rfl ?_
    refine v_aload_n (pc := 15) (i := 0) dX5_goTo_15 rfl rfl ?_
    refine s_getR (pc := 16) dX5_goTo_16 flX5_29 rfl hF (fun x2 hF => ?_)
    refine ch_V (pc := 19) gU (as := []) (st := []) (ci := 7) (N := mX8_end) (k := 0) (n := 0) (k1 := 0) (n1 := 0) dX5_goTo_19 lkX5_79 caX8_end cvX8_end rfl (by decide) rfl (fun b Q1 hq => tX8_end b h Q1 hq) ⟨by decide, by decide⟩ (Nat.le_of_ble_eq_true rfl) rfl hF (fun x3 h4 hF => ?_)
    show gV G mX5_goTo 6 Q 22 [some (sr (some a0)), some (sr a1), some (sr (some (ga G a2))), some (sr x1)] [] (0) (0) h4
    refine v_aload_n (pc := 22) (i := 0) dX5_goTo_22 rfl rfl ?_
    refine v_aload_n (pc := 23) (i := 1) dX5_goTo_23 rfl rfl ?_
    refine ch_V (pc := 24) gU (as := [sr a1]) (st := []) (ci := 4) (N := mX5_moveTo) (k := 0) (n := 0) (k1 := 0) (n1 := 0) dX5_goTo_24 lkX5_82 caX5_moveTo cvX5_moveTo rfl (by decide) rfl (fun b Q1 hq => tX5_moveTo b a1 h4 Q1 hq) ⟨by decide, by decide⟩ (Nat.le_of_ble_eq_true rfl) rfl hF (fun x5 h6 hF => ?_)
    show gV G mX5_goTo 6 Q 27 [some (sr (some a0)), some (sr a1), some (sr (some (ga G a2))), some (sr x1)] [] (0) (0) h6
    refine v_aload_n (pc := 27) (i := 0) dX5_goTo_27 rfl rfl ?_
    refine s_getR (pc := 28) dX5_goTo_28 flX5_38 rfl hF (fun x7 hF => ?_)
    refine ch_V (pc := 31) gU (as := []) (st := []) (ci := 0) (N := mX1_clear) (k := 0) (n := 0) (k1 := 0) (n1 := 0) dX5_goTo_31 lkX5_63 caX1_clear cvX1_clear rfl (by decide) rfl (fun b Q1 hq => tX1_clear b h6 Q1 hq) ⟨by decide, by decide⟩ (Nat.le_of_ble_eq_true rfl) rfl hF (fun x8 h9 hF => ?_)
    show gV G mX5_goTo 6 Q 34 [some (sr (some a0)), some (sr a1), some (sr (some (ga G a2))), some (sr x1)] [] (0) (0) h9
    refine v_aload_n (pc := 34) (i := 0) dX5_goTo_34 rfl rfl ?_
    refine v_aload_n (pc := 35) (i := 3) dX5_goTo_35 rfl rfl ?_
    refine v_aload_n (pc := 36) (i := 1) dX5_goTo_36 rfl rfl ?_
    refine ch_V (pc := 37) gU (as := [sr x1, sr a1]) (st := []) (ci := 4) (N := mX5_putHeads) (k := 0) (n := 0) (k1 := 0) (n1 := 0) dX5_goTo_37 lkX5_164 caX5_putHeads cvX5_putHeads rfl (by decide) rfl (fun b Q1 hq => tX5_putHeads b x1 a1 h9 Q1 hq) ⟨by decide, by decide⟩ (Nat.le_of_ble_eq_true rfl) rfl hF (fun x10 h11 hF => ?_)
    show gV G mX5_goTo 6 Q 40 [some (sr (some a0)), some (sr a1), some (sr (some (ga G a2))), some (sr x1)] [] (0) (0) h11
    refine v_aload_n (pc := 40) (i := 1) dX5_goTo_40 rfl rfl ?_
    refine v_aload_n (pc := 41) (i := 0) dX5_goTo_41 rfl rfl ?_
    refine s_getR (pc := 42) dX5_goTo_42 flX5_38 rfl hF (fun x12 hF => ?_)
    refine ch_V (pc := 45) gU (as := [sr x12]) (st := []) (ci := 1) (N := mX2_putWords) (k := 0) (n := 0) (k1 := 0) (n1 := 0) dX5_goTo_45 lkX5_66 caX2_putWords cvX2_putWords rfl (by decide) rfl (fun b Q1 hq => tX2_putWords b x12 h11 Q1 hq) ⟨by decide, by decide⟩ (Nat.le_of_ble_eq_true rfl) rfl hF (fun x13 h14 hF => ?_)
    show gV G mX5_goTo 6 Q 48 [some (sr (some a0)), some (sr a1), some (sr (some (ga G a2))), some (sr x1)] [] (0) (0) h14
    refine v_aload_n (pc := 48) (i := 0) dX5_goTo_48 rfl rfl ?_
    refine s_getR (pc := 49) dX5_goTo_49 flX5_15 rfl hF (fun x15 hF => ?_)
    refine v_aload_n (pc := 52) (i := 0) dX5_goTo_52 rfl rfl ?_
    refine s_getR (pc := 53) dX5_goTo_53 flX5_38 rfl hF (fun x16 hF => ?_)
    refine ch_V (pc := 56) gU (as := [sr x16]) (st := []) (ci := 8) (N := mX9_comeAnswer) (k := 0) (n := 0) (k1 := 0) (n1 := 0) dX5_goTo_56 lkX5_158 caX9_comeAnswer cvX9_comeAnswer rfl (by decide) rfl (fun b Q1 hq => tX9_comeAnswer b x16 h14 Q1 hq) ⟨by decide, by decide⟩ (Nat.le_of_ble_eq_true rfl) rfl hF (fun x17 h18 hF => ?_)
    show gV G mX5_goTo 6 Q 59 [some (sr (some a0)), some (sr a1), some (sr (some (ga G a2))), some (sr x1)] [] (0) (0) h18
    exact v_ret (pc := 59) dX5_goTo_59 rfl (okr hF fun q => q)
  refine v_aload_n (pc := 4) (i := 0) dX5_goTo_4 rfl rfl ?_
  refine v_aload_n (pc := 5) (i := 2) dX5_goTo_5 rfl rfl ?_
  refine ch_V (pc := 6) gU (as := [sr (some (ga G a2))]) (st := []) (ci := 4) (N := mX5_say) (k := 0) (n := 0) (k1 := 0) (n1 := 0) dX5_goTo_6 lkX5_161 caX5_say cvX5_say rfl (by decide) rfl (fun b Q1 hq => tX5_say b a2 h Q1 hq) ⟨by decide, by decide⟩ (Nat.le_of_ble_eq_true rfl) rfl hF (fun x19 h20 hF => ?_)
  show gV G mX5_goTo 6 Q 9 [some (sr (some a0)), some (sr a1), some (sr (some (ga G a2))), none] [] (0) (0) h20
  exact v_ret (pc := 9) dX5_goTo_9 rfl (okr hF fun q => q)
/-! BrailleDesk$Reader.firstShownChild -/
theorem lX5_firstShownChild_2 {G : gG} {Q : hQ} {P : ((Option Nat) ⊕ Unit) → Prop} {k n : Nat} (c0 : Nat) (h : hp) (hJ : ∀ q : Unit, P (.inr q) → gV G mX5_firstShownChild 1 Q 34 [none, none, none] [] (k) (n) h) (hR : ∀ r : (Option Nat), P (.inl (r)) → (pP gR Q h) r) : ∀ (fu : Nat) (a : Int32), okB (itr (fX5_firstShownChild_B2 c0 h) fu a) P → gV G mX5_firstShownChild 1 Q 2 [some (sr (some c0)), some (si a), none] [] (k) (n) h :=
  lpg (X := fun (a : Int32) => gV G mX5_firstShownChild 1 Q 2 [some (sr (some c0)), some (si a), none] [] (k) (n) h) (fun a P2 hL hE hF => by
    delta fX5_firstShownChild_B2 at hF
    refine v_iload_n (pc := 2) (i := 1) dX5_firstShownChild_2 rfl rfl ?_
    refine v_aload_n (pc := 3) (i := 0) dX5_firstShownChild_3 rfl rfl ?_
    refine s_getR (pc := 4) dX5_firstShownChild_4 flX5_48 rfl hF (fun x1 hF => ?_)
    refine cp_V (pc := 7) gI (as := []) (st := [si a]) (ci := 1) (N := mX2_size) (k := k) (n := n) (k1 := 0) (n1 := 0) dX5_firstShownChild_7 lkX5_190 caX2_size cvX2_size rfl (by decide) rfl (fun b Q1 hq => tX2_size b h Q1 hq) ⟨by decide, by decide⟩ (Nat.le_of_ble_eq_true rfl) rfl hF (fun x2 hF => ?_)
    show gV G mX5_firstShownChild 1 Q 10 [some (sr (some c0)), some (si a), none] [si x2, si a] (k) (n) h
    refine v_icmp_ge (pc := 10) 34 dX5_firstShownChild_10 rfl (fun hc => ?_) (fun hc => ?_)
    · replace hF := (okB_if hF).1 hc
      exact v_lle [none, none, none] trivial (hJ () (hE _ (okB_some hF)))
    replace hF := (okB_if hF).2 hc
    refine v_aload_n (pc := 13) (i := 0) dX5_firstShownChild_13 rfl rfl ?_
    refine s_getR (pc := 14) dX5_firstShownChild_14 flX5_48 rfl hF (fun x3 hF => ?_)
    refine v_iload_n (pc := 17) (i := 1) dX5_firstShownChild_17 rfl rfl ?_
    refine cp_V (pc := 18) gR (as := [si a]) (st := []) (ci := 1) (N := mX2_shownChild) (k := k) (n := n) (k1 := 0) (n1 := 0) dX5_firstShownChild_18 lkX5_193 caX2_shownChild cvX2_shownChild rfl (by decide) rfl (fun b Q1 hq => tX2_shownChild b a h Q1 hq) ⟨by decide, by decide⟩ (Nat.le_of_ble_eq_true rfl) rfl hF (fun x4 hF => ?_)
    show gV G mX5_firstShownChild 1 Q 21 [some (sr (some c0)), some (si a), none] [sr x4] (k) (n) h
    refine v_astore_n (pc := 21) (i := 2) [some (sr (some c0)), some (si a), some (sr x4)] dX5_firstShownChild_21 rfl (by decide) rfl rfl ?_
    refine v_aload_n (pc := 22) (i := 2) dX5_firstShownChild_22 rfl rfl ?_
    refine s_ifnull (pc := 23) 28 dX5_firstShownChild_23 rfl hF (fun hF => ?_) (fun hF => ?_)
    · refine v_iinc (pc := 28) (i := 1) (a + (1 : Int32)) [some (sr (some c0)), some (si (a + (1 : Int32))), some (sr x4)] dX5_firstShownChild_28 rfl rfl rfl rfl ?_
      refine v_goto (pc := 31) 2 dX5_firstShownChild_31 rfl ?_
      exact v_lle [some (sr (some c0)), some (si (a + (1 : Int32))), none] ⟨rfl, rfl, trivial⟩ (hL (a + (1 : Int32)) (okB_some hF))
    refine v_aload_n (pc := 26) (i := 2) dX5_firstShownChild_26 rfl rfl ?_
    exact v_aret (pc := 27) dX5_firstShownChild_27 rfl (Or.inl ⟨_, rfl⟩) (hR _ (hE _ (okB_some hF))))
theorem tX5_firstShownChild {G : gG} (a0 : Nat) (h : hp) (Q : hQ) (hF : okB (fX5_firstShownChild a0 h) (pP gR Q h)) : gS G mX5_firstShownChild 1 0 0 [sr (some a0)] h Q := by
  delta fX5_firstShownChild at hF
  refine gS_at [some (sr (some a0)), none, none] pl_X5 rfl (Nat.le_of_ble_eq_true rfl) rfl ?_
  refine v_iconst (pc := 0) (v := (0 : Int32)) dX5_firstShownChild_0 rfl ?_
  refine v_istore_n (pc := 1) (i := 1) [some (sr (some a0)), some (si (0 : Int32)), none] dX5_firstShownChild_1 rfl (by decide) rfl rfl ?_
  refine mgR (X := fun q1 => gV G mX5_firstShownChild 1 Q 34 [none, none, none] [] (0) (0) h) hF (fun _ hj2 hr2 hF => v_lle [some (sr (some a0)), some (si (0 : Int32)), none] ⟨rfl, rfl, trivial⟩ (lX5_firstShownChild_2 a0 h hj2 (fun _ hp => (hr2 _ hp)) FU (0 : Int32) hF)) (fun q1 hF => ?_)
  refine v_null (pc := 34) dX5_firstShownChild_34 ?_
  exact v_aret (pc := 35) dX5_firstShownChild_35 rfl (Or.inl ⟨_, rfl⟩) (okr hF fun q => q)
/-! BrailleDesk$Reader.cellInOtherRow -/
theorem lX5_cellInOtherRow_55 {G : gG} {Q : hQ} {P : ((Option Nat) ⊕ Unit) → Prop} {k n : Nat} (c1 : Int32) (c3 : (Option Nat)) (c4 : Int32) (c5 : Int32) (h : hp) (hJ : ∀ q : Unit, P (.inr q) → gV G mX5_cellInOtherRow 2 Q 107 [none, none, none, none, none, none, none, none, none] [] (k) (n) h) (hR : ∀ r : (Option Nat), P (.inl (r)) → (pP gR Q h) r) : ∀ (fu : Nat) (a : Int32), okB (itr (fX5_cellInOtherRow_B55 c1 c3 c4 c5 h) fu a) P → gV G mX5_cellInOtherRow 2 Q 55 [none, some (si c1), none, some (sr c3), some (si c4), some (si c5), some (si a), none, none] [] (k) (n) h :=
  lpg (X := fun (a : Int32) => gV G mX5_cellInOtherRow 2 Q 55 [none, some (si c1), none, some (sr c3), some (si c4), some (si c5), some (si a), none, none] [] (k) (n) h) (fun a P2 hL hE hF => by
    delta fX5_cellInOtherRow_B55 at hF
    refine v_iload (pc := 55) (i := 6) dX5_cellInOtherRow_55 rfl ?_
    refine v_bipush (pc := 57) (v := (10 : Int32)) dX5_cellInOtherRow_57 rfl ?_
    refine v_icmp_ge (pc := 59) 107 dX5_cellInOtherRow_59 rfl (fun hc => ?_) (fun hc => ?_)
    · replace hF := (okB_if hF).1 hc
      exact v_lle [none, none, none, none, none, none, none, none, none] trivial (hJ () (hE _ (okB_some hF)))
    replace hF := (okB_if hF).2 hc
    refine v_aload_n (pc := 62) (i := 3) dX5_cellInOtherRow_62 rfl rfl ?_
    refine v_iload (pc := 63) (i := 5) dX5_cellInOtherRow_63 rfl ?_
    refine v_iload (pc := 65) (i := 6) dX5_cellInOtherRow_65 rfl ?_
    refine v_iload_n (pc := 67) (i := 1) dX5_cellInOtherRow_67 rfl rfl ?_
    refine v_imul (pc := 68) dX5_cellInOtherRow_68 ?_
    refine v_iadd (pc := 69) dX5_cellInOtherRow_69 ?_
    refine cp_V (pc := 70) gR (as := [si (c5 + (a * c1))]) (st := []) (ci := 1) (N := mX2_shownChild) (k := k) (n := n) (k1 := 0) (n1 := 0) dX5_cellInOtherRow_70 lkX5_193 caX2_shownChild cvX2_shownChild rfl (by decide) rfl (fun b Q1 hq => tX2_shownChild b (c5 + (a * c1)) h Q1 hq) ⟨by decide, by decide⟩ (Nat.le_of_ble_eq_true rfl) rfl hF (fun x1 hF => ?_)
    show gV G mX5_cellInOtherRow 2 Q 73 [none, some (si c1), none, some (sr c3), some (si c4), some (si c5), some (si a), none, none] [sr x1] (k) (n) h
    refine v_astore (pc := 73) (i := 7) [none, some (si c1), none, some (sr c3), some (si c4), some (si c5), some (si a), some (sr x1), none] dX5_cellInOtherRow_73 (by decide) rfl rfl ?_
    refine v_aload (pc := 75) (i := 7) dX5_cellInOtherRow_75 rfl ?_
    refine mg (X := fun q2 => gV G mX5_cellInOtherRow 2 Q 91 [none, some (si c1), none, some (sr c3), some (si c4), some (si c5), some (si a), none, none] [sr q2] (k) (n) h) hF (fun _ hj3 hF => ?_) (fun q2 hF => ?_)
    · refine s_ifnonnull (pc := 77) 84 dX5_cellInOtherRow_77 rfl hF (fun hF => ?_) (fun hF => ?_)
      · refine v_aload (pc := 84) (i := 7) dX5_cellInOtherRow_84 rfl ?_
        refine v_iload (pc := 86) (i := 4) dX5_cellInOtherRow_86 rfl ?_
        refine cp_V (pc := 88) gR (as := [si c4]) (st := []) (ci := 1) (N := mX2_shownChild) (k := k) (n := n) (k1 := 0) (n1 := 0) dX5_cellInOtherRow_88 lkX5_193 caX2_shownChild cvX2_shownChild rfl (by decide) rfl (fun b Q1 hq => tX2_shownChild b c4 h Q1 hq) ⟨by decide, by decide⟩ (Nat.le_of_ble_eq_true rfl) rfl hF (fun x4 hF => ?_)
        show gV G mX5_cellInOtherRow 2 Q 91 [none, some (si c1), none, some (sr c3), some (si c4), some (si c5), some (si a), some (sr x1), none] [sr x4] (k) (n) h
        exact v_lle [none, some (si c1), none, some (sr c3), some (si c4), some (si c5), some (si a), none, none] ⟨rfl, rfl, rfl, rfl, rfl, trivial⟩ (hj3 x4 (okB_some hF))
      refine v_null (pc := 80) dX5_cellInOtherRow_80 ?_
      refine v_goto (pc := 81) 91 dX5_cellInOtherRow_81 rfl ?_
      exact v_lle [none, some (si c1), none, some (sr c3), some (si c4), some (si c5), some (si a), none, none] ⟨rfl, rfl, rfl, rfl, rfl, trivial⟩ (hj3 (none : Option Nat) (okB_some hF))
    refine v_astore (pc := 91) (i := 8) [none, some (si c1), none, some (sr c3), some (si c4), some (si c5), some (si a), none, some (sr q2)] dX5_cellInOtherRow_91 (by decide) rfl rfl ?_
    refine v_aload (pc := 93) (i := 8) dX5_cellInOtherRow_93 rfl ?_
    refine s_ifnull (pc := 95) 101 dX5_cellInOtherRow_95 rfl hF (fun hF => ?_) (fun hF => ?_)
    · refine v_iinc (pc := 101) (i := 6) (a + (1 : Int32)) [none, some (si c1), none, some (sr c3), some (si c4), some (si c5), some (si (a + (1 : Int32))), none, some (sr q2)] dX5_cellInOtherRow_101 rfl rfl rfl rfl ?_
      refine v_goto (pc := 104) 55 dX5_cellInOtherRow_104 rfl ?_
      exact v_lle [none, some (si c1), none, some (sr c3), some (si c4), some (si c5), some (si (a + (1 : Int32))), none, none] ⟨rfl, rfl, rfl, rfl, rfl, trivial⟩ (hL (a + (1 : Int32)) (okB_some hF))
    refine v_aload (pc := 98) (i := 8) dX5_cellInOtherRow_98 rfl ?_
    exact v_aret (pc := 100) dX5_cellInOtherRow_100 rfl (Or.inl ⟨_, rfl⟩) (hR _ (hE _ (okB_some hF))))
theorem tX5_cellInOtherRow {G : gG} (a0 : Nat) (a1 : Int32) (h : hp) (Q : hQ) (hF : okB (fX5_cellInOtherRow a0 a1 h) (pP gR Q h)) : gS G mX5_cellInOtherRow 2 0 0 [sr (some a0), si a1] h Q := by
  delta fX5_cellInOtherRow at hF
  refine gS_at [some (sr (some a0)), some (si a1), none, none, none, none, none, none, none] pl_X5 rfl (Nat.le_of_ble_eq_true rfl) rfl ?_
  refine v_aload_n (pc := 0) (i := 0) dX5_cellInOtherRow_0 rfl rfl ?_
  refine s_getR (pc := 1) dX5_cellInOtherRow_1 flX5_48 rfl hF (fun x1 hF => ?_)
  refine s_getR (pc := 4) dX5_cellInOtherRow_4 flX5_119 rfl hF (fun x2 hF => ?_)
  refine v_astore_n (pc := 7) (i := 2) [some (sr (some a0)), some (si a1), some (sr x2), none, none, none, none, none, none] dX5_cellInOtherRow_7 rfl (by decide) rfl rfl ?_
  refine v_aload_n (pc := 8) (i := 2) dX5_cellInOtherRow_8 rfl rfl ?_
  refine s_ifnull (pc := 9) 28 dX5_cellInOtherRow_9 rfl hF (fun hF => ?_) (fun hF => ?_)
  · refine v_null (pc := 28) dX5_cellInOtherRow_28 ?_
    exact v_aret (pc := 29) dX5_cellInOtherRow_29 rfl (Or.inl ⟨_, rfl⟩) (okr hF fun q => q)
  refine v_aload_n (pc := 12) (i := 2) dX5_cellInOtherRow_12 rfl rfl ?_
  refine s_getI (pc := 13) dX5_cellInOtherRow_13 flX5_172 rfl hF (fun x3 hF => ?_)
  refine v_bipush (pc := 16) (v := (6 : Int32)) dX5_cellInOtherRow_16 rfl ?_
  refine v_icmp_ne (pc := 18) 28 dX5_cellInOtherRow_18 rfl (fun hc => ?_) (fun hc => ?_)
  · replace hF := (okB_if hF).2 hc
    refine v_null (pc := 28) dX5_cellInOtherRow_28 ?_
    exact v_aret (pc := 29) dX5_cellInOtherRow_29 rfl (Or.inl ⟨_, rfl⟩) (okr hF fun q => q)
  replace hF := (okB_if hF).1 hc
  refine v_aload_n (pc := 21) (i := 2) dX5_cellInOtherRow_21 rfl rfl ?_
  refine s_getR (pc := 22) dX5_cellInOtherRow_22 flX5_119 rfl hF (fun x4 hF => ?_)
  refine s_ifnonnull (pc := 25) 30 dX5_cellInOtherRow_25 rfl hF (fun hF => ?_) (fun hF => ?_)
  · refine v_aload_n (pc := 30) (i := 2) dX5_cellInOtherRow_30 rfl rfl ?_
    refine s_getR (pc := 31) dX5_cellInOtherRow_31 flX5_119 rfl hF (fun x5 hF => ?_)
    refine v_astore_n (pc := 34) (i := 3) [some (sr (some a0)), some (si a1), some (sr x2), some (sr x5), none, none, none, none, none] dX5_cellInOtherRow_34 rfl (by decide) rfl rfl ?_
    refine v_aload_n (pc := 35) (i := 2) dX5_cellInOtherRow_35 rfl rfl ?_
    refine v_aload_n (pc := 36) (i := 0) dX5_cellInOtherRow_36 rfl rfl ?_
    refine s_getR (pc := 37) dX5_cellInOtherRow_37 flX5_48 rfl hF (fun x6 hF => ?_)
    refine cp_V (pc := 40) gI (as := [sr x6]) (st := []) (ci := 1) (N := mX2_placeOf) (k := 0) (n := 0) (k1 := 0) (n1 := 0) dX5_cellInOtherRow_40 lkX5_187 caX2_placeOf cvX2_placeOf rfl (by decide) rfl (fun b Q1 hq => tX2_placeOf b x6 h Q1 hq) ⟨by decide, by decide⟩ (Nat.le_of_ble_eq_true rfl) rfl hF (fun x7 hF => ?_)
    show gV G mX5_cellInOtherRow 2 Q 43 [some (sr (some a0)), some (si a1), some (sr x2), some (sr x5), none, none, none, none, none] [si x7] (0) (0) h
    refine v_istore (pc := 43) (i := 4) [some (sr (some a0)), some (si a1), some (sr x2), some (sr x5), some (si x7), none, none, none, none] dX5_cellInOtherRow_43 (by decide) rfl rfl ?_
    refine v_aload_n (pc := 45) (i := 3) dX5_cellInOtherRow_45 rfl rfl ?_
    refine v_aload_n (pc := 46) (i := 2) dX5_cellInOtherRow_46 rfl rfl ?_
    refine cp_V (pc := 47) gI (as := [sr x2]) (st := []) (ci := 1) (N := mX2_placeOf) (k := 0) (n := 0) (k1 := 0) (n1 := 0) dX5_cellInOtherRow_47 lkX5_187 caX2_placeOf cvX2_placeOf rfl (by decide) rfl (fun b Q1 hq => tX2_placeOf b x2 h Q1 hq) ⟨by decide, by decide⟩ (Nat.le_of_ble_eq_true rfl) rfl hF (fun x8 hF => ?_)
    show gV G mX5_cellInOtherRow 2 Q 50 [some (sr (some a0)), some (si a1), some (sr x2), some (sr x5), some (si x7), none, none, none, none] [si x8] (0) (0) h
    refine v_istore (pc := 50) (i := 5) [some (sr (some a0)), some (si a1), some (sr x2), some (sr x5), some (si x7), some (si x8), none, none, none] dX5_cellInOtherRow_50 (by decide) rfl rfl ?_
    refine v_iconst (pc := 52) (v := (1 : Int32)) dX5_cellInOtherRow_52 rfl ?_
    refine v_istore (pc := 53) (i := 6) [some (sr (some a0)), some (si a1), some (sr x2), some (sr x5), some (si x7), some (si x8), some (si (1 : Int32)), none, none] dX5_cellInOtherRow_53 (by decide) rfl rfl ?_
    refine mgR (X := fun q9 => gV G mX5_cellInOtherRow 2 Q 107 [none, none, none, none, none, none, none, none, none] [] (0) (0) h) hF (fun _ hj10 hr10 hF => v_lle [none, some (si a1), none, some (sr x5), some (si x7), some (si x8), some (si (1 : Int32)), none, none] ⟨rfl, rfl, rfl, rfl, rfl, trivial⟩ (lX5_cellInOtherRow_55 a1 x5 x7 x8 h hj10 (fun _ hp => (hr10 _ hp)) FU (1 : Int32) hF)) (fun q9 hF => ?_)
    refine v_null (pc := 107) dX5_cellInOtherRow_107 ?_
    exact v_aret (pc := 108) dX5_cellInOtherRow_108 rfl (Or.inl ⟨_, rfl⟩) (okr hF fun q => q)
  refine v_null (pc := 28) dX5_cellInOtherRow_28 ?_
  exact v_aret (pc := 29) dX5_cellInOtherRow_29 rfl (Or.inl ⟨_, rfl⟩) (okr hF fun q => q)
/-! BrailleDesk$Reader.isInRow -/
theorem tX5_isInRow {G : gG} (a0 : Nat) (h : hp) (Q : hQ) (hF : okB (fX5_isInRow a0 h) (pP gI Q h)) : gS G mX5_isInRow 0 0 0 [sr (some a0)] h Q := by
  delta fX5_isInRow at hF
  refine gS_at [some (sr (some a0))] pl_X5 rfl (Nat.le_of_ble_eq_true rfl) rfl ?_
  refine v_aload_n (pc := 0) (i := 0) dX5_isInRow_0 rfl rfl ?_
  refine s_getR (pc := 1) dX5_isInRow_1 flX5_48 rfl hF (fun x1 hF => ?_)
  refine s_getR (pc := 4) dX5_isInRow_4 flX5_119 rfl hF (fun x2 hF => ?_)
  refine s_ifnull (pc := 7) 29 dX5_isInRow_7 rfl hF (fun hF => ?_) (fun hF => ?_)
  · refine v_iconst (pc := 29) (v := (0 : Int32)) dX5_isInRow_29 rfl ?_
    exact v_iret (pc := 30) dX5_isInRow_30 rfl rfl (okr hF fun q => q)
  refine v_aload_n (pc := 10) (i := 0) dX5_isInRow_10 rfl rfl ?_
  refine s_getR (pc := 11) dX5_isInRow_11 flX5_48 rfl hF (fun x3 hF => ?_)
  refine s_getR (pc := 14) dX5_isInRow_14 flX5_119 rfl hF (fun x4 hF => ?_)
  refine s_getI (pc := 17) dX5_isInRow_17 flX5_172 rfl hF (fun x5 hF => ?_)
  refine v_bipush (pc := 20) (v := (6 : Int32)) dX5_isInRow_20 rfl ?_
  refine v_icmp_ne (pc := 22) 29 dX5_isInRow_22 rfl (fun hc => ?_) (fun hc => ?_)
  · replace hF := (okB_if hF).2 hc
    refine v_iconst (pc := 29) (v := (0 : Int32)) dX5_isInRow_29 rfl ?_
    exact v_iret (pc := 30) dX5_isInRow_30 rfl rfl (okr hF fun q => q)
  replace hF := (okB_if hF).1 hc
  refine v_iconst (pc := 25) (v := (1 : Int32)) dX5_isInRow_25 rfl ?_
  refine v_goto (pc := 26) 30 dX5_isInRow_26 rfl ?_
  exact v_iret (pc := 30) dX5_isInRow_30 rfl rfl (okr hF fun q => q)
/-! BrailleDesk$Reader.takeFocus -/
theorem tX5_takeFocus {G : gG} (a0 : Nat) (h : hp) (Q : hQ) (hF : okB (fX5_takeFocus a0 h) (pH gU Q)) : gS G mX5_takeFocus 1 0 0 [sr (some a0)] h Q := by
  delta fX5_takeFocus at hF
  refine gS_at [some (sr (some a0))] pl_X5 rfl (Nat.le_of_ble_eq_true rfl) rfl ?_
  refine v_aload_n (pc := 0) (i := 0) dX5_takeFocus_0 rfl rfl ?_
  refine s_getR (pc := 1) dX5_takeFocus_1 flX5_48 rfl hF (fun x1 hF => ?_)
  refine cp_V (pc := 4) gI (as := []) (st := []) (ci := 1) (N := mX2_canHaveFocus) (k := 0) (n := 0) (k1 := 0) (n1 := 0) dX5_takeFocus_4 lkX5_196 caX2_canHaveFocus cvX2_canHaveFocus rfl (by decide) rfl (fun b Q1 hq => tX2_canHaveFocus b h Q1 hq) ⟨by decide, by decide⟩ (Nat.le_of_ble_eq_true rfl) rfl hF (fun x2 hF => ?_)
  show gV G mX5_takeFocus 1 Q 7 [some (sr (some a0))] [si x2] (0) (0) h
  refine v_if_eq (pc := 7) 18 dX5_takeFocus_7 rfl (fun hc => ?_) (fun hc => ?_)
  · replace hF := (okB_if hF).1 hc
    exact v_ret (pc := 18) dX5_takeFocus_18 rfl (okr hF fun q => q)
  replace hF := (okB_if hF).2 hc
  refine v_aload_n (pc := 10) (i := 0) dX5_takeFocus_10 rfl rfl ?_
  refine v_aload_n (pc := 11) (i := 0) dX5_takeFocus_11 rfl rfl ?_
  refine s_getR (pc := 12) dX5_takeFocus_12 flX5_48 rfl hF (fun x3 hF => ?_)
  refine s_putR (pc := 15) dX5_takeFocus_15 flX5_72 (Or.inl rfl) rfl hF (fun h4 hF => ?_)
  exact v_ret (pc := 18) dX5_takeFocus_18 rfl (okr hF fun q => q)

/-! ===== methods: their functions and rows ===== -/
theorem dX11_hide_0 : decode cX11_hide 0 = .ok (.aload_n 0, 1) := by decide +kernel
theorem dX11_hide_1 : decode cX11_hide 1 = .ok (.aload_n 0, 1) := by decide +kernel
theorem dX11_hide_2 : decode cX11_hide 2 = .ok (.iload_n 1, 1) := by decide +kernel
theorem dX11_hide_3 : decode cX11_hide 3 = .ok (.invokevirtual 118, 3) := by decide +kernel
theorem dX11_hide_6 : decode cX11_hide 6 = .ok (.ifCond .ne 7, 3) := by decide +kernel
theorem dX11_hide_9 : decode cX11_hide 9 = .ok (.iconst 1, 1) := by decide +kernel
theorem dX11_hide_10 : decode cX11_hide 10 = .ok (.goto 21, 3) := by decide +kernel
theorem dX11_hide_13 : decode cX11_hide 13 = .ok (.iload_n 1, 1) := by decide +kernel
theorem dX11_hide_14 : decode cX11_hide 14 = .ok (.ifCond .eq 12, 3) := by decide +kernel
theorem dX11_hide_17 : decode cX11_hide 17 = .ok (.aload_n 0, 1) := by decide +kernel
theorem dX11_hide_18 : decode cX11_hide 18 = .ok (.getfield 191, 3) := by decide +kernel
theorem dX11_hide_21 : decode cX11_hide 21 = .ok (.bipush 20, 2) := by decide +kernel
theorem dX11_hide_23 : decode cX11_hide 23 = .ok (.if_icmp .lt 7, 3) := by decide +kernel
theorem dX11_hide_26 : decode cX11_hide 26 = .ok (.iconst 2, 1) := by decide +kernel
theorem dX11_hide_27 : decode cX11_hide 27 = .ok (.goto 4, 3) := by decide +kernel
theorem dX11_hide_30 : decode cX11_hide 30 = .ok (.iconst 0, 1) := by decide +kernel
theorem dX11_hide_31 : decode cX11_hide 31 = .ok (.putfield 111, 3) := by decide +kernel
theorem dX11_hide_34 : decode cX11_hide 34 = .ok (.aload_n 0, 1) := by decide +kernel
theorem dX11_hide_35 : decode cX11_hide 35 = .ok (.getfield 111, 3) := by decide +kernel
theorem dX11_hide_38 : decode cX11_hide 38 = .ok (.ifCond .le 5, 3) := by decide +kernel
theorem dX11_hide_41 : decode cX11_hide 41 = .ok (.iconst 0, 1) := by decide +kernel
theorem dX11_hide_42 : decode cX11_hide 42 = .ok (.ireturn, 1) := by decide +kernel
theorem dX11_hide_43 : decode cX11_hide 43 = .ok (.aload_n 0, 1) := by decide +kernel
theorem dX11_hide_44 : decode cX11_hide 44 = .ok (.getfield 44, 3) := by decide +kernel
theorem dX11_hide_47 : decode cX11_hide 47 = .ok (.iload_n 1, 1) := by decide +kernel
theorem dX11_hide_48 : decode cX11_hide 48 = .ok (.baload, 1) := by decide +kernel
theorem dX11_hide_49 : decode cX11_hide 49 = .ok (.istore_n 3, 1) := by decide +kernel
theorem dX11_hide_50 : decode cX11_hide 50 = .ok (.iload_n 2, 1) := by decide +kernel
theorem dX11_hide_51 : decode cX11_hide 51 = .ok (.ifCond .eq 71, 3) := by decide +kernel
theorem dX11_hide_54 : decode cX11_hide 54 = .ok (.iload_n 3, 1) := by decide +kernel
theorem dX11_hide_55 : decode cX11_hide 55 = .ok (.ifCond .ne 67, 3) := by decide +kernel
theorem dX11_hide_58 : decode cX11_hide 58 = .ok (.aload_n 0, 1) := by decide +kernel
theorem dX11_hide_59 : decode cX11_hide 59 = .ok (.iload_n 1, 1) := by decide +kernel
theorem dX11_hide_60 : decode cX11_hide 60 = .ok (.invokevirtual 224, 3) := by decide +kernel
theorem dX11_hide_63 : decode cX11_hide 63 = .ok (.ifCond .eq 11, 3) := by decide +kernel
theorem dX11_hide_66 : decode cX11_hide 66 = .ok (.aload_n 0, 1) := by decide +kernel
theorem dX11_hide_67 : decode cX11_hide 67 = .ok (.iload_n 1, 1) := by decide +kernel
theorem dX11_hide_68 : decode cX11_hide 68 = .ok (.invokevirtual 230, 3) := by decide +kernel
theorem dX11_hide_71 : decode cX11_hide 71 = .ok (.goto 4, 3) := by decide +kernel
theorem dX11_hide_74 : decode cX11_hide 74 = .ok (.iconst (-1), 1) := by decide +kernel
theorem dX11_hide_75 : decode cX11_hide 75 = .ok (.istore 4, 2) := by decide +kernel
theorem dX11_hide_77 : decode cX11_hide 77 = .ok (.aload_n 0, 1) := by decide +kernel
theorem dX11_hide_78 : decode cX11_hide 78 = .ok (.getfield 44, 3) := by decide +kernel
theorem dX11_hide_81 : decode cX11_hide 81 = .ok (.iload_n 1, 1) := by decide +kernel
theorem dX11_hide_82 : decode cX11_hide 82 = .ok (.iconst 1, 1) := by decide +kernel
theorem dX11_hide_83 : decode cX11_hide 83 = .ok (.bastore, 1) := by decide +kernel
theorem dX11_hide_84 : decode cX11_hide 84 = .ok (.aload_n 0, 1) := by decide +kernel
theorem dX11_hide_85 : decode cX11_hide 85 = .ok (.iload_n 1, 1) := by decide +kernel
theorem dX11_hide_86 : decode cX11_hide 86 = .ok (.invokevirtual 305, 3) := by decide +kernel
theorem dX11_hide_89 : decode cX11_hide 89 = .ok (.aload_n 0, 1) := by decide +kernel
theorem dX11_hide_90 : decode cX11_hide 90 = .ok (.iload 4, 2) := by decide +kernel
theorem dX11_hide_92 : decode cX11_hide 92 = .ok (.invokevirtual 233, 3) := by decide +kernel
theorem dX11_hide_95 : decode cX11_hide 95 = .ok (.aload_n 0, 1) := by decide +kernel
theorem dX11_hide_96 : decode cX11_hide 96 = .ok (.aload_n 0, 1) := by decide +kernel
theorem dX11_hide_97 : decode cX11_hide 97 = .ok (.getfield 17, 3) := by decide +kernel
theorem dX11_hide_100 : decode cX11_hide 100 = .ok (.iload_n 1, 1) := by decide +kernel
theorem dX11_hide_101 : decode cX11_hide 101 = .ok (.iaload, 1) := by decide +kernel
theorem dX11_hide_102 : decode cX11_hide 102 = .ok (.aload_n 0, 1) := by decide +kernel
theorem dX11_hide_103 : decode cX11_hide 103 = .ok (.iload_n 1, 1) := by decide +kernel
theorem dX11_hide_104 : decode cX11_hide 104 = .ok (.invokevirtual 302, 3) := by decide +kernel
theorem dX11_hide_107 : decode cX11_hide 107 = .ok (.iconst 1, 1) := by decide +kernel
theorem dX11_hide_108 : decode cX11_hide 108 = .ok (.iadd, 1) := by decide +kernel
theorem dX11_hide_109 : decode cX11_hide 109 = .ok (.aload_n 0, 1) := by decide +kernel
theorem dX11_hide_110 : decode cX11_hide 110 = .ok (.iload_n 1, 1) := by decide +kernel
theorem dX11_hide_111 : decode cX11_hide 111 = .ok (.invokevirtual 302, 3) := by decide +kernel
theorem dX11_hide_114 : decode cX11_hide 114 = .ok (.iconst 1, 1) := by decide +kernel
theorem dX11_hide_115 : decode cX11_hide 115 = .ok (.isub, 1) := by decide +kernel
theorem dX11_hide_116 : decode cX11_hide 116 = .ok (.invokevirtual 311, 3) := by decide +kernel
theorem dX11_hide_119 : decode cX11_hide 119 = .ok (.goto 23, 3) := by decide +kernel
theorem dX11_hide_122 : decode cX11_hide 122 = .ok (.iload_n 3, 1) := by decide +kernel
theorem dX11_hide_123 : decode cX11_hide 123 = .ok (.ifCond .eq 19, 3) := by decide +kernel
theorem dX11_hide_126 : decode cX11_hide 126 = .ok (.iload_n 2, 1) := by decide +kernel
theorem dX11_hide_127 : decode cX11_hide 127 = .ok (.ifCond .ne 15, 3) := by decide +kernel
theorem dX11_hide_130 : decode cX11_hide 130 = .ok (.aload_n 0, 1) := by decide +kernel
theorem dX11_hide_131 : decode cX11_hide 131 = .ok (.getfield 44, 3) := by decide +kernel
theorem dX11_hide_134 : decode cX11_hide 134 = .ok (.iload_n 1, 1) := by decide +kernel
theorem dX11_hide_135 : decode cX11_hide 135 = .ok (.iconst 0, 1) := by decide +kernel
theorem dX11_hide_136 : decode cX11_hide 136 = .ok (.bastore, 1) := by decide +kernel
theorem dX11_hide_137 : decode cX11_hide 137 = .ok (.aload_n 0, 1) := by decide +kernel
theorem dX11_hide_138 : decode cX11_hide 138 = .ok (.iload_n 1, 1) := by decide +kernel
theorem dX11_hide_139 : decode cX11_hide 139 = .ok (.invokevirtual 292, 3) := by decide +kernel
theorem dX11_hide_142 : decode cX11_hide 142 = .ok (.aload_n 0, 1) := by decide +kernel
theorem dX11_hide_143 : decode cX11_hide 143 = .ok (.invokevirtual 295, 3) := by decide +kernel
theorem dX11_hide_146 : decode cX11_hide 146 = .ok (.iload_n 3, 1) := by decide +kernel
theorem dX11_hide_147 : decode cX11_hide 147 = .ok (.ireturn, 1) := by decide +kernel
theorem dX11_rename_0 : decode cX11_rename 0 = .ok (.aload_n 0, 1) := by decide +kernel
theorem dX11_rename_1 : decode cX11_rename 1 = .ok (.aload_n 0, 1) := by decide +kernel
theorem dX11_rename_2 : decode cX11_rename 2 = .ok (.iload_n 1, 1) := by decide +kernel
theorem dX11_rename_3 : decode cX11_rename 3 = .ok (.invokevirtual 118, 3) := by decide +kernel
theorem dX11_rename_6 : decode cX11_rename 6 = .ok (.ifCond .ne 7, 3) := by decide +kernel
theorem dX11_rename_9 : decode cX11_rename 9 = .ok (.iconst 1, 1) := by decide +kernel
theorem dX11_rename_10 : decode cX11_rename 10 = .ok (.goto 21, 3) := by decide +kernel
theorem dX11_rename_13 : decode cX11_rename 13 = .ok (.iload_n 1, 1) := by decide +kernel
theorem dX11_rename_14 : decode cX11_rename 14 = .ok (.ifCond .eq 12, 3) := by decide +kernel
theorem dX11_rename_17 : decode cX11_rename 17 = .ok (.aload_n 0, 1) := by decide +kernel
theorem dX11_rename_18 : decode cX11_rename 18 = .ok (.getfield 191, 3) := by decide +kernel
theorem dX11_rename_21 : decode cX11_rename 21 = .ok (.bipush 20, 2) := by decide +kernel
theorem dX11_rename_23 : decode cX11_rename 23 = .ok (.if_icmp .lt 7, 3) := by decide +kernel
theorem dX11_rename_26 : decode cX11_rename 26 = .ok (.iconst 2, 1) := by decide +kernel
theorem dX11_rename_27 : decode cX11_rename 27 = .ok (.goto 4, 3) := by decide +kernel
theorem dX11_rename_30 : decode cX11_rename 30 = .ok (.iconst 0, 1) := by decide +kernel
theorem dX11_rename_31 : decode cX11_rename 31 = .ok (.putfield 111, 3) := by decide +kernel
theorem dX11_rename_34 : decode cX11_rename 34 = .ok (.aload_n 0, 1) := by decide +kernel
theorem dX11_rename_35 : decode cX11_rename 35 = .ok (.getfield 111, 3) := by decide +kernel
theorem dX11_rename_38 : decode cX11_rename 38 = .ok (.ifCond .le 5, 3) := by decide +kernel
theorem dX11_rename_41 : decode cX11_rename 41 = .ok (.iconst 0, 1) := by decide +kernel
theorem dX11_rename_42 : decode cX11_rename 42 = .ok (.ireturn, 1) := by decide +kernel
theorem dX11_rename_43 : decode cX11_rename 43 = .ok (.aload_n 0, 1) := by decide +kernel
theorem dX11_rename_44 : decode cX11_rename 44 = .ok (.getfield 29, 3) := by decide +kernel
theorem dX11_rename_47 : decode cX11_rename 47 = .ok (.iload_n 1, 1) := by decide +kernel
theorem dX11_rename_48 : decode cX11_rename 48 = .ok (.iaload, 1) := by decide +kernel
theorem dX11_rename_49 : decode cX11_rename 49 = .ok (.aload_n 0, 1) := by decide +kernel
theorem dX11_rename_50 : decode cX11_rename 50 = .ok (.getfield 282, 3) := by decide +kernel
theorem dX11_rename_53 : decode cX11_rename 53 = .ok (.if_icmp .ne 7, 3) := by decide +kernel
theorem dX11_rename_56 : decode cX11_rename 56 = .ok (.iconst 1, 1) := by decide +kernel
theorem dX11_rename_57 : decode cX11_rename 57 = .ok (.goto 4, 3) := by decide +kernel
theorem dX11_rename_60 : decode cX11_rename 60 = .ok (.iconst 0, 1) := by decide +kernel
theorem dX11_rename_61 : decode cX11_rename 61 = .ok (.istore_n 2, 1) := by decide +kernel
theorem dX11_rename_62 : decode cX11_rename 62 = .ok (.iconst 0, 1) := by decide +kernel
theorem dX11_rename_63 : decode cX11_rename 63 = .ok (.istore_n 3, 1) := by decide +kernel
theorem dX11_rename_64 : decode cX11_rename 64 = .ok (.iload_n 3, 1) := by decide +kernel
theorem dX11_rename_65 : decode cX11_rename 65 = .ok (.aload_n 0, 1) := by decide +kernel
theorem dX11_rename_66 : decode cX11_rename 66 = .ok (.getfield 282, 3) := by decide +kernel
theorem dX11_rename_69 : decode cX11_rename 69 = .ok (.if_icmp .ge 39, 3) := by decide +kernel
theorem dX11_rename_72 : decode cX11_rename 72 = .ok (.iload_n 2, 1) := by decide +kernel
theorem dX11_rename_73 : decode cX11_rename 73 = .ok (.ifCond .eq 35, 3) := by decide +kernel
theorem dX11_rename_76 : decode cX11_rename 76 = .ok (.aload_n 0, 1) := by decide +kernel
theorem dX11_rename_77 : decode cX11_rename 77 = .ok (.getfield 26, 3) := by decide +kernel
theorem dX11_rename_80 : decode cX11_rename 80 = .ok (.bipush 12, 2) := by decide +kernel
theorem dX11_rename_82 : decode cX11_rename 82 = .ok (.iload_n 1, 1) := by decide +kernel
theorem dX11_rename_83 : decode cX11_rename 83 = .ok (.imul, 1) := by decide +kernel
theorem dX11_rename_84 : decode cX11_rename 84 = .ok (.iload_n 3, 1) := by decide +kernel
theorem dX11_rename_85 : decode cX11_rename 85 = .ok (.iadd, 1) := by decide +kernel
theorem dX11_rename_86 : decode cX11_rename 86 = .ok (.iaload, 1) := by decide +kernel
theorem dX11_rename_87 : decode cX11_rename 87 = .ok (.aload_n 0, 1) := by decide +kernel
theorem dX11_rename_88 : decode cX11_rename 88 = .ok (.getfield 62, 3) := by decide +kernel
theorem dX11_rename_91 : decode cX11_rename 91 = .ok (.iload_n 3, 1) := by decide +kernel
theorem dX11_rename_92 : decode cX11_rename 92 = .ok (.iaload, 1) := by decide +kernel
theorem dX11_rename_93 : decode cX11_rename 93 = .ok (.if_icmp .ne 7, 3) := by decide +kernel
theorem dX11_rename_96 : decode cX11_rename 96 = .ok (.iconst 1, 1) := by decide +kernel
theorem dX11_rename_97 : decode cX11_rename 97 = .ok (.goto 4, 3) := by decide +kernel
theorem dX11_rename_100 : decode cX11_rename 100 = .ok (.iconst 0, 1) := by decide +kernel
theorem dX11_rename_101 : decode cX11_rename 101 = .ok (.istore_n 2, 1) := by decide +kernel
theorem dX11_rename_102 : decode cX11_rename 102 = .ok (.iinc 3 1, 3) := by decide +kernel
theorem dX11_rename_105 : decode cX11_rename 105 = .ok (.goto (-41), 3) := by decide +kernel
theorem dX11_rename_108 : decode cX11_rename 108 = .ok (.aload_n 0, 1) := by decide +kernel
theorem dX11_rename_109 : decode cX11_rename 109 = .ok (.iload_n 1, 1) := by decide +kernel
theorem dX11_rename_110 : decode cX11_rename 110 = .ok (.invokevirtual 289, 3) := by decide +kernel
theorem dX11_rename_113 : decode cX11_rename 113 = .ok (.iload_n 2, 1) := by decide +kernel
theorem dX11_rename_114 : decode cX11_rename 114 = .ok (.ifCond .ne 8, 3) := by decide +kernel
theorem dX11_rename_117 : decode cX11_rename 117 = .ok (.aload_n 0, 1) := by decide +kernel
theorem dX11_rename_118 : decode cX11_rename 118 = .ok (.iload_n 1, 1) := by decide +kernel
theorem dX11_rename_119 : decode cX11_rename 119 = .ok (.invokevirtual 292, 3) := by decide +kernel
theorem dX11_rename_122 : decode cX11_rename 122 = .ok (.aload_n 0, 1) := by decide +kernel
theorem dX11_rename_123 : decode cX11_rename 123 = .ok (.invokevirtual 295, 3) := by decide +kernel
theorem dX11_rename_126 : decode cX11_rename 126 = .ok (.aload_n 0, 1) := by decide +kernel
theorem dX11_rename_127 : decode cX11_rename 127 = .ok (.getfield 29, 3) := by decide +kernel
theorem dX11_rename_130 : decode cX11_rename 130 = .ok (.iload_n 1, 1) := by decide +kernel
theorem dX11_rename_131 : decode cX11_rename 131 = .ok (.iaload, 1) := by decide +kernel
theorem dX11_rename_132 : decode cX11_rename 132 = .ok (.ireturn, 1) := by decide +kernel
theorem dX11_set_0 : decode cX11_set 0 = .ok (.aload_n 0, 1) := by decide +kernel
theorem dX11_set_1 : decode cX11_set 1 = .ok (.aload_n 0, 1) := by decide +kernel
theorem dX11_set_2 : decode cX11_set 2 = .ok (.iload_n 1, 1) := by decide +kernel
theorem dX11_set_3 : decode cX11_set 3 = .ok (.invokevirtual 118, 3) := by decide +kernel
theorem dX11_set_6 : decode cX11_set 6 = .ok (.ifCond .ne 7, 3) := by decide +kernel
theorem dX11_set_9 : decode cX11_set 9 = .ok (.iconst 1, 1) := by decide +kernel
theorem dX11_set_10 : decode cX11_set 10 = .ok (.goto 27, 3) := by decide +kernel
theorem dX11_set_13 : decode cX11_set 13 = .ok (.aload_n 0, 1) := by decide +kernel
theorem dX11_set_14 : decode cX11_set 14 = .ok (.getfield 13, 3) := by decide +kernel
theorem dX11_set_17 : decode cX11_set 17 = .ok (.iload_n 1, 1) := by decide +kernel
theorem dX11_set_18 : decode cX11_set 18 = .ok (.iaload, 1) := by decide +kernel
theorem dX11_set_19 : decode cX11_set 19 = .ok (.iconst 3, 1) := by decide +kernel
theorem dX11_set_20 : decode cX11_set 20 = .ok (.if_icmp .ne 12, 3) := by decide +kernel
theorem dX11_set_23 : decode cX11_set 23 = .ok (.aload_n 0, 1) := by decide +kernel
theorem dX11_set_24 : decode cX11_set 24 = .ok (.getfield 191, 3) := by decide +kernel
theorem dX11_set_27 : decode cX11_set 27 = .ok (.bipush 20, 2) := by decide +kernel
theorem dX11_set_29 : decode cX11_set 29 = .ok (.if_icmp .lt 7, 3) := by decide +kernel
theorem dX11_set_32 : decode cX11_set 32 = .ok (.iconst 2, 1) := by decide +kernel
theorem dX11_set_33 : decode cX11_set 33 = .ok (.goto 4, 3) := by decide +kernel
theorem dX11_set_36 : decode cX11_set 36 = .ok (.iconst 0, 1) := by decide +kernel
theorem dX11_set_37 : decode cX11_set 37 = .ok (.putfield 111, 3) := by decide +kernel
theorem dX11_set_40 : decode cX11_set 40 = .ok (.aload_n 0, 1) := by decide +kernel
theorem dX11_set_41 : decode cX11_set 41 = .ok (.getfield 111, 3) := by decide +kernel
theorem dX11_set_44 : decode cX11_set 44 = .ok (.ifCond .le 5, 3) := by decide +kernel
theorem dX11_set_47 : decode cX11_set 47 = .ok (.iconst 0, 1) := by decide +kernel
theorem dX11_set_48 : decode cX11_set 48 = .ok (.ireturn, 1) := by decide +kernel
theorem dX11_set_49 : decode cX11_set 49 = .ok (.aload_n 0, 1) := by decide +kernel
theorem dX11_set_50 : decode cX11_set 50 = .ok (.getfield 38, 3) := by decide +kernel
theorem dX11_set_53 : decode cX11_set 53 = .ok (.iload_n 1, 1) := by decide +kernel
theorem dX11_set_54 : decode cX11_set 54 = .ok (.baload, 1) := by decide +kernel
theorem dX11_set_55 : decode cX11_set 55 = .ok (.istore_n 3, 1) := by decide +kernel
theorem dX11_set_56 : decode cX11_set 56 = .ok (.aload_n 0, 1) := by decide +kernel
theorem dX11_set_57 : decode cX11_set 57 = .ok (.getfield 38, 3) := by decide +kernel
theorem dX11_set_60 : decode cX11_set 60 = .ok (.iload_n 1, 1) := by decide +kernel
theorem dX11_set_61 : decode cX11_set 61 = .ok (.iload_n 2, 1) := by decide +kernel
theorem dX11_set_62 : decode cX11_set 62 = .ok (.bastore, 1) := by decide +kernel
theorem dX11_set_63 : decode cX11_set 63 = .ok (.iload_n 3, 1) := by decide +kernel
theorem dX11_set_64 : decode cX11_set 64 = .ok (.iload_n 2, 1) := by decide +kernel
theorem dX11_set_65 : decode cX11_set 65 = .ok (.if_icmp .eq 8, 3) := by decide +kernel
theorem dX11_set_68 : decode cX11_set 68 = .ok (.aload_n 0, 1) := by decide +kernel
theorem dX11_set_69 : decode cX11_set 69 = .ok (.iload_n 1, 1) := by decide +kernel
theorem dX11_set_70 : decode cX11_set 70 = .ok (.invokevirtual 292, 3) := by decide +kernel
theorem dX11_set_73 : decode cX11_set 73 = .ok (.aload_n 0, 1) := by decide +kernel
theorem dX11_set_74 : decode cX11_set 74 = .ok (.invokevirtual 295, 3) := by decide +kernel
theorem dX11_set_77 : decode cX11_set 77 = .ok (.iload_n 3, 1) := by decide +kernel
theorem dX11_set_78 : decode cX11_set 78 = .ok (.ireturn, 1) := by decide +kernel
theorem dX11_setRule_0 : decode cX11_setRule 0 = .ok (.aload_n 0, 1) := by decide +kernel
theorem dX11_setRule_1 : decode cX11_setRule 1 = .ok (.aload_n 0, 1) := by decide +kernel
theorem dX11_setRule_2 : decode cX11_setRule 2 = .ok (.iload_n 1, 1) := by decide +kernel
theorem dX11_setRule_3 : decode cX11_setRule 3 = .ok (.invokevirtual 118, 3) := by decide +kernel
theorem dX11_setRule_6 : decode cX11_setRule 6 = .ok (.ifCond .ne 7, 3) := by decide +kernel
theorem dX11_setRule_9 : decode cX11_setRule 9 = .ok (.iconst 1, 1) := by decide +kernel
theorem dX11_setRule_10 : decode cX11_setRule 10 = .ok (.goto 17, 3) := by decide +kernel
theorem dX11_setRule_13 : decode cX11_setRule 13 = .ok (.iload_n 2, 1) := by decide +kernel
theorem dX11_setRule_14 : decode cX11_setRule 14 = .ok (.iconst (-1), 1) := by decide +kernel
theorem dX11_setRule_15 : decode cX11_setRule 15 = .ok (.iconst 2, 1) := by decide +kernel
theorem dX11_setRule_16 : decode cX11_setRule 16 = .ok (.invokestatic 114, 3) := by decide +kernel
theorem dX11_setRule_19 : decode cX11_setRule 19 = .ok (.ifCond .ne 7, 3) := by decide +kernel
theorem dX11_setRule_22 : decode cX11_setRule 22 = .ok (.iconst 2, 1) := by decide +kernel
theorem dX11_setRule_23 : decode cX11_setRule 23 = .ok (.goto 4, 3) := by decide +kernel
theorem dX11_setRule_26 : decode cX11_setRule 26 = .ok (.iconst 0, 1) := by decide +kernel
theorem dX11_setRule_27 : decode cX11_setRule 27 = .ok (.putfield 111, 3) := by decide +kernel
theorem dX11_setRule_30 : decode cX11_setRule 30 = .ok (.aload_n 0, 1) := by decide +kernel
theorem dX11_setRule_31 : decode cX11_setRule 31 = .ok (.getfield 111, 3) := by decide +kernel
theorem dX11_setRule_34 : decode cX11_setRule 34 = .ok (.ifCond .le 5, 3) := by decide +kernel
theorem dX11_setRule_37 : decode cX11_setRule 37 = .ok (.iconst 0, 1) := by decide +kernel
theorem dX11_setRule_38 : decode cX11_setRule 38 = .ok (.ireturn, 1) := by decide +kernel
theorem dX11_setRule_39 : decode cX11_setRule 39 = .ok (.aload_n 0, 1) := by decide +kernel
theorem dX11_setRule_40 : decode cX11_setRule 40 = .ok (.getfield 47, 3) := by decide +kernel
theorem dX11_setRule_43 : decode cX11_setRule 43 = .ok (.iload_n 1, 1) := by decide +kernel
theorem dX11_setRule_44 : decode cX11_setRule 44 = .ok (.iaload, 1) := by decide +kernel
theorem dX11_setRule_45 : decode cX11_setRule 45 = .ok (.istore_n 3, 1) := by decide +kernel
theorem dX11_setRule_46 : decode cX11_setRule 46 = .ok (.aload_n 0, 1) := by decide +kernel
theorem dX11_setRule_47 : decode cX11_setRule 47 = .ok (.getfield 47, 3) := by decide +kernel
theorem dX11_setRule_50 : decode cX11_setRule 50 = .ok (.iload_n 1, 1) := by decide +kernel
theorem dX11_setRule_51 : decode cX11_setRule 51 = .ok (.iload_n 2, 1) := by decide +kernel
theorem dX11_setRule_52 : decode cX11_setRule 52 = .ok (.iastore, 1) := by decide +kernel
theorem dX11_setRule_53 : decode cX11_setRule 53 = .ok (.aload_n 0, 1) := by decide +kernel
theorem dX11_setRule_54 : decode cX11_setRule 54 = .ok (.invokevirtual 295, 3) := by decide +kernel
theorem dX11_setRule_57 : decode cX11_setRule 57 = .ok (.iload_n 3, 1) := by decide +kernel
theorem dX11_setRule_58 : decode cX11_setRule 58 = .ok (.ireturn, 1) := by decide +kernel
abbrev mX11_hide : gM := (yX11_hide, cX11_hide, 5, (Option.some FieldType.boolean), [])
theorem caX11_hide : cal mX11_hide 2 := ⟨xw 1745 (by decide +kernel) rfl, xw 102 (by decide +kernel) rfl, by decide, by decide +kernel⟩
theorem cvX11_hide : calV mX11_hide := ⟨xw 1743 (by decide +kernel) rfl, xw 1744 (by decide +kernel) rfl⟩
abbrev mX11_rename : gM := (yX11_rename, cX11_rename, 4, (Option.some FieldType.int), [])
theorem caX11_rename : cal mX11_rename 1 := ⟨xw 1749 (by decide +kernel) rfl, xw 102 (by decide +kernel) rfl, by decide, by decide +kernel⟩
theorem cvX11_rename : calV mX11_rename := ⟨xw 1747 (by decide +kernel) rfl, xw 1748 (by decide +kernel) rfl⟩
abbrev mX11_set : gM := (yX11_set, cX11_set, 4, (Option.some FieldType.boolean), [])
theorem caX11_set : cal mX11_set 2 := ⟨xw 1753 (by decide +kernel) rfl, xw 102 (by decide +kernel) rfl, by decide, by decide +kernel⟩
theorem cvX11_set : calV mX11_set := ⟨xw 1751 (by decide +kernel) rfl, xw 1752 (by decide +kernel) rfl⟩
abbrev mX11_setRule : gM := (yX11_setRule, cX11_setRule, 4, (Option.some FieldType.int), [])
theorem caX11_setRule : cal mX11_setRule 2 := ⟨xw 1757 (by decide +kernel) rfl, xw 102 (by decide +kernel) rfl, by decide, by decide +kernel⟩
theorem cvX11_setRule : calV mX11_setRule := ⟨xw 1755 (by decide +kernel) rfl, xw 1756 (by decide +kernel) rfl⟩
/-! BrailleDeskModel.hide -/
theorem tX11_hide {G : gG} (a0 : Nat) (h : hp) (a1 : Int32) (a2 : Int32) (m : mm) (Q : hQ) (hF : okB (fX11_hide a1 a2 m) (pM gI Q a0 h)) : gS G mX11_hide 6 0 0 [sr (some a0), si a1, si a2] (jn a0 h m) Q := by
  delta fX11_hide at hF
  refine gS_at [some (sr (some a0)), some (si a1), some (si a2), none, none] pl_X11 rfl (Nat.le_of_ble_eq_true rfl) rfl ?_
  refine v_aload_n (pc := 0) (i := 0) dX11_hide_0 rfl rfl ?_
  refine v_aload_n (pc := 1) (i := 0) dX11_hide_1 rfl rfl ?_
  refine v_iload_n (pc := 2) (i := 1) dX11_hide_2 rfl rfl ?_
  refine cpM_V (pc := 3) gI (as := [si a1]) (st := [sr (some a0)]) (N := mX11_isElement) (k := 0) (n := 0) (k1 := 0) (n1 := 0) dX11_hide_3 lkX11_118 caX11_isElement cvX11_isElement rfl rfl (fun Q1 hq => tX11_isElement a0 h a1 m Q1 hq) ⟨by decide, by decide⟩ (Nat.le_of_ble_eq_true rfl) rfl hF (fun x1 hF => ?_)
  show gV G mX11_hide 6 Q 6 [some (sr (some a0)), some (si a1), some (si a2), none, none] [si x1, sr (some a0)] (0) (0) (jn a0 h m)
  refine mg (X := fun q2 => gV G mX11_hide 6 Q 31 [some (sr (some a0)), some (si a1), some (si a2), none, none] [si q2, sr (some a0)] (0) (0) (jn a0 h m)) hF (fun _ hj3 hF => ?_) (fun q2 hF => ?_)
  · refine v_if_ne (pc := 6) 13 dX11_hide_6 rfl (fun hc => ?_) (fun hc => ?_)
    · replace hF := (okB_if hF).2 hc
      refine v_iload_n (pc := 13) (i := 1) dX11_hide_13 rfl rfl ?_
      refine v_if_eq (pc := 14) 26 dX11_hide_14 rfl (fun hc => ?_) (fun hc => ?_)
      · replace hF := (okB_if hF).1 hc
        refine v_iconst (pc := 26) (v := (2 : Int32)) dX11_hide_26 rfl ?_
        refine v_goto (pc := 27) 31 dX11_hide_27 rfl ?_
        exact v_lle [some (sr (some a0)), some (si a1), some (si a2), none, none] ⟨rfl, rfl, rfl, trivial⟩ (hj3 (2 : Int32) (okB_some hF))
      replace hF := (okB_if hF).2 hc
      refine v_aload_n (pc := 17) (i := 0) dX11_hide_17 rfl rfl ?_
      refine m_getI (pc := 18) (j := 37) dX11_hide_18 flX11_191 rfl rfl ?_
      refine v_bipush (pc := 21) (v := (20 : Int32)) dX11_hide_21 rfl ?_
      refine v_icmp_lt (pc := 23) 30 dX11_hide_23 rfl (fun hc => ?_) (fun hc => ?_)
      · replace hF := (okB_if hF).1 hc
        refine v_iconst (pc := 30) (v := (0 : Int32)) dX11_hide_30 rfl ?_
        exact v_lle [some (sr (some a0)), some (si a1), some (si a2), none, none] ⟨rfl, rfl, rfl, trivial⟩ (hj3 (0 : Int32) (okB_some hF))
      replace hF := (okB_if hF).2 hc
      refine v_iconst (pc := 26) (v := (2 : Int32)) dX11_hide_26 rfl ?_
      refine v_goto (pc := 27) 31 dX11_hide_27 rfl ?_
      exact v_lle [some (sr (some a0)), some (si a1), some (si a2), none, none] ⟨rfl, rfl, rfl, trivial⟩ (hj3 (2 : Int32) (okB_some hF))
    replace hF := (okB_if hF).1 hc
    refine v_iconst (pc := 9) (v := (1 : Int32)) dX11_hide_9 rfl ?_
    refine v_goto (pc := 10) 31 dX11_hide_10 rfl ?_
    exact v_lle [some (sr (some a0)), some (si a1), some (si a2), none, none] ⟨rfl, rfl, rfl, trivial⟩ (hj3 (1 : Int32) (okB_some hF))
  refine m_putI (pc := 31) (j := 48) dX11_hide_31 flX11_111 rfl rfl rfl hF (fun m4 hF => ?_)
  refine v_aload_n (pc := 34) (i := 0) dX11_hide_34 rfl rfl ?_
  refine m_getI (pc := 35) (j := 48) dX11_hide_35 flX11_111 rfl rfl ?_
  refine v_if_le (pc := 38) 43 dX11_hide_38 rfl (fun hc => ?_) (fun hc => ?_)
  · replace hF := (okB_if hF).1 hc
    refine v_aload_n (pc := 43) (i := 0) dX11_hide_43 rfl rfl ?_
    refine m_getA (pc := 44) (j := 12) dX11_hide_44 flX11_44 rfl (by decide) ?_
    refine v_iload_n (pc := 47) (i := 1) dX11_hide_47 rfl rfl ?_
    refine m_zald (pc := 48) (j := 12) dX11_hide_48 hF (fun x5 hF => ?_)
    refine v_istore_n (pc := 49) (i := 3) [some (sr (some a0)), some (si a1), some (si a2), some (si x5), none] dX11_hide_49 rfl (by decide) rfl rfl ?_
    refine v_iload_n (pc := 50) (i := 2) dX11_hide_50 rfl rfl ?_
    refine mg (X := fun q6 => gV G mX11_hide 6 Q 142 [some (sr (some a0)), none, none, some (si x5), none] [] (0) (0) (jn a0 h q6)) hF (fun _ hj7 hF => ?_) (fun q6 hF => ?_)
    · refine v_if_eq (pc := 51) 122 dX11_hide_51 rfl (fun hc => ?_) (fun hc => ?_)
      · replace hF := (okB_if hF).1 hc
        refine v_iload_n (pc := 122) (i := 3) dX11_hide_122 rfl rfl ?_
        refine v_if_eq (pc := 123) 142 dX11_hide_123 rfl (fun hc => ?_) (fun hc => ?_)
        · replace hF := (okB_if hF).1 hc
          exact v_lle [some (sr (some a0)), none, none, some (si x5), none] ⟨rfl, rfl, trivial⟩ (hj7 m4 (okB_some hF))
        replace hF := (okB_if hF).2 hc
        refine v_iload_n (pc := 126) (i := 2) dX11_hide_126 rfl rfl ?_
        refine v_if_ne (pc := 127) 142 dX11_hide_127 rfl (fun hc => ?_) (fun hc => ?_)
        · replace hF := (okB_if hF).2 hc
          exact v_lle [some (sr (some a0)), none, none, some (si x5), none] ⟨rfl, rfl, trivial⟩ (hj7 m4 (okB_some hF))
        replace hF := (okB_if hF).1 hc
        refine v_aload_n (pc := 130) (i := 0) dX11_hide_130 rfl rfl ?_
        refine m_getA (pc := 131) (j := 12) dX11_hide_131 flX11_44 rfl (by decide) ?_
        refine v_iload_n (pc := 134) (i := 1) dX11_hide_134 rfl rfl ?_
        refine v_iconst (pc := 135) (v := (0 : Int32)) dX11_hide_135 rfl ?_
        refine m_zast (pc := 136) (j := 12) dX11_hide_136 hF (fun m8 hF => ?_)
        refine v_aload_n (pc := 137) (i := 0) dX11_hide_137 rfl rfl ?_
        refine v_iload_n (pc := 138) (i := 1) dX11_hide_138 rfl rfl ?_
        refine chM_V (pc := 139) gU (as := [si a1]) (st := []) (N := mX11_tellWords) (k := 0) (n := 0) (k1 := 0) (n1 := 0) dX11_hide_139 lkX11_292 caX11_tellWords cvX11_tellWords rfl rfl (fun Q1 hq => tX11_tellWords a0 h a1 m8 Q1 hq) ⟨by decide, by decide⟩ (Nat.le_of_ble_eq_true rfl) rfl hF (fun x9 m10 hF => ?_)
        show gV G mX11_hide 6 Q 142 [some (sr (some a0)), some (si a1), some (si a2), some (si x5), none] [] (0) (0) (jn a0 h m10)
        exact v_lle [some (sr (some a0)), none, none, some (si x5), none] ⟨rfl, rfl, trivial⟩ (hj7 m10 (okB_some hF))
      replace hF := (okB_if hF).2 hc
      refine v_iload_n (pc := 54) (i := 3) dX11_hide_54 rfl rfl ?_
      refine v_if_ne (pc := 55) 122 dX11_hide_55 rfl (fun hc => ?_) (fun hc => ?_)
      · replace hF := (okB_if hF).2 hc
        refine v_iload_n (pc := 122) (i := 3) dX11_hide_122 rfl rfl ?_
        refine v_if_eq (pc := 123) 142 dX11_hide_123 rfl (fun hc => ?_) (fun hc => ?_)
        · replace hF := (okB_if hF).1 hc
          exact v_lle [some (sr (some a0)), none, none, some (si x5), none] ⟨rfl, rfl, trivial⟩ (hj7 m4 (okB_some hF))
        replace hF := (okB_if hF).2 hc
        refine v_iload_n (pc := 126) (i := 2) dX11_hide_126 rfl rfl ?_
        refine v_if_ne (pc := 127) 142 dX11_hide_127 rfl (fun hc => ?_) (fun hc => ?_)
        · replace hF := (okB_if hF).2 hc
          exact v_lle [some (sr (some a0)), none, none, some (si x5), none] ⟨rfl, rfl, trivial⟩ (hj7 m4 (okB_some hF))
        replace hF := (okB_if hF).1 hc
        refine v_aload_n (pc := 130) (i := 0) dX11_hide_130 rfl rfl ?_
        refine m_getA (pc := 131) (j := 12) dX11_hide_131 flX11_44 rfl (by decide) ?_
        refine v_iload_n (pc := 134) (i := 1) dX11_hide_134 rfl rfl ?_
        refine v_iconst (pc := 135) (v := (0 : Int32)) dX11_hide_135 rfl ?_
        refine m_zast (pc := 136) (j := 12) dX11_hide_136 hF (fun m11 hF => ?_)
        refine v_aload_n (pc := 137) (i := 0) dX11_hide_137 rfl rfl ?_
        refine v_iload_n (pc := 138) (i := 1) dX11_hide_138 rfl rfl ?_
        refine chM_V (pc := 139) gU (as := [si a1]) (st := []) (N := mX11_tellWords) (k := 0) (n := 0) (k1 := 0) (n1 := 0) dX11_hide_139 lkX11_292 caX11_tellWords cvX11_tellWords rfl rfl (fun Q1 hq => tX11_tellWords a0 h a1 m11 Q1 hq) ⟨by decide, by decide⟩ (Nat.le_of_ble_eq_true rfl) rfl hF (fun x12 m13 hF => ?_)
        show gV G mX11_hide 6 Q 142 [some (sr (some a0)), some (si a1), some (si a2), some (si x5), none] [] (0) (0) (jn a0 h m13)
        exact v_lle [some (sr (some a0)), none, none, some (si x5), none] ⟨rfl, rfl, trivial⟩ (hj7 m13 (okB_some hF))
      replace hF := (okB_if hF).1 hc
      refine v_aload_n (pc := 58) (i := 0) dX11_hide_58 rfl rfl ?_
      refine v_iload_n (pc := 59) (i := 1) dX11_hide_59 rfl rfl ?_
      refine cpM_V (pc := 60) gI (as := [si a1]) (st := []) (N := mX11_shows) (k := 0) (n := 0) (k1 := 0) (n1 := 0) dX11_hide_60 lkX11_224 caX11_shows cvX11_shows rfl rfl (fun Q1 hq => tX11_shows a0 h a1 m4 Q1 hq) ⟨by decide, by decide⟩ (Nat.le_of_ble_eq_true rfl) rfl hF (fun x14 hF => ?_)
      show gV G mX11_hide 6 Q 63 [some (sr (some a0)), some (si a1), some (si a2), some (si x5), none] [si x14] (0) (0) (jn a0 h m4)
      refine mg (X := fun q15 => gV G mX11_hide 6 Q 75 [some (sr (some a0)), some (si a1), none, some (si x5), none] [si q15] (0) (0) (jn a0 h m4)) hF (fun _ hj16 hF => ?_) (fun q15 hF => ?_)
      · refine v_if_eq (pc := 63) 74 dX11_hide_63 rfl (fun hc => ?_) (fun hc => ?_)
        · replace hF := (okB_if hF).1 hc
          refine v_iconst (pc := 74) (v := (-1 : Int32)) dX11_hide_74 rfl ?_
          exact v_lle [some (sr (some a0)), some (si a1), none, some (si x5), none] ⟨rfl, rfl, rfl, trivial⟩ (hj16 (-1 : Int32) (okB_some hF))
        replace hF := (okB_if hF).2 hc
        refine v_aload_n (pc := 66) (i := 0) dX11_hide_66 rfl rfl ?_
        refine v_iload_n (pc := 67) (i := 1) dX11_hide_67 rfl rfl ?_
        refine cpM_V (pc := 68) gI (as := [si a1]) (st := []) (N := mX11_regionOf) (k := 0) (n := 0) (k1 := 0) (n1 := 0) dX11_hide_68 lkX11_230 caX11_regionOf cvX11_regionOf rfl rfl (fun Q1 hq => tX11_regionOf a0 h a1 m4 Q1 hq) ⟨by decide, by decide⟩ (Nat.le_of_ble_eq_true rfl) rfl hF (fun x17 hF => ?_)
        show gV G mX11_hide 6 Q 71 [some (sr (some a0)), some (si a1), some (si a2), some (si x5), none] [si x17] (0) (0) (jn a0 h m4)
        refine v_goto (pc := 71) 75 dX11_hide_71 rfl ?_
        exact v_lle [some (sr (some a0)), some (si a1), none, some (si x5), none] ⟨rfl, rfl, rfl, trivial⟩ (hj16 x17 (okB_some hF))
      refine v_istore (pc := 75) (i := 4) [some (sr (some a0)), some (si a1), none, some (si x5), some (si q15)] dX11_hide_75 (by decide) rfl rfl ?_
      refine v_aload_n (pc := 77) (i := 0) dX11_hide_77 rfl rfl ?_
      refine m_getA (pc := 78) (j := 12) dX11_hide_78 flX11_44 rfl (by decide) ?_
      refine v_iload_n (pc := 81) (i := 1) dX11_hide_81 rfl rfl ?_
      refine v_iconst (pc := 82) (v := (1 : Int32)) dX11_hide_82 rfl ?_
      refine m_zast (pc := 83) (j := 12) dX11_hide_83 hF (fun m18 hF => ?_)
      refine v_aload_n (pc := 84) (i := 0) dX11_hide_84 rfl rfl ?_
      refine v_iload_n (pc := 85) (i := 1) dX11_hide_85 rfl rfl ?_
      refine chM_V (pc := 86) gU (as := [si a1]) (st := []) (N := mX11_makeGone) (k := 0) (n := 0) (k1 := 0) (n1 := 0) dX11_hide_86 lkX11_305 caX11_makeGone cvX11_makeGone rfl rfl (fun Q1 hq => tX11_makeGone a0 h a1 m18 Q1 hq) ⟨by decide, by decide⟩ (Nat.le_of_ble_eq_true rfl) rfl hF (fun x19 m20 hF => ?_)
      show gV G mX11_hide 6 Q 89 [some (sr (some a0)), some (si a1), none, some (si x5), some (si q15)] [] (0) (0) (jn a0 h m20)
      refine v_aload_n (pc := 89) (i := 0) dX11_hide_89 rfl rfl ?_
      refine v_iload (pc := 90) (i := 4) dX11_hide_90 rfl ?_
      refine chM_V (pc := 92) gU (as := [si q15]) (st := []) (N := mX11_tell) (k := 0) (n := 0) (k1 := 0) (n1 := 0) dX11_hide_92 lkX11_233 caX11_tell cvX11_tell rfl rfl (fun Q1 hq => tX11_tell a0 h q15 m20 Q1 hq) ⟨by decide, by decide⟩ (Nat.le_of_ble_eq_true rfl) rfl hF (fun x21 m22 hF => ?_)
      show gV G mX11_hide 6 Q 95 [some (sr (some a0)), some (si a1), none, some (si x5), some (si q15)] [] (0) (0) (jn a0 h m22)
      refine v_aload_n (pc := 95) (i := 0) dX11_hide_95 rfl rfl ?_
      refine v_aload_n (pc := 96) (i := 0) dX11_hide_96 rfl rfl ?_
      refine m_getA (pc := 97) (j := 3) dX11_hide_97 flX11_17 rfl (by decide) ?_
      refine v_iload_n (pc := 100) (i := 1) dX11_hide_100 rfl rfl ?_
      refine m_iald (pc := 101) (j := 3) dX11_hide_101 hF (fun x23 hF => ?_)
      refine v_aload_n (pc := 102) (i := 0) dX11_hide_102 rfl rfl ?_
      refine v_iload_n (pc := 103) (i := 1) dX11_hide_103 rfl rfl ?_
      refine cpM_V (pc := 104) gI (as := [si a1]) (st := [si x23, sr (some a0)]) (N := mX11_placeOf) (k := 0) (n := 0) (k1 := 0) (n1 := 0) dX11_hide_104 lkX11_302 caX11_placeOf cvX11_placeOf rfl rfl (fun Q1 hq => tX11_placeOf a0 h a1 m22 Q1 hq) ⟨by decide, by decide⟩ (Nat.le_of_ble_eq_true rfl) rfl hF (fun x24 hF => ?_)
      show gV G mX11_hide 6 Q 107 [some (sr (some a0)), some (si a1), none, some (si x5), some (si q15)] [si x24, si x23, sr (some a0)] (0) (0) (jn a0 h m22)
      refine v_iconst (pc := 107) (v := (1 : Int32)) dX11_hide_107 rfl ?_
      refine v_iadd (pc := 108) dX11_hide_108 ?_
      refine v_aload_n (pc := 109) (i := 0) dX11_hide_109 rfl rfl ?_
      refine v_iload_n (pc := 110) (i := 1) dX11_hide_110 rfl rfl ?_
      refine cpM_V (pc := 111) gI (as := [si a1]) (st := [si (x24 + (1 : Int32)), si x23, sr (some a0)]) (N := mX11_placeOf) (k := 0) (n := 0) (k1 := 0) (n1 := 0) dX11_hide_111 lkX11_302 caX11_placeOf cvX11_placeOf rfl rfl (fun Q1 hq => tX11_placeOf a0 h a1 m22 Q1 hq) ⟨by decide, by decide⟩ (Nat.le_of_ble_eq_true rfl) rfl hF (fun x25 hF => ?_)
      show gV G mX11_hide 6 Q 114 [some (sr (some a0)), some (si a1), none, some (si x5), some (si q15)] [si x25, si (x24 + (1 : Int32)), si x23, sr (some a0)] (0) (0) (jn a0 h m22)
      refine v_iconst (pc := 114) (v := (1 : Int32)) dX11_hide_114 rfl ?_
      refine v_isub (pc := 115) dX11_hide_115 ?_
      refine chM_V (pc := 116) gU (as := [si x23, si (x24 + (1 : Int32)), si (x25 - (1 : Int32))]) (st := []) (N := mX11_lose) (k := 0) (n := 0) (k1 := 0) (n1 := 0) dX11_hide_116 lkX11_311 caX11_lose cvX11_lose rfl rfl (fun Q1 hq => tX11_lose a0 h x23 (x24 + (1 : Int32)) (x25 - (1 : Int32)) m22 Q1 hq) ⟨by decide, by decide⟩ (Nat.le_of_ble_eq_true rfl) rfl hF (fun x26 m27 hF => ?_)
      show gV G mX11_hide 6 Q 119 [some (sr (some a0)), some (si a1), none, some (si x5), some (si q15)] [] (0) (0) (jn a0 h m27)
      refine v_goto (pc := 119) 142 dX11_hide_119 rfl ?_
      exact v_lle [some (sr (some a0)), none, none, some (si x5), none] ⟨rfl, rfl, trivial⟩ (hj7 m27 (okB_some hF))
    refine v_aload_n (pc := 142) (i := 0) dX11_hide_142 rfl rfl ?_
    refine chM_V (pc := 143) gU (as := []) (st := []) (N := mX11_fitOffset) (k := 0) (n := 0) (k1 := 0) (n1 := 0) dX11_hide_143 lkX11_295 caX11_fitOffset cvX11_fitOffset rfl rfl (fun Q1 hq => tX11_fitOffset a0 h q6 Q1 hq) ⟨by decide, by decide⟩ (Nat.le_of_ble_eq_true rfl) rfl hF (fun x28 m29 hF => ?_)
    show gV G mX11_hide 6 Q 146 [some (sr (some a0)), none, none, some (si x5), none] [] (0) (0) (jn a0 h m29)
    refine v_iload_n (pc := 146) (i := 3) dX11_hide_146 rfl rfl ?_
    exact s_zret (pc := 147) dX11_hide_147 rfl hF (fun hF => (okr hF fun q => q))
  replace hF := (okB_if hF).2 hc
  refine v_iconst (pc := 41) (v := (0 : Int32)) dX11_hide_41 rfl ?_
  exact v_iret (pc := 42) dX11_hide_42 rfl rfl (okr hF fun q => q)
/-! BrailleDeskModel.rename -/
theorem lX11_rename_64 {G : gG} {Q : hQ} {P : Int32 → Prop} {k n : Nat} (a0 : Nat) (h : hp) (c1 : Int32) (m : mm) (hJ : ∀ q : Int32, P q → gV G mX11_rename 6 Q 108 [some (sr (some a0)), some (si c1), some (si q), none] [] (k) (n) (jn a0 h m)) : ∀ (fu : Nat) (a : (Int32 × Int32)), okB (itr (fX11_rename_B64 c1 m) fu a) P → gV G mX11_rename 6 Q 64 [some (sr (some a0)), some (si c1), some (si a.1), some (si a.2)] [] (k) (n) (jn a0 h m) :=
  lpg (X := fun (a : (Int32 × Int32)) => gV G mX11_rename 6 Q 64 [some (sr (some a0)), some (si c1), some (si a.1), some (si a.2)] [] (k) (n) (jn a0 h m)) (fun a P2 hL hE hF => by
    delta fX11_rename_B64 at hF
    refine v_iload_n (pc := 64) (i := 3) dX11_rename_64 rfl rfl ?_
    refine v_aload_n (pc := 65) (i := 0) dX11_rename_65 rfl rfl ?_
    refine m_getI (pc := 66) (j := 19) dX11_rename_66 flX11_282 rfl rfl ?_
    refine v_icmp_ge (pc := 69) 108 dX11_rename_69 rfl (fun hc => ?_) (fun hc => ?_)
    · replace hF := (okB_if hF).1 hc
      exact v_lle [some (sr (some a0)), some (si c1), some (si a.1), none] ⟨rfl, rfl, rfl, trivial⟩ (hJ a.1 (hE _ (okB_some hF)))
    replace hF := (okB_if hF).2 hc
    refine v_iload_n (pc := 72) (i := 2) dX11_rename_72 rfl rfl ?_
    refine v_if_eq (pc := 73) 108 dX11_rename_73 rfl (fun hc => ?_) (fun hc => ?_)
    · replace hF := (okB_if hF).1 hc
      exact v_lle [some (sr (some a0)), some (si c1), some (si a.1), none] ⟨rfl, rfl, rfl, trivial⟩ (hJ a.1 (hE _ (okB_some hF)))
    replace hF := (okB_if hF).2 hc
    refine v_aload_n (pc := 76) (i := 0) dX11_rename_76 rfl rfl ?_
    refine m_getA (pc := 77) (j := 6) dX11_rename_77 flX11_26 rfl (by decide) ?_
    refine v_bipush (pc := 80) (v := (12 : Int32)) dX11_rename_80 rfl ?_
    refine v_iload_n (pc := 82) (i := 1) dX11_rename_82 rfl rfl ?_
    refine v_imul (pc := 83) dX11_rename_83 ?_
    refine v_iload_n (pc := 84) (i := 3) dX11_rename_84 rfl rfl ?_
    refine v_iadd (pc := 85) dX11_rename_85 ?_
    refine m_iald (pc := 86) (j := 6) dX11_rename_86 hF (fun x1 hF => ?_)
    refine v_aload_n (pc := 87) (i := 0) dX11_rename_87 rfl rfl ?_
    refine m_getA (pc := 88) (j := 18) dX11_rename_88 flX11_62 rfl (by decide) ?_
    refine v_iload_n (pc := 91) (i := 3) dX11_rename_91 rfl rfl ?_
    refine m_iald (pc := 92) (j := 18) dX11_rename_92 hF (fun x2 hF => ?_)
    refine v_icmp_ne (pc := 93) 100 dX11_rename_93 rfl (fun hc => ?_) (fun hc => ?_)
    · replace hF := (okB_if hF).2 hc
      refine v_iconst (pc := 100) (v := (0 : Int32)) dX11_rename_100 rfl ?_
      refine v_istore_n (pc := 101) (i := 2) [some (sr (some a0)), some (si c1), some (si (0 : Int32)), some (si a.2)] dX11_rename_101 rfl (by decide) rfl rfl ?_
      refine v_iinc (pc := 102) (i := 3) (a.2 + (1 : Int32)) [some (sr (some a0)), some (si c1), some (si (0 : Int32)), some (si (a.2 + (1 : Int32)))] dX11_rename_102 rfl rfl rfl rfl ?_
      refine v_goto (pc := 105) 64 dX11_rename_105 rfl ?_
      exact v_lle [some (sr (some a0)), some (si c1), some (si (0 : Int32)), some (si (a.2 + (1 : Int32)))] ⟨rfl, rfl, rfl, rfl, trivial⟩ (hL ((0 : Int32), a.2 + (1 : Int32)) (okB_some hF))
    replace hF := (okB_if hF).1 hc
    refine v_iconst (pc := 96) (v := (1 : Int32)) dX11_rename_96 rfl ?_
    refine v_goto (pc := 97) 101 dX11_rename_97 rfl ?_
    refine v_istore_n (pc := 101) (i := 2) [some (sr (some a0)), some (si c1), some (si (1 : Int32)), some (si a.2)] dX11_rename_101 rfl (by decide) rfl rfl ?_
    refine v_iinc (pc := 102) (i := 3) (a.2 + (1 : Int32)) [some (sr (some a0)), some (si c1), some (si (1 : Int32)), some (si (a.2 + (1 : Int32)))] dX11_rename_102 rfl rfl rfl rfl ?_
    refine v_goto (pc := 105) 64 dX11_rename_105 rfl ?_
    exact v_lle [some (sr (some a0)), some (si c1), some (si (1 : Int32)), some (si (a.2 + (1 : Int32)))] ⟨rfl, rfl, rfl, rfl, trivial⟩ (hL ((1 : Int32), a.2 + (1 : Int32)) (okB_some hF)))
theorem tX11_rename {G : gG} (a0 : Nat) (h : hp) (a1 : Int32) (m : mm) (Q : hQ) (hF : okB (fX11_rename a1 m) (pM gI Q a0 h)) : gS G mX11_rename 6 0 0 [sr (some a0), si a1] (jn a0 h m) Q := by
  delta fX11_rename at hF
  refine gS_at [some (sr (some a0)), some (si a1), none, none] pl_X11 rfl (Nat.le_of_ble_eq_true rfl) rfl ?_
  refine v_aload_n (pc := 0) (i := 0) dX11_rename_0 rfl rfl ?_
  refine v_aload_n (pc := 1) (i := 0) dX11_rename_1 rfl rfl ?_
  refine v_iload_n (pc := 2) (i := 1) dX11_rename_2 rfl rfl ?_
  refine cpM_V (pc := 3) gI (as := [si a1]) (st := [sr (some a0)]) (N := mX11_isElement) (k := 0) (n := 0) (k1 := 0) (n1 := 0) dX11_rename_3 lkX11_118 caX11_isElement cvX11_isElement rfl rfl (fun Q1 hq => tX11_isElement a0 h a1 m Q1 hq) ⟨by decide, by decide⟩ (Nat.le_of_ble_eq_true rfl) rfl hF (fun x1 hF => ?_)
  show gV G mX11_rename 6 Q 6 [some (sr (some a0)), some (si a1), none, none] [si x1, sr (some a0)] (0) (0) (jn a0 h m)
  refine mg (X := fun q2 => gV G mX11_rename 6 Q 31 [some (sr (some a0)), some (si a1), none, none] [si q2, sr (some a0)] (0) (0) (jn a0 h m)) hF (fun _ hj3 hF => ?_) (fun q2 hF => ?_)
  · refine v_if_ne (pc := 6) 13 dX11_rename_6 rfl (fun hc => ?_) (fun hc => ?_)
    · replace hF := (okB_if hF).2 hc
      refine v_iload_n (pc := 13) (i := 1) dX11_rename_13 rfl rfl ?_
      refine v_if_eq (pc := 14) 26 dX11_rename_14 rfl (fun hc => ?_) (fun hc => ?_)
      · replace hF := (okB_if hF).1 hc
        refine v_iconst (pc := 26) (v := (2 : Int32)) dX11_rename_26 rfl ?_
        refine v_goto (pc := 27) 31 dX11_rename_27 rfl ?_
        exact v_lle [some (sr (some a0)), some (si a1), none, none] ⟨rfl, rfl, trivial⟩ (hj3 (2 : Int32) (okB_some hF))
      replace hF := (okB_if hF).2 hc
      refine v_aload_n (pc := 17) (i := 0) dX11_rename_17 rfl rfl ?_
      refine m_getI (pc := 18) (j := 37) dX11_rename_18 flX11_191 rfl rfl ?_
      refine v_bipush (pc := 21) (v := (20 : Int32)) dX11_rename_21 rfl ?_
      refine v_icmp_lt (pc := 23) 30 dX11_rename_23 rfl (fun hc => ?_) (fun hc => ?_)
      · replace hF := (okB_if hF).1 hc
        refine v_iconst (pc := 30) (v := (0 : Int32)) dX11_rename_30 rfl ?_
        exact v_lle [some (sr (some a0)), some (si a1), none, none] ⟨rfl, rfl, trivial⟩ (hj3 (0 : Int32) (okB_some hF))
      replace hF := (okB_if hF).2 hc
      refine v_iconst (pc := 26) (v := (2 : Int32)) dX11_rename_26 rfl ?_
      refine v_goto (pc := 27) 31 dX11_rename_27 rfl ?_
      exact v_lle [some (sr (some a0)), some (si a1), none, none] ⟨rfl, rfl, trivial⟩ (hj3 (2 : Int32) (okB_some hF))
    replace hF := (okB_if hF).1 hc
    refine v_iconst (pc := 9) (v := (1 : Int32)) dX11_rename_9 rfl ?_
    refine v_goto (pc := 10) 31 dX11_rename_10 rfl ?_
    exact v_lle [some (sr (some a0)), some (si a1), none, none] ⟨rfl, rfl, trivial⟩ (hj3 (1 : Int32) (okB_some hF))
  refine m_putI (pc := 31) (j := 48) dX11_rename_31 flX11_111 rfl rfl rfl hF (fun m4 hF => ?_)
  refine v_aload_n (pc := 34) (i := 0) dX11_rename_34 rfl rfl ?_
  refine m_getI (pc := 35) (j := 48) dX11_rename_35 flX11_111 rfl rfl ?_
  refine v_if_le (pc := 38) 43 dX11_rename_38 rfl (fun hc => ?_) (fun hc => ?_)
  · replace hF := (okB_if hF).1 hc
    refine v_aload_n (pc := 43) (i := 0) dX11_rename_43 rfl rfl ?_
    refine m_getA (pc := 44) (j := 7) dX11_rename_44 flX11_29 rfl (by decide) ?_
    refine v_iload_n (pc := 47) (i := 1) dX11_rename_47 rfl rfl ?_
    refine m_iald (pc := 48) (j := 7) dX11_rename_48 hF (fun x5 hF => ?_)
    refine v_aload_n (pc := 49) (i := 0) dX11_rename_49 rfl rfl ?_
    refine m_getI (pc := 50) (j := 19) dX11_rename_50 flX11_282 rfl rfl ?_
    refine mg (X := fun q6 => gV G mX11_rename 6 Q 61 [some (sr (some a0)), some (si a1), none, none] [si q6] (0) (0) (jn a0 h m4)) hF (fun _ hj7 hF => ?_) (fun q6 hF => ?_)
    · refine v_icmp_ne (pc := 53) 60 dX11_rename_53 rfl (fun hc => ?_) (fun hc => ?_)
      · replace hF := (okB_if hF).2 hc
        refine v_iconst (pc := 60) (v := (0 : Int32)) dX11_rename_60 rfl ?_
        exact v_lle [some (sr (some a0)), some (si a1), none, none] ⟨rfl, rfl, trivial⟩ (hj7 (0 : Int32) (okB_some hF))
      replace hF := (okB_if hF).1 hc
      refine v_iconst (pc := 56) (v := (1 : Int32)) dX11_rename_56 rfl ?_
      refine v_goto (pc := 57) 61 dX11_rename_57 rfl ?_
      exact v_lle [some (sr (some a0)), some (si a1), none, none] ⟨rfl, rfl, trivial⟩ (hj7 (1 : Int32) (okB_some hF))
    refine v_istore_n (pc := 61) (i := 2) [some (sr (some a0)), some (si a1), some (si q6), none] dX11_rename_61 rfl (by decide) rfl rfl ?_
    refine v_iconst (pc := 62) (v := (0 : Int32)) dX11_rename_62 rfl ?_
    refine v_istore_n (pc := 63) (i := 3) [some (sr (some a0)), some (si a1), some (si q6), some (si (0 : Int32))] dX11_rename_63 rfl (by decide) rfl rfl ?_
    refine mg (X := fun q8 => gV G mX11_rename 6 Q 108 [some (sr (some a0)), some (si a1), some (si q8), none] [] (0) (0) (jn a0 h m4)) hF (fun _ hj18 hF => v_lle [some (sr (some a0)), some (si a1), some (si q6), some (si (0 : Int32))] ⟨rfl, rfl, rfl, rfl, trivial⟩ (lX11_rename_64 a0 h a1 m4 hj18 FU (q6, (0 : Int32)) hF)) (fun q8 hF => ?_)
    refine v_aload_n (pc := 108) (i := 0) dX11_rename_108 rfl rfl ?_
    refine v_iload_n (pc := 109) (i := 1) dX11_rename_109 rfl rfl ?_
    refine chM_V (pc := 110) gU (as := [si a1]) (st := []) (N := mX11_takeDraft) (k := 0) (n := 0) (k1 := 0) (n1 := 0) dX11_rename_110 lkX11_289 caX11_takeDraft cvX11_takeDraft rfl rfl (fun Q1 hq => tX11_takeDraft a0 h a1 m4 Q1 hq) ⟨by decide, by decide⟩ (Nat.le_of_ble_eq_true rfl) rfl hF (fun x9 m10 hF => ?_)
    show gV G mX11_rename 6 Q 113 [some (sr (some a0)), some (si a1), some (si q8), none] [] (0) (0) (jn a0 h m10)
    refine v_iload_n (pc := 113) (i := 2) dX11_rename_113 rfl rfl ?_
    refine mg (X := fun q11 => gV G mX11_rename 6 Q 122 [some (sr (some a0)), some (si a1), none, none] [] (0) (0) (jn a0 h q11)) hF (fun _ hj12 hF => ?_) (fun q11 hF => ?_)
    · refine v_if_ne (pc := 114) 122 dX11_rename_114 rfl (fun hc => ?_) (fun hc => ?_)
      · replace hF := (okB_if hF).2 hc
        exact v_lle [some (sr (some a0)), some (si a1), none, none] ⟨rfl, rfl, trivial⟩ (hj12 m10 (okB_some hF))
      replace hF := (okB_if hF).1 hc
      refine v_aload_n (pc := 117) (i := 0) dX11_rename_117 rfl rfl ?_
      refine v_iload_n (pc := 118) (i := 1) dX11_rename_118 rfl rfl ?_
      refine chM_V (pc := 119) gU (as := [si a1]) (st := []) (N := mX11_tellWords) (k := 0) (n := 0) (k1 := 0) (n1 := 0) dX11_rename_119 lkX11_292 caX11_tellWords cvX11_tellWords rfl rfl (fun Q1 hq => tX11_tellWords a0 h a1 m10 Q1 hq) ⟨by decide, by decide⟩ (Nat.le_of_ble_eq_true rfl) rfl hF (fun x13 m14 hF => ?_)
      show gV G mX11_rename 6 Q 122 [some (sr (some a0)), some (si a1), some (si q8), none] [] (0) (0) (jn a0 h m14)
      exact v_lle [some (sr (some a0)), some (si a1), none, none] ⟨rfl, rfl, trivial⟩ (hj12 m14 (okB_some hF))
    refine v_aload_n (pc := 122) (i := 0) dX11_rename_122 rfl rfl ?_
    refine chM_V (pc := 123) gU (as := []) (st := []) (N := mX11_fitOffset) (k := 0) (n := 0) (k1 := 0) (n1 := 0) dX11_rename_123 lkX11_295 caX11_fitOffset cvX11_fitOffset rfl rfl (fun Q1 hq => tX11_fitOffset a0 h q11 Q1 hq) ⟨by decide, by decide⟩ (Nat.le_of_ble_eq_true rfl) rfl hF (fun x15 m16 hF => ?_)
    show gV G mX11_rename 6 Q 126 [some (sr (some a0)), some (si a1), none, none] [] (0) (0) (jn a0 h m16)
    refine v_aload_n (pc := 126) (i := 0) dX11_rename_126 rfl rfl ?_
    refine m_getA (pc := 127) (j := 7) dX11_rename_127 flX11_29 rfl (by decide) ?_
    refine v_iload_n (pc := 130) (i := 1) dX11_rename_130 rfl rfl ?_
    refine m_iald (pc := 131) (j := 7) dX11_rename_131 hF (fun x17 hF => ?_)
    exact v_iret (pc := 132) dX11_rename_132 rfl rfl (okr hF fun q => q)
  replace hF := (okB_if hF).2 hc
  refine v_iconst (pc := 41) (v := (0 : Int32)) dX11_rename_41 rfl ?_
  exact v_iret (pc := 42) dX11_rename_42 rfl rfl (okr hF fun q => q)
/-! BrailleDeskModel.set -/
theorem tX11_set {G : gG} (a0 : Nat) (h : hp) (a1 : Int32) (a2 : Int32) (m : mm) (Q : hQ) (hF : okB (fX11_set a1 a2 m) (pM gI Q a0 h)) : gS G mX11_set 6 0 0 [sr (some a0), si a1, si a2] (jn a0 h m) Q := by
  delta fX11_set at hF
  refine gS_at [some (sr (some a0)), some (si a1), some (si a2), none] pl_X11 rfl (Nat.le_of_ble_eq_true rfl) rfl ?_
  refine v_aload_n (pc := 0) (i := 0) dX11_set_0 rfl rfl ?_
  refine v_aload_n (pc := 1) (i := 0) dX11_set_1 rfl rfl ?_
  refine v_iload_n (pc := 2) (i := 1) dX11_set_2 rfl rfl ?_
  refine cpM_V (pc := 3) gI (as := [si a1]) (st := [sr (some a0)]) (N := mX11_isElement) (k := 0) (n := 0) (k1 := 0) (n1 := 0) dX11_set_3 lkX11_118 caX11_isElement cvX11_isElement rfl rfl (fun Q1 hq => tX11_isElement a0 h a1 m Q1 hq) ⟨by decide, by decide⟩ (Nat.le_of_ble_eq_true rfl) rfl hF (fun x1 hF => ?_)
  show gV G mX11_set 6 Q 6 [some (sr (some a0)), some (si a1), some (si a2), none] [si x1, sr (some a0)] (0) (0) (jn a0 h m)
  refine mg (X := fun q2 => gV G mX11_set 6 Q 37 [some (sr (some a0)), some (si a1), some (si a2), none] [si q2, sr (some a0)] (0) (0) (jn a0 h m)) hF (fun _ hj3 hF => ?_) (fun q2 hF => ?_)
  · refine v_if_ne (pc := 6) 13 dX11_set_6 rfl (fun hc => ?_) (fun hc => ?_)
    · replace hF := (okB_if hF).2 hc
      refine v_aload_n (pc := 13) (i := 0) dX11_set_13 rfl rfl ?_
      refine m_getA (pc := 14) (j := 2) dX11_set_14 flX11_13 rfl (by decide) ?_
      refine v_iload_n (pc := 17) (i := 1) dX11_set_17 rfl rfl ?_
      refine m_iald (pc := 18) (j := 2) dX11_set_18 hF (fun x4 hF => ?_)
      refine v_iconst (pc := 19) (v := (3 : Int32)) dX11_set_19 rfl ?_
      refine v_icmp_ne (pc := 20) 32 dX11_set_20 rfl (fun hc => ?_) (fun hc => ?_)
      · replace hF := (okB_if hF).2 hc
        refine v_iconst (pc := 32) (v := (2 : Int32)) dX11_set_32 rfl ?_
        refine v_goto (pc := 33) 37 dX11_set_33 rfl ?_
        exact v_lle [some (sr (some a0)), some (si a1), some (si a2), none] ⟨rfl, rfl, rfl, trivial⟩ (hj3 (2 : Int32) (okB_some hF))
      replace hF := (okB_if hF).1 hc
      refine v_aload_n (pc := 23) (i := 0) dX11_set_23 rfl rfl ?_
      refine m_getI (pc := 24) (j := 37) dX11_set_24 flX11_191 rfl rfl ?_
      refine v_bipush (pc := 27) (v := (20 : Int32)) dX11_set_27 rfl ?_
      refine v_icmp_lt (pc := 29) 36 dX11_set_29 rfl (fun hc => ?_) (fun hc => ?_)
      · replace hF := (okB_if hF).1 hc
        refine v_iconst (pc := 36) (v := (0 : Int32)) dX11_set_36 rfl ?_
        exact v_lle [some (sr (some a0)), some (si a1), some (si a2), none] ⟨rfl, rfl, rfl, trivial⟩ (hj3 (0 : Int32) (okB_some hF))
      replace hF := (okB_if hF).2 hc
      refine v_iconst (pc := 32) (v := (2 : Int32)) dX11_set_32 rfl ?_
      refine v_goto (pc := 33) 37 dX11_set_33 rfl ?_
      exact v_lle [some (sr (some a0)), some (si a1), some (si a2), none] ⟨rfl, rfl, rfl, trivial⟩ (hj3 (2 : Int32) (okB_some hF))
    replace hF := (okB_if hF).1 hc
    refine v_iconst (pc := 9) (v := (1 : Int32)) dX11_set_9 rfl ?_
    refine v_goto (pc := 10) 37 dX11_set_10 rfl ?_
    exact v_lle [some (sr (some a0)), some (si a1), some (si a2), none] ⟨rfl, rfl, rfl, trivial⟩ (hj3 (1 : Int32) (okB_some hF))
  refine m_putI (pc := 37) (j := 48) dX11_set_37 flX11_111 rfl rfl rfl hF (fun m5 hF => ?_)
  refine v_aload_n (pc := 40) (i := 0) dX11_set_40 rfl rfl ?_
  refine m_getI (pc := 41) (j := 48) dX11_set_41 flX11_111 rfl rfl ?_
  refine v_if_le (pc := 44) 49 dX11_set_44 rfl (fun hc => ?_) (fun hc => ?_)
  · replace hF := (okB_if hF).1 hc
    refine v_aload_n (pc := 49) (i := 0) dX11_set_49 rfl rfl ?_
    refine m_getA (pc := 50) (j := 10) dX11_set_50 flX11_38 rfl (by decide) ?_
    refine v_iload_n (pc := 53) (i := 1) dX11_set_53 rfl rfl ?_
    refine m_zald (pc := 54) (j := 10) dX11_set_54 hF (fun x6 hF => ?_)
    refine v_istore_n (pc := 55) (i := 3) [some (sr (some a0)), some (si a1), some (si a2), some (si x6)] dX11_set_55 rfl (by decide) rfl rfl ?_
    refine v_aload_n (pc := 56) (i := 0) dX11_set_56 rfl rfl ?_
    refine m_getA (pc := 57) (j := 10) dX11_set_57 flX11_38 rfl (by decide) ?_
    refine v_iload_n (pc := 60) (i := 1) dX11_set_60 rfl rfl ?_
    refine v_iload_n (pc := 61) (i := 2) dX11_set_61 rfl rfl ?_
    refine m_zast (pc := 62) (j := 10) dX11_set_62 hF (fun m7 hF => ?_)
    refine v_iload_n (pc := 63) (i := 3) dX11_set_63 rfl rfl ?_
    refine v_iload_n (pc := 64) (i := 2) dX11_set_64 rfl rfl ?_
    refine mg (X := fun q8 => gV G mX11_set 6 Q 73 [some (sr (some a0)), none, none, some (si x6)] [] (0) (0) (jn a0 h q8)) hF (fun _ hj9 hF => ?_) (fun q8 hF => ?_)
    · refine v_icmp_eq (pc := 65) 73 dX11_set_65 rfl (fun hc => ?_) (fun hc => ?_)
      · replace hF := (okB_if hF).1 hc
        exact v_lle [some (sr (some a0)), none, none, some (si x6)] ⟨rfl, rfl, trivial⟩ (hj9 m7 (okB_some hF))
      replace hF := (okB_if hF).2 hc
      refine v_aload_n (pc := 68) (i := 0) dX11_set_68 rfl rfl ?_
      refine v_iload_n (pc := 69) (i := 1) dX11_set_69 rfl rfl ?_
      refine chM_V (pc := 70) gU (as := [si a1]) (st := []) (N := mX11_tellWords) (k := 0) (n := 0) (k1 := 0) (n1 := 0) dX11_set_70 lkX11_292 caX11_tellWords cvX11_tellWords rfl rfl (fun Q1 hq => tX11_tellWords a0 h a1 m7 Q1 hq) ⟨by decide, by decide⟩ (Nat.le_of_ble_eq_true rfl) rfl hF (fun x10 m11 hF => ?_)
      show gV G mX11_set 6 Q 73 [some (sr (some a0)), some (si a1), some (si a2), some (si x6)] [] (0) (0) (jn a0 h m11)
      exact v_lle [some (sr (some a0)), none, none, some (si x6)] ⟨rfl, rfl, trivial⟩ (hj9 m11 (okB_some hF))
    refine v_aload_n (pc := 73) (i := 0) dX11_set_73 rfl rfl ?_
    refine chM_V (pc := 74) gU (as := []) (st := []) (N := mX11_fitOffset) (k := 0) (n := 0) (k1 := 0) (n1 := 0) dX11_set_74 lkX11_295 caX11_fitOffset cvX11_fitOffset rfl rfl (fun Q1 hq => tX11_fitOffset a0 h q8 Q1 hq) ⟨by decide, by decide⟩ (Nat.le_of_ble_eq_true rfl) rfl hF (fun x12 m13 hF => ?_)
    show gV G mX11_set 6 Q 77 [some (sr (some a0)), none, none, some (si x6)] [] (0) (0) (jn a0 h m13)
    refine v_iload_n (pc := 77) (i := 3) dX11_set_77 rfl rfl ?_
    exact s_zret (pc := 78) dX11_set_78 rfl hF (fun hF => (okr hF fun q => q))
  replace hF := (okB_if hF).2 hc
  refine v_iconst (pc := 47) (v := (0 : Int32)) dX11_set_47 rfl ?_
  exact v_iret (pc := 48) dX11_set_48 rfl rfl (okr hF fun q => q)
/-! BrailleDeskModel.setRule -/
theorem tX11_setRule {G : gG} (a0 : Nat) (h : hp) (a1 : Int32) (a2 : Int32) (m : mm) (Q : hQ) (hF : okB (fX11_setRule a1 a2 m) (pM gI Q a0 h)) : gS G mX11_setRule 6 0 0 [sr (some a0), si a1, si a2] (jn a0 h m) Q := by
  delta fX11_setRule at hF
  refine gS_at [some (sr (some a0)), some (si a1), some (si a2), none] pl_X11 rfl (Nat.le_of_ble_eq_true rfl) rfl ?_
  refine v_aload_n (pc := 0) (i := 0) dX11_setRule_0 rfl rfl ?_
  refine v_aload_n (pc := 1) (i := 0) dX11_setRule_1 rfl rfl ?_
  refine v_iload_n (pc := 2) (i := 1) dX11_setRule_2 rfl rfl ?_
  refine cpM_V (pc := 3) gI (as := [si a1]) (st := [sr (some a0)]) (N := mX11_isElement) (k := 0) (n := 0) (k1 := 0) (n1 := 0) dX11_setRule_3 lkX11_118 caX11_isElement cvX11_isElement rfl rfl (fun Q1 hq => tX11_isElement a0 h a1 m Q1 hq) ⟨by decide, by decide⟩ (Nat.le_of_ble_eq_true rfl) rfl hF (fun x1 hF => ?_)
  show gV G mX11_setRule 6 Q 6 [some (sr (some a0)), some (si a1), some (si a2), none] [si x1, sr (some a0)] (0) (0) (jn a0 h m)
  refine mg (X := fun q2 => gV G mX11_setRule 6 Q 27 [some (sr (some a0)), some (si a1), some (si a2), none] [si q2, sr (some a0)] (0) (0) (jn a0 h m)) hF (fun _ hj3 hF => ?_) (fun q2 hF => ?_)
  · refine v_if_ne (pc := 6) 13 dX11_setRule_6 rfl (fun hc => ?_) (fun hc => ?_)
    · replace hF := (okB_if hF).2 hc
      refine v_iload_n (pc := 13) (i := 2) dX11_setRule_13 rfl rfl ?_
      refine v_iconst (pc := 14) (v := (-1 : Int32)) dX11_setRule_14 rfl ?_
      refine v_iconst (pc := 15) (v := (2 : Int32)) dX11_setRule_15 rfl ?_
      refine cp_S (pc := 16) gI (as := [si a2, si (-1 : Int32), si (2 : Int32)]) (st := [sr (some a0)]) (N := mX11_in) (k := 0) (n := 0) (k1 := 0) (n1 := 0) dX11_setRule_16 lkX11_114 caX11_in csX11_in rfl (fun Q1 hq => tX11_in a2 (-1 : Int32) (2 : Int32) (jn a0 h m) Q1 hq) ⟨by decide, by decide⟩ (Nat.le_of_ble_eq_true rfl) rfl hF (fun x4 hF => ?_)
      show gV G mX11_setRule 6 Q 19 [some (sr (some a0)), some (si a1), some (si a2), none] [si x4, sr (some a0)] (0) (0) (jn a0 h m)
      refine v_if_ne (pc := 19) 26 dX11_setRule_19 rfl (fun hc => ?_) (fun hc => ?_)
      · replace hF := (okB_if hF).2 hc
        refine v_iconst (pc := 26) (v := (0 : Int32)) dX11_setRule_26 rfl ?_
        exact v_lle [some (sr (some a0)), some (si a1), some (si a2), none] ⟨rfl, rfl, rfl, trivial⟩ (hj3 (0 : Int32) (okB_some hF))
      replace hF := (okB_if hF).1 hc
      refine v_iconst (pc := 22) (v := (2 : Int32)) dX11_setRule_22 rfl ?_
      refine v_goto (pc := 23) 27 dX11_setRule_23 rfl ?_
      exact v_lle [some (sr (some a0)), some (si a1), some (si a2), none] ⟨rfl, rfl, rfl, trivial⟩ (hj3 (2 : Int32) (okB_some hF))
    replace hF := (okB_if hF).1 hc
    refine v_iconst (pc := 9) (v := (1 : Int32)) dX11_setRule_9 rfl ?_
    refine v_goto (pc := 10) 27 dX11_setRule_10 rfl ?_
    exact v_lle [some (sr (some a0)), some (si a1), some (si a2), none] ⟨rfl, rfl, rfl, trivial⟩ (hj3 (1 : Int32) (okB_some hF))
  refine m_putI (pc := 27) (j := 48) dX11_setRule_27 flX11_111 rfl rfl rfl hF (fun m5 hF => ?_)
  refine v_aload_n (pc := 30) (i := 0) dX11_setRule_30 rfl rfl ?_
  refine m_getI (pc := 31) (j := 48) dX11_setRule_31 flX11_111 rfl rfl ?_
  refine v_if_le (pc := 34) 39 dX11_setRule_34 rfl (fun hc => ?_) (fun hc => ?_)
  · replace hF := (okB_if hF).1 hc
    refine v_aload_n (pc := 39) (i := 0) dX11_setRule_39 rfl rfl ?_
    refine m_getA (pc := 40) (j := 13) dX11_setRule_40 flX11_47 rfl (by decide) ?_
    refine v_iload_n (pc := 43) (i := 1) dX11_setRule_43 rfl rfl ?_
    refine m_iald (pc := 44) (j := 13) dX11_setRule_44 hF (fun x6 hF => ?_)
    refine v_istore_n (pc := 45) (i := 3) [some (sr (some a0)), some (si a1), some (si a2), some (si x6)] dX11_setRule_45 rfl (by decide) rfl rfl ?_
    refine v_aload_n (pc := 46) (i := 0) dX11_setRule_46 rfl rfl ?_
    refine m_getA (pc := 47) (j := 13) dX11_setRule_47 flX11_47 rfl (by decide) ?_
    refine v_iload_n (pc := 50) (i := 1) dX11_setRule_50 rfl rfl ?_
    refine v_iload_n (pc := 51) (i := 2) dX11_setRule_51 rfl rfl ?_
    refine m_iast (pc := 52) (j := 13) dX11_setRule_52 hF (fun m7 hF => ?_)
    refine v_aload_n (pc := 53) (i := 0) dX11_setRule_53 rfl rfl ?_
    refine chM_V (pc := 54) gU (as := []) (st := []) (N := mX11_fitOffset) (k := 0) (n := 0) (k1 := 0) (n1 := 0) dX11_setRule_54 lkX11_295 caX11_fitOffset cvX11_fitOffset rfl rfl (fun Q1 hq => tX11_fitOffset a0 h m7 Q1 hq) ⟨by decide, by decide⟩ (Nat.le_of_ble_eq_true rfl) rfl hF (fun x8 m9 hF => ?_)
    show gV G mX11_setRule 6 Q 57 [some (sr (some a0)), some (si a1), some (si a2), some (si x6)] [] (0) (0) (jn a0 h m9)
    refine v_iload_n (pc := 57) (i := 3) dX11_setRule_57 rfl rfl ?_
    exact v_iret (pc := 58) dX11_setRule_58 rfl rfl (okr hF fun q => q)
  replace hF := (okB_if hF).2 hc
  refine v_iconst (pc := 37) (v := (0 : Int32)) dX11_setRule_37 rfl ?_
  exact v_iret (pc := 38) dX11_setRule_38 rfl rfl (okr hF fun q => q)

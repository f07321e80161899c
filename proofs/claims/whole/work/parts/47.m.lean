/-! ===== methods: their functions and rows ===== -/
theorem dX11_rename_0 : decode cX11_rename 0 = .ok (.aload_n 0, 1) := by decide +kernel
theorem dX11_rename_1 : decode cX11_rename 1 = .ok (.aload_n 0, 1) := by decide +kernel
theorem dX11_rename_2 : decode cX11_rename 2 = .ok (.iload_n 1, 1) := by decide +kernel
theorem dX11_rename_3 : decode cX11_rename 3 = .ok (.invokevirtual 118, 3) := by decide +kernel
theorem dX11_rename_6 : decode cX11_rename 6 = .ok (.ifCond .ne 7, 3) := by decide +kernel
theorem dX11_rename_9 : decode cX11_rename 9 = .ok (.iconst 1, 1) := by decide +kernel
theorem dX11_rename_10 : decode cX11_rename 10 = .ok (.goto 21, 3) := by decide +kernel
theorem dX11_rename_13 : decode cX11_rename 13 = .ok (.iload_n 1, 1) := by decide +kernel
theorem dX11_rename_14 : decode cX11_rename 14 = .ok (.ifCond .eq 12, 3) := by decide +kernel
theorem dX11_rename_17 : decode cX11_rename 17 = .ok (.aload_n 0, 1) := by decide +kernel
theorem dX11_rename_18 : decode cX11_rename 18 = .ok (.getfield 191, 3) := by decide +kernel
theorem dX11_rename_21 : decode cX11_rename 21 = .ok (.bipush 20, 2) := by decide +kernel
theorem dX11_rename_23 : decode cX11_rename 23 = .ok (.if_icmp .lt 7, 3) := by decide +kernel
theorem dX11_rename_26 : decode cX11_rename 26 = .ok (.iconst 2, 1) := by decide +kernel
theorem dX11_rename_27 : decode cX11_rename 27 = .ok (.goto 4, 3) := by decide +kernel
theorem dX11_rename_30 : decode cX11_rename 30 = .ok (.iconst 0, 1) := by decide +kernel
theorem dX11_rename_31 : decode cX11_rename 31 = .ok (.putfield 111, 3) := by decide +kernel
theorem dX11_rename_34 : decode cX11_rename 34 = .ok (.aload_n 0, 1) := by decide +kernel
theorem dX11_rename_35 : decode cX11_rename 35 = .ok (.getfield 111, 3) := by decide +kernel
theorem dX11_rename_38 : decode cX11_rename 38 = .ok (.ifCond .le 5, 3) := by decide +kernel
theorem dX11_rename_41 : decode cX11_rename 41 = .ok (.iconst 0, 1) := by decide +kernel
theorem dX11_rename_42 : decode cX11_rename 42 = .ok (.ireturn, 1) := by decide +kernel
theorem dX11_rename_43 : decode cX11_rename 43 = .ok (.aload_n 0, 1) := by decide +kernel
theorem dX11_rename_44 : decode cX11_rename 44 = .ok (.getfield 29, 3) := by decide +kernel
theorem dX11_rename_47 : decode cX11_rename 47 = .ok (.iload_n 1, 1) := by decide +kernel
theorem dX11_rename_48 : decode cX11_rename 48 = .ok (.iaload, 1) := by decide +kernel
theorem dX11_rename_49 : decode cX11_rename 49 = .ok (.aload_n 0, 1) := by decide +kernel
theorem dX11_rename_50 : decode cX11_rename 50 = .ok (.getfield 282, 3) := by decide +kernel
theorem dX11_rename_53 : decode cX11_rename 53 = .ok (.if_icmp .ne 7, 3) := by decide +kernel
theorem dX11_rename_56 : decode cX11_rename 56 = .ok (.iconst 1, 1) := by decide +kernel
theorem dX11_rename_57 : decode cX11_rename 57 = .ok (.goto 4, 3) := by decide +kernel
theorem dX11_rename_60 : decode cX11_rename 60 = .ok (.iconst 0, 1) := by decide +kernel
theorem dX11_rename_61 : decode cX11_rename 61 = .ok (.istore_n 2, 1) := by decide +kernel
theorem dX11_rename_62 : decode cX11_rename 62 = .ok (.iconst 0, 1) := by decide +kernel
theorem dX11_rename_63 : decode cX11_rename 63 = .ok (.istore_n 3, 1) := by decide +kernel
theorem dX11_rename_64 : decode cX11_rename 64 = .ok (.iload_n 3, 1) := by decide +kernel
theorem dX11_rename_65 : decode cX11_rename 65 = .ok (.aload_n 0, 1) := by decide +kernel
theorem dX11_rename_66 : decode cX11_rename 66 = .ok (.getfield 282, 3) := by decide +kernel
theorem dX11_rename_69 : decode cX11_rename 69 = .ok (.if_icmp .ge 39, 3) := by decide +kernel
theorem dX11_rename_72 : decode cX11_rename 72 = .ok (.iload_n 2, 1) := by decide +kernel
theorem dX11_rename_73 : decode cX11_rename 73 = .ok (.ifCond .eq 35, 3) := by decide +kernel
theorem dX11_rename_76 : decode cX11_rename 76 = .ok (.aload_n 0, 1) := by decide +kernel
theorem dX11_rename_77 : decode cX11_rename 77 = .ok (.getfield 26, 3) := by decide +kernel
theorem dX11_rename_80 : decode cX11_rename 80 = .ok (.bipush 12, 2) := by decide +kernel
theorem dX11_rename_82 : decode cX11_rename 82 = .ok (.iload_n 1, 1) := by decide +kernel
theorem dX11_rename_83 : decode cX11_rename 83 = .ok (.imul, 1) := by decide +kernel
theorem dX11_rename_84 : decode cX11_rename 84 = .ok (.iload_n 3, 1) := by decide +kernel
theorem dX11_rename_85 : decode cX11_rename 85 = .ok (.iadd, 1) := by decide +kernel
theorem dX11_rename_86 : decode cX11_rename 86 = .ok (.iaload, 1) := by decide +kernel
theorem dX11_rename_87 : decode cX11_rename 87 = .ok (.aload_n 0, 1) := by decide +kernel
theorem dX11_rename_88 : decode cX11_rename 88 = .ok (.getfield 62, 3) := by decide +kernel
theorem dX11_rename_91 : decode cX11_rename 91 = .ok (.iload_n 3, 1) := by decide +kernel
theorem dX11_rename_92 : decode cX11_rename 92 = .ok (.iaload, 1) := by decide +kernel
theorem dX11_rename_93 : decode cX11_rename 93 = .ok (.if_icmp .ne 7, 3) := by decide +kernel
theorem dX11_rename_96 : decode cX11_rename 96 = .ok (.iconst 1, 1) := by decide +kernel
theorem dX11_rename_97 : decode cX11_rename 97 = .ok (.goto 4, 3) := by decide +kernel
theorem dX11_rename_100 : decode cX11_rename 100 = .ok (.iconst 0, 1) := by decide +kernel
theorem dX11_rename_101 : decode cX11_rename 101 = .ok (.istore_n 2, 1) := by decide +kernel
theorem dX11_rename_102 : decode cX11_rename 102 = .ok (.iinc 3 1, 3) := by decide +kernel
theorem dX11_rename_105 : decode cX11_rename 105 = .ok (.goto (-41), 3) := by decide +kernel
theorem dX11_rename_108 : decode cX11_rename 108 = .ok (.aload_n 0, 1) := by decide +kernel
theorem dX11_rename_109 : decode cX11_rename 109 = .ok (.iload_n 1, 1) := by decide +kernel
theorem dX11_rename_110 : decode cX11_rename 110 = .ok (.invokevirtual 289, 3) := by decide +kernel
theorem dX11_rename_113 : decode cX11_rename 113 = .ok (.iload_n 2, 1) := by decide +kernel
theorem dX11_rename_114 : decode cX11_rename 114 = .ok (.ifCond .ne 8, 3) := by decide +kernel
theorem dX11_rename_117 : decode cX11_rename 117 = .ok (.aload_n 0, 1) := by decide +kernel
theorem dX11_rename_118 : decode cX11_rename 118 = .ok (.iload_n 1, 1) := by decide +kernel
theorem dX11_rename_119 : decode cX11_rename 119 = .ok (.invokevirtual 292, 3) := by decide +kernel
theorem dX11_rename_122 : decode cX11_rename 122 = .ok (.aload_n 0, 1) := by decide +kernel
theorem dX11_rename_123 : decode cX11_rename 123 = .ok (.invokevirtual 295, 3) := by decide +kernel
theorem dX11_rename_126 : decode cX11_rename 126 = .ok (.aload_n 0, 1) := by decide +kernel
theorem dX11_rename_127 : decode cX11_rename 127 = .ok (.getfield 29, 3) := by decide +kernel
theorem dX11_rename_130 : decode cX11_rename 130 = .ok (.iload_n 1, 1) := by decide +kernel
theorem dX11_rename_131 : decode cX11_rename 131 = .ok (.iaload, 1) := by decide +kernel
theorem dX11_rename_132 : decode cX11_rename 132 = .ok (.ireturn, 1) := by decide +kernel
theorem dX11_set_0 : decode cX11_set 0 = .ok (.aload_n 0, 1) := by decide +kernel
theorem dX11_set_1 : decode cX11_set 1 = .ok (.aload_n 0, 1) := by decide +kernel
theorem dX11_set_2 : decode cX11_set 2 = .ok (.iload_n 1, 1) := by decide +kernel
theorem dX11_set_3 : decode cX11_set 3 = .ok (.invokevirtual 118, 3) := by decide +kernel
theorem dX11_set_6 : decode cX11_set 6 = .ok (.ifCond .ne 7, 3) := by decide +kernel
theorem dX11_set_9 : decode cX11_set 9 = .ok (.iconst 1, 1) := by decide +kernel
theorem dX11_set_10 : decode cX11_set 10 = .ok (.goto 27, 3) := by decide +kernel
theorem dX11_set_13 : decode cX11_set 13 = .ok (.aload_n 0, 1) := by decide +kernel
theorem dX11_set_14 : decode cX11_set 14 = .ok (.getfield 13, 3) := by decide +kernel
theorem dX11_set_17 : decode cX11_set 17 = .ok (.iload_n 1, 1) := by decide +kernel
theorem dX11_set_18 : decode cX11_set 18 = .ok (.iaload, 1) := by decide +kernel
theorem dX11_set_19 : decode cX11_set 19 = .ok (.iconst 3, 1) := by decide +kernel
theorem dX11_set_20 : decode cX11_set 20 = .ok (.if_icmp .ne 12, 3) := by decide +kernel
theorem dX11_set_23 : decode cX11_set 23 = .ok (.aload_n 0, 1) := by decide +kernel
theorem dX11_set_24 : decode cX11_set 24 = .ok (.getfield 191, 3) := by decide +kernel
theorem dX11_set_27 : decode cX11_set 27 = .ok (.bipush 20, 2) := by decide +kernel
theorem dX11_set_29 : decode cX11_set 29 = .ok (.if_icmp .lt 7, 3) := by decide +kernel
theorem dX11_set_32 : decode cX11_set 32 = .ok (.iconst 2, 1) := by decide +kernel
theorem dX11_set_33 : decode cX11_set 33 = .ok (.goto 4, 3) := by decide +kernel
theorem dX11_set_36 : decode cX11_set 36 = .ok (.iconst 0, 1) := by decide +kernel
theorem dX11_set_37 : decode cX11_set 37 = .ok (.putfield 111, 3) := by decide +kernel
theorem dX11_set_40 : decode cX11_set 40 = .ok (.aload_n 0, 1) := by decide +kernel
theorem dX11_set_41 : decode cX11_set 41 = .ok (.getfield 111, 3) := by decide +kernel
theorem dX11_set_44 : decode cX11_set 44 = .ok (.ifCond .le 5, 3) := by decide +kernel
theorem dX11_set_47 : decode cX11_set 47 = .ok (.iconst 0, 1) := by decide +kernel
theorem dX11_set_48 : decode cX11_set 48 = .ok (.ireturn, 1) := by decide +kernel
theorem dX11_set_49 : decode cX11_set 49 = .ok (.aload_n 0, 1) := by decide +kernel
theorem dX11_set_50 : decode cX11_set 50 = .ok (.getfield 38, 3) := by decide +kernel
theorem dX11_set_53 : decode cX11_set 53 = .ok (.iload_n 1, 1) := by decide +kernel
theorem dX11_set_54 : decode cX11_set 54 = .ok (.baload, 1) := by decide +kernel
theorem dX11_set_55 : decode cX11_set 55 = .ok (.istore_n 3, 1) := by decide +kernel
theorem dX11_set_56 : decode cX11_set 56 = .ok (.aload_n 0, 1) := by decide +kernel
theorem dX11_set_57 : decode cX11_set 57 = .ok (.getfield 38, 3) := by decide +kernel
theorem dX11_set_60 : decode cX11_set 60 = .ok (.iload_n 1, 1) := by decide +kernel
theorem dX11_set_61 : decode cX11_set 61 = .ok (.iload_n 2, 1) := by decide +kernel
theorem dX11_set_62 : decode cX11_set 62 = .ok (.bastore, 1) := by decide +kernel
theorem dX11_set_63 : decode cX11_set 63 = .ok (.iload_n 3, 1) := by decide +kernel
theorem dX11_set_64 : decode cX11_set 64 = .ok (.iload_n 2, 1) := by decide +kernel
theorem dX11_set_65 : decode cX11_set 65 = .ok (.if_icmp .eq 8, 3) := by decide +kernel
theorem dX11_set_68 : decode cX11_set 68 = .ok (.aload_n 0, 1) := by decide +kernel
theorem dX11_set_69 : decode cX11_set 69 = .ok (.iload_n 1, 1) := by decide +kernel
theorem dX11_set_70 : decode cX11_set 70 = .ok (.invokevirtual 292, 3) := by decide +kernel
theorem dX11_set_73 : decode cX11_set 73 = .ok (.aload_n 0, 1) := by decide +kernel
theorem dX11_set_74 : decode cX11_set 74 = .ok (.invokevirtual 295, 3) := by decide +kernel
theorem dX11_set_77 : decode cX11_set 77 = .ok (.iload_n 3, 1) := by decide +kernel
theorem dX11_set_78 : decode cX11_set 78 = .ok (.ireturn, 1) := by decide +kernel
theorem dX11_setRule_0 : decode cX11_setRule 0 = .ok (.aload_n 0, 1) := by decide +kernel
theorem dX11_setRule_1 : decode cX11_setRule 1 = .ok (.aload_n 0, 1) := by decide +kernel
theorem dX11_setRule_2 : decode cX11_setRule 2 = .ok (.iload_n 1, 1) := by decide +kernel
theorem dX11_setRule_3 : decode cX11_setRule 3 = .ok (.invokevirtual 118, 3) := by decide +kernel
theorem dX11_setRule_6 : decode cX11_setRule 6 = .ok (.ifCond .ne 7, 3) := by decide +kernel
theorem dX11_setRule_9 : decode cX11_setRule 9 = .ok (.iconst 1, 1) := by decide +kernel
theorem dX11_setRule_10 : decode cX11_setRule 10 = .ok (.goto 17, 3) := by decide +kernel
theorem dX11_setRule_13 : decode cX11_setRule 13 = .ok (.iload_n 2, 1) := by decide +kernel
theorem dX11_setRule_14 : decode cX11_setRule 14 = .ok (.iconst (-1), 1) := by decide +kernel
theorem dX11_setRule_15 : decode cX11_setRule 15 = .ok (.iconst 2, 1) := by decide +kernel
theorem dX11_setRule_16 : decode cX11_setRule 16 = .ok (.invokestatic 114, 3) := by decide +kernel
theorem dX11_setRule_19 : decode cX11_setRule 19 = .ok (.ifCond .ne 7, 3) := by decide +kernel
theorem dX11_setRule_22 : decode cX11_setRule 22 = .ok (.iconst 2, 1) := by decide +kernel
theorem dX11_setRule_23 : decode cX11_setRule 23 = .ok (.goto 4, 3) := by decide +kernel
theorem dX11_setRule_26 : decode cX11_setRule 26 = .ok (.iconst 0, 1) := by decide +kernel
theorem dX11_setRule_27 : decode cX11_setRule 27 = .ok (.putfield 111, 3) := by decide +kernel
theorem dX11_setRule_30 : decode cX11_setRule 30 = .ok (.aload_n 0, 1) := by decide +kernel
theorem dX11_setRule_31 : decode cX11_setRule 31 = .ok (.getfield 111, 3) := by decide +kernel
theorem dX11_setRule_34 : decode cX11_setRule 34 = .ok (.ifCond .le 5, 3) := by decide +kernel
theorem dX11_setRule_37 : decode cX11_setRule 37 = .ok (.iconst 0, 1) := by decide +kernel
theorem dX11_setRule_38 : decode cX11_setRule 38 = .ok (.ireturn, 1) := by decide +kernel
theorem dX11_setRule_39 : decode cX11_setRule 39 = .ok (.aload_n 0, 1) := by decide +kernel
theorem dX11_setRule_40 : decode cX11_setRule 40 = .ok (.getfield 47, 3) := by decide +kernel
theorem dX11_setRule_43 : decode cX11_setRule 43 = .ok (.iload_n 1, 1) := by decide +kernel
theorem dX11_setRule_44 : decode cX11_setRule 44 = .ok (.iaload, 1) := by decide +kernel
theorem dX11_setRule_45 : decode cX11_setRule 45 = .ok (.istore_n 3, 1) := by decide +kernel
theorem dX11_setRule_46 : decode cX11_setRule 46 = .ok (.aload_n 0, 1) := by decide +kernel
theorem dX11_setRule_47 : decode cX11_setRule 47 = .ok (.getfield 47, 3) := by decide +kernel
theorem dX11_setRule_50 : decode cX11_setRule 50 = .ok (.iload_n 1, 1) := by decide +kernel
theorem dX11_setRule_51 : decode cX11_setRule 51 = .ok (.iload_n 2, 1) := by decide +kernel
theorem dX11_setRule_52 : decode cX11_setRule 52 = .ok (.iastore, 1) := by decide +kernel
theorem dX11_setRule_53 : decode cX11_setRule 53 = .ok (.aload_n 0, 1) := by decide +kernel
theorem dX11_setRule_54 : decode cX11_setRule 54 = .ok (.invokevirtual 295, 3) := by decide +kernel
theorem dX11_setRule_57 : decode cX11_setRule 57 = .ok (.iload_n 3, 1) := by decide +kernel
theorem dX11_setRule_58 : decode cX11_setRule 58 = .ok (.ireturn, 1) := by decide +kernel
theorem dX11_setManner_0 : decode cX11_setManner 0 = .ok (.aload_n 0, 1) := by decide +kernel
theorem dX11_setManner_1 : decode cX11_setManner 1 = .ok (.aload_n 0, 1) := by decide +kernel
theorem dX11_setManner_2 : decode cX11_setManner 2 = .ok (.iload_n 1, 1) := by decide +kernel
theorem dX11_setManner_3 : decode cX11_setManner 3 = .ok (.invokevirtual 118, 3) := by decide +kernel
theorem dX11_setManner_6 : decode cX11_setManner 6 = .ok (.ifCond .ne 7, 3) := by decide +kernel
theorem dX11_setManner_9 : decode cX11_setManner 9 = .ok (.iconst 1, 1) := by decide +kernel
theorem dX11_setManner_10 : decode cX11_setManner 10 = .ok (.goto 32, 3) := by decide +kernel
theorem dX11_setManner_13 : decode cX11_setManner 13 = .ok (.iload_n 2, 1) := by decide +kernel
theorem dX11_setManner_14 : decode cX11_setManner 14 = .ok (.iconst 0, 1) := by decide +kernel
theorem dX11_setManner_15 : decode cX11_setManner 15 = .ok (.iconst 2, 1) := by decide +kernel
theorem dX11_setManner_16 : decode cX11_setManner 16 = .ok (.invokestatic 114, 3) := by decide +kernel
theorem dX11_setManner_19 : decode cX11_setManner 19 = .ok (.ifCond .ne 7, 3) := by decide +kernel
theorem dX11_setManner_22 : decode cX11_setManner 22 = .ok (.iconst 2, 1) := by decide +kernel
theorem dX11_setManner_23 : decode cX11_setManner 23 = .ok (.goto 19, 3) := by decide +kernel
theorem dX11_setManner_26 : decode cX11_setManner 26 = .ok (.aload_n 0, 1) := by decide +kernel
theorem dX11_setManner_27 : decode cX11_setManner 27 = .ok (.getfield 13, 3) := by decide +kernel
theorem dX11_setManner_30 : decode cX11_setManner 30 = .ok (.iload_n 1, 1) := by decide +kernel
theorem dX11_setManner_31 : decode cX11_setManner 31 = .ok (.iaload, 1) := by decide +kernel
theorem dX11_setManner_32 : decode cX11_setManner 32 = .ok (.bipush 7, 2) := by decide +kernel
theorem dX11_setManner_34 : decode cX11_setManner 34 = .ok (.if_icmp .eq 7, 3) := by decide +kernel
theorem dX11_setManner_37 : decode cX11_setManner 37 = .ok (.iconst 3, 1) := by decide +kernel
theorem dX11_setManner_38 : decode cX11_setManner 38 = .ok (.goto 4, 3) := by decide +kernel
theorem dX11_setManner_41 : decode cX11_setManner 41 = .ok (.iconst 0, 1) := by decide +kernel
theorem dX11_setManner_42 : decode cX11_setManner 42 = .ok (.putfield 111, 3) := by decide +kernel
theorem dX11_setManner_45 : decode cX11_setManner 45 = .ok (.aload_n 0, 1) := by decide +kernel
theorem dX11_setManner_46 : decode cX11_setManner 46 = .ok (.getfield 111, 3) := by decide +kernel
theorem dX11_setManner_49 : decode cX11_setManner 49 = .ok (.ifCond .le 5, 3) := by decide +kernel
theorem dX11_setManner_52 : decode cX11_setManner 52 = .ok (.iconst 0, 1) := by decide +kernel
theorem dX11_setManner_53 : decode cX11_setManner 53 = .ok (.ireturn, 1) := by decide +kernel
theorem dX11_setManner_54 : decode cX11_setManner 54 = .ok (.aload_n 0, 1) := by decide +kernel
theorem dX11_setManner_55 : decode cX11_setManner 55 = .ok (.getfield 50, 3) := by decide +kernel
theorem dX11_setManner_58 : decode cX11_setManner 58 = .ok (.iload_n 1, 1) := by decide +kernel
theorem dX11_setManner_59 : decode cX11_setManner 59 = .ok (.iaload, 1) := by decide +kernel
theorem dX11_setManner_60 : decode cX11_setManner 60 = .ok (.istore_n 3, 1) := by decide +kernel
theorem dX11_setManner_61 : decode cX11_setManner 61 = .ok (.aload_n 0, 1) := by decide +kernel
theorem dX11_setManner_62 : decode cX11_setManner 62 = .ok (.getfield 50, 3) := by decide +kernel
theorem dX11_setManner_65 : decode cX11_setManner 65 = .ok (.iload_n 1, 1) := by decide +kernel
theorem dX11_setManner_66 : decode cX11_setManner 66 = .ok (.iload_n 2, 1) := by decide +kernel
theorem dX11_setManner_67 : decode cX11_setManner 67 = .ok (.iastore, 1) := by decide +kernel
theorem dX11_setManner_68 : decode cX11_setManner 68 = .ok (.aload_n 0, 1) := by decide +kernel
theorem dX11_setManner_69 : decode cX11_setManner 69 = .ok (.iload_n 1, 1) := by decide +kernel
theorem dX11_setManner_70 : decode cX11_setManner 70 = .ok (.invokevirtual 218, 3) := by decide +kernel
theorem dX11_setManner_73 : decode cX11_setManner 73 = .ok (.iload_n 3, 1) := by decide +kernel
theorem dX11_setManner_74 : decode cX11_setManner 74 = .ok (.ireturn, 1) := by decide +kernel
theorem dX11_elements_0 : decode cX11_elements 0 = .ok (.aload_n 0, 1) := by decide +kernel
theorem dX11_elements_1 : decode cX11_elements 1 = .ok (.iconst 0, 1) := by decide +kernel
theorem dX11_elements_2 : decode cX11_elements 2 = .ok (.putfield 111, 3) := by decide +kernel
theorem dX11_elements_5 : decode cX11_elements 5 = .ok (.iconst 0, 1) := by decide +kernel
theorem dX11_elements_6 : decode cX11_elements 6 = .ok (.istore_n 1, 1) := by decide +kernel
theorem dX11_elements_7 : decode cX11_elements 7 = .ok (.iconst 0, 1) := by decide +kernel
theorem dX11_elements_8 : decode cX11_elements 8 = .ok (.istore_n 2, 1) := by decide +kernel
theorem dX11_elements_9 : decode cX11_elements 9 = .ok (.iload_n 2, 1) := by decide +kernel
theorem dX11_elements_10 : decode cX11_elements 10 = .ok (.aload_n 0, 1) := by decide +kernel
theorem dX11_elements_11 : decode cX11_elements 11 = .ok (.getfield 101, 3) := by decide +kernel
theorem dX11_elements_14 : decode cX11_elements 14 = .ok (.if_icmp .ge 26, 3) := by decide +kernel
theorem dX11_elements_17 : decode cX11_elements 17 = .ok (.iload_n 1, 1) := by decide +kernel
theorem dX11_elements_18 : decode cX11_elements 18 = .ok (.aload_n 0, 1) := by decide +kernel
theorem dX11_elements_19 : decode cX11_elements 19 = .ok (.getfield 7, 3) := by decide +kernel
theorem dX11_elements_22 : decode cX11_elements 22 = .ok (.iload_n 2, 1) := by decide +kernel
theorem dX11_elements_23 : decode cX11_elements 23 = .ok (.baload, 1) := by decide +kernel
theorem dX11_elements_24 : decode cX11_elements 24 = .ok (.ifCond .eq 7, 3) := by decide +kernel
theorem dX11_elements_27 : decode cX11_elements 27 = .ok (.iconst 1, 1) := by decide +kernel
theorem dX11_elements_28 : decode cX11_elements 28 = .ok (.goto 4, 3) := by decide +kernel
theorem dX11_elements_31 : decode cX11_elements 31 = .ok (.iconst 0, 1) := by decide +kernel
theorem dX11_elements_32 : decode cX11_elements 32 = .ok (.iadd, 1) := by decide +kernel
theorem dX11_elements_33 : decode cX11_elements 33 = .ok (.istore_n 1, 1) := by decide +kernel
theorem dX11_elements_34 : decode cX11_elements 34 = .ok (.iinc 2 1, 3) := by decide +kernel
theorem dX11_elements_37 : decode cX11_elements 37 = .ok (.goto (-28), 3) := by decide +kernel
theorem dX11_elements_40 : decode cX11_elements 40 = .ok (.iload_n 1, 1) := by decide +kernel
theorem dX11_elements_41 : decode cX11_elements 41 = .ok (.ireturn, 1) := by decide +kernel
theorem dX11_kind_0 : decode cX11_kind 0 = .ok (.aload_n 0, 1) := by decide +kernel
theorem dX11_kind_1 : decode cX11_kind 1 = .ok (.iload_n 1, 1) := by decide +kernel
theorem dX11_kind_2 : decode cX11_kind 2 = .ok (.invokevirtual 315, 3) := by decide +kernel
theorem dX11_kind_5 : decode cX11_kind 5 = .ok (.ifCond .eq 12, 3) := by decide +kernel
theorem dX11_kind_8 : decode cX11_kind 8 = .ok (.aload_n 0, 1) := by decide +kernel
theorem dX11_kind_9 : decode cX11_kind 9 = .ok (.getfield 13, 3) := by decide +kernel
theorem dX11_kind_12 : decode cX11_kind 12 = .ok (.iload_n 1, 1) := by decide +kernel
theorem dX11_kind_13 : decode cX11_kind 13 = .ok (.iaload, 1) := by decide +kernel
theorem dX11_kind_14 : decode cX11_kind 14 = .ok (.goto 4, 3) := by decide +kernel
theorem dX11_kind_17 : decode cX11_kind 17 = .ok (.iconst 0, 1) := by decide +kernel
theorem dX11_kind_18 : decode cX11_kind 18 = .ok (.ireturn, 1) := by decide +kernel
theorem dX11_parent_0 : decode cX11_parent 0 = .ok (.aload_n 0, 1) := by decide +kernel
theorem dX11_parent_1 : decode cX11_parent 1 = .ok (.iload_n 1, 1) := by decide +kernel
theorem dX11_parent_2 : decode cX11_parent 2 = .ok (.invokevirtual 315, 3) := by decide +kernel
theorem dX11_parent_5 : decode cX11_parent 5 = .ok (.ifCond .eq 12, 3) := by decide +kernel
theorem dX11_parent_8 : decode cX11_parent 8 = .ok (.aload_n 0, 1) := by decide +kernel
theorem dX11_parent_9 : decode cX11_parent 9 = .ok (.getfield 17, 3) := by decide +kernel
theorem dX11_parent_12 : decode cX11_parent 12 = .ok (.iload_n 1, 1) := by decide +kernel
theorem dX11_parent_13 : decode cX11_parent 13 = .ok (.iaload, 1) := by decide +kernel
theorem dX11_parent_14 : decode cX11_parent 14 = .ok (.goto 4, 3) := by decide +kernel
theorem dX11_parent_17 : decode cX11_parent 17 = .ok (.iconst 0, 1) := by decide +kernel
theorem dX11_parent_18 : decode cX11_parent 18 = .ok (.ireturn, 1) := by decide +kernel
theorem dX11_children_0 : decode cX11_children 0 = .ok (.aload_n 0, 1) := by decide +kernel
theorem dX11_children_1 : decode cX11_children 1 = .ok (.iload_n 1, 1) := by decide +kernel
theorem dX11_children_2 : decode cX11_children 2 = .ok (.invokevirtual 315, 3) := by decide +kernel
theorem dX11_children_5 : decode cX11_children 5 = .ok (.ifCond .eq 12, 3) := by decide +kernel
theorem dX11_children_8 : decode cX11_children 8 = .ok (.aload_n 0, 1) := by decide +kernel
theorem dX11_children_9 : decode cX11_children 9 = .ok (.getfield 23, 3) := by decide +kernel
theorem dX11_children_12 : decode cX11_children 12 = .ok (.iload_n 1, 1) := by decide +kernel
theorem dX11_children_13 : decode cX11_children 13 = .ok (.iaload, 1) := by decide +kernel
theorem dX11_children_14 : decode cX11_children 14 = .ok (.goto 4, 3) := by decide +kernel
theorem dX11_children_17 : decode cX11_children 17 = .ok (.iconst 0, 1) := by decide +kernel
theorem dX11_children_18 : decode cX11_children 18 = .ok (.ireturn, 1) := by decide +kernel
abbrev mX11_rename : gM := (yX11_rename, cX11_rename, 4, (Option.some FieldType.int), [])
theorem caX11_rename : cal mX11_rename 1 := ⟨xw 1749 (by decide +kernel) rfl, xw 102 (by decide +kernel) rfl, by decide, by decide +kernel⟩
theorem cvX11_rename : calV mX11_rename := ⟨xw 1747 (by decide +kernel) rfl, xw 1748 (by decide +kernel) rfl⟩
abbrev mX11_set : gM := (yX11_set, cX11_set, 4, (Option.some FieldType.boolean), [])
theorem caX11_set : cal mX11_set 2 := ⟨xw 1753 (by decide +kernel) rfl, xw 102 (by decide +kernel) rfl, by decide, by decide +kernel⟩
theorem cvX11_set : calV mX11_set := ⟨xw 1751 (by decide +kernel) rfl, xw 1752 (by decide +kernel) rfl⟩
abbrev mX11_setRule : gM := (yX11_setRule, cX11_setRule, 4, (Option.some FieldType.int), [])
theorem caX11_setRule : cal mX11_setRule 2 := ⟨xw 1757 (by decide +kernel) rfl, xw 102 (by decide +kernel) rfl, by decide, by decide +kernel⟩
theorem cvX11_setRule : calV mX11_setRule := ⟨xw 1755 (by decide +kernel) rfl, xw 1756 (by decide +kernel) rfl⟩
abbrev mX11_setManner : gM := (yX11_setManner, cX11_setManner, 4, (Option.some FieldType.int), [])
theorem caX11_setManner : cal mX11_setManner 2 := ⟨xw 1761 (by decide +kernel) rfl, xw 102 (by decide +kernel) rfl, by decide, by decide +kernel⟩
theorem cvX11_setManner : calV mX11_setManner := ⟨xw 1759 (by decide +kernel) rfl, xw 1760 (by decide +kernel) rfl⟩
abbrev mX11_elements : gM := (yX11_elements, cX11_elements, 3, (Option.some FieldType.int), [])
theorem caX11_elements : cal mX11_elements 0 := ⟨xw 1765 (by decide +kernel) rfl, xw 102 (by decide +kernel) rfl, by decide, by decide +kernel⟩
theorem cvX11_elements : calV mX11_elements := ⟨xw 1763 (by decide +kernel) rfl, xw 1764 (by decide +kernel) rfl⟩
abbrev mX11_kind : gM := (yX11_kind, cX11_kind, 2, (Option.some FieldType.int), [])
theorem caX11_kind : cal mX11_kind 1 := ⟨xw 1769 (by decide +kernel) rfl, xw 102 (by decide +kernel) rfl, by decide, by decide +kernel⟩
theorem cvX11_kind : calV mX11_kind := ⟨xw 1767 (by decide +kernel) rfl, xw 1768 (by decide +kernel) rfl⟩
abbrev mX11_parent : gM := (yX11_parent, cX11_parent, 2, (Option.some FieldType.int), [])
theorem caX11_parent : cal mX11_parent 1 := ⟨xw 1777 (by decide +kernel) rfl, xw 102 (by decide +kernel) rfl, by decide, by decide +kernel⟩
theorem cvX11_parent : calV mX11_parent := ⟨xw 1775 (by decide +kernel) rfl, xw 1776 (by decide +kernel) rfl⟩
abbrev mX11_children : gM := (yX11_children, cX11_children, 2, (Option.some FieldType.int), [])
theorem caX11_children : cal mX11_children 1 := ⟨xw 1781 (by decide +kernel) rfl, xw 102 (by decide +kernel) rfl, by decide, by decide +kernel⟩
theorem cvX11_children : calV mX11_children := ⟨xw 1779 (by decide +kernel) rfl, xw 1780 (by decide +kernel) rfl⟩
theorem lkX11_315 : Cond.methodLink RX11 315 yX11_asksFor ∈ XW := xw 1770 (by decide +kernel) rfl
/-! BrailleDeskModel.rename -/
def fX11_rename_B64 (c0 : Nat) (c1 : Int32) (h : hp) (a : (Int32 × Int32)) : Option ((Int32 × Int32) ⊕ Int32) :=
  (oGI 10 19 (some c0) h).bind fun x1 =>
  if x1 ≤ a.2 then
  (some (.inr a.1))
  else
  if a.1 = 0 then
  (some (.inr a.1))
  else
  (oGR 10 6 (some c0) h).bind fun x2 =>
  (oIL x2 (((12 : Int32) * c1) + a.2) h).bind fun x3 =>
  (oGR 10 18 (some c0) h).bind fun x4 =>
  (oIL x4 a.2 h).bind fun x5 =>
  if x3 = x5 then
  (some (.inl ((1 : Int32), a.2 + (1 : Int32))))
  else
  some (.inl ((0 : Int32), a.2 + (1 : Int32)))
theorem lX11_rename_64 {G : gG} {Q : hQ} {P : Int32 → Prop} {k n : Nat} (c0 : Nat) (c1 : Int32) (h : hp) (hJ : ∀ q : Int32, P q → gV G mX11_rename 6 Q 108 [some (sr (some c0)), some (si c1), some (si q), none] [] (k) (n) h) : ∀ (fu : Nat) (a : (Int32 × Int32)), okB (itr (fX11_rename_B64 c0 c1 h) fu a) P → gV G mX11_rename 6 Q 64 [some (sr (some c0)), some (si c1), some (si a.1), some (si a.2)] [] (k) (n) h :=
  lpg (X := fun (a : (Int32 × Int32)) => gV G mX11_rename 6 Q 64 [some (sr (some c0)), some (si c1), some (si a.1), some (si a.2)] [] (k) (n) h) (fun a P2 hL hE hF => by
    delta fX11_rename_B64 at hF
    refine v_iload_n (pc := 64) (i := 3) dX11_rename_64 rfl rfl ?_
    refine v_aload_n (pc := 65) (i := 0) dX11_rename_65 rfl rfl ?_
    refine s_getI (pc := 66) dX11_rename_66 flX11_282 rfl hF (fun x1 hF => ?_)
    refine v_icmp_ge (pc := 69) 108 dX11_rename_69 rfl (fun hc => ?_) (fun hc => ?_)
    · replace hF := (okB_if hF).1 hc
      exact v_lle [some (sr (some c0)), some (si c1), some (si a.1), none] ⟨rfl, rfl, rfl, trivial⟩ (hJ _ (hE _ (okB_some hF)))
    replace hF := (okB_if hF).2 hc
    refine v_iload_n (pc := 72) (i := 2) dX11_rename_72 rfl rfl ?_
    refine v_if_eq (pc := 73) 108 dX11_rename_73 rfl (fun hc => ?_) (fun hc => ?_)
    · replace hF := (okB_if hF).1 hc
      exact v_lle [some (sr (some c0)), some (si c1), some (si a.1), none] ⟨rfl, rfl, rfl, trivial⟩ (hJ _ (hE _ (okB_some hF)))
    replace hF := (okB_if hF).2 hc
    refine v_aload_n (pc := 76) (i := 0) dX11_rename_76 rfl rfl ?_
    refine s_getR (pc := 77) dX11_rename_77 flX11_26 rfl hF (fun x2 hF => ?_)
    refine v_bipush (pc := 80) (v := (12 : Int32)) dX11_rename_80 rfl ?_
    refine v_iload_n (pc := 82) (i := 1) dX11_rename_82 rfl rfl ?_
    refine v_imul (pc := 83) dX11_rename_83 ?_
    refine v_iload_n (pc := 84) (i := 3) dX11_rename_84 rfl rfl ?_
    refine v_iadd (pc := 85) dX11_rename_85 ?_
    refine s_iald (pc := 86) dX11_rename_86 hF (fun x3 hF => ?_)
    refine v_aload_n (pc := 87) (i := 0) dX11_rename_87 rfl rfl ?_
    refine s_getR (pc := 88) dX11_rename_88 flX11_62 rfl hF (fun x4 hF => ?_)
    refine v_iload_n (pc := 91) (i := 3) dX11_rename_91 rfl rfl ?_
    refine s_iald (pc := 92) dX11_rename_92 hF (fun x5 hF => ?_)
    refine v_icmp_ne (pc := 93) 100 dX11_rename_93 rfl (fun hc => ?_) (fun hc => ?_)
    · replace hF := (okB_if hF).2 hc
      refine v_iconst (pc := 100) (v := (0 : Int32)) dX11_rename_100 rfl ?_
      refine v_istore_n (pc := 101) (i := 2) [some (sr (some c0)), some (si c1), some (si (0 : Int32)), some (si a.2)] dX11_rename_101 rfl (by decide) rfl rfl ?_
      refine v_iinc (pc := 102) (i := 3) (a.2 + (1 : Int32)) [some (sr (some c0)), some (si c1), some (si (0 : Int32)), some (si (a.2 + (1 : Int32)))] dX11_rename_102 rfl rfl rfl rfl ?_
      refine v_goto (pc := 105) 64 dX11_rename_105 rfl ?_
      exact v_lle [some (sr (some c0)), some (si c1), some (si (0 : Int32)), some (si (a.2 + (1 : Int32)))] ⟨rfl, rfl, rfl, rfl, trivial⟩ (hL _ (okB_some hF))
    replace hF := (okB_if hF).1 hc
    refine v_iconst (pc := 96) (v := (1 : Int32)) dX11_rename_96 rfl ?_
    refine v_goto (pc := 97) 101 dX11_rename_97 rfl ?_
    refine v_istore_n (pc := 101) (i := 2) [some (sr (some c0)), some (si c1), some (si (1 : Int32)), some (si a.2)] dX11_rename_101 rfl (by decide) rfl rfl ?_
    refine v_iinc (pc := 102) (i := 3) (a.2 + (1 : Int32)) [some (sr (some c0)), some (si c1), some (si (1 : Int32)), some (si (a.2 + (1 : Int32)))] dX11_rename_102 rfl rfl rfl rfl ?_
    refine v_goto (pc := 105) 64 dX11_rename_105 rfl ?_
    exact v_lle [some (sr (some c0)), some (si c1), some (si (1 : Int32)), some (si (a.2 + (1 : Int32)))] ⟨rfl, rfl, rfl, rfl, trivial⟩ (hL _ (okB_some hF)))
def fX11_rename (a0 : Nat) (a1 : Int32) (h : hp) : Option (Int32 × hp) :=
  (oOb 10 (some a0) h).bind fun b =>
  (fX11_isElement b a1 h).bind fun x1 =>
  Option.bind (α := Int32)
  (if x1 = 0 then
  (some (1 : Int32))
  else
  if a1 = 0 then
  (some (2 : Int32))
  else
  (oGI 10 37 (some a0) h).bind fun x4 =>
  if x4 < (20 : Int32) then
  (some (0 : Int32))
  else
  some (2 : Int32))
  fun q2 =>
  (oPI 10 48 (some a0) q2 h).bind fun h5 =>
  (oGI 10 48 (some a0) h5).bind fun x6 =>
  if x6 ≤ 0 then
  ((oGR 10 7 (some a0) h5).bind fun x7 =>
  (oIL x7 a1 h5).bind fun x8 =>
  (oGI 10 19 (some a0) h5).bind fun x9 =>
  Option.bind (α := Int32)
  (if x8 = x9 then
  (some (1 : Int32))
  else
  some (0 : Int32))
  fun q10 =>
  Option.bind (α := Int32)
  (itr (fX11_rename_B64 a0 a1 h5) FU (q10, (0 : Int32)))
  fun q12 =>
  (oOb 10 (some a0) h5).bind fun b =>
  o2 (fX11_takeDraft b a1 h5) fun _ h14 =>
  Option.bind (α := hp)
  (if q12 = 0 then
  ((oOb 10 (some a0) h14).bind fun b =>
  o2 (fX11_tellWords b a1 h14) fun _ h18 =>
  some h18)
  else
  some h14)
  fun q15 =>
  (oOb 10 (some a0) q15).bind fun b =>
  o2 (fX11_fitOffset b q15) fun _ h20 =>
  (oGR 10 7 (some a0) h20).bind fun x21 =>
  (oIL x21 a1 h20).bind fun x22 =>
  some ((x22, h20)))
  else
  some (((0 : Int32), h5))
theorem tX11_rename {G : gG} (a0 : Nat) (a1 : Int32) (h : hp) (Q : hQ) (hF : okB (fX11_rename a0 a1 h) (pH gI Q)) : gS G mX11_rename 6 0 0 [sr (some a0), si a1] h Q := by
  delta fX11_rename at hF
  refine gS_at [some (sr (some a0)), some (si a1), none, none] pl_X11 rfl (Nat.le_of_ble_eq_true rfl) rfl ?_
  refine v_aload_n (pc := 0) (i := 0) dX11_rename_0 rfl rfl ?_
  refine v_aload_n (pc := 1) (i := 0) dX11_rename_1 rfl rfl ?_
  refine v_iload_n (pc := 2) (i := 1) dX11_rename_2 rfl rfl ?_
  refine cp_V (pc := 3) gI (as := [si a1]) (st := [sr (some a0)]) (ci := 10) (k := 0) (n := 0) dX11_rename_3 lkX11_118 caX11_isElement cvX11_isElement rfl (by decide) rfl (fun b Q1 hq => tX11_isElement b a1 h Q1 hq) ⟨by decide, by decide⟩ (Nat.le_of_ble_eq_true rfl) rfl hF (fun x1 hF => ?_)
  show gV G mX11_rename 6 Q 6 [some (sr (some a0)), some (si a1), none, none] [si x1, sr (some a0)] (0) (0) h
  refine mg (X := fun q2 => gV G mX11_rename 6 Q 31 [some (sr (some a0)), some (si a1), none, none] [si q2, sr (some a0)] (0) (0) h) hF (fun _ hj3 hF => ?_) (fun q2 hF => ?_)
  · refine v_if_ne (pc := 6) 13 dX11_rename_6 rfl (fun hc => ?_) (fun hc => ?_)
    · replace hF := (okB_if hF).2 hc
      refine v_iload_n (pc := 13) (i := 1) dX11_rename_13 rfl rfl ?_
      refine v_if_eq (pc := 14) 26 dX11_rename_14 rfl (fun hc => ?_) (fun hc => ?_)
      · replace hF := (okB_if hF).1 hc
        refine v_iconst (pc := 26) (v := (2 : Int32)) dX11_rename_26 rfl ?_
        refine v_goto (pc := 27) 31 dX11_rename_27 rfl ?_
        exact v_lle [some (sr (some a0)), some (si a1), none, none] ⟨rfl, rfl, trivial⟩ (hj3 _ (okB_some hF))
      replace hF := (okB_if hF).2 hc
      refine v_aload_n (pc := 17) (i := 0) dX11_rename_17 rfl rfl ?_
      refine s_getI (pc := 18) dX11_rename_18 flX11_191 rfl hF (fun x4 hF => ?_)
      refine v_bipush (pc := 21) (v := (20 : Int32)) dX11_rename_21 rfl ?_
      refine v_icmp_lt (pc := 23) 30 dX11_rename_23 rfl (fun hc => ?_) (fun hc => ?_)
      · replace hF := (okB_if hF).1 hc
        refine v_iconst (pc := 30) (v := (0 : Int32)) dX11_rename_30 rfl ?_
        exact v_lle [some (sr (some a0)), some (si a1), none, none] ⟨rfl, rfl, trivial⟩ (hj3 _ (okB_some hF))
      replace hF := (okB_if hF).2 hc
      refine v_iconst (pc := 26) (v := (2 : Int32)) dX11_rename_26 rfl ?_
      refine v_goto (pc := 27) 31 dX11_rename_27 rfl ?_
      exact v_lle [some (sr (some a0)), some (si a1), none, none] ⟨rfl, rfl, trivial⟩ (hj3 _ (okB_some hF))
    replace hF := (okB_if hF).1 hc
    refine v_iconst (pc := 9) (v := (1 : Int32)) dX11_rename_9 rfl ?_
    refine v_goto (pc := 10) 31 dX11_rename_10 rfl ?_
    exact v_lle [some (sr (some a0)), some (si a1), none, none] ⟨rfl, rfl, trivial⟩ (hj3 _ (okB_some hF))
  refine s_putI (pc := 31) dX11_rename_31 flX11_111 (Or.inl rfl) rfl hF (fun h5 hF => ?_)
  refine v_aload_n (pc := 34) (i := 0) dX11_rename_34 rfl rfl ?_
  refine s_getI (pc := 35) dX11_rename_35 flX11_111 rfl hF (fun x6 hF => ?_)
  refine v_if_le (pc := 38) 43 dX11_rename_38 rfl (fun hc => ?_) (fun hc => ?_)
  · replace hF := (okB_if hF).1 hc
    refine v_aload_n (pc := 43) (i := 0) dX11_rename_43 rfl rfl ?_
    refine s_getR (pc := 44) dX11_rename_44 flX11_29 rfl hF (fun x7 hF => ?_)
    refine v_iload_n (pc := 47) (i := 1) dX11_rename_47 rfl rfl ?_
    refine s_iald (pc := 48) dX11_rename_48 hF (fun x8 hF => ?_)
    refine v_aload_n (pc := 49) (i := 0) dX11_rename_49 rfl rfl ?_
    refine s_getI (pc := 50) dX11_rename_50 flX11_282 rfl hF (fun x9 hF => ?_)
    refine mg (X := fun q10 => gV G mX11_rename 6 Q 61 [some (sr (some a0)), some (si a1), none, none] [si q10] (0) (0) h5) hF (fun _ hj11 hF => ?_) (fun q10 hF => ?_)
    · refine v_icmp_ne (pc := 53) 60 dX11_rename_53 rfl (fun hc => ?_) (fun hc => ?_)
      · replace hF := (okB_if hF).2 hc
        refine v_iconst (pc := 60) (v := (0 : Int32)) dX11_rename_60 rfl ?_
        exact v_lle [some (sr (some a0)), some (si a1), none, none] ⟨rfl, rfl, trivial⟩ (hj11 _ (okB_some hF))
      replace hF := (okB_if hF).1 hc
      refine v_iconst (pc := 56) (v := (1 : Int32)) dX11_rename_56 rfl ?_
      refine v_goto (pc := 57) 61 dX11_rename_57 rfl ?_
      exact v_lle [some (sr (some a0)), some (si a1), none, none] ⟨rfl, rfl, trivial⟩ (hj11 _ (okB_some hF))
    refine v_istore_n (pc := 61) (i := 2) [some (sr (some a0)), some (si a1), some (si q10), none] dX11_rename_61 rfl (by decide) rfl rfl ?_
    refine v_iconst (pc := 62) (v := (0 : Int32)) dX11_rename_62 rfl ?_
    refine v_istore_n (pc := 63) (i := 3) [some (sr (some a0)), some (si a1), some (si q10), some (si (0 : Int32))] dX11_rename_63 rfl (by decide) rfl rfl ?_
    refine mg (X := fun q12 => gV G mX11_rename 6 Q 108 [some (sr (some a0)), some (si a1), some (si q12), none] [] (0) (0) h5) hF (fun _ hj23 hF => v_lle [some (sr (some a0)), some (si a1), some (si q10), some (si (0 : Int32))] ⟨rfl, rfl, rfl, rfl, trivial⟩ (lX11_rename_64 a0 a1 h5 hj23 _ _ hF)) (fun q12 hF => ?_)
    refine v_aload_n (pc := 108) (i := 0) dX11_rename_108 rfl rfl ?_
    refine v_iload_n (pc := 109) (i := 1) dX11_rename_109 rfl rfl ?_
    refine ch_V (pc := 110) gU (as := [si a1]) (st := []) (ci := 10) (k := 0) (n := 0) dX11_rename_110 lkX11_289 caX11_takeDraft cvX11_takeDraft rfl (by decide) rfl (fun b Q1 hq => tX11_takeDraft b a1 h5 Q1 hq) ⟨by decide, by decide⟩ (Nat.le_of_ble_eq_true rfl) rfl hF (fun x13 h14 hF => ?_)
    show gV G mX11_rename 6 Q 113 [some (sr (some a0)), some (si a1), some (si q12), none] [] (0) (0) h14
    refine v_iload_n (pc := 113) (i := 2) dX11_rename_113 rfl rfl ?_
    refine mg (X := fun q15 => gV G mX11_rename 6 Q 122 [some (sr (some a0)), some (si a1), none, none] [] (0) (0) q15) hF (fun _ hj16 hF => ?_) (fun q15 hF => ?_)
    · refine v_if_ne (pc := 114) 122 dX11_rename_114 rfl (fun hc => ?_) (fun hc => ?_)
      · replace hF := (okB_if hF).2 hc
        exact v_lle [some (sr (some a0)), some (si a1), none, none] ⟨rfl, rfl, trivial⟩ (hj16 _ (okB_some hF))
      replace hF := (okB_if hF).1 hc
      refine v_aload_n (pc := 117) (i := 0) dX11_rename_117 rfl rfl ?_
      refine v_iload_n (pc := 118) (i := 1) dX11_rename_118 rfl rfl ?_
      refine ch_V (pc := 119) gU (as := [si a1]) (st := []) (ci := 10) (k := 0) (n := 0) dX11_rename_119 lkX11_292 caX11_tellWords cvX11_tellWords rfl (by decide) rfl (fun b Q1 hq => tX11_tellWords b a1 h14 Q1 hq) ⟨by decide, by decide⟩ (Nat.le_of_ble_eq_true rfl) rfl hF (fun x17 h18 hF => ?_)
      show gV G mX11_rename 6 Q 122 [some (sr (some a0)), some (si a1), some (si q12), none] [] (0) (0) h18
      exact v_lle [some (sr (some a0)), some (si a1), none, none] ⟨rfl, rfl, trivial⟩ (hj16 _ (okB_some hF))
    refine v_aload_n (pc := 122) (i := 0) dX11_rename_122 rfl rfl ?_
    refine ch_V (pc := 123) gU (as := []) (st := []) (ci := 10) (k := 0) (n := 0) dX11_rename_123 lkX11_295 caX11_fitOffset cvX11_fitOffset rfl (by decide) rfl (fun b Q1 hq => tX11_fitOffset b q15 Q1 hq) ⟨by decide, by decide⟩ (Nat.le_of_ble_eq_true rfl) rfl hF (fun x19 h20 hF => ?_)
    show gV G mX11_rename 6 Q 126 [some (sr (some a0)), some (si a1), none, none] [] (0) (0) h20
    refine v_aload_n (pc := 126) (i := 0) dX11_rename_126 rfl rfl ?_
    refine s_getR (pc := 127) dX11_rename_127 flX11_29 rfl hF (fun x21 hF => ?_)
    refine v_iload_n (pc := 130) (i := 1) dX11_rename_130 rfl rfl ?_
    refine s_iald (pc := 131) dX11_rename_131 hF (fun x22 hF => ?_)
    exact v_iret (pc := 132) dX11_rename_132 rfl rfl (okr hF fun q => q)
  replace hF := (okB_if hF).2 hc
  refine v_iconst (pc := 41) (v := (0 : Int32)) dX11_rename_41 rfl ?_
  exact v_iret (pc := 42) dX11_rename_42 rfl rfl (okr hF fun q => q)
/-! BrailleDeskModel.set -/
def fX11_set (a0 : Nat) (a1 : Int32) (a2 : Int32) (h : hp) : Option (Int32 × hp) :=
  (oOb 10 (some a0) h).bind fun b =>
  (fX11_isElement b a1 h).bind fun x1 =>
  Option.bind (α := Int32)
  (if x1 = 0 then
  (some (1 : Int32))
  else
  (oGR 10 2 (some a0) h).bind fun x4 =>
  (oIL x4 a1 h).bind fun x5 =>
  if x5 = (3 : Int32) then
  ((oGI 10 37 (some a0) h).bind fun x6 =>
  if x6 < (20 : Int32) then
  (some (0 : Int32))
  else
  some (2 : Int32))
  else
  some (2 : Int32))
  fun q2 =>
  (oPI 10 48 (some a0) q2 h).bind fun h7 =>
  (oGI 10 48 (some a0) h7).bind fun x8 =>
  if x8 ≤ 0 then
  ((oGR 10 10 (some a0) h7).bind fun x9 =>
  (oZL x9 a1 h7).bind fun x10 =>
  (oGR 10 10 (some a0) h7).bind fun x11 =>
  (oZS x11 a1 a2 h7).bind fun h12 =>
  Option.bind (α := hp)
  (if x10 = a2 then
  (some h12)
  else
  (oOb 10 (some a0) h12).bind fun b =>
  o2 (fX11_tellWords b a1 h12) fun _ h16 =>
  some h16)
  fun q13 =>
  (oOb 10 (some a0) q13).bind fun b =>
  o2 (fX11_fitOffset b q13) fun _ h18 =>
  (oBo x10).bind fun _ =>
  some ((x10, h18)))
  else
  some (((0 : Int32), h7))
theorem tX11_set {G : gG} (a0 : Nat) (a1 : Int32) (a2 : Int32) (h : hp) (Q : hQ) (hF : okB (fX11_set a0 a1 a2 h) (pH gI Q)) : gS G mX11_set 6 0 0 [sr (some a0), si a1, si a2] h Q := by
  delta fX11_set at hF
  refine gS_at [some (sr (some a0)), some (si a1), some (si a2), none] pl_X11 rfl (Nat.le_of_ble_eq_true rfl) rfl ?_
  refine v_aload_n (pc := 0) (i := 0) dX11_set_0 rfl rfl ?_
  refine v_aload_n (pc := 1) (i := 0) dX11_set_1 rfl rfl ?_
  refine v_iload_n (pc := 2) (i := 1) dX11_set_2 rfl rfl ?_
  refine cp_V (pc := 3) gI (as := [si a1]) (st := [sr (some a0)]) (ci := 10) (k := 0) (n := 0) dX11_set_3 lkX11_118 caX11_isElement cvX11_isElement rfl (by decide) rfl (fun b Q1 hq => tX11_isElement b a1 h Q1 hq) ⟨by decide, by decide⟩ (Nat.le_of_ble_eq_true rfl) rfl hF (fun x1 hF => ?_)
  show gV G mX11_set 6 Q 6 [some (sr (some a0)), some (si a1), some (si a2), none] [si x1, sr (some a0)] (0) (0) h
  refine mg (X := fun q2 => gV G mX11_set 6 Q 37 [some (sr (some a0)), some (si a1), some (si a2), none] [si q2, sr (some a0)] (0) (0) h) hF (fun _ hj3 hF => ?_) (fun q2 hF => ?_)
  · refine v_if_ne (pc := 6) 13 dX11_set_6 rfl (fun hc => ?_) (fun hc => ?_)
    · replace hF := (okB_if hF).2 hc
      refine v_aload_n (pc := 13) (i := 0) dX11_set_13 rfl rfl ?_
      refine s_getR (pc := 14) dX11_set_14 flX11_13 rfl hF (fun x4 hF => ?_)
      refine v_iload_n (pc := 17) (i := 1) dX11_set_17 rfl rfl ?_
      refine s_iald (pc := 18) dX11_set_18 hF (fun x5 hF => ?_)
      refine v_iconst (pc := 19) (v := (3 : Int32)) dX11_set_19 rfl ?_
      refine v_icmp_ne (pc := 20) 32 dX11_set_20 rfl (fun hc => ?_) (fun hc => ?_)
      · replace hF := (okB_if hF).2 hc
        refine v_iconst (pc := 32) (v := (2 : Int32)) dX11_set_32 rfl ?_
        refine v_goto (pc := 33) 37 dX11_set_33 rfl ?_
        exact v_lle [some (sr (some a0)), some (si a1), some (si a2), none] ⟨rfl, rfl, rfl, trivial⟩ (hj3 _ (okB_some hF))
      replace hF := (okB_if hF).1 hc
      refine v_aload_n (pc := 23) (i := 0) dX11_set_23 rfl rfl ?_
      refine s_getI (pc := 24) dX11_set_24 flX11_191 rfl hF (fun x6 hF => ?_)
      refine v_bipush (pc := 27) (v := (20 : Int32)) dX11_set_27 rfl ?_
      refine v_icmp_lt (pc := 29) 36 dX11_set_29 rfl (fun hc => ?_) (fun hc => ?_)
      · replace hF := (okB_if hF).1 hc
        refine v_iconst (pc := 36) (v := (0 : Int32)) dX11_set_36 rfl ?_
        exact v_lle [some (sr (some a0)), some (si a1), some (si a2), none] ⟨rfl, rfl, rfl, trivial⟩ (hj3 _ (okB_some hF))
      replace hF := (okB_if hF).2 hc
      refine v_iconst (pc := 32) (v := (2 : Int32)) dX11_set_32 rfl ?_
      refine v_goto (pc := 33) 37 dX11_set_33 rfl ?_
      exact v_lle [some (sr (some a0)), some (si a1), some (si a2), none] ⟨rfl, rfl, rfl, trivial⟩ (hj3 _ (okB_some hF))
    replace hF := (okB_if hF).1 hc
    refine v_iconst (pc := 9) (v := (1 : Int32)) dX11_set_9 rfl ?_
    refine v_goto (pc := 10) 37 dX11_set_10 rfl ?_
    exact v_lle [some (sr (some a0)), some (si a1), some (si a2), none] ⟨rfl, rfl, rfl, trivial⟩ (hj3 _ (okB_some hF))
  refine s_putI (pc := 37) dX11_set_37 flX11_111 (Or.inl rfl) rfl hF (fun h7 hF => ?_)
  refine v_aload_n (pc := 40) (i := 0) dX11_set_40 rfl rfl ?_
  refine s_getI (pc := 41) dX11_set_41 flX11_111 rfl hF (fun x8 hF => ?_)
  refine v_if_le (pc := 44) 49 dX11_set_44 rfl (fun hc => ?_) (fun hc => ?_)
  · replace hF := (okB_if hF).1 hc
    refine v_aload_n (pc := 49) (i := 0) dX11_set_49 rfl rfl ?_
    refine s_getR (pc := 50) dX11_set_50 flX11_38 rfl hF (fun x9 hF => ?_)
    refine v_iload_n (pc := 53) (i := 1) dX11_set_53 rfl rfl ?_
    refine s_zald (pc := 54) dX11_set_54 hF (fun x10 hF => ?_)
    refine v_istore_n (pc := 55) (i := 3) [some (sr (some a0)), some (si a1), some (si a2), some (si x10)] dX11_set_55 rfl (by decide) rfl rfl ?_
    refine v_aload_n (pc := 56) (i := 0) dX11_set_56 rfl rfl ?_
    refine s_getR (pc := 57) dX11_set_57 flX11_38 rfl hF (fun x11 hF => ?_)
    refine v_iload_n (pc := 60) (i := 1) dX11_set_60 rfl rfl ?_
    refine v_iload_n (pc := 61) (i := 2) dX11_set_61 rfl rfl ?_
    refine s_zast (pc := 62) dX11_set_62 hF (fun h12 hF => ?_)
    refine v_iload_n (pc := 63) (i := 3) dX11_set_63 rfl rfl ?_
    refine v_iload_n (pc := 64) (i := 2) dX11_set_64 rfl rfl ?_
    refine mg (X := fun q13 => gV G mX11_set 6 Q 73 [some (sr (some a0)), none, none, some (si x10)] [] (0) (0) q13) hF (fun _ hj14 hF => ?_) (fun q13 hF => ?_)
    · refine v_icmp_eq (pc := 65) 73 dX11_set_65 rfl (fun hc => ?_) (fun hc => ?_)
      · replace hF := (okB_if hF).1 hc
        exact v_lle [some (sr (some a0)), none, none, some (si x10)] ⟨rfl, rfl, trivial⟩ (hj14 _ (okB_some hF))
      replace hF := (okB_if hF).2 hc
      refine v_aload_n (pc := 68) (i := 0) dX11_set_68 rfl rfl ?_
      refine v_iload_n (pc := 69) (i := 1) dX11_set_69 rfl rfl ?_
      refine ch_V (pc := 70) gU (as := [si a1]) (st := []) (ci := 10) (k := 0) (n := 0) dX11_set_70 lkX11_292 caX11_tellWords cvX11_tellWords rfl (by decide) rfl (fun b Q1 hq => tX11_tellWords b a1 h12 Q1 hq) ⟨by decide, by decide⟩ (Nat.le_of_ble_eq_true rfl) rfl hF (fun x15 h16 hF => ?_)
      show gV G mX11_set 6 Q 73 [some (sr (some a0)), some (si a1), some (si a2), some (si x10)] [] (0) (0) h16
      exact v_lle [some (sr (some a0)), none, none, some (si x10)] ⟨rfl, rfl, trivial⟩ (hj14 _ (okB_some hF))
    refine v_aload_n (pc := 73) (i := 0) dX11_set_73 rfl rfl ?_
    refine ch_V (pc := 74) gU (as := []) (st := []) (ci := 10) (k := 0) (n := 0) dX11_set_74 lkX11_295 caX11_fitOffset cvX11_fitOffset rfl (by decide) rfl (fun b Q1 hq => tX11_fitOffset b q13 Q1 hq) ⟨by decide, by decide⟩ (Nat.le_of_ble_eq_true rfl) rfl hF (fun x17 h18 hF => ?_)
    show gV G mX11_set 6 Q 77 [some (sr (some a0)), none, none, some (si x10)] [] (0) (0) h18
    refine v_iload_n (pc := 77) (i := 3) dX11_set_77 rfl rfl ?_
    exact s_zret (pc := 78) dX11_set_78 rfl hF (fun hF => (okr hF fun q => q))
  replace hF := (okB_if hF).2 hc
  refine v_iconst (pc := 47) (v := (0 : Int32)) dX11_set_47 rfl ?_
  exact v_iret (pc := 48) dX11_set_48 rfl rfl (okr hF fun q => q)
/-! BrailleDeskModel.setRule -/
def fX11_setRule (a0 : Nat) (a1 : Int32) (a2 : Int32) (h : hp) : Option (Int32 × hp) :=
  (oOb 10 (some a0) h).bind fun b =>
  (fX11_isElement b a1 h).bind fun x1 =>
  Option.bind (α := Int32)
  (if x1 = 0 then
  (some (1 : Int32))
  else
  (fX11_in a2 (-1 : Int32) (2 : Int32)).bind fun x4 =>
  if x4 = 0 then
  (some (2 : Int32))
  else
  some (0 : Int32))
  fun q2 =>
  (oPI 10 48 (some a0) q2 h).bind fun h5 =>
  (oGI 10 48 (some a0) h5).bind fun x6 =>
  if x6 ≤ 0 then
  ((oGR 10 13 (some a0) h5).bind fun x7 =>
  (oIL x7 a1 h5).bind fun x8 =>
  (oGR 10 13 (some a0) h5).bind fun x9 =>
  (oIS x9 a1 a2 h5).bind fun h10 =>
  (oOb 10 (some a0) h10).bind fun b =>
  o2 (fX11_fitOffset b h10) fun _ h12 =>
  some ((x8, h12)))
  else
  some (((0 : Int32), h5))
theorem tX11_setRule {G : gG} (a0 : Nat) (a1 : Int32) (a2 : Int32) (h : hp) (Q : hQ) (hF : okB (fX11_setRule a0 a1 a2 h) (pH gI Q)) : gS G mX11_setRule 6 0 0 [sr (some a0), si a1, si a2] h Q := by
  delta fX11_setRule at hF
  refine gS_at [some (sr (some a0)), some (si a1), some (si a2), none] pl_X11 rfl (Nat.le_of_ble_eq_true rfl) rfl ?_
  refine v_aload_n (pc := 0) (i := 0) dX11_setRule_0 rfl rfl ?_
  refine v_aload_n (pc := 1) (i := 0) dX11_setRule_1 rfl rfl ?_
  refine v_iload_n (pc := 2) (i := 1) dX11_setRule_2 rfl rfl ?_
  refine cp_V (pc := 3) gI (as := [si a1]) (st := [sr (some a0)]) (ci := 10) (k := 0) (n := 0) dX11_setRule_3 lkX11_118 caX11_isElement cvX11_isElement rfl (by decide) rfl (fun b Q1 hq => tX11_isElement b a1 h Q1 hq) ⟨by decide, by decide⟩ (Nat.le_of_ble_eq_true rfl) rfl hF (fun x1 hF => ?_)
  show gV G mX11_setRule 6 Q 6 [some (sr (some a0)), some (si a1), some (si a2), none] [si x1, sr (some a0)] (0) (0) h
  refine mg (X := fun q2 => gV G mX11_setRule 6 Q 27 [some (sr (some a0)), some (si a1), some (si a2), none] [si q2, sr (some a0)] (0) (0) h) hF (fun _ hj3 hF => ?_) (fun q2 hF => ?_)
  · refine v_if_ne (pc := 6) 13 dX11_setRule_6 rfl (fun hc => ?_) (fun hc => ?_)
    · replace hF := (okB_if hF).2 hc
      refine v_iload_n (pc := 13) (i := 2) dX11_setRule_13 rfl rfl ?_
      refine v_iconst (pc := 14) (v := (-1 : Int32)) dX11_setRule_14 rfl ?_
      refine v_iconst (pc := 15) (v := (2 : Int32)) dX11_setRule_15 rfl ?_
      refine cp_S (pc := 16) gI (as := [si a2, si (-1 : Int32), si (2 : Int32)]) (st := [sr (some a0)]) (k := 0) (n := 0) dX11_setRule_16 lkX11_114 caX11_in csX11_in rfl (fun Q1 hq => tX11_in a2 (-1 : Int32) (2 : Int32) h Q1 hq) ⟨by decide, by decide⟩ (Nat.le_of_ble_eq_true rfl) rfl hF (fun x4 hF => ?_)
      show gV G mX11_setRule 6 Q 19 [some (sr (some a0)), some (si a1), some (si a2), none] [si x4, sr (some a0)] (0) (0) h
      refine v_if_ne (pc := 19) 26 dX11_setRule_19 rfl (fun hc => ?_) (fun hc => ?_)
      · replace hF := (okB_if hF).2 hc
        refine v_iconst (pc := 26) (v := (0 : Int32)) dX11_setRule_26 rfl ?_
        exact v_lle [some (sr (some a0)), some (si a1), some (si a2), none] ⟨rfl, rfl, rfl, trivial⟩ (hj3 _ (okB_some hF))
      replace hF := (okB_if hF).1 hc
      refine v_iconst (pc := 22) (v := (2 : Int32)) dX11_setRule_22 rfl ?_
      refine v_goto (pc := 23) 27 dX11_setRule_23 rfl ?_
      exact v_lle [some (sr (some a0)), some (si a1), some (si a2), none] ⟨rfl, rfl, rfl, trivial⟩ (hj3 _ (okB_some hF))
    replace hF := (okB_if hF).1 hc
    refine v_iconst (pc := 9) (v := (1 : Int32)) dX11_setRule_9 rfl ?_
    refine v_goto (pc := 10) 27 dX11_setRule_10 rfl ?_
    exact v_lle [some (sr (some a0)), some (si a1), some (si a2), none] ⟨rfl, rfl, rfl, trivial⟩ (hj3 _ (okB_some hF))
  refine s_putI (pc := 27) dX11_setRule_27 flX11_111 (Or.inl rfl) rfl hF (fun h5 hF => ?_)
  refine v_aload_n (pc := 30) (i := 0) dX11_setRule_30 rfl rfl ?_
  refine s_getI (pc := 31) dX11_setRule_31 flX11_111 rfl hF (fun x6 hF => ?_)
  refine v_if_le (pc := 34) 39 dX11_setRule_34 rfl (fun hc => ?_) (fun hc => ?_)
  · replace hF := (okB_if hF).1 hc
    refine v_aload_n (pc := 39) (i := 0) dX11_setRule_39 rfl rfl ?_
    refine s_getR (pc := 40) dX11_setRule_40 flX11_47 rfl hF (fun x7 hF => ?_)
    refine v_iload_n (pc := 43) (i := 1) dX11_setRule_43 rfl rfl ?_
    refine s_iald (pc := 44) dX11_setRule_44 hF (fun x8 hF => ?_)
    refine v_istore_n (pc := 45) (i := 3) [some (sr (some a0)), some (si a1), some (si a2), some (si x8)] dX11_setRule_45 rfl (by decide) rfl rfl ?_
    refine v_aload_n (pc := 46) (i := 0) dX11_setRule_46 rfl rfl ?_
    refine s_getR (pc := 47) dX11_setRule_47 flX11_47 rfl hF (fun x9 hF => ?_)
    refine v_iload_n (pc := 50) (i := 1) dX11_setRule_50 rfl rfl ?_
    refine v_iload_n (pc := 51) (i := 2) dX11_setRule_51 rfl rfl ?_
    refine s_iast (pc := 52) dX11_setRule_52 hF (fun h10 hF => ?_)
    refine v_aload_n (pc := 53) (i := 0) dX11_setRule_53 rfl rfl ?_
    refine ch_V (pc := 54) gU (as := []) (st := []) (ci := 10) (k := 0) (n := 0) dX11_setRule_54 lkX11_295 caX11_fitOffset cvX11_fitOffset rfl (by decide) rfl (fun b Q1 hq => tX11_fitOffset b h10 Q1 hq) ⟨by decide, by decide⟩ (Nat.le_of_ble_eq_true rfl) rfl hF (fun x11 h12 hF => ?_)
    show gV G mX11_setRule 6 Q 57 [some (sr (some a0)), some (si a1), some (si a2), some (si x8)] [] (0) (0) h12
    refine v_iload_n (pc := 57) (i := 3) dX11_setRule_57 rfl rfl ?_
    exact v_iret (pc := 58) dX11_setRule_58 rfl rfl (okr hF fun q => q)
  replace hF := (okB_if hF).2 hc
  refine v_iconst (pc := 37) (v := (0 : Int32)) dX11_setRule_37 rfl ?_
  exact v_iret (pc := 38) dX11_setRule_38 rfl rfl (okr hF fun q => q)
/-! BrailleDeskModel.setManner -/
def fX11_setManner (a0 : Nat) (a1 : Int32) (a2 : Int32) (h : hp) : Option (Int32 × hp) :=
  (oOb 10 (some a0) h).bind fun b =>
  (fX11_isElement b a1 h).bind fun x1 =>
  Option.bind (α := Int32)
  (if x1 = 0 then
  (some (1 : Int32))
  else
  (fX11_in a2 (0 : Int32) (2 : Int32)).bind fun x4 =>
  if x4 = 0 then
  (some (2 : Int32))
  else
  (oGR 10 2 (some a0) h).bind fun x5 =>
  (oIL x5 a1 h).bind fun x6 =>
  if x6 = (7 : Int32) then
  (some (0 : Int32))
  else
  some (3 : Int32))
  fun q2 =>
  (oPI 10 48 (some a0) q2 h).bind fun h7 =>
  (oGI 10 48 (some a0) h7).bind fun x8 =>
  if x8 ≤ 0 then
  ((oGR 10 14 (some a0) h7).bind fun x9 =>
  (oIL x9 a1 h7).bind fun x10 =>
  (oGR 10 14 (some a0) h7).bind fun x11 =>
  (oIS x11 a1 a2 h7).bind fun h12 =>
  (oOb 10 (some a0) h12).bind fun b =>
  o2 (fX11_swallow b a1 h12) fun _ h14 =>
  some ((x10, h14)))
  else
  some (((0 : Int32), h7))
theorem tX11_setManner {G : gG} (a0 : Nat) (a1 : Int32) (a2 : Int32) (h : hp) (Q : hQ) (hF : okB (fX11_setManner a0 a1 a2 h) (pH gI Q)) : gS G mX11_setManner 2 0 0 [sr (some a0), si a1, si a2] h Q := by
  delta fX11_setManner at hF
  refine gS_at [some (sr (some a0)), some (si a1), some (si a2), none] pl_X11 rfl (Nat.le_of_ble_eq_true rfl) rfl ?_
  refine v_aload_n (pc := 0) (i := 0) dX11_setManner_0 rfl rfl ?_
  refine v_aload_n (pc := 1) (i := 0) dX11_setManner_1 rfl rfl ?_
  refine v_iload_n (pc := 2) (i := 1) dX11_setManner_2 rfl rfl ?_
  refine cp_V (pc := 3) gI (as := [si a1]) (st := [sr (some a0)]) (ci := 10) (k := 0) (n := 0) dX11_setManner_3 lkX11_118 caX11_isElement cvX11_isElement rfl (by decide) rfl (fun b Q1 hq => tX11_isElement b a1 h Q1 hq) ⟨by decide, by decide⟩ (Nat.le_of_ble_eq_true rfl) rfl hF (fun x1 hF => ?_)
  show gV G mX11_setManner 2 Q 6 [some (sr (some a0)), some (si a1), some (si a2), none] [si x1, sr (some a0)] (0) (0) h
  refine mg (X := fun q2 => gV G mX11_setManner 2 Q 42 [some (sr (some a0)), some (si a1), some (si a2), none] [si q2, sr (some a0)] (0) (0) h) hF (fun _ hj3 hF => ?_) (fun q2 hF => ?_)
  · refine v_if_ne (pc := 6) 13 dX11_setManner_6 rfl (fun hc => ?_) (fun hc => ?_)
    · replace hF := (okB_if hF).2 hc
      refine v_iload_n (pc := 13) (i := 2) dX11_setManner_13 rfl rfl ?_
      refine v_iconst (pc := 14) (v := (0 : Int32)) dX11_setManner_14 rfl ?_
      refine v_iconst (pc := 15) (v := (2 : Int32)) dX11_setManner_15 rfl ?_
      refine cp_S (pc := 16) gI (as := [si a2, si (0 : Int32), si (2 : Int32)]) (st := [sr (some a0)]) (k := 0) (n := 0) dX11_setManner_16 lkX11_114 caX11_in csX11_in rfl (fun Q1 hq => tX11_in a2 (0 : Int32) (2 : Int32) h Q1 hq) ⟨by decide, by decide⟩ (Nat.le_of_ble_eq_true rfl) rfl hF (fun x4 hF => ?_)
      show gV G mX11_setManner 2 Q 19 [some (sr (some a0)), some (si a1), some (si a2), none] [si x4, sr (some a0)] (0) (0) h
      refine v_if_ne (pc := 19) 26 dX11_setManner_19 rfl (fun hc => ?_) (fun hc => ?_)
      · replace hF := (okB_if hF).2 hc
        refine v_aload_n (pc := 26) (i := 0) dX11_setManner_26 rfl rfl ?_
        refine s_getR (pc := 27) dX11_setManner_27 flX11_13 rfl hF (fun x5 hF => ?_)
        refine v_iload_n (pc := 30) (i := 1) dX11_setManner_30 rfl rfl ?_
        refine s_iald (pc := 31) dX11_setManner_31 hF (fun x6 hF => ?_)
        refine v_bipush (pc := 32) (v := (7 : Int32)) dX11_setManner_32 rfl ?_
        refine v_icmp_eq (pc := 34) 41 dX11_setManner_34 rfl (fun hc => ?_) (fun hc => ?_)
        · replace hF := (okB_if hF).1 hc
          refine v_iconst (pc := 41) (v := (0 : Int32)) dX11_setManner_41 rfl ?_
          exact v_lle [some (sr (some a0)), some (si a1), some (si a2), none] ⟨rfl, rfl, rfl, trivial⟩ (hj3 _ (okB_some hF))
        replace hF := (okB_if hF).2 hc
        refine v_iconst (pc := 37) (v := (3 : Int32)) dX11_setManner_37 rfl ?_
        refine v_goto (pc := 38) 42 dX11_setManner_38 rfl ?_
        exact v_lle [some (sr (some a0)), some (si a1), some (si a2), none] ⟨rfl, rfl, rfl, trivial⟩ (hj3 _ (okB_some hF))
      replace hF := (okB_if hF).1 hc
      refine v_iconst (pc := 22) (v := (2 : Int32)) dX11_setManner_22 rfl ?_
      refine v_goto (pc := 23) 42 dX11_setManner_23 rfl ?_
      exact v_lle [some (sr (some a0)), some (si a1), some (si a2), none] ⟨rfl, rfl, rfl, trivial⟩ (hj3 _ (okB_some hF))
    replace hF := (okB_if hF).1 hc
    refine v_iconst (pc := 9) (v := (1 : Int32)) dX11_setManner_9 rfl ?_
    refine v_goto (pc := 10) 42 dX11_setManner_10 rfl ?_
    exact v_lle [some (sr (some a0)), some (si a1), some (si a2), none] ⟨rfl, rfl, rfl, trivial⟩ (hj3 _ (okB_some hF))
  refine s_putI (pc := 42) dX11_setManner_42 flX11_111 (Or.inl rfl) rfl hF (fun h7 hF => ?_)
  refine v_aload_n (pc := 45) (i := 0) dX11_setManner_45 rfl rfl ?_
  refine s_getI (pc := 46) dX11_setManner_46 flX11_111 rfl hF (fun x8 hF => ?_)
  refine v_if_le (pc := 49) 54 dX11_setManner_49 rfl (fun hc => ?_) (fun hc => ?_)
  · replace hF := (okB_if hF).1 hc
    refine v_aload_n (pc := 54) (i := 0) dX11_setManner_54 rfl rfl ?_
    refine s_getR (pc := 55) dX11_setManner_55 flX11_50 rfl hF (fun x9 hF => ?_)
    refine v_iload_n (pc := 58) (i := 1) dX11_setManner_58 rfl rfl ?_
    refine s_iald (pc := 59) dX11_setManner_59 hF (fun x10 hF => ?_)
    refine v_istore_n (pc := 60) (i := 3) [some (sr (some a0)), some (si a1), some (si a2), some (si x10)] dX11_setManner_60 rfl (by decide) rfl rfl ?_
    refine v_aload_n (pc := 61) (i := 0) dX11_setManner_61 rfl rfl ?_
    refine s_getR (pc := 62) dX11_setManner_62 flX11_50 rfl hF (fun x11 hF => ?_)
    refine v_iload_n (pc := 65) (i := 1) dX11_setManner_65 rfl rfl ?_
    refine v_iload_n (pc := 66) (i := 2) dX11_setManner_66 rfl rfl ?_
    refine s_iast (pc := 67) dX11_setManner_67 hF (fun h12 hF => ?_)
    refine v_aload_n (pc := 68) (i := 0) dX11_setManner_68 rfl rfl ?_
    refine v_iload_n (pc := 69) (i := 1) dX11_setManner_69 rfl rfl ?_
    refine ch_V (pc := 70) gU (as := [si a1]) (st := []) (ci := 10) (k := 0) (n := 0) dX11_setManner_70 lkX11_218 caX11_swallow cvX11_swallow rfl (by decide) rfl (fun b Q1 hq => tX11_swallow b a1 h12 Q1 hq) ⟨by decide, by decide⟩ (Nat.le_of_ble_eq_true rfl) rfl hF (fun x13 h14 hF => ?_)
    show gV G mX11_setManner 2 Q 73 [some (sr (some a0)), some (si a1), some (si a2), some (si x10)] [] (0) (0) h14
    refine v_iload_n (pc := 73) (i := 3) dX11_setManner_73 rfl rfl ?_
    exact v_iret (pc := 74) dX11_setManner_74 rfl rfl (okr hF fun q => q)
  replace hF := (okB_if hF).2 hc
  refine v_iconst (pc := 52) (v := (0 : Int32)) dX11_setManner_52 rfl ?_
  exact v_iret (pc := 53) dX11_setManner_53 rfl rfl (okr hF fun q => q)
/-! BrailleDeskModel.elements -/
def fX11_elements_B9 (c0 : Nat) (h : hp) (a : (Int32 × Int32)) : Option ((Int32 × Int32) ⊕ Int32) :=
  (oGI 10 0 (some c0) h).bind fun x1 =>
  if x1 ≤ a.2 then
  (some (.inr a.1))
  else
  (oGR 10 1 (some c0) h).bind fun x2 =>
  (oZL x2 a.2 h).bind fun x3 =>
  if x3 = 0 then
  (some (.inl (a.1 + (0 : Int32), a.2 + (1 : Int32))))
  else
  some (.inl (a.1 + (1 : Int32), a.2 + (1 : Int32)))
theorem lX11_elements_9 {G : gG} {Q : hQ} {P : Int32 → Prop} {k n : Nat} (c0 : Nat) (h : hp) (hJ : ∀ q : Int32, P q → gV G mX11_elements 0 Q 40 [none, some (si q), none] [] (k) (n) h) : ∀ (fu : Nat) (a : (Int32 × Int32)), okB (itr (fX11_elements_B9 c0 h) fu a) P → gV G mX11_elements 0 Q 9 [some (sr (some c0)), some (si a.1), some (si a.2)] [] (k) (n) h :=
  lpg (X := fun (a : (Int32 × Int32)) => gV G mX11_elements 0 Q 9 [some (sr (some c0)), some (si a.1), some (si a.2)] [] (k) (n) h) (fun a P2 hL hE hF => by
    delta fX11_elements_B9 at hF
    refine v_iload_n (pc := 9) (i := 2) dX11_elements_9 rfl rfl ?_
    refine v_aload_n (pc := 10) (i := 0) dX11_elements_10 rfl rfl ?_
    refine s_getI (pc := 11) dX11_elements_11 flX11_101 rfl hF (fun x1 hF => ?_)
    refine v_icmp_ge (pc := 14) 40 dX11_elements_14 rfl (fun hc => ?_) (fun hc => ?_)
    · replace hF := (okB_if hF).1 hc
      exact v_lle [none, some (si a.1), none] ⟨rfl, trivial⟩ (hJ _ (hE _ (okB_some hF)))
    replace hF := (okB_if hF).2 hc
    refine v_iload_n (pc := 17) (i := 1) dX11_elements_17 rfl rfl ?_
    refine v_aload_n (pc := 18) (i := 0) dX11_elements_18 rfl rfl ?_
    refine s_getR (pc := 19) dX11_elements_19 flX11_7 rfl hF (fun x2 hF => ?_)
    refine v_iload_n (pc := 22) (i := 2) dX11_elements_22 rfl rfl ?_
    refine s_zald (pc := 23) dX11_elements_23 hF (fun x3 hF => ?_)
    refine v_if_eq (pc := 24) 31 dX11_elements_24 rfl (fun hc => ?_) (fun hc => ?_)
    · replace hF := (okB_if hF).1 hc
      refine v_iconst (pc := 31) (v := (0 : Int32)) dX11_elements_31 rfl ?_
      refine v_iadd (pc := 32) dX11_elements_32 ?_
      refine v_istore_n (pc := 33) (i := 1) [some (sr (some c0)), some (si (a.1 + (0 : Int32))), some (si a.2)] dX11_elements_33 rfl (by decide) rfl rfl ?_
      refine v_iinc (pc := 34) (i := 2) (a.2 + (1 : Int32)) [some (sr (some c0)), some (si (a.1 + (0 : Int32))), some (si (a.2 + (1 : Int32)))] dX11_elements_34 rfl rfl rfl rfl ?_
      refine v_goto (pc := 37) 9 dX11_elements_37 rfl ?_
      exact v_lle [some (sr (some c0)), some (si (a.1 + (0 : Int32))), some (si (a.2 + (1 : Int32)))] ⟨rfl, rfl, rfl, trivial⟩ (hL _ (okB_some hF))
    replace hF := (okB_if hF).2 hc
    refine v_iconst (pc := 27) (v := (1 : Int32)) dX11_elements_27 rfl ?_
    refine v_goto (pc := 28) 32 dX11_elements_28 rfl ?_
    refine v_iadd (pc := 32) dX11_elements_32 ?_
    refine v_istore_n (pc := 33) (i := 1) [some (sr (some c0)), some (si (a.1 + (1 : Int32))), some (si a.2)] dX11_elements_33 rfl (by decide) rfl rfl ?_
    refine v_iinc (pc := 34) (i := 2) (a.2 + (1 : Int32)) [some (sr (some c0)), some (si (a.1 + (1 : Int32))), some (si (a.2 + (1 : Int32)))] dX11_elements_34 rfl rfl rfl rfl ?_
    refine v_goto (pc := 37) 9 dX11_elements_37 rfl ?_
    exact v_lle [some (sr (some c0)), some (si (a.1 + (1 : Int32))), some (si (a.2 + (1 : Int32)))] ⟨rfl, rfl, rfl, trivial⟩ (hL _ (okB_some hF)))
def fX11_elements (a0 : Nat) (h : hp) : Option (Int32 × hp) :=
  (oPI 10 48 (some a0) (0 : Int32) h).bind fun h1 =>
  Option.bind (α := Int32)
  (itr (fX11_elements_B9 a0 h1) FU ((0 : Int32), (0 : Int32)))
  fun q2 =>
  some ((q2, h1))
theorem tX11_elements {G : gG} (a0 : Nat) (h : hp) (Q : hQ) (hF : okB (fX11_elements a0 h) (pH gI Q)) : gS G mX11_elements 0 0 0 [sr (some a0)] h Q := by
  delta fX11_elements at hF
  refine gS_at [some (sr (some a0)), none, none] pl_X11 rfl (Nat.le_of_ble_eq_true rfl) rfl ?_
  refine v_aload_n (pc := 0) (i := 0) dX11_elements_0 rfl rfl ?_
  refine v_iconst (pc := 1) (v := (0 : Int32)) dX11_elements_1 rfl ?_
  refine s_putI (pc := 2) dX11_elements_2 flX11_111 (Or.inl rfl) rfl hF (fun h1 hF => ?_)
  refine v_iconst (pc := 5) (v := (0 : Int32)) dX11_elements_5 rfl ?_
  refine v_istore_n (pc := 6) (i := 1) [some (sr (some a0)), some (si (0 : Int32)), none] dX11_elements_6 rfl (by decide) rfl rfl ?_
  refine v_iconst (pc := 7) (v := (0 : Int32)) dX11_elements_7 rfl ?_
  refine v_istore_n (pc := 8) (i := 2) [some (sr (some a0)), some (si (0 : Int32)), some (si (0 : Int32))] dX11_elements_8 rfl (by decide) rfl rfl ?_
  refine mg (X := fun q2 => gV G mX11_elements 0 Q 40 [none, some (si q2), none] [] (0) (0) h1) hF (fun _ hj3 hF => v_lle [some (sr (some a0)), some (si (0 : Int32)), some (si (0 : Int32))] ⟨rfl, rfl, rfl, trivial⟩ (lX11_elements_9 a0 h1 hj3 _ _ hF)) (fun q2 hF => ?_)
  refine v_iload_n (pc := 40) (i := 1) dX11_elements_40 rfl rfl ?_
  exact v_iret (pc := 41) dX11_elements_41 rfl rfl (okr hF fun q => q)
/-! BrailleDeskModel.kind -/
def fX11_kind (a0 : Nat) (a1 : Int32) (h : hp) : Option (Int32 × hp) :=
  (oOb 10 (some a0) h).bind fun b =>
  o2 (fX11_asksFor b a1 h) fun x1 h2 =>
  if x1 = 0 then
  (some (((0 : Int32), h2)))
  else
  (oGR 10 2 (some a0) h2).bind fun x3 =>
  (oIL x3 a1 h2).bind fun x4 =>
  some ((x4, h2))
theorem tX11_kind {G : gG} (a0 : Nat) (a1 : Int32) (h : hp) (Q : hQ) (hF : okB (fX11_kind a0 a1 h) (pH gI Q)) : gS G mX11_kind 3 0 0 [sr (some a0), si a1] h Q := by
  delta fX11_kind at hF
  refine gS_at [some (sr (some a0)), some (si a1)] pl_X11 rfl (Nat.le_of_ble_eq_true rfl) rfl ?_
  refine v_aload_n (pc := 0) (i := 0) dX11_kind_0 rfl rfl ?_
  refine v_iload_n (pc := 1) (i := 1) dX11_kind_1 rfl rfl ?_
  refine ch_V (pc := 2) gI (as := [si a1]) (st := []) (ci := 10) (k := 0) (n := 0) dX11_kind_2 lkX11_315 caX11_asksFor cvX11_asksFor rfl (by decide) rfl (fun b Q1 hq => tX11_asksFor b a1 h Q1 hq) ⟨by decide, by decide⟩ (Nat.le_of_ble_eq_true rfl) rfl hF (fun x1 h2 hF => ?_)
  show gV G mX11_kind 3 Q 5 [some (sr (some a0)), some (si a1)] [si x1] (0) (0) h2
  refine v_if_eq (pc := 5) 17 dX11_kind_5 rfl (fun hc => ?_) (fun hc => ?_)
  · replace hF := (okB_if hF).1 hc
    refine v_iconst (pc := 17) (v := (0 : Int32)) dX11_kind_17 rfl ?_
    exact v_iret (pc := 18) dX11_kind_18 rfl rfl (okr hF fun q => q)
  replace hF := (okB_if hF).2 hc
  refine v_aload_n (pc := 8) (i := 0) dX11_kind_8 rfl rfl ?_
  refine s_getR (pc := 9) dX11_kind_9 flX11_13 rfl hF (fun x3 hF => ?_)
  refine v_iload_n (pc := 12) (i := 1) dX11_kind_12 rfl rfl ?_
  refine s_iald (pc := 13) dX11_kind_13 hF (fun x4 hF => ?_)
  refine v_goto (pc := 14) 18 dX11_kind_14 rfl ?_
  exact v_iret (pc := 18) dX11_kind_18 rfl rfl (okr hF fun q => q)
/-! BrailleDeskModel.parent -/
def fX11_parent (a0 : Nat) (a1 : Int32) (h : hp) : Option (Int32 × hp) :=
  (oOb 10 (some a0) h).bind fun b =>
  o2 (fX11_asksFor b a1 h) fun x1 h2 =>
  if x1 = 0 then
  (some (((0 : Int32), h2)))
  else
  (oGR 10 3 (some a0) h2).bind fun x3 =>
  (oIL x3 a1 h2).bind fun x4 =>
  some ((x4, h2))
theorem tX11_parent {G : gG} (a0 : Nat) (a1 : Int32) (h : hp) (Q : hQ) (hF : okB (fX11_parent a0 a1 h) (pH gI Q)) : gS G mX11_parent 3 0 0 [sr (some a0), si a1] h Q := by
  delta fX11_parent at hF
  refine gS_at [some (sr (some a0)), some (si a1)] pl_X11 rfl (Nat.le_of_ble_eq_true rfl) rfl ?_
  refine v_aload_n (pc := 0) (i := 0) dX11_parent_0 rfl rfl ?_
  refine v_iload_n (pc := 1) (i := 1) dX11_parent_1 rfl rfl ?_
  refine ch_V (pc := 2) gI (as := [si a1]) (st := []) (ci := 10) (k := 0) (n := 0) dX11_parent_2 lkX11_315 caX11_asksFor cvX11_asksFor rfl (by decide) rfl (fun b Q1 hq => tX11_asksFor b a1 h Q1 hq) ⟨by decide, by decide⟩ (Nat.le_of_ble_eq_true rfl) rfl hF (fun x1 h2 hF => ?_)
  show gV G mX11_parent 3 Q 5 [some (sr (some a0)), some (si a1)] [si x1] (0) (0) h2
  refine v_if_eq (pc := 5) 17 dX11_parent_5 rfl (fun hc => ?_) (fun hc => ?_)
  · replace hF := (okB_if hF).1 hc
    refine v_iconst (pc := 17) (v := (0 : Int32)) dX11_parent_17 rfl ?_
    exact v_iret (pc := 18) dX11_parent_18 rfl rfl (okr hF fun q => q)
  replace hF := (okB_if hF).2 hc
  refine v_aload_n (pc := 8) (i := 0) dX11_parent_8 rfl rfl ?_
  refine s_getR (pc := 9) dX11_parent_9 flX11_17 rfl hF (fun x3 hF => ?_)
  refine v_iload_n (pc := 12) (i := 1) dX11_parent_12 rfl rfl ?_
  refine s_iald (pc := 13) dX11_parent_13 hF (fun x4 hF => ?_)
  refine v_goto (pc := 14) 18 dX11_parent_14 rfl ?_
  exact v_iret (pc := 18) dX11_parent_18 rfl rfl (okr hF fun q => q)
/-! BrailleDeskModel.children -/
def fX11_children (a0 : Nat) (a1 : Int32) (h : hp) : Option (Int32 × hp) :=
  (oOb 10 (some a0) h).bind fun b =>
  o2 (fX11_asksFor b a1 h) fun x1 h2 =>
  if x1 = 0 then
  (some (((0 : Int32), h2)))
  else
  (oGR 10 5 (some a0) h2).bind fun x3 =>
  (oIL x3 a1 h2).bind fun x4 =>
  some ((x4, h2))
theorem tX11_children {G : gG} (a0 : Nat) (a1 : Int32) (h : hp) (Q : hQ) (hF : okB (fX11_children a0 a1 h) (pH gI Q)) : gS G mX11_children 3 0 0 [sr (some a0), si a1] h Q := by
  delta fX11_children at hF
  refine gS_at [some (sr (some a0)), some (si a1)] pl_X11 rfl (Nat.le_of_ble_eq_true rfl) rfl ?_
  refine v_aload_n (pc := 0) (i := 0) dX11_children_0 rfl rfl ?_
  refine v_iload_n (pc := 1) (i := 1) dX11_children_1 rfl rfl ?_
  refine ch_V (pc := 2) gI (as := [si a1]) (st := []) (ci := 10) (k := 0) (n := 0) dX11_children_2 lkX11_315 caX11_asksFor cvX11_asksFor rfl (by decide) rfl (fun b Q1 hq => tX11_asksFor b a1 h Q1 hq) ⟨by decide, by decide⟩ (Nat.le_of_ble_eq_true rfl) rfl hF (fun x1 h2 hF => ?_)
  show gV G mX11_children 3 Q 5 [some (sr (some a0)), some (si a1)] [si x1] (0) (0) h2
  refine v_if_eq (pc := 5) 17 dX11_children_5 rfl (fun hc => ?_) (fun hc => ?_)
  · replace hF := (okB_if hF).1 hc
    refine v_iconst (pc := 17) (v := (0 : Int32)) dX11_children_17 rfl ?_
    exact v_iret (pc := 18) dX11_children_18 rfl rfl (okr hF fun q => q)
  replace hF := (okB_if hF).2 hc
  refine v_aload_n (pc := 8) (i := 0) dX11_children_8 rfl rfl ?_
  refine s_getR (pc := 9) dX11_children_9 flX11_23 rfl hF (fun x3 hF => ?_)
  refine v_iload_n (pc := 12) (i := 1) dX11_children_12 rfl rfl ?_
  refine s_iald (pc := 13) dX11_children_13 hF (fun x4 hF => ?_)
  refine v_goto (pc := 14) 18 dX11_children_14 rfl ?_
  exact v_iret (pc := 18) dX11_children_18 rfl rfl (okr hF fun q => q)

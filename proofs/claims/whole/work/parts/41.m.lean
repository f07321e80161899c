/-! ===== methods: their functions and rows ===== -/
theorem dX11_tell_0 : decode cX11_tell 0 = .ok (.iload_n 1, 1) := by decide +kernel
theorem dX11_tell_1 : decode cX11_tell 1 = .ok (.iconst (-1), 1) := by decide +kernel
theorem dX11_tell_2 : decode cX11_tell 2 = .ok (.if_icmp .eq 19, 3) := by decide +kernel
theorem dX11_tell_5 : decode cX11_tell 5 = .ok (.aload_n 0, 1) := by decide +kernel
theorem dX11_tell_6 : decode cX11_tell 6 = .ok (.getfield 143, 3) := by decide +kernel
theorem dX11_tell_9 : decode cX11_tell 9 = .ok (.ifCond .eq 12, 3) := by decide +kernel
theorem dX11_tell_12 : decode cX11_tell 12 = .ok (.aload_n 0, 1) := by decide +kernel
theorem dX11_tell_13 : decode cX11_tell 13 = .ok (.getfield 50, 3) := by decide +kernel
theorem dX11_tell_16 : decode cX11_tell 16 = .ok (.iload_n 1, 1) := by decide +kernel
theorem dX11_tell_17 : decode cX11_tell 17 = .ok (.iaload, 1) := by decide +kernel
theorem dX11_tell_18 : decode cX11_tell 18 = .ok (.ifCond .ne 4, 3) := by decide +kernel
theorem dX11_tell_21 : decode cX11_tell 21 = .ok (.return_, 1) := by decide +kernel
theorem dX11_tell_22 : decode cX11_tell 22 = .ok (.aload_n 0, 1) := by decide +kernel
theorem dX11_tell_23 : decode cX11_tell 23 = .ok (.getfield 50, 3) := by decide +kernel
theorem dX11_tell_26 : decode cX11_tell 26 = .ok (.iload_n 1, 1) := by decide +kernel
theorem dX11_tell_27 : decode cX11_tell 27 = .ok (.iaload, 1) := by decide +kernel
theorem dX11_tell_28 : decode cX11_tell 28 = .ok (.iconst 2, 1) := by decide +kernel
theorem dX11_tell_29 : decode cX11_tell 29 = .ok (.if_icmp .ne 10, 3) := by decide +kernel
theorem dX11_tell_32 : decode cX11_tell 32 = .ok (.aload_n 0, 1) := by decide +kernel
theorem dX11_tell_33 : decode cX11_tell 33 = .ok (.invokevirtual 209, 3) := by decide +kernel
theorem dX11_tell_36 : decode cX11_tell 36 = .ok (.goto 63, 3) := by decide +kernel
theorem dX11_tell_39 : decode cX11_tell 39 = .ok (.aload_n 0, 1) := by decide +kernel
theorem dX11_tell_40 : decode cX11_tell 40 = .ok (.iload_n 1, 1) := by decide +kernel
theorem dX11_tell_41 : decode cX11_tell 41 = .ok (.invokevirtual 212, 3) := by decide +kernel
theorem dX11_tell_44 : decode cX11_tell 44 = .ok (.ifCond .eq 20, 3) := by decide +kernel
theorem dX11_tell_47 : decode cX11_tell 47 = .ok (.aload_n 0, 1) := by decide +kernel
theorem dX11_tell_48 : decode cX11_tell 48 = .ok (.getfield 53, 3) := by decide +kernel
theorem dX11_tell_51 : decode cX11_tell 51 = .ok (.iload_n 1, 1) := by decide +kernel
theorem dX11_tell_52 : decode cX11_tell 52 = .ok (.aload_n 0, 1) := by decide +kernel
theorem dX11_tell_53 : decode cX11_tell 53 = .ok (.getfield 206, 3) := by decide +kernel
theorem dX11_tell_56 : decode cX11_tell 56 = .ok (.iastore, 1) := by decide +kernel
theorem dX11_tell_57 : decode cX11_tell 57 = .ok (.aload_n 0, 1) := by decide +kernel
theorem dX11_tell_58 : decode cX11_tell 58 = .ok (.invokevirtual 215, 3) := by decide +kernel
theorem dX11_tell_61 : decode cX11_tell 61 = .ok (.goto 38, 3) := by decide +kernel
theorem dX11_tell_64 : decode cX11_tell 64 = .ok (.aload_n 0, 1) := by decide +kernel
theorem dX11_tell_65 : decode cX11_tell 65 = .ok (.iload_n 1, 1) := by decide +kernel
theorem dX11_tell_66 : decode cX11_tell 66 = .ok (.invokevirtual 218, 3) := by decide +kernel
theorem dX11_tell_69 : decode cX11_tell 69 = .ok (.aload_n 0, 1) := by decide +kernel
theorem dX11_tell_70 : decode cX11_tell 70 = .ok (.getfield 56, 3) := by decide +kernel
theorem dX11_tell_73 : decode cX11_tell 73 = .ok (.iload_n 1, 1) := by decide +kernel
theorem dX11_tell_74 : decode cX11_tell 74 = .ok (.aload_n 0, 1) := by decide +kernel
theorem dX11_tell_75 : decode cX11_tell 75 = .ok (.getfield 143, 3) := by decide +kernel
theorem dX11_tell_78 : decode cX11_tell 78 = .ok (.iastore, 1) := by decide +kernel
theorem dX11_tell_79 : decode cX11_tell 79 = .ok (.aload_n 0, 1) := by decide +kernel
theorem dX11_tell_80 : decode cX11_tell 80 = .ok (.getfield 65, 3) := by decide +kernel
theorem dX11_tell_83 : decode cX11_tell 83 = .ok (.iconst 0, 1) := by decide +kernel
theorem dX11_tell_84 : decode cX11_tell 84 = .ok (.aload_n 0, 1) := by decide +kernel
theorem dX11_tell_85 : decode cX11_tell 85 = .ok (.getfield 59, 3) := by decide +kernel
theorem dX11_tell_88 : decode cX11_tell 88 = .ok (.bipush 100, 2) := by decide +kernel
theorem dX11_tell_90 : decode cX11_tell 90 = .ok (.iload_n 1, 1) := by decide +kernel
theorem dX11_tell_91 : decode cX11_tell 91 = .ok (.imul, 1) := by decide +kernel
theorem dX11_tell_92 : decode cX11_tell 92 = .ok (.aload_n 0, 1) := by decide +kernel
theorem dX11_tell_93 : decode cX11_tell 93 = .ok (.getfield 143, 3) := by decide +kernel
theorem dX11_tell_96 : decode cX11_tell 96 = .ok (.invokestatic 181, 3) := by decide +kernel
theorem dX11_tell_99 : decode cX11_tell 99 = .ok (.return_, 1) := by decide +kernel
theorem dX11_tellWords_0 : decode cX11_tellWords 0 = .ok (.aload_n 0, 1) := by decide +kernel
theorem dX11_tellWords_1 : decode cX11_tellWords 1 = .ok (.iload_n 1, 1) := by decide +kernel
theorem dX11_tellWords_2 : decode cX11_tellWords 2 = .ok (.invokevirtual 224, 3) := by decide +kernel
theorem dX11_tellWords_5 : decode cX11_tellWords 5 = .ok (.ifCond .eq 22, 3) := by decide +kernel
theorem dX11_tellWords_8 : decode cX11_tellWords 8 = .ok (.aload_n 0, 1) := by decide +kernel
theorem dX11_tellWords_9 : decode cX11_tellWords 9 = .ok (.iconst 0, 1) := by decide +kernel
theorem dX11_tellWords_10 : decode cX11_tellWords 10 = .ok (.putfield 143, 3) := by decide +kernel
theorem dX11_tellWords_13 : decode cX11_tellWords 13 = .ok (.aload_n 0, 1) := by decide +kernel
theorem dX11_tellWords_14 : decode cX11_tellWords 14 = .ok (.iload_n 1, 1) := by decide +kernel
theorem dX11_tellWords_15 : decode cX11_tellWords 15 = .ok (.invokevirtual 227, 3) := by decide +kernel
theorem dX11_tellWords_18 : decode cX11_tellWords 18 = .ok (.aload_n 0, 1) := by decide +kernel
theorem dX11_tellWords_19 : decode cX11_tellWords 19 = .ok (.aload_n 0, 1) := by decide +kernel
theorem dX11_tellWords_20 : decode cX11_tellWords 20 = .ok (.iload_n 1, 1) := by decide +kernel
theorem dX11_tellWords_21 : decode cX11_tellWords 21 = .ok (.invokevirtual 230, 3) := by decide +kernel
theorem dX11_tellWords_24 : decode cX11_tellWords 24 = .ok (.invokevirtual 233, 3) := by decide +kernel
theorem dX11_tellWords_27 : decode cX11_tellWords 27 = .ok (.return_, 1) := by decide +kernel
theorem dX11_makeGone_0 : decode cX11_makeGone 0 = .ok (.aload_n 0, 1) := by decide +kernel
theorem dX11_makeGone_1 : decode cX11_makeGone 1 = .ok (.iconst 0, 1) := by decide +kernel
theorem dX11_makeGone_2 : decode cX11_makeGone 2 = .ok (.putfield 143, 3) := by decide +kernel
theorem dX11_makeGone_5 : decode cX11_makeGone 5 = .ok (.aload_n 0, 1) := by decide +kernel
theorem dX11_makeGone_6 : decode cX11_makeGone 6 = .ok (.iconst 0, 1) := by decide +kernel
theorem dX11_makeGone_7 : decode cX11_makeGone 7 = .ok (.iconst 0, 1) := by decide +kernel
theorem dX11_makeGone_8 : decode cX11_makeGone 8 = .ok (.iconst 0, 1) := by decide +kernel
theorem dX11_makeGone_9 : decode cX11_makeGone 9 = .ok (.bipush 103, 2) := by decide +kernel
theorem dX11_makeGone_11 : decode cX11_makeGone 11 = .ok (.bipush 111, 2) := by decide +kernel
theorem dX11_makeGone_13 : decode cX11_makeGone 13 = .ok (.bipush 110, 2) := by decide +kernel
theorem dX11_makeGone_15 : decode cX11_makeGone 15 = .ok (.bipush 101, 2) := by decide +kernel
theorem dX11_makeGone_17 : decode cX11_makeGone 17 = .ok (.invokestatic 133, 3) := by decide +kernel
theorem dX11_makeGone_20 : decode cX11_makeGone 20 = .ok (.invokevirtual 160, 3) := by decide +kernel
theorem dX11_makeGone_23 : decode cX11_makeGone 23 = .ok (.aload_n 0, 1) := by decide +kernel
theorem dX11_makeGone_24 : decode cX11_makeGone 24 = .ok (.iload_n 1, 1) := by decide +kernel
theorem dX11_makeGone_25 : decode cX11_makeGone 25 = .ok (.invokevirtual 168, 3) := by decide +kernel
theorem dX11_makeGone_28 : decode cX11_makeGone 28 = .ok (.aload_n 0, 1) := by decide +kernel
theorem dX11_makeGone_29 : decode cX11_makeGone 29 = .ok (.getfield 29, 3) := by decide +kernel
theorem dX11_makeGone_32 : decode cX11_makeGone 32 = .ok (.iload_n 1, 1) := by decide +kernel
theorem dX11_makeGone_33 : decode cX11_makeGone 33 = .ok (.iaload, 1) := by decide +kernel
theorem dX11_makeGone_34 : decode cX11_makeGone 34 = .ok (.ifCond .ne 16, 3) := by decide +kernel
theorem dX11_makeGone_37 : decode cX11_makeGone 37 = .ok (.aload_n 0, 1) := by decide +kernel
theorem dX11_makeGone_38 : decode cX11_makeGone 38 = .ok (.aload_n 0, 1) := by decide +kernel
theorem dX11_makeGone_39 : decode cX11_makeGone 39 = .ok (.getfield 13, 3) := by decide +kernel
theorem dX11_makeGone_42 : decode cX11_makeGone 42 = .ok (.iload_n 1, 1) := by decide +kernel
theorem dX11_makeGone_43 : decode cX11_makeGone 43 = .ok (.iaload, 1) := by decide +kernel
theorem dX11_makeGone_44 : decode cX11_makeGone 44 = .ok (.invokestatic 137, 3) := by decide +kernel
theorem dX11_makeGone_47 : decode cX11_makeGone 47 = .ok (.invokevirtual 160, 3) := by decide +kernel
theorem dX11_makeGone_50 : decode cX11_makeGone 50 = .ok (.return_, 1) := by decide +kernel
theorem dX11_cell_0 : decode cX11_cell 0 = .ok (.aload_n 0, 1) := by decide +kernel
theorem dX11_cell_1 : decode cX11_cell 1 = .ok (.getfield 98, 3) := by decide +kernel
theorem dX11_cell_4 : decode cX11_cell 4 = .ok (.aload_n 0, 1) := by decide +kernel
theorem dX11_cell_5 : decode cX11_cell 5 = .ok (.getfield 236, 3) := by decide +kernel
theorem dX11_cell_8 : decode cX11_cell 8 = .ok (.iload_n 1, 1) := by decide +kernel
theorem dX11_cell_9 : decode cX11_cell 9 = .ok (.iastore, 1) := by decide +kernel
theorem dX11_cell_10 : decode cX11_cell 10 = .ok (.aload_n 0, 1) := by decide +kernel
theorem dX11_cell_11 : decode cX11_cell 11 = .ok (.dup, 1) := by decide +kernel
theorem dX11_cell_12 : decode cX11_cell 12 = .ok (.getfield 236, 3) := by decide +kernel
theorem dX11_cell_15 : decode cX11_cell 15 = .ok (.iconst 1, 1) := by decide +kernel
theorem dX11_cell_16 : decode cX11_cell 16 = .ok (.iadd, 1) := by decide +kernel
theorem dX11_cell_17 : decode cX11_cell 17 = .ok (.putfield 236, 3) := by decide +kernel
theorem dX11_cell_20 : decode cX11_cell 20 = .ok (.return_, 1) := by decide +kernel
theorem dX11_points_0 : decode cX11_points 0 = .ok (.iload_n 1, 1) := by decide +kernel
theorem dX11_points_1 : decode cX11_points 1 = .ok (.bipush 10, 2) := by decide +kernel
theorem dX11_points_3 : decode cX11_points 3 = .ok (.if_icmp .ge 12, 3) := by decide +kernel
theorem dX11_points_6 : decode cX11_points 6 = .ok (.aload_n 0, 1) := by decide +kernel
theorem dX11_points_7 : decode cX11_points 7 = .ok (.getfield 89, 3) := by decide +kernel
theorem dX11_points_10 : decode cX11_points 10 = .ok (.iload_n 1, 1) := by decide +kernel
theorem dX11_points_11 : decode cX11_points 11 = .ok (.iaload, 1) := by decide +kernel
theorem dX11_points_12 : decode cX11_points 12 = .ok (.goto 66, 3) := by decide +kernel
theorem dX11_points_15 : decode cX11_points 15 = .ok (.iload_n 1, 1) := by decide +kernel
theorem dX11_points_16 : decode cX11_points 16 = .ok (.bipush 20, 2) := by decide +kernel
theorem dX11_points_18 : decode cX11_points 18 = .ok (.if_icmp .ge 17, 3) := by decide +kernel
theorem dX11_points_21 : decode cX11_points 21 = .ok (.aload_n 0, 1) := by decide +kernel
theorem dX11_points_22 : decode cX11_points 22 = .ok (.getfield 89, 3) := by decide +kernel
theorem dX11_points_25 : decode cX11_points 25 = .ok (.iload_n 1, 1) := by decide +kernel
theorem dX11_points_26 : decode cX11_points 26 = .ok (.bipush 10, 2) := by decide +kernel
theorem dX11_points_28 : decode cX11_points 28 = .ok (.isub, 1) := by decide +kernel
theorem dX11_points_29 : decode cX11_points 29 = .ok (.iaload, 1) := by decide +kernel
theorem dX11_points_30 : decode cX11_points 30 = .ok (.iconst 4, 1) := by decide +kernel
theorem dX11_points_31 : decode cX11_points 31 = .ok (.iadd, 1) := by decide +kernel
theorem dX11_points_32 : decode cX11_points 32 = .ok (.goto 46, 3) := by decide +kernel
theorem dX11_points_35 : decode cX11_points 35 = .ok (.iload_n 1, 1) := by decide +kernel
theorem dX11_points_36 : decode cX11_points 36 = .ok (.bipush 22, 2) := by decide +kernel
theorem dX11_points_38 : decode cX11_points 38 = .ok (.if_icmp .ge 18, 3) := by decide +kernel
theorem dX11_points_41 : decode cX11_points 41 = .ok (.aload_n 0, 1) := by decide +kernel
theorem dX11_points_42 : decode cX11_points 42 = .ok (.getfield 89, 3) := by decide +kernel
theorem dX11_points_45 : decode cX11_points 45 = .ok (.iload_n 1, 1) := by decide +kernel
theorem dX11_points_46 : decode cX11_points 46 = .ok (.bipush 20, 2) := by decide +kernel
theorem dX11_points_48 : decode cX11_points 48 = .ok (.isub, 1) := by decide +kernel
theorem dX11_points_49 : decode cX11_points 49 = .ok (.iaload, 1) := by decide +kernel
theorem dX11_points_50 : decode cX11_points 50 = .ok (.bipush 36, 2) := by decide +kernel
theorem dX11_points_52 : decode cX11_points 52 = .ok (.iadd, 1) := by decide +kernel
theorem dX11_points_53 : decode cX11_points 53 = .ok (.goto 25, 3) := by decide +kernel
theorem dX11_points_56 : decode cX11_points 56 = .ok (.aload_n 0, 1) := by decide +kernel
theorem dX11_points_57 : decode cX11_points 57 = .ok (.getfield 89, 3) := by decide +kernel
theorem dX11_points_60 : decode cX11_points 60 = .ok (.iload_n 1, 1) := by decide +kernel
theorem dX11_points_61 : decode cX11_points 61 = .ok (.bipush 22, 2) := by decide +kernel
theorem dX11_points_63 : decode cX11_points 63 = .ok (.if_icmp .le 10, 3) := by decide +kernel
theorem dX11_points_66 : decode cX11_points 66 = .ok (.iload_n 1, 1) := by decide +kernel
theorem dX11_points_67 : decode cX11_points 67 = .ok (.bipush 21, 2) := by decide +kernel
theorem dX11_points_69 : decode cX11_points 69 = .ok (.isub, 1) := by decide +kernel
theorem dX11_points_70 : decode cX11_points 70 = .ok (.goto 4, 3) := by decide +kernel
theorem dX11_points_73 : decode cX11_points 73 = .ok (.iconst 0, 1) := by decide +kernel
theorem dX11_points_74 : decode cX11_points 74 = .ok (.iaload, 1) := by decide +kernel
theorem dX11_points_75 : decode cX11_points 75 = .ok (.bipush 36, 2) := by decide +kernel
theorem dX11_points_77 : decode cX11_points 77 = .ok (.iadd, 1) := by decide +kernel
theorem dX11_points_78 : decode cX11_points 78 = .ok (.istore_n 2, 1) := by decide +kernel
theorem dX11_points_79 : decode cX11_points 79 = .ok (.iload_n 1, 1) := by decide +kernel
theorem dX11_points_80 : decode cX11_points 80 = .ok (.bipush 22, 2) := by decide +kernel
theorem dX11_points_82 : decode cX11_points 82 = .ok (.if_icmp .ne 8, 3) := by decide +kernel
theorem dX11_points_85 : decode cX11_points 85 = .ok (.bipush 58, 2) := by decide +kernel
theorem dX11_points_87 : decode cX11_points 87 = .ok (.goto 4, 3) := by decide +kernel
theorem dX11_points_90 : decode cX11_points 90 = .ok (.iload_n 2, 1) := by decide +kernel
theorem dX11_points_91 : decode cX11_points 91 = .ok (.ireturn, 1) := by decide +kernel
theorem dX11_isDigit_0 : decode cX11_isDigit 0 = .ok (.iload_n 0, 1) := by decide +kernel
theorem dX11_isDigit_1 : decode cX11_isDigit 1 = .ok (.bipush 48, 2) := by decide +kernel
theorem dX11_isDigit_3 : decode cX11_isDigit 3 = .ok (.bipush 57, 2) := by decide +kernel
theorem dX11_isDigit_5 : decode cX11_isDigit 5 = .ok (.invokestatic 114, 3) := by decide +kernel
theorem dX11_isDigit_8 : decode cX11_isDigit 8 = .ok (.ireturn, 1) := by decide +kernel
theorem dX11_isSmall_0 : decode cX11_isSmall 0 = .ok (.iload_n 0, 1) := by decide +kernel
theorem dX11_isSmall_1 : decode cX11_isSmall 1 = .ok (.bipush 97, 2) := by decide +kernel
theorem dX11_isSmall_3 : decode cX11_isSmall 3 = .ok (.bipush 122, 2) := by decide +kernel
theorem dX11_isSmall_5 : decode cX11_isSmall 5 = .ok (.invokestatic 114, 3) := by decide +kernel
theorem dX11_isSmall_8 : decode cX11_isSmall 8 = .ok (.ireturn, 1) := by decide +kernel
theorem dX11_isGreat_0 : decode cX11_isGreat 0 = .ok (.iload_n 0, 1) := by decide +kernel
theorem dX11_isGreat_1 : decode cX11_isGreat 1 = .ok (.bipush 65, 2) := by decide +kernel
theorem dX11_isGreat_3 : decode cX11_isGreat 3 = .ok (.bipush 90, 2) := by decide +kernel
theorem dX11_isGreat_5 : decode cX11_isGreat 5 = .ok (.invokestatic 114, 3) := by decide +kernel
theorem dX11_isGreat_8 : decode cX11_isGreat 8 = .ok (.ireturn, 1) := by decide +kernel
theorem dX11_sign_0 : decode cX11_sign 0 = .ok (.iload_n 0, 1) := by decide +kernel
theorem dX11_sign_1 : decode cX11_sign 1 = .ok (.bipush 32, 2) := by decide +kernel
theorem dX11_sign_3 : decode cX11_sign 3 = .ok (.if_icmp .ne 7, 3) := by decide +kernel
theorem dX11_sign_6 : decode cX11_sign 6 = .ok (.iconst 0, 1) := by decide +kernel
theorem dX11_sign_7 : decode cX11_sign 7 = .ok (.goto 48, 3) := by decide +kernel
theorem dX11_sign_10 : decode cX11_sign 10 = .ok (.iload_n 0, 1) := by decide +kernel
theorem dX11_sign_11 : decode cX11_sign 11 = .ok (.bipush 46, 2) := by decide +kernel
theorem dX11_sign_13 : decode cX11_sign 13 = .ok (.if_icmp .ne 8, 3) := by decide +kernel
theorem dX11_sign_16 : decode cX11_sign 16 = .ok (.bipush 50, 2) := by decide +kernel
theorem dX11_sign_18 : decode cX11_sign 18 = .ok (.goto 37, 3) := by decide +kernel
theorem dX11_sign_21 : decode cX11_sign 21 = .ok (.iload_n 0, 1) := by decide +kernel
theorem dX11_sign_22 : decode cX11_sign 22 = .ok (.bipush 44, 2) := by decide +kernel
theorem dX11_sign_24 : decode cX11_sign 24 = .ok (.if_icmp .ne 7, 3) := by decide +kernel
theorem dX11_sign_27 : decode cX11_sign 27 = .ok (.iconst 2, 1) := by decide +kernel
theorem dX11_sign_28 : decode cX11_sign 28 = .ok (.goto 27, 3) := by decide +kernel
theorem dX11_sign_31 : decode cX11_sign 31 = .ok (.iload_n 0, 1) := by decide +kernel
theorem dX11_sign_32 : decode cX11_sign 32 = .ok (.bipush 63, 2) := by decide +kernel
theorem dX11_sign_34 : decode cX11_sign 34 = .ok (.if_icmp .ne 8, 3) := by decide +kernel
theorem dX11_sign_37 : decode cX11_sign 37 = .ok (.bipush 38, 2) := by decide +kernel
theorem dX11_sign_39 : decode cX11_sign 39 = .ok (.goto 16, 3) := by decide +kernel
theorem dX11_sign_42 : decode cX11_sign 42 = .ok (.iload_n 0, 1) := by decide +kernel
theorem dX11_sign_43 : decode cX11_sign 43 = .ok (.bipush 45, 2) := by decide +kernel
theorem dX11_sign_45 : decode cX11_sign 45 = .ok (.if_icmp .ne 8, 3) := by decide +kernel
theorem dX11_sign_48 : decode cX11_sign 48 = .ok (.bipush 36, 2) := by decide +kernel
theorem dX11_sign_50 : decode cX11_sign 50 = .ok (.goto 5, 3) := by decide +kernel
theorem dX11_sign_53 : decode cX11_sign 53 = .ok (.bipush 63, 2) := by decide +kernel
theorem dX11_sign_55 : decode cX11_sign 55 = .ok (.ireturn, 1) := by decide +kernel
abbrev mX11_tell : gM := (yX11_tell, cX11_tell, 2, (Option.none : Option FieldType), [])
theorem caX11_tell : cal mX11_tell 1 := ⟨xw 1658 (by decide +kernel) rfl, xw 102 (by decide +kernel) rfl, by decide, by decide +kernel⟩
theorem cvX11_tell : calV mX11_tell := ⟨xw 1657 (by decide +kernel) rfl, xw 43 (by decide +kernel) rfl⟩
abbrev mX11_tellWords : gM := (yX11_tellWords, cX11_tellWords, 2, (Option.none : Option FieldType), [])
theorem caX11_tellWords : cal mX11_tellWords 1 := ⟨xw 1598 (by decide +kernel) rfl, xw 102 (by decide +kernel) rfl, by decide, by decide +kernel⟩
theorem cvX11_tellWords : calV mX11_tellWords := ⟨xw 1597 (by decide +kernel) rfl, xw 30 (by decide +kernel) rfl⟩
abbrev mX11_makeGone : gM := (yX11_makeGone, cX11_makeGone, 2, (Option.none : Option FieldType), [])
theorem caX11_makeGone : cal mX11_makeGone 1 := ⟨xw 1729 (by decide +kernel) rfl, xw 102 (by decide +kernel) rfl, by decide, by decide +kernel⟩
theorem cvX11_makeGone : calV mX11_makeGone := ⟨xw 1728 (by decide +kernel) rfl, xw 56 (by decide +kernel) rfl⟩
abbrev mX11_cell : gM := (yX11_cell, cX11_cell, 2, (Option.none : Option FieldType), [])
theorem caX11_cell : cal mX11_cell 1 := ⟨xw 1697 (by decide +kernel) rfl, xw 102 (by decide +kernel) rfl, by decide, by decide +kernel⟩
theorem cvX11_cell : calV mX11_cell := ⟨xw 1696 (by decide +kernel) rfl, xw 52 (by decide +kernel) rfl⟩
abbrev mX11_points : gM := (yX11_points, cX11_points, 3, (Option.some FieldType.int), [])
theorem caX11_points : cal mX11_points 1 := ⟨xw 1693 (by decide +kernel) rfl, xw 102 (by decide +kernel) rfl, by decide, by decide +kernel⟩
theorem cvX11_points : calV mX11_points := ⟨xw 1692 (by decide +kernel) rfl, xw 51 (by decide +kernel) rfl⟩
abbrev mX11_isDigit : gM := (yX11_isDigit, cX11_isDigit, 1, (Option.some FieldType.boolean), [])
theorem caX11_isDigit : cal mX11_isDigit 1 := ⟨xw 1704 (by decide +kernel) rfl, xw 102 (by decide +kernel) rfl, by decide, by decide +kernel⟩
theorem csX11_isDigit : Cond.static yX11_isDigit ∈ XW := xw 1703 (by decide +kernel) rfl
abbrev mX11_isSmall : gM := (yX11_isSmall, cX11_isSmall, 1, (Option.some FieldType.boolean), [])
theorem caX11_isSmall : cal mX11_isSmall 1 := ⟨xw 1714 (by decide +kernel) rfl, xw 102 (by decide +kernel) rfl, by decide, by decide +kernel⟩
theorem csX11_isSmall : Cond.static yX11_isSmall ∈ XW := xw 1713 (by decide +kernel) rfl
abbrev mX11_isGreat : gM := (yX11_isGreat, cX11_isGreat, 1, (Option.some FieldType.boolean), [])
theorem caX11_isGreat : cal mX11_isGreat 1 := ⟨xw 1707 (by decide +kernel) rfl, xw 102 (by decide +kernel) rfl, by decide, by decide +kernel⟩
theorem csX11_isGreat : Cond.static yX11_isGreat ∈ XW := xw 1706 (by decide +kernel) rfl
abbrev mX11_sign : gM := (yX11_sign, cX11_sign, 1, (Option.some FieldType.int), [])
theorem caX11_sign : cal mX11_sign 1 := ⟨xw 1717 (by decide +kernel) rfl, xw 102 (by decide +kernel) rfl, by decide, by decide +kernel⟩
theorem csX11_sign : Cond.static yX11_sign ∈ XW := xw 1716 (by decide +kernel) rfl
theorem lkX11_212 : Cond.methodLink RX11 212 yX11_canNews ∈ XW := xw 1663 (by decide +kernel) rfl
theorem lkX11_218 : Cond.methodLink RX11 218 yX11_swallow ∈ XW := xw 1675 (by decide +kernel) rfl
theorem lkX11_215 : Cond.methodLink RX11 215 yX11_comeNews ∈ XW := xw 1667 (by decide +kernel) rfl
theorem lkX11_209 : Cond.methodLink RX11 209 yX11_comeAlert ∈ XW := xw 1659 (by decide +kernel) rfl
theorem lkX11_224 : Cond.methodLink RX11 224 yX11_shows ∈ XW := xw 1599 (by decide +kernel) rfl
theorem lkX11_227 : Cond.methodLink RX11 227 yX11_partWords ∈ XW := xw 1603 (by decide +kernel) rfl
theorem lkX11_230 : Cond.methodLink RX11 230 yX11_regionOf ∈ XW := xw 1651 (by decide +kernel) rfl
theorem lkX11_233 : Cond.methodLink RX11 233 yX11_tell ∈ XW := xw 1655 (by decide +kernel) rfl
theorem flX11_236 : fl RX11 236 10 53 := ⟨by decide, by decide, xw 1450 (by decide +kernel) rfl⟩
/-! BrailleDeskModel.tell -/
theorem tX11_tell {G : gG} (a0 : Nat) (h : hp) (a1 : Int32) (m : mm) (Q : hQ) (hF : okB (fX11_tell a1 m) (pM gU Q a0 h)) : gS G mX11_tell 3 0 0 [sr (some a0), si a1] (jn a0 h m) Q := by
  delta fX11_tell at hF
  refine gS_at [some (sr (some a0)), some (si a1)] pl_X11 rfl (Nat.le_of_ble_eq_true rfl) rfl ?_
  refine v_iload_n (pc := 0) (i := 1) dX11_tell_0 rfl rfl ?_
  refine v_iconst (pc := 1) (v := (-1 : Int32)) dX11_tell_1 rfl ?_
  refine v_icmp_eq (pc := 2) 21 dX11_tell_2 rfl (fun hc => ?_) (fun hc => ?_)
  · replace hF := (okB_if hF).1 hc
    exact v_ret (pc := 21) dX11_tell_21 rfl (okr hF fun q => q)
  replace hF := (okB_if hF).2 hc
  refine v_aload_n (pc := 5) (i := 0) dX11_tell_5 rfl rfl ?_
  refine m_getI (pc := 6) (j := 29) dX11_tell_6 flX11_143 rfl rfl ?_
  refine v_if_eq (pc := 9) 21 dX11_tell_9 rfl (fun hc => ?_) (fun hc => ?_)
  · replace hF := (okB_if hF).1 hc
    exact v_ret (pc := 21) dX11_tell_21 rfl (okr hF fun q => q)
  replace hF := (okB_if hF).2 hc
  refine v_aload_n (pc := 12) (i := 0) dX11_tell_12 rfl rfl ?_
  refine m_getA (pc := 13) (j := 14) dX11_tell_13 flX11_50 rfl (by decide) ?_
  refine v_iload_n (pc := 16) (i := 1) dX11_tell_16 rfl rfl ?_
  refine m_iald (pc := 17) (j := 14) dX11_tell_17 hF (fun x1 hF => ?_)
  refine v_if_ne (pc := 18) 22 dX11_tell_18 rfl (fun hc => ?_) (fun hc => ?_)
  · replace hF := (okB_if hF).2 hc
    refine v_aload_n (pc := 22) (i := 0) dX11_tell_22 rfl rfl ?_
    refine m_getA (pc := 23) (j := 14) dX11_tell_23 flX11_50 rfl (by decide) ?_
    refine v_iload_n (pc := 26) (i := 1) dX11_tell_26 rfl rfl ?_
    refine m_iald (pc := 27) (j := 14) dX11_tell_27 hF (fun x2 hF => ?_)
    refine v_iconst (pc := 28) (v := (2 : Int32)) dX11_tell_28 rfl ?_
    refine v_icmp_ne (pc := 29) 39 dX11_tell_29 rfl (fun hc => ?_) (fun hc => ?_)
    · replace hF := (okB_if hF).2 hc
      refine v_aload_n (pc := 39) (i := 0) dX11_tell_39 rfl rfl ?_
      refine v_iload_n (pc := 40) (i := 1) dX11_tell_40 rfl rfl ?_
      refine cpM_V (pc := 41) gI (as := [si a1]) (st := []) (N := mX11_canNews) (k := 0) (n := 0) (k1 := 0) (n1 := 0) dX11_tell_41 lkX11_212 caX11_canNews cvX11_canNews rfl rfl (fun Q1 hq => tX11_canNews a0 h a1 m Q1 hq) ⟨by decide, by decide⟩ (Nat.le_of_ble_eq_true rfl) rfl hF (fun x3 hF => ?_)
      show gV G mX11_tell 3 Q 44 [some (sr (some a0)), some (si a1)] [si x3] (0) (0) (jn a0 h m)
      refine v_if_eq (pc := 44) 64 dX11_tell_44 rfl (fun hc => ?_) (fun hc => ?_)
      · replace hF := (okB_if hF).1 hc
        refine v_aload_n (pc := 64) (i := 0) dX11_tell_64 rfl rfl ?_
        refine v_iload_n (pc := 65) (i := 1) dX11_tell_65 rfl rfl ?_
        refine chM_V (pc := 66) gU (as := [si a1]) (st := []) (N := mX11_swallow) (k := 0) (n := 0) (k1 := 0) (n1 := 0) dX11_tell_66 lkX11_218 caX11_swallow cvX11_swallow rfl rfl (fun Q1 hq => tX11_swallow a0 h a1 m Q1 hq) ⟨by decide, by decide⟩ (Nat.le_of_ble_eq_true rfl) rfl hF (fun x4 m5 hF => ?_)
        show gV G mX11_tell 3 Q 69 [some (sr (some a0)), some (si a1)] [] (0) (0) (jn a0 h m5)
        refine v_aload_n (pc := 69) (i := 0) dX11_tell_69 rfl rfl ?_
        refine m_getA (pc := 70) (j := 16) dX11_tell_70 flX11_56 rfl (by decide) ?_
        refine v_iload_n (pc := 73) (i := 1) dX11_tell_73 rfl rfl ?_
        refine v_aload_n (pc := 74) (i := 0) dX11_tell_74 rfl rfl ?_
        refine m_getI (pc := 75) (j := 29) dX11_tell_75 flX11_143 rfl rfl ?_
        refine m_iast (pc := 78) (j := 16) dX11_tell_78 hF (fun m6 hF => ?_)
        refine v_aload_n (pc := 79) (i := 0) dX11_tell_79 rfl rfl ?_
        refine m_getA (pc := 80) (j := 28) dX11_tell_80 flX11_65 rfl (by decide) ?_
        refine v_iconst (pc := 83) (v := (0 : Int32)) dX11_tell_83 rfl ?_
        refine v_aload_n (pc := 84) (i := 0) dX11_tell_84 rfl rfl ?_
        refine m_getA (pc := 85) (j := 17) dX11_tell_85 flX11_59 rfl (by decide) ?_
        refine v_bipush (pc := 88) (v := (100 : Int32)) dX11_tell_88 rfl ?_
        refine v_iload_n (pc := 90) (i := 1) dX11_tell_90 rfl rfl ?_
        refine v_imul (pc := 91) dX11_tell_91 ?_
        refine v_aload_n (pc := 92) (i := 0) dX11_tell_92 rfl rfl ?_
        refine m_getI (pc := 93) (j := 29) dX11_tell_93 flX11_143 rfl rfl ?_
        refine chM_S (a0 := a0) (h := h) (pc := 96) gU (as := [sr (some (a0 + mo 28)), si (0 : Int32), sr (some (a0 + mo 17)), si ((100 : Int32) * a1), si (m6 29 0)]) (st := []) (N := mX11_copy) (k := 0) (n := 0) (k1 := 0) (n1 := 0) dX11_tell_96 lkX11_181 caX11_copy csX11_copy rfl (fun Q1 hq => tX11_copy a0 h 28 (0 : Int32) 17 ((100 : Int32) * a1) (m6 29 0) m6 Q1 hq) ⟨by decide, by decide⟩ (Nat.le_of_ble_eq_true rfl) rfl hF (fun x7 m8 hF => ?_)
        show gV G mX11_tell 3 Q 99 [some (sr (some a0)), some (si a1)] [] (0) (0) (jn a0 h m8)
        exact v_ret (pc := 99) dX11_tell_99 rfl (okr hF fun q => q)
      replace hF := (okB_if hF).2 hc
      refine v_aload_n (pc := 47) (i := 0) dX11_tell_47 rfl rfl ?_
      refine m_getA (pc := 48) (j := 15) dX11_tell_48 flX11_53 rfl (by decide) ?_
      refine v_iload_n (pc := 51) (i := 1) dX11_tell_51 rfl rfl ?_
      refine v_aload_n (pc := 52) (i := 0) dX11_tell_52 rfl rfl ?_
      refine m_getI (pc := 53) (j := 46) dX11_tell_53 flX11_206 rfl rfl ?_
      refine m_iast (pc := 56) (j := 15) dX11_tell_56 hF (fun m9 hF => ?_)
      refine v_aload_n (pc := 57) (i := 0) dX11_tell_57 rfl rfl ?_
      refine chM_V (pc := 58) gU (as := []) (st := []) (N := mX11_comeNews) (k := 0) (n := 0) (k1 := 0) (n1 := 0) dX11_tell_58 lkX11_215 caX11_comeNews cvX11_comeNews rfl rfl (fun Q1 hq => tX11_comeNews a0 h m9 Q1 hq) ⟨by decide, by decide⟩ (Nat.le_of_ble_eq_true rfl) rfl hF (fun x10 m11 hF => ?_)
      show gV G mX11_tell 3 Q 61 [some (sr (some a0)), some (si a1)] [] (0) (0) (jn a0 h m11)
      refine v_goto (pc := 61) 99 dX11_tell_61 rfl ?_
      exact v_ret (pc := 99) dX11_tell_99 rfl (okr hF fun q => q)
    replace hF := (okB_if hF).1 hc
    refine v_aload_n (pc := 32) (i := 0) dX11_tell_32 rfl rfl ?_
    refine chM_V (pc := 33) gU (as := []) (st := []) (N := mX11_comeAlert) (k := 0) (n := 0) (k1 := 0) (n1 := 0) dX11_tell_33 lkX11_209 caX11_comeAlert cvX11_comeAlert rfl rfl (fun Q1 hq => tX11_comeAlert a0 h m Q1 hq) ⟨by decide, by decide⟩ (Nat.le_of_ble_eq_true rfl) rfl hF (fun x12 m13 hF => ?_)
    show gV G mX11_tell 3 Q 36 [some (sr (some a0)), some (si a1)] [] (0) (0) (jn a0 h m13)
    refine v_goto (pc := 36) 99 dX11_tell_36 rfl ?_
    exact v_ret (pc := 99) dX11_tell_99 rfl (okr hF fun q => q)
  replace hF := (okB_if hF).1 hc
  exact v_ret (pc := 21) dX11_tell_21 rfl (okr hF fun q => q)
/-! BrailleDeskModel.tellWords -/
theorem tX11_tellWords {G : gG} (a0 : Nat) (h : hp) (a1 : Int32) (m : mm) (Q : hQ) (hF : okB (fX11_tellWords a1 m) (pM gU Q a0 h)) : gS G mX11_tellWords 5 0 0 [sr (some a0), si a1] (jn a0 h m) Q := by
  delta fX11_tellWords at hF
  refine gS_at [some (sr (some a0)), some (si a1)] pl_X11 rfl (Nat.le_of_ble_eq_true rfl) rfl ?_
  refine v_aload_n (pc := 0) (i := 0) dX11_tellWords_0 rfl rfl ?_
  refine v_iload_n (pc := 1) (i := 1) dX11_tellWords_1 rfl rfl ?_
  refine cpM_V (pc := 2) gI (as := [si a1]) (st := []) (N := mX11_shows) (k := 0) (n := 0) (k1 := 0) (n1 := 0) dX11_tellWords_2 lkX11_224 caX11_shows cvX11_shows rfl rfl (fun Q1 hq => tX11_shows a0 h a1 m Q1 hq) ⟨by decide, by decide⟩ (Nat.le_of_ble_eq_true rfl) rfl hF (fun x1 hF => ?_)
  show gV G mX11_tellWords 5 Q 5 [some (sr (some a0)), some (si a1)] [si x1] (0) (0) (jn a0 h m)
  refine v_if_eq (pc := 5) 27 dX11_tellWords_5 rfl (fun hc => ?_) (fun hc => ?_)
  · replace hF := (okB_if hF).1 hc
    exact v_ret (pc := 27) dX11_tellWords_27 rfl (okr hF fun q => q)
  replace hF := (okB_if hF).2 hc
  refine v_aload_n (pc := 8) (i := 0) dX11_tellWords_8 rfl rfl ?_
  refine v_iconst (pc := 9) (v := (0 : Int32)) dX11_tellWords_9 rfl ?_
  refine m_putI (pc := 10) (j := 29) dX11_tellWords_10 flX11_143 rfl rfl rfl hF (fun m2 hF => ?_)
  refine v_aload_n (pc := 13) (i := 0) dX11_tellWords_13 rfl rfl ?_
  refine v_iload_n (pc := 14) (i := 1) dX11_tellWords_14 rfl rfl ?_
  refine chM_V (pc := 15) gU (as := [si a1]) (st := []) (N := mX11_partWords) (k := 0) (n := 0) (k1 := 0) (n1 := 0) dX11_tellWords_15 lkX11_227 caX11_partWords cvX11_partWords rfl rfl (fun Q1 hq => tX11_partWords a0 h a1 m2 Q1 hq) ⟨by decide, by decide⟩ (Nat.le_of_ble_eq_true rfl) rfl hF (fun x3 m4 hF => ?_)
  show gV G mX11_tellWords 5 Q 18 [some (sr (some a0)), some (si a1)] [] (0) (0) (jn a0 h m4)
  refine v_aload_n (pc := 18) (i := 0) dX11_tellWords_18 rfl rfl ?_
  refine v_aload_n (pc := 19) (i := 0) dX11_tellWords_19 rfl rfl ?_
  refine v_iload_n (pc := 20) (i := 1) dX11_tellWords_20 rfl rfl ?_
  refine cpM_V (pc := 21) gI (as := [si a1]) (st := [sr (some a0)]) (N := mX11_regionOf) (k := 0) (n := 0) (k1 := 0) (n1 := 0) dX11_tellWords_21 lkX11_230 caX11_regionOf cvX11_regionOf rfl rfl (fun Q1 hq => tX11_regionOf a0 h a1 m4 Q1 hq) ⟨by decide, by decide⟩ (Nat.le_of_ble_eq_true rfl) rfl hF (fun x5 hF => ?_)
  show gV G mX11_tellWords 5 Q 24 [some (sr (some a0)), some (si a1)] [si x5, sr (some a0)] (0) (0) (jn a0 h m4)
  refine chM_V (pc := 24) gU (as := [si x5]) (st := []) (N := mX11_tell) (k := 0) (n := 0) (k1 := 0) (n1 := 0) dX11_tellWords_24 lkX11_233 caX11_tell cvX11_tell rfl rfl (fun Q1 hq => tX11_tell a0 h x5 m4 Q1 hq) ⟨by decide, by decide⟩ (Nat.le_of_ble_eq_true rfl) rfl hF (fun x6 m7 hF => ?_)
  show gV G mX11_tellWords 5 Q 27 [some (sr (some a0)), some (si a1)] [] (0) (0) (jn a0 h m7)
  exact v_ret (pc := 27) dX11_tellWords_27 rfl (okr hF fun q => q)
/-! BrailleDeskModel.makeGone -/
theorem tX11_makeGone {G : gG} (a0 : Nat) (h : hp) (a1 : Int32) (m : mm) (Q : hQ) (hF : okB (fX11_makeGone a1 m) (pM gU Q a0 h)) : gS G mX11_makeGone 4 0 0 [sr (some a0), si a1] (jn a0 h m) Q := by
  delta fX11_makeGone at hF
  refine gS_at [some (sr (some a0)), some (si a1)] pl_X11 rfl (Nat.le_of_ble_eq_true rfl) rfl ?_
  refine v_aload_n (pc := 0) (i := 0) dX11_makeGone_0 rfl rfl ?_
  refine v_iconst (pc := 1) (v := (0 : Int32)) dX11_makeGone_1 rfl ?_
  refine m_putI (pc := 2) (j := 29) dX11_makeGone_2 flX11_143 rfl rfl rfl hF (fun m1 hF => ?_)
  refine v_aload_n (pc := 5) (i := 0) dX11_makeGone_5 rfl rfl ?_
  refine v_iconst (pc := 6) (v := (0 : Int32)) dX11_makeGone_6 rfl ?_
  refine v_iconst (pc := 7) (v := (0 : Int32)) dX11_makeGone_7 rfl ?_
  refine v_iconst (pc := 8) (v := (0 : Int32)) dX11_makeGone_8 rfl ?_
  refine v_bipush (pc := 9) (v := (103 : Int32)) dX11_makeGone_9 rfl ?_
  refine v_bipush (pc := 11) (v := (111 : Int32)) dX11_makeGone_11 rfl ?_
  refine v_bipush (pc := 13) (v := (110 : Int32)) dX11_makeGone_13 rfl ?_
  refine v_bipush (pc := 15) (v := (101 : Int32)) dX11_makeGone_15 rfl ?_
  refine cp_S (pc := 17) gL (as := [si (0 : Int32), si (0 : Int32), si (0 : Int32), si (103 : Int32), si (111 : Int32), si (110 : Int32), si (101 : Int32)]) (st := [sr (some a0)]) (N := mX11_word) (k := 0) (n := 0) (k1 := 0) (n1 := 0) dX11_makeGone_17 lkX11_133 caX11_word csX11_word rfl (fun Q1 hq => tX11_word (0 : Int32) (0 : Int32) (0 : Int32) (103 : Int32) (111 : Int32) (110 : Int32) (101 : Int32) (jn a0 h m1) Q1 hq) ⟨by decide, by decide⟩ (Nat.le_of_ble_eq_true rfl) rfl hF (fun x2 hF => ?_)
  show gV G mX11_makeGone 4 Q 20 [some (sr (some a0)), some (si a1)] [sl x2, sr (some a0)] (0) (0) (jn a0 h m1)
  refine chM_V (pc := 20) gU (as := [sl x2]) (st := []) (N := mX11_partWord) (k := 0) (n := 0) (k1 := 0) (n1 := 0) dX11_makeGone_20 lkX11_160 caX11_partWord cvX11_partWord rfl rfl (fun Q1 hq => tX11_partWord a0 h x2 m1 Q1 hq) ⟨by decide, by decide⟩ (Nat.le_of_ble_eq_true rfl) rfl hF (fun x3 m4 hF => ?_)
  show gV G mX11_makeGone 4 Q 23 [some (sr (some a0)), some (si a1)] [] (0) (0) (jn a0 h m4)
  refine v_aload_n (pc := 23) (i := 0) dX11_makeGone_23 rfl rfl ?_
  refine v_iload_n (pc := 24) (i := 1) dX11_makeGone_24 rfl rfl ?_
  refine chM_V (pc := 25) gU (as := [si a1]) (st := []) (N := mX11_partName) (k := 0) (n := 0) (k1 := 0) (n1 := 0) dX11_makeGone_25 lkX11_168 caX11_partName cvX11_partName rfl rfl (fun Q1 hq => tX11_partName a0 h a1 m4 Q1 hq) ⟨by decide, by decide⟩ (Nat.le_of_ble_eq_true rfl) rfl hF (fun x5 m6 hF => ?_)
  show gV G mX11_makeGone 4 Q 28 [some (sr (some a0)), some (si a1)] [] (0) (0) (jn a0 h m6)
  refine v_aload_n (pc := 28) (i := 0) dX11_makeGone_28 rfl rfl ?_
  refine m_getA (pc := 29) (j := 7) dX11_makeGone_29 flX11_29 rfl (by decide) ?_
  refine v_iload_n (pc := 32) (i := 1) dX11_makeGone_32 rfl rfl ?_
  refine m_iald (pc := 33) (j := 7) dX11_makeGone_33 hF (fun x7 hF => ?_)
  refine v_if_ne (pc := 34) 50 dX11_makeGone_34 rfl (fun hc => ?_) (fun hc => ?_)
  · replace hF := (okB_if hF).2 hc
    exact v_ret (pc := 50) dX11_makeGone_50 rfl (okr hF fun q => q)
  replace hF := (okB_if hF).1 hc
  refine v_aload_n (pc := 37) (i := 0) dX11_makeGone_37 rfl rfl ?_
  refine v_aload_n (pc := 38) (i := 0) dX11_makeGone_38 rfl rfl ?_
  refine m_getA (pc := 39) (j := 2) dX11_makeGone_39 flX11_13 rfl (by decide) ?_
  refine v_iload_n (pc := 42) (i := 1) dX11_makeGone_42 rfl rfl ?_
  refine m_iald (pc := 43) (j := 2) dX11_makeGone_43 hF (fun x8 hF => ?_)
  refine cp_S (pc := 44) gL (as := [si x8]) (st := [sr (some a0)]) (N := mX11_kindWord) (k := 0) (n := 0) (k1 := 0) (n1 := 0) dX11_makeGone_44 lkX11_137 caX11_kindWord csX11_kindWord rfl (fun Q1 hq => tX11_kindWord x8 (jn a0 h m6) Q1 hq) ⟨by decide, by decide⟩ (Nat.le_of_ble_eq_true rfl) rfl hF (fun x9 hF => ?_)
  show gV G mX11_makeGone 4 Q 47 [some (sr (some a0)), some (si a1)] [sl x9, sr (some a0)] (0) (0) (jn a0 h m6)
  refine chM_V (pc := 47) gU (as := [sl x9]) (st := []) (N := mX11_partWord) (k := 0) (n := 0) (k1 := 0) (n1 := 0) dX11_makeGone_47 lkX11_160 caX11_partWord cvX11_partWord rfl rfl (fun Q1 hq => tX11_partWord a0 h x9 m6 Q1 hq) ⟨by decide, by decide⟩ (Nat.le_of_ble_eq_true rfl) rfl hF (fun x10 m11 hF => ?_)
  show gV G mX11_makeGone 4 Q 50 [some (sr (some a0)), some (si a1)] [] (0) (0) (jn a0 h m11)
  exact v_ret (pc := 50) dX11_makeGone_50 rfl (okr hF fun q => q)
/-! BrailleDeskModel.cell -/
theorem tX11_cell {G : gG} (a0 : Nat) (h : hp) (a1 : Int32) (m : mm) (Q : hQ) (hF : okB (fX11_cell a1 m) (pM gU Q a0 h)) : gS G mX11_cell 0 0 0 [sr (some a0), si a1] (jn a0 h m) Q := by
  delta fX11_cell at hF
  refine gS_at [some (sr (some a0)), some (si a1)] pl_X11 rfl (Nat.le_of_ble_eq_true rfl) rfl ?_
  refine v_aload_n (pc := 0) (i := 0) dX11_cell_0 rfl rfl ?_
  refine m_getA (pc := 1) (j := 52) dX11_cell_1 flX11_98 rfl (by decide) ?_
  refine v_aload_n (pc := 4) (i := 0) dX11_cell_4 rfl rfl ?_
  refine m_getI (pc := 5) (j := 53) dX11_cell_5 flX11_236 rfl rfl ?_
  refine v_iload_n (pc := 8) (i := 1) dX11_cell_8 rfl rfl ?_
  refine m_iast (pc := 9) (j := 52) dX11_cell_9 hF (fun m1 hF => ?_)
  refine v_aload_n (pc := 10) (i := 0) dX11_cell_10 rfl rfl ?_
  refine v_dup (pc := 11) dX11_cell_11 rfl ?_
  refine m_getI (pc := 12) (j := 53) dX11_cell_12 flX11_236 rfl rfl ?_
  refine v_iconst (pc := 15) (v := (1 : Int32)) dX11_cell_15 rfl ?_
  refine v_iadd (pc := 16) dX11_cell_16 ?_
  refine m_putI (pc := 17) (j := 53) dX11_cell_17 flX11_236 rfl rfl rfl hF (fun m2 hF => ?_)
  exact v_ret (pc := 20) dX11_cell_20 rfl (okr hF fun q => q)
/-! BrailleDeskModel.points -/
theorem tX11_points {G : gG} (a0 : Nat) (h : hp) (a1 : Int32) (m : mm) (Q : hQ) (hF : okB (fX11_points a1 m) (pP gI Q (jn a0 h m))) : gS G mX11_points 0 0 0 [sr (some a0), si a1] (jn a0 h m) Q := by
  delta fX11_points at hF
  refine gS_at [some (sr (some a0)), some (si a1), none] pl_X11 rfl (Nat.le_of_ble_eq_true rfl) rfl ?_
  refine v_iload_n (pc := 0) (i := 1) dX11_points_0 rfl rfl ?_
  refine v_bipush (pc := 1) (v := (10 : Int32)) dX11_points_1 rfl ?_
  refine mg (X := fun q1 => gV G mX11_points 0 Q 78 [none, some (si a1), none] [si q1] (0) (0) (jn a0 h m)) hF (fun _ hj2 hF => ?_) (fun q1 hF => ?_)
  · refine v_icmp_ge (pc := 3) 15 dX11_points_3 rfl (fun hc => ?_) (fun hc => ?_)
    · replace hF := (okB_if hF).1 hc
      refine v_iload_n (pc := 15) (i := 1) dX11_points_15 rfl rfl ?_
      refine v_bipush (pc := 16) (v := (20 : Int32)) dX11_points_16 rfl ?_
      refine v_icmp_ge (pc := 18) 35 dX11_points_18 rfl (fun hc => ?_) (fun hc => ?_)
      · replace hF := (okB_if hF).1 hc
        refine v_iload_n (pc := 35) (i := 1) dX11_points_35 rfl rfl ?_
        refine v_bipush (pc := 36) (v := (22 : Int32)) dX11_points_36 rfl ?_
        refine v_icmp_ge (pc := 38) 56 dX11_points_38 rfl (fun hc => ?_) (fun hc => ?_)
        · replace hF := (okB_if hF).1 hc
          refine v_aload_n (pc := 56) (i := 0) dX11_points_56 rfl rfl ?_
          refine m_getA (pc := 57) (j := 47) dX11_points_57 flX11_89 rfl (by decide) ?_
          refine v_iload_n (pc := 60) (i := 1) dX11_points_60 rfl rfl ?_
          refine v_bipush (pc := 61) (v := (22 : Int32)) dX11_points_61 rfl ?_
          refine v_icmp_le (pc := 63) 73 dX11_points_63 rfl (fun hc => ?_) (fun hc => ?_)
          · replace hF := (okB_if hF).1 hc
            refine v_iconst (pc := 73) (v := (0 : Int32)) dX11_points_73 rfl ?_
            refine m_iald (pc := 74) (j := 47) dX11_points_74 hF (fun x3 hF => ?_)
            refine v_bipush (pc := 75) (v := (36 : Int32)) dX11_points_75 rfl ?_
            refine v_iadd (pc := 77) dX11_points_77 ?_
            exact v_lle [none, some (si a1), none] ⟨rfl, trivial⟩ (hj2 (x3 + (36 : Int32)) (okB_some hF))
          replace hF := (okB_if hF).2 hc
          refine v_iload_n (pc := 66) (i := 1) dX11_points_66 rfl rfl ?_
          refine v_bipush (pc := 67) (v := (21 : Int32)) dX11_points_67 rfl ?_
          refine v_isub (pc := 69) dX11_points_69 ?_
          refine v_goto (pc := 70) 74 dX11_points_70 rfl ?_
          refine m_iald (pc := 74) (j := 47) dX11_points_74 hF (fun x4 hF => ?_)
          refine v_bipush (pc := 75) (v := (36 : Int32)) dX11_points_75 rfl ?_
          refine v_iadd (pc := 77) dX11_points_77 ?_
          exact v_lle [none, some (si a1), none] ⟨rfl, trivial⟩ (hj2 (x4 + (36 : Int32)) (okB_some hF))
        replace hF := (okB_if hF).2 hc
        refine v_aload_n (pc := 41) (i := 0) dX11_points_41 rfl rfl ?_
        refine m_getA (pc := 42) (j := 47) dX11_points_42 flX11_89 rfl (by decide) ?_
        refine v_iload_n (pc := 45) (i := 1) dX11_points_45 rfl rfl ?_
        refine v_bipush (pc := 46) (v := (20 : Int32)) dX11_points_46 rfl ?_
        refine v_isub (pc := 48) dX11_points_48 ?_
        refine m_iald (pc := 49) (j := 47) dX11_points_49 hF (fun x5 hF => ?_)
        refine v_bipush (pc := 50) (v := (36 : Int32)) dX11_points_50 rfl ?_
        refine v_iadd (pc := 52) dX11_points_52 ?_
        refine v_goto (pc := 53) 78 dX11_points_53 rfl ?_
        exact v_lle [none, some (si a1), none] ⟨rfl, trivial⟩ (hj2 (x5 + (36 : Int32)) (okB_some hF))
      replace hF := (okB_if hF).2 hc
      refine v_aload_n (pc := 21) (i := 0) dX11_points_21 rfl rfl ?_
      refine m_getA (pc := 22) (j := 47) dX11_points_22 flX11_89 rfl (by decide) ?_
      refine v_iload_n (pc := 25) (i := 1) dX11_points_25 rfl rfl ?_
      refine v_bipush (pc := 26) (v := (10 : Int32)) dX11_points_26 rfl ?_
      refine v_isub (pc := 28) dX11_points_28 ?_
      refine m_iald (pc := 29) (j := 47) dX11_points_29 hF (fun x6 hF => ?_)
      refine v_iconst (pc := 30) (v := (4 : Int32)) dX11_points_30 rfl ?_
      refine v_iadd (pc := 31) dX11_points_31 ?_
      refine v_goto (pc := 32) 78 dX11_points_32 rfl ?_
      exact v_lle [none, some (si a1), none] ⟨rfl, trivial⟩ (hj2 (x6 + (4 : Int32)) (okB_some hF))
    replace hF := (okB_if hF).2 hc
    refine v_aload_n (pc := 6) (i := 0) dX11_points_6 rfl rfl ?_
    refine m_getA (pc := 7) (j := 47) dX11_points_7 flX11_89 rfl (by decide) ?_
    refine v_iload_n (pc := 10) (i := 1) dX11_points_10 rfl rfl ?_
    refine m_iald (pc := 11) (j := 47) dX11_points_11 hF (fun x7 hF => ?_)
    refine v_goto (pc := 12) 78 dX11_points_12 rfl ?_
    exact v_lle [none, some (si a1), none] ⟨rfl, trivial⟩ (hj2 x7 (okB_some hF))
  refine v_istore_n (pc := 78) (i := 2) [none, some (si a1), some (si q1)] dX11_points_78 rfl (by decide) rfl rfl ?_
  refine v_iload_n (pc := 79) (i := 1) dX11_points_79 rfl rfl ?_
  refine v_bipush (pc := 80) (v := (22 : Int32)) dX11_points_80 rfl ?_
  refine v_icmp_ne (pc := 82) 90 dX11_points_82 rfl (fun hc => ?_) (fun hc => ?_)
  · replace hF := (okB_if hF).2 hc
    refine v_iload_n (pc := 90) (i := 2) dX11_points_90 rfl rfl ?_
    exact v_iret (pc := 91) dX11_points_91 rfl rfl (okr hF fun q => q)
  replace hF := (okB_if hF).1 hc
  refine v_bipush (pc := 85) (v := (58 : Int32)) dX11_points_85 rfl ?_
  refine v_goto (pc := 87) 91 dX11_points_87 rfl ?_
  exact v_iret (pc := 91) dX11_points_91 rfl rfl (okr hF fun q => q)
/-! BrailleDeskModel.isDigit -/
theorem tX11_isDigit {G : gG} (a0 : Int32) (h : hp) (Q : hQ) (hF : okB (fX11_isDigit a0) (pP gI Q h)) : gS G mX11_isDigit 1 0 0 [si a0] h Q := by
  delta fX11_isDigit at hF
  refine gS_at [some (si a0)] pl_X11 rfl (Nat.le_of_ble_eq_true rfl) rfl ?_
  refine v_iload_n (pc := 0) (i := 0) dX11_isDigit_0 rfl rfl ?_
  refine v_bipush (pc := 1) (v := (48 : Int32)) dX11_isDigit_1 rfl ?_
  refine v_bipush (pc := 3) (v := (57 : Int32)) dX11_isDigit_3 rfl ?_
  refine cp_S (pc := 5) gI (as := [si a0, si (48 : Int32), si (57 : Int32)]) (st := []) (N := mX11_in) (k := 0) (n := 0) (k1 := 0) (n1 := 0) dX11_isDigit_5 lkX11_114 caX11_in csX11_in rfl (fun Q1 hq => tX11_in a0 (48 : Int32) (57 : Int32) h Q1 hq) ⟨by decide, by decide⟩ (Nat.le_of_ble_eq_true rfl) rfl hF (fun x1 hF => ?_)
  show gV G mX11_isDigit 1 Q 8 [some (si a0)] [si x1] (0) (0) h
  exact s_zret (pc := 8) dX11_isDigit_8 rfl hF (fun hF => (okr hF fun q => q))
/-! BrailleDeskModel.isSmall -/
theorem tX11_isSmall {G : gG} (a0 : Int32) (h : hp) (Q : hQ) (hF : okB (fX11_isSmall a0) (pP gI Q h)) : gS G mX11_isSmall 1 0 0 [si a0] h Q := by
  delta fX11_isSmall at hF
  refine gS_at [some (si a0)] pl_X11 rfl (Nat.le_of_ble_eq_true rfl) rfl ?_
  refine v_iload_n (pc := 0) (i := 0) dX11_isSmall_0 rfl rfl ?_
  refine v_bipush (pc := 1) (v := (97 : Int32)) dX11_isSmall_1 rfl ?_
  refine v_bipush (pc := 3) (v := (122 : Int32)) dX11_isSmall_3 rfl ?_
  refine cp_S (pc := 5) gI (as := [si a0, si (97 : Int32), si (122 : Int32)]) (st := []) (N := mX11_in) (k := 0) (n := 0) (k1 := 0) (n1 := 0) dX11_isSmall_5 lkX11_114 caX11_in csX11_in rfl (fun Q1 hq => tX11_in a0 (97 : Int32) (122 : Int32) h Q1 hq) ⟨by decide, by decide⟩ (Nat.le_of_ble_eq_true rfl) rfl hF (fun x1 hF => ?_)
  show gV G mX11_isSmall 1 Q 8 [some (si a0)] [si x1] (0) (0) h
  exact s_zret (pc := 8) dX11_isSmall_8 rfl hF (fun hF => (okr hF fun q => q))
/-! BrailleDeskModel.isGreat -/
theorem tX11_isGreat {G : gG} (a0 : Int32) (h : hp) (Q : hQ) (hF : okB (fX11_isGreat a0) (pP gI Q h)) : gS G mX11_isGreat 1 0 0 [si a0] h Q := by
  delta fX11_isGreat at hF
  refine gS_at [some (si a0)] pl_X11 rfl (Nat.le_of_ble_eq_true rfl) rfl ?_
  refine v_iload_n (pc := 0) (i := 0) dX11_isGreat_0 rfl rfl ?_
  refine v_bipush (pc := 1) (v := (65 : Int32)) dX11_isGreat_1 rfl ?_
  refine v_bipush (pc := 3) (v := (90 : Int32)) dX11_isGreat_3 rfl ?_
  refine cp_S (pc := 5) gI (as := [si a0, si (65 : Int32), si (90 : Int32)]) (st := []) (N := mX11_in) (k := 0) (n := 0) (k1 := 0) (n1 := 0) dX11_isGreat_5 lkX11_114 caX11_in csX11_in rfl (fun Q1 hq => tX11_in a0 (65 : Int32) (90 : Int32) h Q1 hq) ⟨by decide, by decide⟩ (Nat.le_of_ble_eq_true rfl) rfl hF (fun x1 hF => ?_)
  show gV G mX11_isGreat 1 Q 8 [some (si a0)] [si x1] (0) (0) h
  exact s_zret (pc := 8) dX11_isGreat_8 rfl hF (fun hF => (okr hF fun q => q))
/-! BrailleDeskModel.sign -/
theorem tX11_sign {G : gG} (a0 : Int32) (h : hp) (Q : hQ) (hF : okB (fX11_sign a0) (pP gI Q h)) : gS G mX11_sign 0 0 0 [si a0] h Q := by
  delta fX11_sign at hF
  refine gS_at [some (si a0)] pl_X11 rfl (Nat.le_of_ble_eq_true rfl) rfl ?_
  refine v_iload_n (pc := 0) (i := 0) dX11_sign_0 rfl rfl ?_
  refine v_bipush (pc := 1) (v := (32 : Int32)) dX11_sign_1 rfl ?_
  refine v_icmp_ne (pc := 3) 10 dX11_sign_3 rfl (fun hc => ?_) (fun hc => ?_)
  · replace hF := (okB_if hF).2 hc
    refine v_iload_n (pc := 10) (i := 0) dX11_sign_10 rfl rfl ?_
    refine v_bipush (pc := 11) (v := (46 : Int32)) dX11_sign_11 rfl ?_
    refine v_icmp_ne (pc := 13) 21 dX11_sign_13 rfl (fun hc => ?_) (fun hc => ?_)
    · replace hF := (okB_if hF).2 hc
      refine v_iload_n (pc := 21) (i := 0) dX11_sign_21 rfl rfl ?_
      refine v_bipush (pc := 22) (v := (44 : Int32)) dX11_sign_22 rfl ?_
      refine v_icmp_ne (pc := 24) 31 dX11_sign_24 rfl (fun hc => ?_) (fun hc => ?_)
      · replace hF := (okB_if hF).2 hc
        refine v_iload_n (pc := 31) (i := 0) dX11_sign_31 rfl rfl ?_
        refine v_bipush (pc := 32) (v := (63 : Int32)) dX11_sign_32 rfl ?_
        refine v_icmp_ne (pc := 34) 42 dX11_sign_34 rfl (fun hc => ?_) (fun hc => ?_)
        · replace hF := (okB_if hF).2 hc
          refine v_iload_n (pc := 42) (i := 0) dX11_sign_42 rfl rfl ?_
          refine v_bipush (pc := 43) (v := (45 : Int32)) dX11_sign_43 rfl ?_
          refine v_icmp_ne (pc := 45) 53 dX11_sign_45 rfl (fun hc => ?_) (fun hc => ?_)
          · replace hF := (okB_if hF).2 hc
            refine v_bipush (pc := 53) (v := (63 : Int32)) dX11_sign_53 rfl ?_
            exact v_iret (pc := 55) dX11_sign_55 rfl rfl (okr hF fun q => q)
          replace hF := (okB_if hF).1 hc
          refine v_bipush (pc := 48) (v := (36 : Int32)) dX11_sign_48 rfl ?_
          refine v_goto (pc := 50) 55 dX11_sign_50 rfl ?_
          exact v_iret (pc := 55) dX11_sign_55 rfl rfl (okr hF fun q => q)
        replace hF := (okB_if hF).1 hc
        refine v_bipush (pc := 37) (v := (38 : Int32)) dX11_sign_37 rfl ?_
        refine v_goto (pc := 39) 55 dX11_sign_39 rfl ?_
        exact v_iret (pc := 55) dX11_sign_55 rfl rfl (okr hF fun q => q)
      replace hF := (okB_if hF).1 hc
      refine v_iconst (pc := 27) (v := (2 : Int32)) dX11_sign_27 rfl ?_
      refine v_goto (pc := 28) 55 dX11_sign_28 rfl ?_
      exact v_iret (pc := 55) dX11_sign_55 rfl rfl (okr hF fun q => q)
    replace hF := (okB_if hF).1 hc
    refine v_bipush (pc := 16) (v := (50 : Int32)) dX11_sign_16 rfl ?_
    refine v_goto (pc := 18) 55 dX11_sign_18 rfl ?_
    exact v_iret (pc := 55) dX11_sign_55 rfl rfl (okr hF fun q => q)
  replace hF := (okB_if hF).1 hc
  refine v_iconst (pc := 6) (v := (0 : Int32)) dX11_sign_6 rfl ?_
  refine v_goto (pc := 7) 55 dX11_sign_7 rfl ?_
  exact v_iret (pc := 55) dX11_sign_55 rfl rfl (okr hF fun q => q)

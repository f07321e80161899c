/-! ===== methods: their functions and rows ===== -/
theorem dX6_tellGone_0 : decode cX6_tellGone 0 = .ok (.aload_n 0, 1) := by decide +kernel
theorem dX6_tellGone_1 : decode cX6_tellGone 1 = .ok (.getfield 24, 3) := by decide +kernel
theorem dX6_tellGone_4 : decode cX6_tellGone 4 = .ok (.invokevirtual 34, 3) := by decide +kernel
theorem dX6_tellGone_7 : decode cX6_tellGone 7 = .ok (.aload_n 0, 1) := by decide +kernel
theorem dX6_tellGone_8 : decode cX6_tellGone 8 = .ok (.getfield 24, 3) := by decide +kernel
theorem dX6_tellGone_11 : decode cX6_tellGone 11 = .ok (.ldc 49, 2) := by decide +kernel
theorem dX6_tellGone_13 : decode cX6_tellGone 13 = .ok (.invokevirtual 51, 3) := by decide +kernel
theorem dX6_tellGone_16 : decode cX6_tellGone 16 = .ok (.aload_n 1, 1) := by decide +kernel
theorem dX6_tellGone_17 : decode cX6_tellGone 17 = .ok (.getfield 55, 3) := by decide +kernel
theorem dX6_tellGone_20 : decode cX6_tellGone 20 = .ok (.invokevirtual 58, 3) := by decide +kernel
theorem dX6_tellGone_23 : decode cX6_tellGone 23 = .ok (.ifCond .le 17, 3) := by decide +kernel
theorem dX6_tellGone_26 : decode cX6_tellGone 26 = .ok (.aload_n 0, 1) := by decide +kernel
theorem dX6_tellGone_27 : decode cX6_tellGone 27 = .ok (.getfield 24, 3) := by decide +kernel
theorem dX6_tellGone_30 : decode cX6_tellGone 30 = .ok (.aload_n 1, 1) := by decide +kernel
theorem dX6_tellGone_31 : decode cX6_tellGone 31 = .ok (.getfield 55, 3) := by decide +kernel
theorem dX6_tellGone_34 : decode cX6_tellGone 34 = .ok (.invokevirtual 62, 3) := by decide +kernel
theorem dX6_tellGone_37 : decode cX6_tellGone 37 = .ok (.goto 17, 3) := by decide +kernel
theorem dX6_tellGone_40 : decode cX6_tellGone 40 = .ok (.aload_n 0, 1) := by decide +kernel
theorem dX6_tellGone_41 : decode cX6_tellGone 41 = .ok (.getfield 24, 3) := by decide +kernel
theorem dX6_tellGone_44 : decode cX6_tellGone 44 = .ok (.aload_n 1, 1) := by decide +kernel
theorem dX6_tellGone_45 : decode cX6_tellGone 45 = .ok (.getfield 64, 3) := by decide +kernel
theorem dX6_tellGone_48 : decode cX6_tellGone 48 = .ok (.invokestatic 68, 3) := by decide +kernel
theorem dX6_tellGone_51 : decode cX6_tellGone 51 = .ok (.invokevirtual 51, 3) := by decide +kernel
theorem dX6_tellGone_54 : decode cX6_tellGone 54 = .ok (.aload_n 0, 1) := by decide +kernel
theorem dX6_tellGone_55 : decode cX6_tellGone 55 = .ok (.aload_n 1, 1) := by decide +kernel
theorem dX6_tellGone_56 : decode cX6_tellGone 56 = .ok (.invokevirtual 41, 3) := by decide +kernel
theorem dX6_tellGone_59 : decode cX6_tellGone 59 = .ok (.invokevirtual 45, 3) := by decide +kernel
theorem dX6_tellGone_62 : decode cX6_tellGone 62 = .ok (.return_, 1) := by decide +kernel
theorem dX6_forgetWithin_0 : decode cX6_forgetWithin 0 = .ok (.iconst 0, 1) := by decide +kernel
theorem dX6_forgetWithin_1 : decode cX6_forgetWithin 1 = .ok (.istore_n 2, 1) := by decide +kernel
theorem dX6_forgetWithin_2 : decode cX6_forgetWithin 2 = .ok (.iload_n 2, 1) := by decide +kernel
theorem dX6_forgetWithin_3 : decode cX6_forgetWithin 3 = .ok (.bipush 40, 2) := by decide +kernel
theorem dX6_forgetWithin_5 : decode cX6_forgetWithin 5 = .ok (.if_icmp .ge 35, 3) := by decide +kernel
theorem dX6_forgetWithin_8 : decode cX6_forgetWithin 8 = .ok (.aload_n 0, 1) := by decide +kernel
theorem dX6_forgetWithin_9 : decode cX6_forgetWithin 9 = .ok (.getfield 9, 3) := by decide +kernel
theorem dX6_forgetWithin_12 : decode cX6_forgetWithin 12 = .ok (.iload_n 2, 1) := by decide +kernel
theorem dX6_forgetWithin_13 : decode cX6_forgetWithin 13 = .ok (.invokevirtual 113, 3) := by decide +kernel
theorem dX6_forgetWithin_16 : decode cX6_forgetWithin 16 = .ok (.astore_n 3, 1) := by decide +kernel
theorem dX6_forgetWithin_17 : decode cX6_forgetWithin 17 = .ok (.aload_n 3, 1) := by decide +kernel
theorem dX6_forgetWithin_18 : decode cX6_forgetWithin 18 = .ok (.ifnull 16, 3) := by decide +kernel
theorem dX6_forgetWithin_21 : decode cX6_forgetWithin 21 = .ok (.aload_n 3, 1) := by decide +kernel
theorem dX6_forgetWithin_22 : decode cX6_forgetWithin 22 = .ok (.aload_n 1, 1) := by decide +kernel
theorem dX6_forgetWithin_23 : decode cX6_forgetWithin 23 = .ok (.invokevirtual 119, 3) := by decide +kernel
theorem dX6_forgetWithin_26 : decode cX6_forgetWithin 26 = .ok (.ifCond .eq 8, 3) := by decide +kernel
theorem dX6_forgetWithin_29 : decode cX6_forgetWithin 29 = .ok (.aload_n 0, 1) := by decide +kernel
theorem dX6_forgetWithin_30 : decode cX6_forgetWithin 30 = .ok (.aload_n 3, 1) := by decide +kernel
theorem dX6_forgetWithin_31 : decode cX6_forgetWithin 31 = .ok (.invokevirtual 92, 3) := by decide +kernel
theorem dX6_forgetWithin_34 : decode cX6_forgetWithin 34 = .ok (.iinc 2 1, 3) := by decide +kernel
theorem dX6_forgetWithin_37 : decode cX6_forgetWithin 37 = .ok (.goto (-35), 3) := by decide +kernel
theorem dX6_forgetWithin_40 : decode cX6_forgetWithin 40 = .ok (.return_, 1) := by decide +kernel
theorem dX6_letKeptCome_0 : decode cX6_letKeptCome 0 = .ok (.aload_n 1, 1) := by decide +kernel
theorem dX6_letKeptCome_1 : decode cX6_letKeptCome 1 = .ok (.invokevirtual 28, 3) := by decide +kernel
theorem dX6_letKeptCome_4 : decode cX6_letKeptCome 4 = .ok (.ifCond .eq 22, 3) := by decide +kernel
theorem dX6_letKeptCome_7 : decode cX6_letKeptCome 7 = .ok (.aload_n 0, 1) := by decide +kernel
theorem dX6_letKeptCome_8 : decode cX6_letKeptCome 8 = .ok (.aload_n 1, 1) := by decide +kernel
theorem dX6_letKeptCome_9 : decode cX6_letKeptCome 9 = .ok (.aload_n 1, 1) := by decide +kernel
theorem dX6_letKeptCome_10 : decode cX6_letKeptCome 10 = .ok (.getfield 95, 3) := by decide +kernel
theorem dX6_letKeptCome_13 : decode cX6_letKeptCome 13 = .ok (.invokevirtual 88, 3) := by decide +kernel
theorem dX6_letKeptCome_16 : decode cX6_letKeptCome 16 = .ok (.aload_n 1, 1) := by decide +kernel
theorem dX6_letKeptCome_17 : decode cX6_letKeptCome 17 = .ok (.getfield 95, 3) := by decide +kernel
theorem dX6_letKeptCome_20 : decode cX6_letKeptCome 20 = .ok (.invokevirtual 34, 3) := by decide +kernel
theorem dX6_letKeptCome_23 : decode cX6_letKeptCome 23 = .ok (.goto 8, 3) := by decide +kernel
theorem dX6_letKeptCome_26 : decode cX6_letKeptCome 26 = .ok (.aload_n 0, 1) := by decide +kernel
theorem dX6_letKeptCome_27 : decode cX6_letKeptCome 27 = .ok (.aload_n 1, 1) := by decide +kernel
theorem dX6_letKeptCome_28 : decode cX6_letKeptCome 28 = .ok (.invokevirtual 92, 3) := by decide +kernel
theorem dX6_letKeptCome_31 : decode cX6_letKeptCome 31 = .ok (.return_, 1) := by decide +kernel
theorem dX6_passTick_0 : decode cX6_passTick 0 = .ok (.aload_n 0, 1) := by decide +kernel
theorem dX6_passTick_1 : decode cX6_passTick 1 = .ok (.dup, 1) := by decide +kernel
theorem dX6_passTick_2 : decode cX6_passTick 2 = .ok (.getfield 101, 3) := by decide +kernel
theorem dX6_passTick_5 : decode cX6_passTick 5 = .ok (.iconst 1, 1) := by decide +kernel
theorem dX6_passTick_6 : decode cX6_passTick 6 = .ok (.iadd, 1) := by decide +kernel
theorem dX6_passTick_7 : decode cX6_passTick 7 = .ok (.putfield 101, 3) := by decide +kernel
theorem dX6_passTick_10 : decode cX6_passTick 10 = .ok (.iconst 0, 1) := by decide +kernel
theorem dX6_passTick_11 : decode cX6_passTick 11 = .ok (.istore_n 1, 1) := by decide +kernel
theorem dX6_passTick_12 : decode cX6_passTick 12 = .ok (.iload_n 1, 1) := by decide +kernel
theorem dX6_passTick_13 : decode cX6_passTick 13 = .ok (.bipush 40, 2) := by decide +kernel
theorem dX6_passTick_15 : decode cX6_passTick 15 = .ok (.if_icmp .ge 45, 3) := by decide +kernel
theorem dX6_passTick_18 : decode cX6_passTick 18 = .ok (.aload_n 0, 1) := by decide +kernel
theorem dX6_passTick_19 : decode cX6_passTick 19 = .ok (.getfield 9, 3) := by decide +kernel
theorem dX6_passTick_22 : decode cX6_passTick 22 = .ok (.iload_n 1, 1) := by decide +kernel
theorem dX6_passTick_23 : decode cX6_passTick 23 = .ok (.invokevirtual 113, 3) := by decide +kernel
theorem dX6_passTick_26 : decode cX6_passTick 26 = .ok (.astore_n 2, 1) := by decide +kernel
theorem dX6_passTick_27 : decode cX6_passTick 27 = .ok (.aload_n 2, 1) := by decide +kernel
theorem dX6_passTick_28 : decode cX6_passTick 28 = .ok (.ifnull 26, 3) := by decide +kernel
theorem dX6_passTick_31 : decode cX6_passTick 31 = .ok (.aload_n 2, 1) := by decide +kernel
theorem dX6_passTick_32 : decode cX6_passTick 32 = .ok (.getfield 95, 3) := by decide +kernel
theorem dX6_passTick_35 : decode cX6_passTick 35 = .ok (.invokevirtual 58, 3) := by decide +kernel
theorem dX6_passTick_38 : decode cX6_passTick 38 = .ok (.ifCond .le 16, 3) := by decide +kernel
theorem dX6_passTick_41 : decode cX6_passTick 41 = .ok (.aload_n 0, 1) := by decide +kernel
theorem dX6_passTick_42 : decode cX6_passTick 42 = .ok (.aload_n 2, 1) := by decide +kernel
theorem dX6_passTick_43 : decode cX6_passTick 43 = .ok (.invokevirtual 84, 3) := by decide +kernel
theorem dX6_passTick_46 : decode cX6_passTick 46 = .ok (.ifCond .eq 8, 3) := by decide +kernel
theorem dX6_passTick_49 : decode cX6_passTick 49 = .ok (.aload_n 0, 1) := by decide +kernel
theorem dX6_passTick_50 : decode cX6_passTick 50 = .ok (.aload_n 2, 1) := by decide +kernel
theorem dX6_passTick_51 : decode cX6_passTick 51 = .ok (.invokevirtual 122, 3) := by decide +kernel
theorem dX6_passTick_54 : decode cX6_passTick 54 = .ok (.iinc 1 1, 3) := by decide +kernel
theorem dX6_passTick_57 : decode cX6_passTick 57 = .ok (.goto (-45), 3) := by decide +kernel
theorem dX6_passTick_60 : decode cX6_passTick 60 = .ok (.return_, 1) := by decide +kernel
theorem dX5_init_0 : decode cX5_init 0 = .ok (.aload_n 0, 1) := by decide +kernel
theorem dX5_init_1 : decode cX5_init 1 = .ok (.invokespecial 3, 3) := by decide +kernel
theorem dX5_init_4 : decode cX5_init 4 = .ok (.aload_n 0, 1) := by decide +kernel
theorem dX5_init_5 : decode cX5_init 5 = .ok (.aload_n 1, 1) := by decide +kernel
theorem dX5_init_6 : decode cX5_init 6 = .ok (.putfield 9, 3) := by decide +kernel
theorem dX5_init_9 : decode cX5_init 9 = .ok (.aload_n 0, 1) := by decide +kernel
theorem dX5_init_10 : decode cX5_init 10 = .ok (.aload_n 2, 1) := by decide +kernel
theorem dX5_init_11 : decode cX5_init 11 = .ok (.putfield 15, 3) := by decide +kernel
theorem dX5_init_14 : decode cX5_init 14 = .ok (.aload_n 0, 1) := by decide +kernel
theorem dX5_init_15 : decode cX5_init 15 = .ok (.new 19, 3) := by decide +kernel
theorem dX5_init_18 : decode cX5_init 18 = .ok (.dup, 1) := by decide +kernel
theorem dX5_init_19 : decode cX5_init 19 = .ok (.invokespecial 21, 3) := by decide +kernel
theorem dX5_init_22 : decode cX5_init 22 = .ok (.putfield 22, 3) := by decide +kernel
theorem dX5_init_25 : decode cX5_init 25 = .ok (.aload_n 0, 1) := by decide +kernel
theorem dX5_init_26 : decode cX5_init 26 = .ok (.new 26, 3) := by decide +kernel
theorem dX5_init_29 : decode cX5_init 29 = .ok (.dup, 1) := by decide +kernel
theorem dX5_init_30 : decode cX5_init 30 = .ok (.invokespecial 28, 3) := by decide +kernel
theorem dX5_init_33 : decode cX5_init 33 = .ok (.putfield 29, 3) := by decide +kernel
theorem dX5_init_36 : decode cX5_init 36 = .ok (.aload_n 0, 1) := by decide +kernel
theorem dX5_init_37 : decode cX5_init 37 = .ok (.new 33, 3) := by decide +kernel
theorem dX5_init_40 : decode cX5_init 40 = .ok (.dup, 1) := by decide +kernel
theorem dX5_init_41 : decode cX5_init 41 = .ok (.bipush 80, 2) := by decide +kernel
theorem dX5_init_43 : decode cX5_init 43 = .ok (.invokespecial 35, 3) := by decide +kernel
theorem dX5_init_46 : decode cX5_init 46 = .ok (.putfield 38, 3) := by decide +kernel
theorem dX5_init_49 : decode cX5_init 49 = .ok (.aload_n 0, 1) := by decide +kernel
theorem dX5_init_50 : decode cX5_init 50 = .ok (.aload_n 1, 1) := by decide +kernel
theorem dX5_init_51 : decode cX5_init 51 = .ok (.getfield 42, 3) := by decide +kernel
theorem dX5_init_54 : decode cX5_init 54 = .ok (.putfield 48, 3) := by decide +kernel
theorem dX5_init_57 : decode cX5_init 57 = .ok (.aload_n 0, 1) := by decide +kernel
theorem dX5_init_58 : decode cX5_init 58 = .ok (.getfield 22, 3) := by decide +kernel
theorem dX5_init_61 : decode cX5_init 61 = .ok (.aload_n 0, 1) := by decide +kernel
theorem dX5_init_62 : decode cX5_init 62 = .ok (.getfield 48, 3) := by decide +kernel
theorem dX5_init_65 : decode cX5_init 65 = .ok (.iconst 0, 1) := by decide +kernel
theorem dX5_init_66 : decode cX5_init 66 = .ok (.invokevirtual 51, 3) := by decide +kernel
theorem dX5_init_69 : decode cX5_init 69 = .ok (.return_, 1) := by decide +kernel
theorem dX5_refreshPins_0 : decode cX5_refreshPins 0 = .ok (.aload_n 0, 1) := by decide +kernel
theorem dX5_refreshPins_1 : decode cX5_refreshPins 1 = .ok (.getfield 22, 3) := by decide +kernel
theorem dX5_refreshPins_4 : decode cX5_refreshPins 4 = .ok (.aload_n 0, 1) := by decide +kernel
theorem dX5_refreshPins_5 : decode cX5_refreshPins 5 = .ok (.getfield 48, 3) := by decide +kernel
theorem dX5_refreshPins_8 : decode cX5_refreshPins 8 = .ok (.aload_n 0, 1) := by decide +kernel
theorem dX5_refreshPins_9 : decode cX5_refreshPins 9 = .ok (.getfield 29, 3) := by decide +kernel
theorem dX5_refreshPins_12 : decode cX5_refreshPins 12 = .ok (.getfield 55, 3) := by decide +kernel
theorem dX5_refreshPins_15 : decode cX5_refreshPins 15 = .ok (.invokevirtual 51, 3) := by decide +kernel
theorem dX5_refreshPins_18 : decode cX5_refreshPins 18 = .ok (.return_, 1) := by decide +kernel
theorem dX5_cellAnew_0 : decode cX5_cellAnew 0 = .ok (.aload_n 0, 1) := by decide +kernel
theorem dX5_cellAnew_1 : decode cX5_cellAnew 1 = .ok (.getfield 22, 3) := by decide +kernel
theorem dX5_cellAnew_4 : decode cX5_cellAnew 4 = .ok (.aload_n 0, 1) := by decide +kernel
theorem dX5_cellAnew_5 : decode cX5_cellAnew 5 = .ok (.getfield 48, 3) := by decide +kernel
theorem dX5_cellAnew_8 : decode cX5_cellAnew 8 = .ok (.aload_n 0, 1) := by decide +kernel
theorem dX5_cellAnew_9 : decode cX5_cellAnew 9 = .ok (.getfield 29, 3) := by decide +kernel
theorem dX5_cellAnew_12 : decode cX5_cellAnew 12 = .ok (.getfield 55, 3) := by decide +kernel
theorem dX5_cellAnew_15 : decode cX5_cellAnew 15 = .ok (.iload_n 1, 1) := by decide +kernel
theorem dX5_cellAnew_16 : decode cX5_cellAnew 16 = .ok (.invokevirtual 59, 3) := by decide +kernel
theorem dX5_cellAnew_19 : decode cX5_cellAnew 19 = .ok (.ireturn, 1) := by decide +kernel
theorem dX5_wordsOf_0 : decode cX5_wordsOf 0 = .ok (.aload_n 0, 1) := by decide +kernel
theorem dX5_wordsOf_1 : decode cX5_wordsOf 1 = .ok (.getfield 38, 3) := by decide +kernel
theorem dX5_wordsOf_4 : decode cX5_wordsOf 4 = .ok (.invokevirtual 63, 3) := by decide +kernel
theorem dX5_wordsOf_7 : decode cX5_wordsOf 7 = .ok (.aload_n 1, 1) := by decide +kernel
theorem dX5_wordsOf_8 : decode cX5_wordsOf 8 = .ok (.aload_n 0, 1) := by decide +kernel
theorem dX5_wordsOf_9 : decode cX5_wordsOf 9 = .ok (.getfield 38, 3) := by decide +kernel
theorem dX5_wordsOf_12 : decode cX5_wordsOf 12 = .ok (.invokevirtual 66, 3) := by decide +kernel
theorem dX5_wordsOf_15 : decode cX5_wordsOf 15 = .ok (.aload_n 0, 1) := by decide +kernel
theorem dX5_wordsOf_16 : decode cX5_wordsOf 16 = .ok (.getfield 38, 3) := by decide +kernel
theorem dX5_wordsOf_19 : decode cX5_wordsOf 19 = .ok (.areturn, 1) := by decide +kernel
theorem dX5_moveTo_0 : decode cX5_moveTo 0 = .ok (.aload_n 1, 1) := by decide +kernel
theorem dX5_moveTo_1 : decode cX5_moveTo 1 = .ok (.aload_n 0, 1) := by decide +kernel
theorem dX5_moveTo_2 : decode cX5_moveTo 2 = .ok (.getfield 48, 3) := by decide +kernel
theorem dX5_moveTo_5 : decode cX5_moveTo 5 = .ok (.if_acmp .eq 16, 3) := by decide +kernel
theorem dX5_moveTo_8 : decode cX5_moveTo 8 = .ok (.aload_n 0, 1) := by decide +kernel
theorem dX5_moveTo_9 : decode cX5_moveTo 9 = .ok (.aload_n 1, 1) := by decide +kernel
theorem dX5_moveTo_10 : decode cX5_moveTo 10 = .ok (.putfield 48, 3) := by decide +kernel
theorem dX5_moveTo_13 : decode cX5_moveTo 13 = .ok (.aload_n 0, 1) := by decide +kernel
theorem dX5_moveTo_14 : decode cX5_moveTo 14 = .ok (.getfield 22, 3) := by decide +kernel
theorem dX5_moveTo_17 : decode cX5_moveTo 17 = .ok (.iconst 0, 1) := by decide +kernel
theorem dX5_moveTo_18 : decode cX5_moveTo 18 = .ok (.putfield 168, 3) := by decide +kernel
theorem dX5_moveTo_21 : decode cX5_moveTo 21 = .ok (.return_, 1) := by decide +kernel
theorem dX5_lose_0 : decode cX5_lose 0 = .ok (.aload_n 0, 1) := by decide +kernel
theorem dX5_lose_1 : decode cX5_lose 1 = .ok (.getfield 72, 3) := by decide +kernel
theorem dX5_lose_4 : decode cX5_lose 4 = .ok (.ifnull 26, 3) := by decide +kernel
theorem dX5_lose_7 : decode cX5_lose 7 = .ok (.aload_n 0, 1) := by decide +kernel
theorem dX5_lose_8 : decode cX5_lose 8 = .ok (.getfield 72, 3) := by decide +kernel
theorem dX5_lose_11 : decode cX5_lose 11 = .ok (.aload_n 1, 1) := by decide +kernel
theorem dX5_lose_12 : decode cX5_lose 12 = .ok (.invokevirtual 75, 3) := by decide +kernel
theorem dX5_lose_15 : decode cX5_lose 15 = .ok (.ifCond .eq 15, 3) := by decide +kernel
theorem dX5_lose_18 : decode cX5_lose 18 = .ok (.aload_n 0, 1) := by decide +kernel
theorem dX5_lose_19 : decode cX5_lose 19 = .ok (.aconst_null, 1) := by decide +kernel
theorem dX5_lose_20 : decode cX5_lose 20 = .ok (.putfield 72, 3) := by decide +kernel
theorem dX5_lose_23 : decode cX5_lose 23 = .ok (.aload_n 0, 1) := by decide +kernel
theorem dX5_lose_24 : decode cX5_lose 24 = .ok (.getfield 29, 3) := by decide +kernel
theorem dX5_lose_27 : decode cX5_lose 27 = .ok (.invokevirtual 79, 3) := by decide +kernel
theorem dX5_lose_30 : decode cX5_lose 30 = .ok (.aload_n 0, 1) := by decide +kernel
theorem dX5_lose_31 : decode cX5_lose 31 = .ok (.getfield 48, 3) := by decide +kernel
theorem dX5_lose_34 : decode cX5_lose 34 = .ok (.aload_n 1, 1) := by decide +kernel
theorem dX5_lose_35 : decode cX5_lose 35 = .ok (.invokevirtual 75, 3) := by decide +kernel
theorem dX5_lose_38 : decode cX5_lose 38 = .ok (.ifCond .eq 46, 3) := by decide +kernel
theorem dX5_lose_41 : decode cX5_lose 41 = .ok (.aload_n 0, 1) := by decide +kernel
theorem dX5_lose_42 : decode cX5_lose 42 = .ok (.aload_n 2, 1) := by decide +kernel
theorem dX5_lose_43 : decode cX5_lose 43 = .ok (.invokevirtual 82, 3) := by decide +kernel
theorem dX5_lose_46 : decode cX5_lose 46 = .ok (.aload_n 0, 1) := by decide +kernel
theorem dX5_lose_47 : decode cX5_lose 47 = .ok (.getfield 38, 3) := by decide +kernel
theorem dX5_lose_50 : decode cX5_lose 50 = .ok (.invokevirtual 63, 3) := by decide +kernel
theorem dX5_lose_53 : decode cX5_lose 53 = .ok (.aload_n 0, 1) := by decide +kernel
theorem dX5_lose_54 : decode cX5_lose 54 = .ok (.getfield 38, 3) := by decide +kernel
theorem dX5_lose_57 : decode cX5_lose 57 = .ok (.ldc 86, 2) := by decide +kernel
theorem dX5_lose_59 : decode cX5_lose 59 = .ok (.invokevirtual 88, 3) := by decide +kernel
theorem dX5_lose_62 : decode cX5_lose 62 = .ok (.aload_n 0, 1) := by decide +kernel
theorem dX5_lose_63 : decode cX5_lose 63 = .ok (.getfield 48, 3) := by decide +kernel
theorem dX5_lose_66 : decode cX5_lose 66 = .ok (.aload_n 0, 1) := by decide +kernel
theorem dX5_lose_67 : decode cX5_lose 67 = .ok (.getfield 38, 3) := by decide +kernel
theorem dX5_lose_70 : decode cX5_lose 70 = .ok (.invokevirtual 66, 3) := by decide +kernel
theorem dX5_lose_73 : decode cX5_lose 73 = .ok (.aload_n 0, 1) := by decide +kernel
theorem dX5_lose_74 : decode cX5_lose 74 = .ok (.getfield 15, 3) := by decide +kernel
theorem dX5_lose_77 : decode cX5_lose 77 = .ok (.aload_n 0, 1) := by decide +kernel
theorem dX5_lose_78 : decode cX5_lose 78 = .ok (.getfield 38, 3) := by decide +kernel
theorem dX5_lose_81 : decode cX5_lose 81 = .ok (.invokevirtual 92, 3) := by decide +kernel
theorem dX5_lose_84 : decode cX5_lose 84 = .ok (.aload_n 0, 1) := by decide +kernel
theorem dX5_lose_85 : decode cX5_lose 85 = .ok (.getfield 22, 3) := by decide +kernel
theorem dX5_lose_88 : decode cX5_lose 88 = .ok (.aload_n 0, 1) := by decide +kernel
theorem dX5_lose_89 : decode cX5_lose 89 = .ok (.getfield 48, 3) := by decide +kernel
theorem dX5_lose_92 : decode cX5_lose 92 = .ok (.aload_n 0, 1) := by decide +kernel
theorem dX5_lose_93 : decode cX5_lose 93 = .ok (.getfield 29, 3) := by decide +kernel
theorem dX5_lose_96 : decode cX5_lose 96 = .ok (.getfield 55, 3) := by decide +kernel
theorem dX5_lose_99 : decode cX5_lose 99 = .ok (.invokevirtual 51, 3) := by decide +kernel
theorem dX5_lose_102 : decode cX5_lose 102 = .ok (.return_, 1) := by decide +kernel
abbrev mX6_tellGone : gM := (yX6_tellGone, cX6_tellGone, 2, (Option.none : Option FieldType), [])
theorem caX6_tellGone : cal mX6_tellGone 1 := ⟨xw 1070 (by decide +kernel) rfl, xw 35 (by decide +kernel) rfl, by decide, by decide +kernel⟩
theorem cvX6_tellGone : calV mX6_tellGone := ⟨xw 1068 (by decide +kernel) rfl, xw 1069 (by decide +kernel) rfl⟩
abbrev mX6_forgetWithin : gM := (yX6_forgetWithin, cX6_forgetWithin, 4, (Option.none : Option FieldType), [])
theorem caX6_forgetWithin : cal mX6_forgetWithin 1 := ⟨xw 1053 (by decide +kernel) rfl, xw 35 (by decide +kernel) rfl, by decide, by decide +kernel⟩
theorem cvX6_forgetWithin : calV mX6_forgetWithin := ⟨xw 1051 (by decide +kernel) rfl, xw 1052 (by decide +kernel) rfl⟩
abbrev mX6_letKeptCome : gM := (yX6_letKeptCome, cX6_letKeptCome, 2, (Option.none : Option FieldType), [])
theorem caX6_letKeptCome : cal mX6_letKeptCome 1 := ⟨xw 814 (by decide +kernel) rfl, xw 35 (by decide +kernel) rfl, by decide, by decide +kernel⟩
theorem cvX6_letKeptCome : calV mX6_letKeptCome := ⟨xw 813 (by decide +kernel) rfl, xw 20 (by decide +kernel) rfl⟩
abbrev mX6_passTick : gM := (yX6_passTick, cX6_passTick, 3, (Option.none : Option FieldType), [])
theorem caX6_passTick : cal mX6_passTick 0 := ⟨xw 801 (by decide +kernel) rfl, xw 35 (by decide +kernel) rfl, by decide, by decide +kernel⟩
theorem cvX6_passTick : calV mX6_passTick := ⟨xw 799 (by decide +kernel) rfl, xw 800 (by decide +kernel) rfl⟩
abbrev mX5_init : gM := (yX5_init, cX5_init, 3, (Option.none : Option FieldType), [])
theorem caX5_init : cal mX5_init 2 := ⟨xw 267 (by decide +kernel) rfl, xw 36 (by decide +kernel) rfl, by decide, by decide +kernel⟩
theorem ciX5_init : Cond.instanceMethod yX5_init ∈ XW := xw 266 (by decide +kernel) rfl
abbrev mX5_refreshPins : gM := (yX5_refreshPins, cX5_refreshPins, 1, (Option.none : Option FieldType), [])
theorem caX5_refreshPins : cal mX5_refreshPins 0 := ⟨xw 1099 (by decide +kernel) rfl, xw 36 (by decide +kernel) rfl, by decide, by decide +kernel⟩
theorem cvX5_refreshPins : calV mX5_refreshPins := ⟨xw 1097 (by decide +kernel) rfl, xw 1098 (by decide +kernel) rfl⟩
abbrev mX5_cellAnew : gM := (yX5_cellAnew, cX5_cellAnew, 2, (Option.some FieldType.int), [])
theorem caX5_cellAnew : cal mX5_cellAnew 1 := ⟨xw 1237 (by decide +kernel) rfl, xw 36 (by decide +kernel) rfl, by decide, by decide +kernel⟩
theorem cvX5_cellAnew : calV mX5_cellAnew := ⟨xw 1235 (by decide +kernel) rfl, xw 1236 (by decide +kernel) rfl⟩
abbrev mX5_wordsOf : gM := (yX5_wordsOf, cX5_wordsOf, 2, (Option.some (FieldType.object "BrailleDesk$Codes")), [])
theorem caX5_wordsOf : cal mX5_wordsOf 1 := ⟨xw 737 (by decide +kernel) rfl, xw 36 (by decide +kernel) rfl, by decide, by decide +kernel⟩
theorem cvX5_wordsOf : calV mX5_wordsOf := ⟨xw 735 (by decide +kernel) rfl, xw 736 (by decide +kernel) rfl⟩
abbrev mX5_moveTo : gM := (yX5_moveTo, cX5_moveTo, 2, (Option.none : Option FieldType), [])
theorem caX5_moveTo : cal mX5_moveTo 1 := ⟨xw 625 (by decide +kernel) rfl, xw 36 (by decide +kernel) rfl, by decide, by decide +kernel⟩
theorem cvX5_moveTo : calV mX5_moveTo := ⟨xw 624 (by decide +kernel) rfl, xw 6 (by decide +kernel) rfl⟩
abbrev mX5_lose : gM := (yX5_lose, cX5_lose, 3, (Option.none : Option FieldType), [])
theorem caX5_lose : cal mX5_lose 2 := ⟨xw 1078 (by decide +kernel) rfl, xw 36 (by decide +kernel) rfl, by decide, by decide +kernel⟩
theorem cvX5_lose : calV mX5_lose := ⟨xw 1076 (by decide +kernel) rfl, xw 1077 (by decide +kernel) rfl⟩
theorem lkX6_51 : Cond.methodLink RX6 51 yX1_part_ ∈ XW := xw 1072 (by decide +kernel) rfl
theorem flX6_55 : fl RX6 55 1 5 := ⟨by decide, by decide, xw 101 (by decide +kernel) rfl⟩
theorem flX6_64 : fl RX6 64 1 1 := ⟨by decide, by decide, xw 89 (by decide +kernel) rfl⟩
theorem lkX6_68 : Cond.methodLink RX6 68 yX2_kindWord ∈ XW := xw 1074 (by decide +kernel) rfl
theorem lkX6_62 : Cond.methodLink RX6 62 yX1_part ∈ XW := xw 1073 (by decide +kernel) rfl
theorem lkX6_113 : Cond.methodLink RX6 113 yX7_find ∈ XW := xw 802 (by decide +kernel) rfl
theorem lkX6_119 : Cond.methodLink RX6 119 yX2_isWithin ∈ XW := xw 1054 (by decide +kernel) rfl
theorem lkX6_122 : Cond.methodLink RX6 122 yX6_letKeptCome ∈ XW := xw 811 (by decide +kernel) rfl
theorem lkX5_3 : Cond.methodLink RX5 3 objectInit ∈ XW := xw 268 (by decide +kernel) rfl
theorem flX5_9 : fl RX5 9 4 0 := ⟨by decide, by decide, xw 422 (by decide +kernel) rfl⟩
theorem flX5_15 : fl RX5 15 4 1 := ⟨by decide, by decide, xw 423 (by decide +kernel) rfl⟩
theorem ccX5_19 : Cond.classLink RX5 19 (hk_C 2) ∈ XW := xw 269 (by decide +kernel) rfl
theorem ins_2 : Cond.instantiable (hk_C 2) (hk_N 2) ∈ XW := xw 270 (by decide +kernel) rfl
theorem ini_2 : Cond.initialized (hk_C 2) ∈ XW := xw 37 (by decide +kernel) rfl
theorem lkX5_21 : Cond.methodLink RX5 21 yX3_init ∈ XW := xw 271 (by decide +kernel) rfl
theorem flX5_22 : fl RX5 22 4 2 := ⟨by decide, by decide, xw 424 (by decide +kernel) rfl⟩
theorem ccX5_26 : Cond.classLink RX5 26 (hk_C 7) ∈ XW := xw 290 (by decide +kernel) rfl
theorem ins_7 : Cond.instantiable (hk_C 7) (hk_N 7) ∈ XW := xw 291 (by decide +kernel) rfl
theorem ini_7 : Cond.initialized (hk_C 7) ∈ XW := xw 38 (by decide +kernel) rfl
theorem flX5_29 : fl RX5 29 4 3 := ⟨by decide, by decide, xw 426 (by decide +kernel) rfl⟩
theorem ccX5_33 : Cond.classLink RX5 33 (hk_C 0) ∈ XW := xw 308 (by decide +kernel) rfl
theorem lkX5_35 : Cond.methodLink RX5 35 yX1_init ∈ XW := xw 309 (by decide +kernel) rfl
theorem flX5_38 : fl RX5 38 4 4 := ⟨by decide, by decide, xw 428 (by decide +kernel) rfl⟩
theorem flX5_42 : fl RX5 42 6 0 := ⟨by decide, by decide, xw 159 (by decide +kernel) rfl⟩
theorem flX5_48 : fl RX5 48 4 5 := ⟨by decide, by decide, xw 429 (by decide +kernel) rfl⟩
theorem lkX5_51 : Cond.methodLink RX5 51 yX3_keep ∈ XW := xw 310 (by decide +kernel) rfl
theorem pl_X5 : plainName RX5 = true := by decide +kernel
theorem flX5_55 : fl RX5 55 7 0 := ⟨by decide, by decide, xw 297 (by decide +kernel) rfl⟩
theorem lkX5_59 : Cond.methodLink RX5 59 yX3_cellAnew ∈ XW := xw 1238 (by decide +kernel) rfl
theorem lkX5_63 : Cond.methodLink RX5 63 yX1_clear ∈ XW := xw 585 (by decide +kernel) rfl
theorem lkX5_66 : Cond.methodLink RX5 66 yX2_putWords ∈ XW := xw 645 (by decide +kernel) rfl
theorem flX5_168 : fl RX5 168 2 2 := ⟨by decide, by decide, xw 281 (by decide +kernel) rfl⟩
theorem flX5_72 : fl RX5 72 4 6 := ⟨by decide, by decide, xw 431 (by decide +kernel) rfl⟩
theorem lkX5_75 : Cond.methodLink RX5 75 yX2_isWithin ∈ XW := xw 1079 (by decide +kernel) rfl
theorem lkX5_79 : Cond.methodLink RX5 79 yX8_end ∈ XW := xw 618 (by decide +kernel) rfl
theorem lkX5_82 : Cond.methodLink RX5 82 yX5_moveTo ∈ XW := xw 622 (by decide +kernel) rfl
theorem lkX5_88 : Cond.methodLink RX5 88 yX1_part_ ∈ XW := xw 586 (by decide +kernel) rfl
theorem lkX5_92 : Cond.methodLink RX5 92 yX9_comeAlert ∈ XW := xw 1081 (by decide +kernel) rfl
/-! BrailleDesk$Regions.tellGone -/
theorem tX6_tellGone {G : gG} (a0 : Nat) (a1 : (Option Nat)) (h : hp) (Q : hQ) (hF : okB (fX6_tellGone a0 a1 h) (pH gU Q)) : gS G mX6_tellGone 5 0 0 [sr (some a0), sr a1] h Q := by
  delta fX6_tellGone at hF
  refine gS_at [some (sr (some a0)), some (sr a1)] pl_X6 rfl (Nat.le_of_ble_eq_true rfl) rfl ?_
  refine v_aload_n (pc := 0) (i := 0) dX6_tellGone_0 rfl rfl ?_
  refine s_getR (pc := 1) dX6_tellGone_1 flX6_24 rfl hF (fun x1 hF => ?_)
  refine ch_V (pc := 4) gU (as := []) (st := []) (ci := 0) (N := mX1_clear) (k := 0) (n := 0) (k1 := 0) (n1 := 0) dX6_tellGone_4 lkX6_34 caX1_clear cvX1_clear rfl (by decide) rfl (fun b Q1 hq => tX1_clear b h Q1 hq) ⟨by decide, by decide⟩ (Nat.le_of_ble_eq_true rfl) rfl hF (fun x2 h3 hF => ?_)
  show gV G mX6_tellGone 5 Q 7 [some (sr (some a0)), some (sr a1)] [] (0) (0) h3
  refine v_aload_n (pc := 7) (i := 0) dX6_tellGone_7 rfl rfl ?_
  refine s_getR (pc := 8) dX6_tellGone_8 flX6_24 rfl hF (fun x4 hF => ?_)
  refine v_ldcS (pc := 11) 18 dX6_tellGone_11 rfl ?_
  refine ch_V (pc := 13) gU (as := [sr (some (ga G 18))]) (st := []) (ci := 0) (N := mX1_part_) (k := 0) (n := 0) (k1 := 0) (n1 := 0) dX6_tellGone_13 lkX6_51 caX1_part_ cvX1_part_ rfl (by decide) rfl (fun b Q1 hq => tX1_part_ b 18 h3 Q1 hq) ⟨by decide, by decide⟩ (Nat.le_of_ble_eq_true rfl) rfl hF (fun x5 h6 hF => ?_)
  show gV G mX6_tellGone 5 Q 16 [some (sr (some a0)), some (sr a1)] [] (0) (0) h6
  refine v_aload_n (pc := 16) (i := 1) dX6_tellGone_16 rfl rfl ?_
  refine s_getR (pc := 17) dX6_tellGone_17 flX6_55 rfl hF (fun x7 hF => ?_)
  refine cp_V (pc := 20) gI (as := []) (st := []) (ci := 0) (N := mX1_size) (k := 0) (n := 0) (k1 := 0) (n1 := 0) dX6_tellGone_20 lkX6_58 caX1_size cvX1_size rfl (by decide) rfl (fun b Q1 hq => tX1_size b h6 Q1 hq) ⟨by decide, by decide⟩ (Nat.le_of_ble_eq_true rfl) rfl hF (fun x8 hF => ?_)
  show gV G mX6_tellGone 5 Q 23 [some (sr (some a0)), some (sr a1)] [si x8] (0) (0) h6
  refine mg (X := fun q9 => gV G mX6_tellGone 5 Q 54 [some (sr (some a0)), some (sr a1)] [] (0) (0) q9) hF (fun _ hj10 hF => ?_) (fun q9 hF => ?_)
  · refine v_if_le (pc := 23) 40 dX6_tellGone_23 rfl (fun hc => ?_) (fun hc => ?_)
    · replace hF := (okB_if hF).1 hc
      refine v_aload_n (pc := 40) (i := 0) dX6_tellGone_40 rfl rfl ?_
      refine s_getR (pc := 41) dX6_tellGone_41 flX6_24 rfl hF (fun x11 hF => ?_)
      refine v_aload_n (pc := 44) (i := 1) dX6_tellGone_44 rfl rfl ?_
      refine s_getI (pc := 45) dX6_tellGone_45 flX6_64 rfl hF (fun x12 hF => ?_)
      refine cp_S (pc := 48) (gT G) (as := [si x12]) (st := [sr x11]) (N := mX2_kindWord) (k := 0) (n := 0) (k1 := 0) (n1 := 0) dX6_tellGone_48 lkX6_68 caX2_kindWord csX2_kindWord rfl (fun Q1 hq => tX2_kindWord x12 h6 Q1 hq) ⟨by decide, by decide⟩ (Nat.le_of_ble_eq_true rfl) rfl hF (fun x13 hF => ?_)
      show gV G mX6_tellGone 5 Q 51 [some (sr (some a0)), some (sr a1)] [sr (some (ga G x13)), sr x11] (0) (0) h6
      refine ch_V (pc := 51) gU (as := [sr (some (ga G x13))]) (st := []) (ci := 0) (N := mX1_part_) (k := 0) (n := 0) (k1 := 0) (n1 := 0) dX6_tellGone_51 lkX6_51 caX1_part_ cvX1_part_ rfl (by decide) rfl (fun b Q1 hq => tX1_part_ b x13 h6 Q1 hq) ⟨by decide, by decide⟩ (Nat.le_of_ble_eq_true rfl) rfl hF (fun x14 h15 hF => ?_)
      show gV G mX6_tellGone 5 Q 54 [some (sr (some a0)), some (sr a1)] [] (0) (0) h15
      exact v_lle [some (sr (some a0)), some (sr a1)] ⟨rfl, rfl, trivial⟩ (hj10 h15 (okB_some hF))
    replace hF := (okB_if hF).2 hc
    refine v_aload_n (pc := 26) (i := 0) dX6_tellGone_26 rfl rfl ?_
    refine s_getR (pc := 27) dX6_tellGone_27 flX6_24 rfl hF (fun x16 hF => ?_)
    refine v_aload_n (pc := 30) (i := 1) dX6_tellGone_30 rfl rfl ?_
    refine s_getR (pc := 31) dX6_tellGone_31 flX6_55 rfl hF (fun x17 hF => ?_)
    refine ch_V (pc := 34) gU (as := [sr x17]) (st := []) (ci := 0) (N := mX1_part) (k := 0) (n := 0) (k1 := 0) (n1 := 0) dX6_tellGone_34 lkX6_62 caX1_part cvX1_part rfl (by decide) rfl (fun b Q1 hq => tX1_part b x17 h6 Q1 hq) ⟨by decide, by decide⟩ (Nat.le_of_ble_eq_true rfl) rfl hF (fun x18 h19 hF => ?_)
    show gV G mX6_tellGone 5 Q 37 [some (sr (some a0)), some (sr a1)] [] (0) (0) h19
    refine v_goto (pc := 37) 54 dX6_tellGone_37 rfl ?_
    exact v_lle [some (sr (some a0)), some (sr a1)] ⟨rfl, rfl, trivial⟩ (hj10 h19 (okB_some hF))
  refine v_aload_n (pc := 54) (i := 0) dX6_tellGone_54 rfl rfl ?_
  refine v_aload_n (pc := 55) (i := 1) dX6_tellGone_55 rfl rfl ?_
  refine cp_V (pc := 56) gR (as := []) (st := [sr (some a0)]) (ci := 1) (N := mX2_region) (k := 0) (n := 0) (k1 := 0) (n1 := 0) dX6_tellGone_56 lkX6_41 caX2_region cvX2_region rfl (by decide) rfl (fun b Q1 hq => tX2_region b q9 Q1 hq) ⟨by decide, by decide⟩ (Nat.le_of_ble_eq_true rfl) rfl hF (fun x20 hF => ?_)
  show gV G mX6_tellGone 5 Q 59 [some (sr (some a0)), some (sr a1)] [sr x20, sr (some a0)] (0) (0) q9
  refine ch_V (pc := 59) gU (as := [sr x20]) (st := []) (ci := 5) (N := mX6_tell) (k := 0) (n := 0) (k1 := 0) (n1 := 0) dX6_tellGone_59 lkX6_45 caX6_tell cvX6_tell rfl (by decide) rfl (fun b Q1 hq => tX6_tell b x20 q9 Q1 hq) ⟨by decide, by decide⟩ (Nat.le_of_ble_eq_true rfl) rfl hF (fun x21 h22 hF => ?_)
  show gV G mX6_tellGone 5 Q 62 [some (sr (some a0)), some (sr a1)] [] (0) (0) h22
  exact v_ret (pc := 62) dX6_tellGone_62 rfl (okr hF fun q => q)
/-! BrailleDesk$Regions.forgetWithin -/
theorem lX6_forgetWithin_2 {G : gG} {Q : hQ} {P : hp → Prop} {k n : Nat} (c0 : Nat) (c1 : (Option Nat)) (hJ : ∀ q : hp, P q → gV G mX6_forgetWithin 2 Q 40 [none, none, none, none] [] (k) (n) q) : ∀ (fu : Nat) (a : (Int32 × hp)), okB (itr (fX6_forgetWithin_B2 c0 c1) fu a) P → gV G mX6_forgetWithin 2 Q 2 [some (sr (some c0)), some (sr c1), some (si a.1), none] [] (k) (n) a.2 :=
  lpg (X := fun (a : (Int32 × hp)) => gV G mX6_forgetWithin 2 Q 2 [some (sr (some c0)), some (sr c1), some (si a.1), none] [] (k) (n) a.2) (fun a P2 hL hE hF => by
    delta fX6_forgetWithin_B2 at hF
    refine v_iload_n (pc := 2) (i := 2) dX6_forgetWithin_2 rfl rfl ?_
    refine v_bipush (pc := 3) (v := (40 : Int32)) dX6_forgetWithin_3 rfl ?_
    refine v_icmp_ge (pc := 5) 40 dX6_forgetWithin_5 rfl (fun hc => ?_) (fun hc => ?_)
    · replace hF := (okB_if hF).1 hc
      exact v_lle [none, none, none, none] trivial (hJ a.2 (hE _ (okB_some hF)))
    replace hF := (okB_if hF).2 hc
    refine v_aload_n (pc := 8) (i := 0) dX6_forgetWithin_8 rfl rfl ?_
    refine s_getR (pc := 9) dX6_forgetWithin_9 flX6_9 rfl hF (fun x1 hF => ?_)
    refine v_iload_n (pc := 12) (i := 2) dX6_forgetWithin_12 rfl rfl ?_
    refine cp_V (pc := 13) gR (as := [si a.1]) (st := []) (ci := 6) (N := mX7_find) (k := k) (n := n) (k1 := 0) (n1 := 0) dX6_forgetWithin_13 lkX6_113 caX7_find cvX7_find rfl (by decide) rfl (fun b Q1 hq => tX7_find b a.1 a.2 Q1 hq) ⟨by decide, by decide⟩ (Nat.le_of_ble_eq_true rfl) rfl hF (fun x2 hF => ?_)
    show gV G mX6_forgetWithin 2 Q 16 [some (sr (some c0)), some (sr c1), some (si a.1), none] [sr x2] (k) (n) a.2
    refine v_astore_n (pc := 16) (i := 3) [some (sr (some c0)), some (sr c1), some (si a.1), some (sr x2)] dX6_forgetWithin_16 rfl (by decide) rfl rfl ?_
    refine v_aload_n (pc := 17) (i := 3) dX6_forgetWithin_17 rfl rfl ?_
    refine s_ifnull (pc := 18) 34 dX6_forgetWithin_18 rfl hF (fun hF => ?_) (fun hF => ?_)
    · refine v_iinc (pc := 34) (i := 2) (a.1 + (1 : Int32)) [some (sr (some c0)), some (sr c1), some (si (a.1 + (1 : Int32))), some (sr x2)] dX6_forgetWithin_34 rfl rfl rfl rfl ?_
      refine v_goto (pc := 37) 2 dX6_forgetWithin_37 rfl ?_
      exact v_lle [some (sr (some c0)), some (sr c1), some (si (a.1 + (1 : Int32))), none] ⟨rfl, rfl, rfl, trivial⟩ (hL (a.1 + (1 : Int32), a.2) (okB_some hF))
    refine v_aload_n (pc := 21) (i := 3) dX6_forgetWithin_21 rfl rfl ?_
    refine v_aload_n (pc := 22) (i := 1) dX6_forgetWithin_22 rfl rfl ?_
    refine cp_V (pc := 23) gI (as := [sr c1]) (st := []) (ci := 1) (N := mX2_isWithin) (k := k) (n := n) (k1 := 0) (n1 := 0) dX6_forgetWithin_23 lkX6_119 caX2_isWithin cvX2_isWithin rfl (by decide) rfl (fun b Q1 hq => tX2_isWithin b c1 a.2 Q1 hq) ⟨by decide, by decide⟩ (Nat.le_of_ble_eq_true rfl) rfl hF (fun x3 hF => ?_)
    show gV G mX6_forgetWithin 2 Q 26 [some (sr (some c0)), some (sr c1), some (si a.1), some (sr x2)] [si x3] (k) (n) a.2
    refine v_if_eq (pc := 26) 34 dX6_forgetWithin_26 rfl (fun hc => ?_) (fun hc => ?_)
    · replace hF := (okB_if hF).1 hc
      refine v_iinc (pc := 34) (i := 2) (a.1 + (1 : Int32)) [some (sr (some c0)), some (sr c1), some (si (a.1 + (1 : Int32))), some (sr x2)] dX6_forgetWithin_34 rfl rfl rfl rfl ?_
      refine v_goto (pc := 37) 2 dX6_forgetWithin_37 rfl ?_
      exact v_lle [some (sr (some c0)), some (sr c1), some (si (a.1 + (1 : Int32))), none] ⟨rfl, rfl, rfl, trivial⟩ (hL (a.1 + (1 : Int32), a.2) (okB_some hF))
    replace hF := (okB_if hF).2 hc
    refine v_aload_n (pc := 29) (i := 0) dX6_forgetWithin_29 rfl rfl ?_
    refine v_aload_n (pc := 30) (i := 3) dX6_forgetWithin_30 rfl rfl ?_
    refine ch_V (pc := 31) gU (as := [sr x2]) (st := []) (ci := 5) (N := mX6_swallow) (k := k) (n := n) (k1 := 0) (n1 := 0) dX6_forgetWithin_31 lkX6_92 caX6_swallow cvX6_swallow rfl (by decide) rfl (fun b Q1 hq => tX6_swallow b x2 a.2 Q1 hq) ⟨by decide, by decide⟩ (Nat.le_of_ble_eq_true rfl) rfl hF (fun x4 h5 hF => ?_)
    show gV G mX6_forgetWithin 2 Q 34 [some (sr (some c0)), some (sr c1), some (si a.1), some (sr x2)] [] (k) (n) h5
    refine v_iinc (pc := 34) (i := 2) (a.1 + (1 : Int32)) [some (sr (some c0)), some (sr c1), some (si (a.1 + (1 : Int32))), some (sr x2)] dX6_forgetWithin_34 rfl rfl rfl rfl ?_
    refine v_goto (pc := 37) 2 dX6_forgetWithin_37 rfl ?_
    exact v_lle [some (sr (some c0)), some (sr c1), some (si (a.1 + (1 : Int32))), none] ⟨rfl, rfl, rfl, trivial⟩ (hL (a.1 + (1 : Int32), h5) (okB_some hF)))
theorem tX6_forgetWithin {G : gG} (a0 : Nat) (a1 : (Option Nat)) (h : hp) (Q : hQ) (hF : okB (fX6_forgetWithin a0 a1 h) (pH gU Q)) : gS G mX6_forgetWithin 2 0 0 [sr (some a0), sr a1] h Q := by
  delta fX6_forgetWithin at hF
  refine gS_at [some (sr (some a0)), some (sr a1), none, none] pl_X6 rfl (Nat.le_of_ble_eq_true rfl) rfl ?_
  refine v_iconst (pc := 0) (v := (0 : Int32)) dX6_forgetWithin_0 rfl ?_
  refine v_istore_n (pc := 1) (i := 2) [some (sr (some a0)), some (sr a1), some (si (0 : Int32)), none] dX6_forgetWithin_1 rfl (by decide) rfl rfl ?_
  refine mg (X := fun q1 => gV G mX6_forgetWithin 2 Q 40 [none, none, none, none] [] (0) (0) q1) hF (fun _ hj2 hF => v_lle [some (sr (some a0)), some (sr a1), some (si (0 : Int32)), none] ⟨rfl, rfl, rfl, trivial⟩ (lX6_forgetWithin_2 a0 a1 hj2 FU ((0 : Int32), h) hF)) (fun q1 hF => ?_)
  exact v_ret (pc := 40) dX6_forgetWithin_40 rfl (okr hF fun q => q)
/-! BrailleDesk$Regions.letKeptCome -/
theorem tX6_letKeptCome {G : gG} (a0 : Nat) (a1 : (Option Nat)) (h : hp) (Q : hQ) (hF : okB (fX6_letKeptCome a0 a1 h) (pH gU Q)) : gS G mX6_letKeptCome 4 0 0 [sr (some a0), sr a1] h Q := by
  delta fX6_letKeptCome at hF
  refine gS_at [some (sr (some a0)), some (sr a1)] pl_X6 rfl (Nat.le_of_ble_eq_true rfl) rfl ?_
  refine v_aload_n (pc := 0) (i := 1) dX6_letKeptCome_0 rfl rfl ?_
  refine cp_V (pc := 1) gI (as := []) (st := []) (ci := 1) (N := mX2_isShownNow) (k := 0) (n := 0) (k1 := 0) (n1 := 0) dX6_letKeptCome_1 lkX6_28 caX2_isShownNow cvX2_isShownNow rfl (by decide) rfl (fun b Q1 hq => tX2_isShownNow b h Q1 hq) ⟨by decide, by decide⟩ (Nat.le_of_ble_eq_true rfl) rfl hF (fun x1 hF => ?_)
  show gV G mX6_letKeptCome 4 Q 4 [some (sr (some a0)), some (sr a1)] [si x1] (0) (0) h
  refine v_if_eq (pc := 4) 26 dX6_letKeptCome_4 rfl (fun hc => ?_) (fun hc => ?_)
  · replace hF := (okB_if hF).1 hc
    refine v_aload_n (pc := 26) (i := 0) dX6_letKeptCome_26 rfl rfl ?_
    refine v_aload_n (pc := 27) (i := 1) dX6_letKeptCome_27 rfl rfl ?_
    refine ch_V (pc := 28) gU (as := [sr a1]) (st := []) (ci := 5) (N := mX6_swallow) (k := 0) (n := 0) (k1 := 0) (n1 := 0) dX6_letKeptCome_28 lkX6_92 caX6_swallow cvX6_swallow rfl (by decide) rfl (fun b Q1 hq => tX6_swallow b a1 h Q1 hq) ⟨by decide, by decide⟩ (Nat.le_of_ble_eq_true rfl) rfl hF (fun x2 h3 hF => ?_)
    show gV G mX6_letKeptCome 4 Q 31 [some (sr (some a0)), some (sr a1)] [] (0) (0) h3
    exact v_ret (pc := 31) dX6_letKeptCome_31 rfl (okr hF fun q => q)
  replace hF := (okB_if hF).2 hc
  refine v_aload_n (pc := 7) (i := 0) dX6_letKeptCome_7 rfl rfl ?_
  refine v_aload_n (pc := 8) (i := 1) dX6_letKeptCome_8 rfl rfl ?_
  refine v_aload_n (pc := 9) (i := 1) dX6_letKeptCome_9 rfl rfl ?_
  refine s_getR (pc := 10) dX6_letKeptCome_10 flX6_95 rfl hF (fun x4 hF => ?_)
  refine ch_V (pc := 13) gU (as := [sr a1, sr x4]) (st := []) (ci := 5) (N := mX6_tellNews) (k := 0) (n := 0) (k1 := 0) (n1 := 0) dX6_letKeptCome_13 lkX6_88 caX6_tellNews cvX6_tellNews rfl (by decide) rfl (fun b Q1 hq => tX6_tellNews b a1 x4 h Q1 hq) ⟨by decide, by decide⟩ (Nat.le_of_ble_eq_true rfl) rfl hF (fun x5 h6 hF => ?_)
  show gV G mX6_letKeptCome 4 Q 16 [some (sr (some a0)), some (sr a1)] [] (0) (0) h6
  refine v_aload_n (pc := 16) (i := 1) dX6_letKeptCome_16 rfl rfl ?_
  refine s_getR (pc := 17) dX6_letKeptCome_17 flX6_95 rfl hF (fun x7 hF => ?_)
  refine ch_V (pc := 20) gU (as := []) (st := []) (ci := 0) (N := mX1_clear) (k := 0) (n := 0) (k1 := 0) (n1 := 0) dX6_letKeptCome_20 lkX6_34 caX1_clear cvX1_clear rfl (by decide) rfl (fun b Q1 hq => tX1_clear b h6 Q1 hq) ⟨by decide, by decide⟩ (Nat.le_of_ble_eq_true rfl) rfl hF (fun x8 h9 hF => ?_)
  show gV G mX6_letKeptCome 4 Q 23 [some (sr (some a0)), some (sr a1)] [] (0) (0) h9
  refine v_goto (pc := 23) 31 dX6_letKeptCome_23 rfl ?_
  exact v_ret (pc := 31) dX6_letKeptCome_31 rfl (okr hF fun q => q)
/-! BrailleDesk$Regions.passTick -/
theorem lX6_passTick_12 {G : gG} {Q : hQ} {P : hp → Prop} {k n : Nat} (c0 : Nat) (hJ : ∀ q : hp, P q → gV G mX6_passTick 5 Q 60 [none, none, none] [] (k) (n) q) : ∀ (fu : Nat) (a : (Int32 × hp)), okB (itr (fX6_passTick_B12 c0) fu a) P → gV G mX6_passTick 5 Q 12 [some (sr (some c0)), some (si a.1), none] [] (k) (n) a.2 :=
  lpg (X := fun (a : (Int32 × hp)) => gV G mX6_passTick 5 Q 12 [some (sr (some c0)), some (si a.1), none] [] (k) (n) a.2) (fun a P2 hL hE hF => by
    delta fX6_passTick_B12 at hF
    refine v_iload_n (pc := 12) (i := 1) dX6_passTick_12 rfl rfl ?_
    refine v_bipush (pc := 13) (v := (40 : Int32)) dX6_passTick_13 rfl ?_
    refine v_icmp_ge (pc := 15) 60 dX6_passTick_15 rfl (fun hc => ?_) (fun hc => ?_)
    · replace hF := (okB_if hF).1 hc
      exact v_lle [none, none, none] trivial (hJ a.2 (hE _ (okB_some hF)))
    replace hF := (okB_if hF).2 hc
    refine v_aload_n (pc := 18) (i := 0) dX6_passTick_18 rfl rfl ?_
    refine s_getR (pc := 19) dX6_passTick_19 flX6_9 rfl hF (fun x1 hF => ?_)
    refine v_iload_n (pc := 22) (i := 1) dX6_passTick_22 rfl rfl ?_
    refine cp_V (pc := 23) gR (as := [si a.1]) (st := []) (ci := 6) (N := mX7_find) (k := k) (n := n) (k1 := 0) (n1 := 0) dX6_passTick_23 lkX6_113 caX7_find cvX7_find rfl (by decide) rfl (fun b Q1 hq => tX7_find b a.1 a.2 Q1 hq) ⟨by decide, by decide⟩ (Nat.le_of_ble_eq_true rfl) rfl hF (fun x2 hF => ?_)
    show gV G mX6_passTick 5 Q 26 [some (sr (some c0)), some (si a.1), none] [sr x2] (k) (n) a.2
    refine v_astore_n (pc := 26) (i := 2) [some (sr (some c0)), some (si a.1), some (sr x2)] dX6_passTick_26 rfl (by decide) rfl rfl ?_
    refine v_aload_n (pc := 27) (i := 2) dX6_passTick_27 rfl rfl ?_
    refine s_ifnull (pc := 28) 54 dX6_passTick_28 rfl hF (fun hF => ?_) (fun hF => ?_)
    · refine v_iinc (pc := 54) (i := 1) (a.1 + (1 : Int32)) [some (sr (some c0)), some (si (a.1 + (1 : Int32))), some (sr x2)] dX6_passTick_54 rfl rfl rfl rfl ?_
      refine v_goto (pc := 57) 12 dX6_passTick_57 rfl ?_
      exact v_lle [some (sr (some c0)), some (si (a.1 + (1 : Int32))), none] ⟨rfl, rfl, trivial⟩ (hL (a.1 + (1 : Int32), a.2) (okB_some hF))
    refine v_aload_n (pc := 31) (i := 2) dX6_passTick_31 rfl rfl ?_
    refine s_getR (pc := 32) dX6_passTick_32 flX6_95 rfl hF (fun x3 hF => ?_)
    refine cp_V (pc := 35) gI (as := []) (st := []) (ci := 0) (N := mX1_size) (k := k) (n := n) (k1 := 0) (n1 := 0) dX6_passTick_35 lkX6_58 caX1_size cvX1_size rfl (by decide) rfl (fun b Q1 hq => tX1_size b a.2 Q1 hq) ⟨by decide, by decide⟩ (Nat.le_of_ble_eq_true rfl) rfl hF (fun x4 hF => ?_)
    show gV G mX6_passTick 5 Q 38 [some (sr (some c0)), some (si a.1), some (sr x2)] [si x4] (k) (n) a.2
    refine v_if_le (pc := 38) 54 dX6_passTick_38 rfl (fun hc => ?_) (fun hc => ?_)
    · replace hF := (okB_if hF).1 hc
      refine v_iinc (pc := 54) (i := 1) (a.1 + (1 : Int32)) [some (sr (some c0)), some (si (a.1 + (1 : Int32))), some (sr x2)] dX6_passTick_54 rfl rfl rfl rfl ?_
      refine v_goto (pc := 57) 12 dX6_passTick_57 rfl ?_
      exact v_lle [some (sr (some c0)), some (si (a.1 + (1 : Int32))), none] ⟨rfl, rfl, trivial⟩ (hL (a.1 + (1 : Int32), a.2) (okB_some hF))
    replace hF := (okB_if hF).2 hc
    refine v_aload_n (pc := 41) (i := 0) dX6_passTick_41 rfl rfl ?_
    refine v_aload_n (pc := 42) (i := 2) dX6_passTick_42 rfl rfl ?_
    refine cp_V (pc := 43) gI (as := [sr x2]) (st := []) (ci := 5) (N := mX6_mayTellAgain) (k := k) (n := n) (k1 := 0) (n1 := 0) dX6_passTick_43 lkX6_84 caX6_mayTellAgain cvX6_mayTellAgain rfl (by decide) rfl (fun b Q1 hq => tX6_mayTellAgain b x2 a.2 Q1 hq) ⟨by decide, by decide⟩ (Nat.le_of_ble_eq_true rfl) rfl hF (fun x5 hF => ?_)
    show gV G mX6_passTick 5 Q 46 [some (sr (some c0)), some (si a.1), some (sr x2)] [si x5] (k) (n) a.2
    refine v_if_eq (pc := 46) 54 dX6_passTick_46 rfl (fun hc => ?_) (fun hc => ?_)
    · replace hF := (okB_if hF).1 hc
      refine v_iinc (pc := 54) (i := 1) (a.1 + (1 : Int32)) [some (sr (some c0)), some (si (a.1 + (1 : Int32))), some (sr x2)] dX6_passTick_54 rfl rfl rfl rfl ?_
      refine v_goto (pc := 57) 12 dX6_passTick_57 rfl ?_
      exact v_lle [some (sr (some c0)), some (si (a.1 + (1 : Int32))), none] ⟨rfl, rfl, trivial⟩ (hL (a.1 + (1 : Int32), a.2) (okB_some hF))
    replace hF := (okB_if hF).2 hc
    refine v_aload_n (pc := 49) (i := 0) dX6_passTick_49 rfl rfl ?_
    refine v_aload_n (pc := 50) (i := 2) dX6_passTick_50 rfl rfl ?_
    refine ch_V (pc := 51) gU (as := [sr x2]) (st := []) (ci := 5) (N := mX6_letKeptCome) (k := k) (n := n) (k1 := 0) (n1 := 0) dX6_passTick_51 lkX6_122 caX6_letKeptCome cvX6_letKeptCome rfl (by decide) rfl (fun b Q1 hq => tX6_letKeptCome b x2 a.2 Q1 hq) ⟨by decide, by decide⟩ (Nat.le_of_ble_eq_true rfl) rfl hF (fun x6 h7 hF => ?_)
    show gV G mX6_passTick 5 Q 54 [some (sr (some c0)), some (si a.1), some (sr x2)] [] (k) (n) h7
    refine v_iinc (pc := 54) (i := 1) (a.1 + (1 : Int32)) [some (sr (some c0)), some (si (a.1 + (1 : Int32))), some (sr x2)] dX6_passTick_54 rfl rfl rfl rfl ?_
    refine v_goto (pc := 57) 12 dX6_passTick_57 rfl ?_
    exact v_lle [some (sr (some c0)), some (si (a.1 + (1 : Int32))), none] ⟨rfl, rfl, trivial⟩ (hL (a.1 + (1 : Int32), h7) (okB_some hF)))
theorem tX6_passTick {G : gG} (a0 : Nat) (h : hp) (Q : hQ) (hF : okB (fX6_passTick a0 h) (pH gU Q)) : gS G mX6_passTick 5 0 0 [sr (some a0)] h Q := by
  delta fX6_passTick at hF
  refine gS_at [some (sr (some a0)), none, none] pl_X6 rfl (Nat.le_of_ble_eq_true rfl) rfl ?_
  refine v_aload_n (pc := 0) (i := 0) dX6_passTick_0 rfl rfl ?_
  refine v_dup (pc := 1) dX6_passTick_1 rfl ?_
  refine s_getI (pc := 2) dX6_passTick_2 flX6_101 rfl hF (fun x1 hF => ?_)
  refine v_iconst (pc := 5) (v := (1 : Int32)) dX6_passTick_5 rfl ?_
  refine v_iadd (pc := 6) dX6_passTick_6 ?_
  refine s_putI (pc := 7) dX6_passTick_7 flX6_101 (Or.inl rfl) rfl hF (fun h2 hF => ?_)
  refine v_iconst (pc := 10) (v := (0 : Int32)) dX6_passTick_10 rfl ?_
  refine v_istore_n (pc := 11) (i := 1) [some (sr (some a0)), some (si (0 : Int32)), none] dX6_passTick_11 rfl (by decide) rfl rfl ?_
  refine mg (X := fun q3 => gV G mX6_passTick 5 Q 60 [none, none, none] [] (0) (0) q3) hF (fun _ hj4 hF => v_lle [some (sr (some a0)), some (si (0 : Int32)), none] ⟨rfl, rfl, trivial⟩ (lX6_passTick_12 a0 hj4 FU ((0 : Int32), h2) hF)) (fun q3 hF => ?_)
  exact v_ret (pc := 60) dX6_passTick_60 rfl (okr hF fun q => q)
/-! BrailleDesk$Reader.<init> -/
theorem tX5_init {G : gG} (a0 : Nat) (a1 : (Option Nat)) (a2 : (Option Nat)) (h : hp) (Q : hQ) (hF : okB (fX5_init a0 a1 a2 h) (pH gU Q)) : gS G mX5_init 7 8 312 [sr (some a0), sr a1, sr a2] h Q := by
  delta fX5_init at hF
  refine gS_at [some (sr (some a0)), some (sr a1), some (sr a2)] pl_X5 rfl (Nat.le_of_ble_eq_true rfl) rfl ?_
  refine v_aload_n (pc := 0) (i := 0) dX5_init_0 rfl rfl ?_
  refine v_objI (pc := 1) dX5_init_1 lkX5_3 oi_c oi_d (Nat.le_of_ble_eq_true rfl) (by decide) ?_
  refine v_aload_n (pc := 4) (i := 0) dX5_init_4 rfl rfl ?_
  refine v_aload_n (pc := 5) (i := 1) dX5_init_5 rfl rfl ?_
  refine s_putR (pc := 6) dX5_init_6 flX5_9 (Or.inr ⟨rfl, rfl, rfl⟩) rfl hF (fun h1 hF => ?_)
  refine v_aload_n (pc := 9) (i := 0) dX5_init_9 rfl rfl ?_
  refine v_aload_n (pc := 10) (i := 2) dX5_init_10 rfl rfl ?_
  refine s_putR (pc := 11) dX5_init_11 flX5_15 (Or.inr ⟨rfl, rfl, rfl⟩) rfl hF (fun h2 hF => ?_)
  refine v_aload_n (pc := 14) (i := 0) dX5_init_14 rfl rfl ?_
  refine v_new (pc := 15) (ci := 2) (k := 7) (n := 309) dX5_init_15 (by decide) ccX5_19 ins_2 ini_2 ?_
  refine v_dup (pc := 18) dX5_init_18 rfl ?_
  refine ch_I (pc := 19) (as := []) (st := [sr (some (hN h2)), sr (some a0)]) (N := mX3_init) (k := 3) (n := 105) (k1 := 4) (n1 := 204) dX5_init_19 lkX5_21 caX3_init ciX3_init rfl rfl rfl (fun Q1 hq => tX3_init (hN h2) (wN h2 (3, 0)) Q1 hq) ⟨by decide, by decide⟩ (Nat.le_of_ble_eq_true rfl) rfl hF (fun x3 h4 hF => ?_)
  refine s_putR (pc := 22) dX5_init_22 flX5_22 (Or.inr ⟨rfl, rfl, rfl⟩) rfl hF (fun h5 hF => ?_)
  refine v_aload_n (pc := 25) (i := 0) dX5_init_25 rfl rfl ?_
  refine v_new (pc := 26) (ci := 7) (k := 2) (n := 102) dX5_init_26 (by decide) ccX5_26 ins_7 ini_7 ?_
  refine v_dup (pc := 29) dX5_init_29 rfl ?_
  refine cn_I (pc := 30) (as := []) (st := [sr (some (hN h5)), sr (some a0)]) (N := mX8_init) (k := 2) (n := 102) (k1 := 0) (n1 := 0) rfl rfl dX5_init_30 caX8_init ciX8_init rfl rfl rfl (fun Q1 hq => tX8_init (hN h5) (wN h5 (8, 0)) Q1 hq) ⟨by decide, by decide⟩ (Nat.le_of_ble_eq_true rfl) rfl hF (fun x6 h7 hF => ?_)
  refine s_putR (pc := 33) dX5_init_33 flX5_29 (Or.inr ⟨rfl, rfl, rfl⟩) rfl hF (fun h8 hF => ?_)
  refine v_aload_n (pc := 36) (i := 0) dX5_init_36 rfl rfl ?_
  refine v_new (pc := 37) (ci := 0) (k := 1) (n := 100) dX5_init_37 (by decide) ccX5_33 ins_0 ini_0 ?_
  refine v_dup (pc := 40) dX5_init_40 rfl ?_
  refine v_bipush (pc := 41) (v := (80 : Int32)) dX5_init_41 rfl ?_
  refine ch_I (pc := 43) (as := [si (80 : Int32)]) (st := [sr (some (hN h8)), sr (some a0)]) (N := mX1_init) (k := 0) (n := 0) (k1 := 1) (n1 := 100) dX5_init_43 lkX5_35 caX1_init ciX1_init rfl rfl rfl (fun Q1 hq => tX1_init (hN h8) (80 : Int32) (wN h8 (1, 0)) Q1 hq) ⟨by decide, by decide⟩ (Nat.le_of_ble_eq_true rfl) rfl hF (fun x9 h10 hF => ?_)
  refine s_putR (pc := 46) dX5_init_46 flX5_38 (Or.inr ⟨rfl, rfl, rfl⟩) rfl hF (fun h11 hF => ?_)
  refine v_aload_n (pc := 49) (i := 0) dX5_init_49 rfl rfl ?_
  refine v_aload_n (pc := 50) (i := 1) dX5_init_50 rfl rfl ?_
  refine s_getR (pc := 51) dX5_init_51 flX5_42 rfl hF (fun x12 hF => ?_)
  refine s_putR (pc := 54) dX5_init_54 flX5_48 (Or.inl rfl) rfl hF (fun h13 hF => ?_)
  refine v_aload_n (pc := 57) (i := 0) dX5_init_57 rfl rfl ?_
  refine s_getR (pc := 58) dX5_init_58 flX5_22 rfl hF (fun x14 hF => ?_)
  refine v_aload_n (pc := 61) (i := 0) dX5_init_61 rfl rfl ?_
  refine s_getR (pc := 62) dX5_init_62 flX5_48 rfl hF (fun x15 hF => ?_)
  refine v_iconst (pc := 65) (v := (0 : Int32)) dX5_init_65 rfl ?_
  refine ch_V (pc := 66) gU (as := [sr x15, si (0 : Int32)]) (st := []) (ci := 2) (N := mX3_keep) (k := 0) (n := 0) (k1 := 0) (n1 := 0) dX5_init_66 lkX5_51 caX3_keep cvX3_keep rfl (by decide) rfl (fun b Q1 hq => tX3_keep b x15 (0 : Int32) h13 Q1 hq) ⟨by decide, by decide⟩ (Nat.le_of_ble_eq_true rfl) rfl hF (fun x16 h17 hF => ?_)
  show gV G mX5_init 7 Q 69 [some (sr (some a0)), some (sr a1), some (sr a2)] [] (0) (0) h17
  exact v_ret (pc := 69) dX5_init_69 rfl (okr hF fun q => q)
/-! BrailleDesk$Reader.refreshPins -/
theorem tX5_refreshPins {G : gG} (a0 : Nat) (h : hp) (Q : hQ) (hF : okB (fX5_refreshPins a0 h) (pH gU Q)) : gS G mX5_refreshPins 7 0 0 [sr (some a0)] h Q := by
  delta fX5_refreshPins at hF
  refine gS_at [some (sr (some a0))] pl_X5 rfl (Nat.le_of_ble_eq_true rfl) rfl ?_
  refine v_aload_n (pc := 0) (i := 0) dX5_refreshPins_0 rfl rfl ?_
  refine s_getR (pc := 1) dX5_refreshPins_1 flX5_22 rfl hF (fun x1 hF => ?_)
  refine v_aload_n (pc := 4) (i := 0) dX5_refreshPins_4 rfl rfl ?_
  refine s_getR (pc := 5) dX5_refreshPins_5 flX5_48 rfl hF (fun x2 hF => ?_)
  refine v_aload_n (pc := 8) (i := 0) dX5_refreshPins_8 rfl rfl ?_
  refine s_getR (pc := 9) dX5_refreshPins_9 flX5_29 rfl hF (fun x3 hF => ?_)
  refine s_getI (pc := 12) dX5_refreshPins_12 flX5_55 rfl hF (fun x4 hF => ?_)
  refine ch_V (pc := 15) gU (as := [sr x2, si x4]) (st := []) (ci := 2) (N := mX3_keep) (k := 0) (n := 0) (k1 := 0) (n1 := 0) dX5_refreshPins_15 lkX5_51 caX3_keep cvX3_keep rfl (by decide) rfl (fun b Q1 hq => tX3_keep b x2 x4 h Q1 hq) ⟨by decide, by decide⟩ (Nat.le_of_ble_eq_true rfl) rfl hF (fun x5 h6 hF => ?_)
  show gV G mX5_refreshPins 7 Q 18 [some (sr (some a0))] [] (0) (0) h6
  exact v_ret (pc := 18) dX5_refreshPins_18 rfl (okr hF fun q => q)
/-! BrailleDesk$Reader.cellAnew -/
theorem tX5_cellAnew {G : gG} (a0 : Nat) (a1 : Int32) (h : hp) (Q : hQ) (hF : okB (fX5_cellAnew a0 a1 h) (pH gI Q)) : gS G mX5_cellAnew 7 0 0 [sr (some a0), si a1] h Q := by
  delta fX5_cellAnew at hF
  refine gS_at [some (sr (some a0)), some (si a1)] pl_X5 rfl (Nat.le_of_ble_eq_true rfl) rfl ?_
  refine v_aload_n (pc := 0) (i := 0) dX5_cellAnew_0 rfl rfl ?_
  refine s_getR (pc := 1) dX5_cellAnew_1 flX5_22 rfl hF (fun x1 hF => ?_)
  refine v_aload_n (pc := 4) (i := 0) dX5_cellAnew_4 rfl rfl ?_
  refine s_getR (pc := 5) dX5_cellAnew_5 flX5_48 rfl hF (fun x2 hF => ?_)
  refine v_aload_n (pc := 8) (i := 0) dX5_cellAnew_8 rfl rfl ?_
  refine s_getR (pc := 9) dX5_cellAnew_9 flX5_29 rfl hF (fun x3 hF => ?_)
  refine s_getI (pc := 12) dX5_cellAnew_12 flX5_55 rfl hF (fun x4 hF => ?_)
  refine v_iload_n (pc := 15) (i := 1) dX5_cellAnew_15 rfl rfl ?_
  refine ch_V (pc := 16) gI (as := [sr x2, si x4, si a1]) (st := []) (ci := 2) (N := mX3_cellAnew) (k := 0) (n := 0) (k1 := 0) (n1 := 0) dX5_cellAnew_16 lkX5_59 caX3_cellAnew cvX3_cellAnew rfl (by decide) rfl (fun b Q1 hq => tX3_cellAnew b x2 x4 a1 h Q1 hq) ⟨by decide, by decide⟩ (Nat.le_of_ble_eq_true rfl) rfl hF (fun x5 h6 hF => ?_)
  show gV G mX5_cellAnew 7 Q 19 [some (sr (some a0)), some (si a1)] [si x5] (0) (0) h6
  exact v_iret (pc := 19) dX5_cellAnew_19 rfl rfl (okr hF fun q => q)
/-! BrailleDesk$Reader.wordsOf -/
theorem tX5_wordsOf {G : gG} (a0 : Nat) (a1 : (Option Nat)) (h : hp) (Q : hQ) (hF : okB (fX5_wordsOf a0 a1 h) (pH gR Q)) : gS G mX5_wordsOf 6 0 0 [sr (some a0), sr a1] h Q := by
  delta fX5_wordsOf at hF
  refine gS_at [some (sr (some a0)), some (sr a1)] pl_X5 rfl (Nat.le_of_ble_eq_true rfl) rfl ?_
  refine v_aload_n (pc := 0) (i := 0) dX5_wordsOf_0 rfl rfl ?_
  refine s_getR (pc := 1) dX5_wordsOf_1 flX5_38 rfl hF (fun x1 hF => ?_)
  refine ch_V (pc := 4) gU (as := []) (st := []) (ci := 0) (N := mX1_clear) (k := 0) (n := 0) (k1 := 0) (n1 := 0) dX5_wordsOf_4 lkX5_63 caX1_clear cvX1_clear rfl (by decide) rfl (fun b Q1 hq => tX1_clear b h Q1 hq) ⟨by decide, by decide⟩ (Nat.le_of_ble_eq_true rfl) rfl hF (fun x2 h3 hF => ?_)
  show gV G mX5_wordsOf 6 Q 7 [some (sr (some a0)), some (sr a1)] [] (0) (0) h3
  refine v_aload_n (pc := 7) (i := 1) dX5_wordsOf_7 rfl rfl ?_
  refine v_aload_n (pc := 8) (i := 0) dX5_wordsOf_8 rfl rfl ?_
  refine s_getR (pc := 9) dX5_wordsOf_9 flX5_38 rfl hF (fun x4 hF => ?_)
  refine ch_V (pc := 12) gU (as := [sr x4]) (st := []) (ci := 1) (N := mX2_putWords) (k := 0) (n := 0) (k1 := 0) (n1 := 0) dX5_wordsOf_12 lkX5_66 caX2_putWords cvX2_putWords rfl (by decide) rfl (fun b Q1 hq => tX2_putWords b x4 h3 Q1 hq) ⟨by decide, by decide⟩ (Nat.le_of_ble_eq_true rfl) rfl hF (fun x5 h6 hF => ?_)
  show gV G mX5_wordsOf 6 Q 15 [some (sr (some a0)), some (sr a1)] [] (0) (0) h6
  refine v_aload_n (pc := 15) (i := 0) dX5_wordsOf_15 rfl rfl ?_
  refine s_getR (pc := 16) dX5_wordsOf_16 flX5_38 rfl hF (fun x7 hF => ?_)
  exact v_aret (pc := 19) dX5_wordsOf_19 rfl (Or.inl ⟨_, rfl⟩) (okr hF fun q => q)
/-! BrailleDesk$Reader.moveTo -/
theorem tX5_moveTo {G : gG} (a0 : Nat) (a1 : (Option Nat)) (h : hp) (Q : hQ) (hF : okB (fX5_moveTo a0 a1 h) (pH gU Q)) : gS G mX5_moveTo 0 0 0 [sr (some a0), sr a1] h Q := by
  delta fX5_moveTo at hF
  refine gS_at [some (sr (some a0)), some (sr a1)] pl_X5 rfl (Nat.le_of_ble_eq_true rfl) rfl ?_
  refine v_aload_n (pc := 0) (i := 1) dX5_moveTo_0 rfl rfl ?_
  refine v_aload_n (pc := 1) (i := 0) dX5_moveTo_1 rfl rfl ?_
  refine s_getR (pc := 2) dX5_moveTo_2 flX5_48 rfl hF (fun x1 hF => ?_)
  refine v_acmp_eq (pc := 5) 21 dX5_moveTo_5 rfl (fun hc => ?_) (fun hc => ?_)
  · replace hF := (okB_if hF).1 hc
    exact v_ret (pc := 21) dX5_moveTo_21 rfl (okr hF fun q => q)
  replace hF := (okB_if hF).2 hc
  refine v_aload_n (pc := 8) (i := 0) dX5_moveTo_8 rfl rfl ?_
  refine v_aload_n (pc := 9) (i := 1) dX5_moveTo_9 rfl rfl ?_
  refine s_putR (pc := 10) dX5_moveTo_10 flX5_48 (Or.inl rfl) rfl hF (fun h2 hF => ?_)
  refine v_aload_n (pc := 13) (i := 0) dX5_moveTo_13 rfl rfl ?_
  refine s_getR (pc := 14) dX5_moveTo_14 flX5_22 rfl hF (fun x3 hF => ?_)
  refine v_iconst (pc := 17) (v := (0 : Int32)) dX5_moveTo_17 rfl ?_
  refine s_putI (pc := 18) dX5_moveTo_18 flX5_168 (Or.inl rfl) rfl hF (fun h4 hF => ?_)
  exact v_ret (pc := 21) dX5_moveTo_21 rfl (okr hF fun q => q)
/-! BrailleDesk$Reader.lose -/
theorem tX5_lose {G : gG} (a0 : Nat) (a1 : (Option Nat)) (a2 : (Option Nat)) (h : hp) (Q : hQ) (hF : okB (fX5_lose a0 a1 a2 h) (pH gU Q)) : gS G mX5_lose 7 0 0 [sr (some a0), sr a1, sr a2] h Q := by
  delta fX5_lose at hF
  refine gS_at [some (sr (some a0)), some (sr a1), some (sr a2)] pl_X5 rfl (Nat.le_of_ble_eq_true rfl) rfl ?_
  refine v_aload_n (pc := 0) (i := 0) dX5_lose_0 rfl rfl ?_
  refine s_getR (pc := 1) dX5_lose_1 flX5_72 rfl hF (fun x1 hF => ?_)
  refine mg (X := fun q2 => gV G mX5_lose 7 Q 30 [some (sr (some a0)), some (sr a1), some (sr a2)] [] (0) (0) q2) hF (fun _ hj3 hF => ?_) (fun q2 hF => ?_)
  · refine s_ifnull (pc := 4) 30 dX5_lose_4 rfl hF (fun hF => ?_) (fun hF => ?_)
    · exact v_lle [some (sr (some a0)), some (sr a1), some (sr a2)] ⟨rfl, rfl, rfl, trivial⟩ (hj3 h (okB_some hF))
    refine v_aload_n (pc := 7) (i := 0) dX5_lose_7 rfl rfl ?_
    refine s_getR (pc := 8) dX5_lose_8 flX5_72 rfl hF (fun x4 hF => ?_)
    refine v_aload_n (pc := 11) (i := 1) dX5_lose_11 rfl rfl ?_
    refine cp_V (pc := 12) gI (as := [sr a1]) (st := []) (ci := 1) (N := mX2_isWithin) (k := 0) (n := 0) (k1 := 0) (n1 := 0) dX5_lose_12 lkX5_75 caX2_isWithin cvX2_isWithin rfl (by decide) rfl (fun b Q1 hq => tX2_isWithin b a1 h Q1 hq) ⟨by decide, by decide⟩ (Nat.le_of_ble_eq_true rfl) rfl hF (fun x5 hF => ?_)
    show gV G mX5_lose 7 Q 15 [some (sr (some a0)), some (sr a1), some (sr a2)] [si x5] (0) (0) h
    refine v_if_eq (pc := 15) 30 dX5_lose_15 rfl (fun hc => ?_) (fun hc => ?_)
    · replace hF := (okB_if hF).1 hc
      exact v_lle [some (sr (some a0)), some (sr a1), some (sr a2)] ⟨rfl, rfl, rfl, trivial⟩ (hj3 h (okB_some hF))
    replace hF := (okB_if hF).2 hc
    refine v_aload_n (pc := 18) (i := 0) dX5_lose_18 rfl rfl ?_
    refine v_null (pc := 19) dX5_lose_19 ?_
    refine s_putR (pc := 20) dX5_lose_20 flX5_72 (Or.inl rfl) rfl hF (fun h6 hF => ?_)
    refine v_aload_n (pc := 23) (i := 0) dX5_lose_23 rfl rfl ?_
    refine s_getR (pc := 24) dX5_lose_24 flX5_29 rfl hF (fun x7 hF => ?_)
    refine ch_V (pc := 27) gU (as := []) (st := []) (ci := 7) (N := mX8_end) (k := 0) (n := 0) (k1 := 0) (n1 := 0) dX5_lose_27 lkX5_79 caX8_end cvX8_end rfl (by decide) rfl (fun b Q1 hq => tX8_end b h6 Q1 hq) ⟨by decide, by decide⟩ (Nat.le_of_ble_eq_true rfl) rfl hF (fun x8 h9 hF => ?_)
    show gV G mX5_lose 7 Q 30 [some (sr (some a0)), some (sr a1), some (sr a2)] [] (0) (0) h9
    exact v_lle [some (sr (some a0)), some (sr a1), some (sr a2)] ⟨rfl, rfl, rfl, trivial⟩ (hj3 h9 (okB_some hF))
  refine v_aload_n (pc := 30) (i := 0) dX5_lose_30 rfl rfl ?_
  refine s_getR (pc := 31) dX5_lose_31 flX5_48 rfl hF (fun x10 hF => ?_)
  refine v_aload_n (pc := 34) (i := 1) dX5_lose_34 rfl rfl ?_
  refine cp_V (pc := 35) gI (as := [sr a1]) (st := []) (ci := 1) (N := mX2_isWithin) (k := 0) (n := 0) (k1 := 0) (n1 := 0) dX5_lose_35 lkX5_75 caX2_isWithin cvX2_isWithin rfl (by decide) rfl (fun b Q1 hq => tX2_isWithin b a1 q2 Q1 hq) ⟨by decide, by decide⟩ (Nat.le_of_ble_eq_true rfl) rfl hF (fun x11 hF => ?_)
  show gV G mX5_lose 7 Q 38 [some (sr (some a0)), some (sr a1), some (sr a2)] [si x11] (0) (0) q2
  refine mg (X := fun q12 => gV G mX5_lose 7 Q 84 [some (sr (some a0)), none, none] [] (0) (0) q12) hF (fun _ hj13 hF => ?_) (fun q12 hF => ?_)
  · refine v_if_eq (pc := 38) 84 dX5_lose_38 rfl (fun hc => ?_) (fun hc => ?_)
    · replace hF := (okB_if hF).1 hc
      exact v_lle [some (sr (some a0)), none, none] ⟨rfl, trivial⟩ (hj13 q2 (okB_some hF))
    replace hF := (okB_if hF).2 hc
    refine v_aload_n (pc := 41) (i := 0) dX5_lose_41 rfl rfl ?_
    refine v_aload_n (pc := 42) (i := 2) dX5_lose_42 rfl rfl ?_
    refine ch_V (pc := 43) gU (as := [sr a2]) (st := []) (ci := 4) (N := mX5_moveTo) (k := 0) (n := 0) (k1 := 0) (n1 := 0) dX5_lose_43 lkX5_82 caX5_moveTo cvX5_moveTo rfl (by decide) rfl (fun b Q1 hq => tX5_moveTo b a2 q2 Q1 hq) ⟨by decide, by decide⟩ (Nat.le_of_ble_eq_true rfl) rfl hF (fun x14 h15 hF => ?_)
    show gV G mX5_lose 7 Q 46 [some (sr (some a0)), some (sr a1), some (sr a2)] [] (0) (0) h15
    refine v_aload_n (pc := 46) (i := 0) dX5_lose_46 rfl rfl ?_
    refine s_getR (pc := 47) dX5_lose_47 flX5_38 rfl hF (fun x16 hF => ?_)
    refine ch_V (pc := 50) gU (as := []) (st := []) (ci := 0) (N := mX1_clear) (k := 0) (n := 0) (k1 := 0) (n1 := 0) dX5_lose_50 lkX5_63 caX1_clear cvX1_clear rfl (by decide) rfl (fun b Q1 hq => tX1_clear b h15 Q1 hq) ⟨by decide, by decide⟩ (Nat.le_of_ble_eq_true rfl) rfl hF (fun x17 h18 hF => ?_)
    show gV G mX5_lose 7 Q 53 [some (sr (some a0)), some (sr a1), some (sr a2)] [] (0) (0) h18
    refine v_aload_n (pc := 53) (i := 0) dX5_lose_53 rfl rfl ?_
    refine s_getR (pc := 54) dX5_lose_54 flX5_38 rfl hF (fun x19 hF => ?_)
    refine v_ldcS (pc := 57) 19 dX5_lose_57 rfl ?_
    refine ch_V (pc := 59) gU (as := [sr (some (ga G 19))]) (st := []) (ci := 0) (N := mX1_part_) (k := 0) (n := 0) (k1 := 0) (n1 := 0) dX5_lose_59 lkX5_88 caX1_part_ cvX1_part_ rfl (by decide) rfl (fun b Q1 hq => tX1_part_ b 19 h18 Q1 hq) ⟨by decide, by decide⟩ (Nat.le_of_ble_eq_true rfl) rfl hF (fun x20 h21 hF => ?_)
    show gV G mX5_lose 7 Q 62 [some (sr (some a0)), some (sr a1), some (sr a2)] [] (0) (0) h21
    refine v_aload_n (pc := 62) (i := 0) dX5_lose_62 rfl rfl ?_
    refine s_getR (pc := 63) dX5_lose_63 flX5_48 rfl hF (fun x22 hF => ?_)
    refine v_aload_n (pc := 66) (i := 0) dX5_lose_66 rfl rfl ?_
    refine s_getR (pc := 67) dX5_lose_67 flX5_38 rfl hF (fun x23 hF => ?_)
    refine ch_V (pc := 70) gU (as := [sr x23]) (st := []) (ci := 1) (N := mX2_putWords) (k := 0) (n := 0) (k1 := 0) (n1 := 0) dX5_lose_70 lkX5_66 caX2_putWords cvX2_putWords rfl (by decide) rfl (fun b Q1 hq => tX2_putWords b x23 h21 Q1 hq) ⟨by decide, by decide⟩ (Nat.le_of_ble_eq_true rfl) rfl hF (fun x24 h25 hF => ?_)
    show gV G mX5_lose 7 Q 73 [some (sr (some a0)), some (sr a1), some (sr a2)] [] (0) (0) h25
    refine v_aload_n (pc := 73) (i := 0) dX5_lose_73 rfl rfl ?_
    refine s_getR (pc := 74) dX5_lose_74 flX5_15 rfl hF (fun x26 hF => ?_)
    refine v_aload_n (pc := 77) (i := 0) dX5_lose_77 rfl rfl ?_
    refine s_getR (pc := 78) dX5_lose_78 flX5_38 rfl hF (fun x27 hF => ?_)
    refine ch_V (pc := 81) gU (as := [sr x27]) (st := []) (ci := 8) (N := mX9_comeAlert) (k := 0) (n := 0) (k1 := 0) (n1 := 0) dX5_lose_81 lkX5_92 caX9_comeAlert cvX9_comeAlert rfl (by decide) rfl (fun b Q1 hq => tX9_comeAlert b x27 h25 Q1 hq) ⟨by decide, by decide⟩ (Nat.le_of_ble_eq_true rfl) rfl hF (fun x28 h29 hF => ?_)
    show gV G mX5_lose 7 Q 84 [some (sr (some a0)), some (sr a1), some (sr a2)] [] (0) (0) h29
    exact v_lle [some (sr (some a0)), none, none] ⟨rfl, trivial⟩ (hj13 h29 (okB_some hF))
  refine v_aload_n (pc := 84) (i := 0) dX5_lose_84 rfl rfl ?_
  refine s_getR (pc := 85) dX5_lose_85 flX5_22 rfl hF (fun x30 hF => ?_)
  refine v_aload_n (pc := 88) (i := 0) dX5_lose_88 rfl rfl ?_
  refine s_getR (pc := 89) dX5_lose_89 flX5_48 rfl hF (fun x31 hF => ?_)
  refine v_aload_n (pc := 92) (i := 0) dX5_lose_92 rfl rfl ?_
  refine s_getR (pc := 93) dX5_lose_93 flX5_29 rfl hF (fun x32 hF => ?_)
  refine s_getI (pc := 96) dX5_lose_96 flX5_55 rfl hF (fun x33 hF => ?_)
  refine ch_V (pc := 99) gU (as := [sr x31, si x33]) (st := []) (ci := 2) (N := mX3_keep) (k := 0) (n := 0) (k1 := 0) (n1 := 0) dX5_lose_99 lkX5_51 caX3_keep cvX3_keep rfl (by decide) rfl (fun b Q1 hq => tX3_keep b x31 x33 q12 Q1 hq) ⟨by decide, by decide⟩ (Nat.le_of_ble_eq_true rfl) rfl hF (fun x34 h35 hF => ?_)
  show gV G mX5_lose 7 Q 102 [some (sr (some a0)), none, none] [] (0) (0) h35
  exact v_ret (pc := 102) dX5_lose_102 rfl (okr hF fun q => q)

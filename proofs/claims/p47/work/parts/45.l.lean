/-! ===== the law's methods over its arrays: their functions and rows ===== -/
theorem dL_set_0 : decode cL_set 0 = .ok (.iload_n 1, 1) := by decide +kernel
theorem dL_set_1 : decode cL_set 1 = .ok (.bipush 20, 2) := by decide +kernel
theorem dL_set_3 : decode cL_set 3 = .ok (.irem, 1) := by decide +kernel
theorem dL_set_4 : decode cL_set 4 = .ok (.istore_n 2, 1) := by decide +kernel
theorem dL_set_5 : decode cL_set 5 = .ok (.aload_n 0, 1) := by decide +kernel
theorem dL_set_6 : decode cL_set 6 = .ok (.iconst 4, 1) := by decide +kernel
theorem dL_set_7 : decode cL_set 7 = .ok (.iaload, 1) := by decide +kernel
theorem dL_set_8 : decode cL_set 8 = .ok (.iconst 1, 1) := by decide +kernel
theorem dL_set_9 : decode cL_set 9 = .ok (.if_icmp .ne 122, 3) := by decide +kernel
theorem dL_set_12 : decode cL_set 12 = .ok (.iload_n 2, 1) := by decide +kernel
theorem dL_set_13 : decode cL_set 13 = .ok (.iconst 3, 1) := by decide +kernel
theorem dL_set_14 : decode cL_set 14 = .ok (.if_icmp .le 117, 3) := by decide +kernel
theorem dL_set_17 : decode cL_set 17 = .ok (.iload_n 1, 1) := by decide +kernel
theorem dL_set_18 : decode cL_set 18 = .ok (.bipush 20, 2) := by decide +kernel
theorem dL_set_20 : decode cL_set 20 = .ok (.idiv, 1) := by decide +kernel
theorem dL_set_21 : decode cL_set 21 = .ok (.bipush 13, 2) := by decide +kernel
theorem dL_set_23 : decode cL_set 23 = .ok (.irem, 1) := by decide +kernel
theorem dL_set_24 : decode cL_set 24 = .ok (.istore_n 3, 1) := by decide +kernel
theorem dL_set_25 : decode cL_set 25 = .ok (.iload_n 3, 1) := by decide +kernel
theorem dL_set_26 : decode cL_set 26 = .ok (.bipush 6, 2) := by decide +kernel
theorem dL_set_28 : decode cL_set 28 = .ok (.if_icmp .ge 17, 3) := by decide +kernel
theorem dL_set_31 : decode cL_set 31 = .ok (.iload_n 1, 1) := by decide +kernel
theorem dL_set_32 : decode cL_set 32 = .ok (.sipush 260, 3) := by decide +kernel
theorem dL_set_35 : decode cL_set 35 = .ok (.idiv, 1) := by decide +kernel
theorem dL_set_36 : decode cL_set 36 = .ok (.bipush 26, 2) := by decide +kernel
theorem dL_set_38 : decode cL_set 38 = .ok (.irem, 1) := by decide +kernel
theorem dL_set_39 : decode cL_set 39 = .ok (.invokestatic 59, 3) := by decide +kernel
theorem dL_set_42 : decode cL_set 42 = .ok (.goto 88, 3) := by decide +kernel
theorem dL_set_45 : decode cL_set 45 = .ok (.iload_n 3, 1) := by decide +kernel
theorem dL_set_46 : decode cL_set 46 = .ok (.bipush 6, 2) := by decide +kernel
theorem dL_set_48 : decode cL_set 48 = .ok (.if_icmp .ne 8, 3) := by decide +kernel
theorem dL_set_51 : decode cL_set 51 = .ok (.bipush 32, 2) := by decide +kernel
theorem dL_set_53 : decode cL_set 53 = .ok (.goto 77, 3) := by decide +kernel
theorem dL_set_56 : decode cL_set 56 = .ok (.iload_n 3, 1) := by decide +kernel
theorem dL_set_57 : decode cL_set 57 = .ok (.bipush 7, 2) := by decide +kernel
theorem dL_set_59 : decode cL_set 59 = .ok (.if_icmp .ne 8, 3) := by decide +kernel
theorem dL_set_62 : decode cL_set 62 = .ok (.bipush 60, 2) := by decide +kernel
theorem dL_set_64 : decode cL_set 64 = .ok (.goto 66, 3) := by decide +kernel
theorem dL_set_67 : decode cL_set 67 = .ok (.iload_n 3, 1) := by decide +kernel
theorem dL_set_68 : decode cL_set 68 = .ok (.bipush 8, 2) := by decide +kernel
theorem dL_set_70 : decode cL_set 70 = .ok (.if_icmp .ne 8, 3) := by decide +kernel
theorem dL_set_73 : decode cL_set 73 = .ok (.bipush 48, 2) := by decide +kernel
theorem dL_set_75 : decode cL_set 75 = .ok (.goto 55, 3) := by decide +kernel
theorem dL_set_78 : decode cL_set 78 = .ok (.iload_n 3, 1) := by decide +kernel
theorem dL_set_79 : decode cL_set 79 = .ok (.bipush 9, 2) := by decide +kernel
theorem dL_set_81 : decode cL_set 81 = .ok (.if_icmp .ne 9, 3) := by decide +kernel
theorem dL_set_84 : decode cL_set 84 = .ok (.sipush 256, 3) := by decide +kernel
theorem dL_set_87 : decode cL_set 87 = .ok (.goto 43, 3) := by decide +kernel
theorem dL_set_90 : decode cL_set 90 = .ok (.iload_n 3, 1) := by decide +kernel
theorem dL_set_91 : decode cL_set 91 = .ok (.bipush 10, 2) := by decide +kernel
theorem dL_set_93 : decode cL_set 93 = .ok (.if_icmp .ne 23, 3) := by decide +kernel
theorem dL_set_96 : decode cL_set 96 = .ok (.iload_n 1, 1) := by decide +kernel
theorem dL_set_97 : decode cL_set 97 = .ok (.sipush 260, 3) := by decide +kernel
theorem dL_set_100 : decode cL_set 100 = .ok (.idiv, 1) := by decide +kernel
theorem dL_set_101 : decode cL_set 101 = .ok (.iconst 2, 1) := by decide +kernel
theorem dL_set_102 : decode cL_set 102 = .ok (.irem, 1) := by decide +kernel
theorem dL_set_103 : decode cL_set 103 = .ok (.ifCond .ne 8, 3) := by decide +kernel
theorem dL_set_106 : decode cL_set 106 = .ok (.bipush 50, 2) := by decide +kernel
theorem dL_set_108 : decode cL_set 108 = .ok (.goto 22, 3) := by decide +kernel
theorem dL_set_111 : decode cL_set 111 = .ok (.bipush 38, 2) := by decide +kernel
theorem dL_set_113 : decode cL_set 113 = .ok (.goto 17, 3) := by decide +kernel
theorem dL_set_116 : decode cL_set 116 = .ok (.iload_n 3, 1) := by decide +kernel
theorem dL_set_117 : decode cL_set 117 = .ok (.bipush 11, 2) := by decide +kernel
theorem dL_set_119 : decode cL_set 119 = .ok (.if_icmp .ne 8, 3) := by decide +kernel
theorem dL_set_122 : decode cL_set 122 = .ok (.bipush 64, 2) := by decide +kernel
theorem dL_set_124 : decode cL_set 124 = .ok (.goto 6, 3) := by decide +kernel
theorem dL_set_127 : decode cL_set 127 = .ok (.sipush 128, 3) := by decide +kernel
theorem dL_set_130 : decode cL_set 130 = .ok (.ireturn, 1) := by decide +kernel
theorem dL_set_131 : decode cL_set 131 = .ok (.iload_n 2, 1) := by decide +kernel
theorem dL_set_132 : decode cL_set 132 = .ok (.ifCond .ne 7, 3) := by decide +kernel
theorem dL_set_135 : decode cL_set 135 = .ok (.iconst 1, 1) := by decide +kernel
theorem dL_set_136 : decode cL_set 136 = .ok (.goto 90, 3) := by decide +kernel
theorem dL_set_139 : decode cL_set 139 = .ok (.iload_n 2, 1) := by decide +kernel
theorem dL_set_140 : decode cL_set 140 = .ok (.iconst 4, 1) := by decide +kernel
theorem dL_set_141 : decode cL_set 141 = .ok (.if_icmp .ge 8, 3) := by decide +kernel
theorem dL_set_144 : decode cL_set 144 = .ok (.bipush 8, 2) := by decide +kernel
theorem dL_set_146 : decode cL_set 146 = .ok (.goto 80, 3) := by decide +kernel
theorem dL_set_149 : decode cL_set 149 = .ok (.iload_n 2, 1) := by decide +kernel
theorem dL_set_150 : decode cL_set 150 = .ok (.iconst 4, 1) := by decide +kernel
theorem dL_set_151 : decode cL_set 151 = .ok (.if_icmp .ne 7, 3) := by decide +kernel
theorem dL_set_154 : decode cL_set 154 = .ok (.iconst 4, 1) := by decide +kernel
theorem dL_set_155 : decode cL_set 155 = .ok (.goto 71, 3) := by decide +kernel
theorem dL_set_158 : decode cL_set 158 = .ok (.iload_n 2, 1) := by decide +kernel
theorem dL_set_159 : decode cL_set 159 = .ok (.bipush 7, 2) := by decide +kernel
theorem dL_set_161 : decode cL_set 161 = .ok (.if_icmp .ge 8, 3) := by decide +kernel
theorem dL_set_164 : decode cL_set 164 = .ok (.bipush 32, 2) := by decide +kernel
theorem dL_set_166 : decode cL_set 166 = .ok (.goto 60, 3) := by decide +kernel
theorem dL_set_169 : decode cL_set 169 = .ok (.iload_n 2, 1) := by decide +kernel
theorem dL_set_170 : decode cL_set 170 = .ok (.bipush 7, 2) := by decide +kernel
theorem dL_set_172 : decode cL_set 172 = .ok (.if_icmp .ne 7, 3) := by decide +kernel
theorem dL_set_175 : decode cL_set 175 = .ok (.iconst 2, 1) := by decide +kernel
theorem dL_set_176 : decode cL_set 176 = .ok (.goto 50, 3) := by decide +kernel
theorem dL_set_179 : decode cL_set 179 = .ok (.iload_n 2, 1) := by decide +kernel
theorem dL_set_180 : decode cL_set 180 = .ok (.bipush 8, 2) := by decide +kernel
theorem dL_set_182 : decode cL_set 182 = .ok (.if_icmp .ne 8, 3) := by decide +kernel
theorem dL_set_185 : decode cL_set 185 = .ok (.bipush 16, 2) := by decide +kernel
theorem dL_set_187 : decode cL_set 187 = .ok (.goto 39, 3) := by decide +kernel
theorem dL_set_190 : decode cL_set 190 = .ok (.iload_n 2, 1) := by decide +kernel
theorem dL_set_191 : decode cL_set 191 = .ok (.bipush 11, 2) := by decide +kernel
theorem dL_set_193 : decode cL_set 193 = .ok (.if_icmp .ge 8, 3) := by decide +kernel
theorem dL_set_196 : decode cL_set 196 = .ok (.bipush 30, 2) := by decide +kernel
theorem dL_set_198 : decode cL_set 198 = .ok (.goto 28, 3) := by decide +kernel
theorem dL_set_201 : decode cL_set 201 = .ok (.iload_n 2, 1) := by decide +kernel
theorem dL_set_202 : decode cL_set 202 = .ok (.bipush 14, 2) := by decide +kernel
theorem dL_set_204 : decode cL_set 204 = .ok (.if_icmp .ge 9, 3) := by decide +kernel
theorem dL_set_207 : decode cL_set 207 = .ok (.sipush 128, 3) := by decide +kernel
theorem dL_set_210 : decode cL_set 210 = .ok (.goto 16, 3) := by decide +kernel
theorem dL_set_213 : decode cL_set 213 = .ok (.iload_n 2, 1) := by decide +kernel
theorem dL_set_214 : decode cL_set 214 = .ok (.bipush 14, 2) := by decide +kernel
theorem dL_set_216 : decode cL_set 216 = .ok (.if_icmp .ne 8, 3) := by decide +kernel
theorem dL_set_219 : decode cL_set 219 = .ok (.bipush 7, 2) := by decide +kernel
theorem dL_set_221 : decode cL_set 221 = .ok (.goto 5, 3) := by decide +kernel
theorem dL_set_224 : decode cL_set 224 = .ok (.bipush 56, 2) := by decide +kernel
theorem dL_set_226 : decode cL_set 226 = .ok (.istore_n 3, 1) := by decide +kernel
theorem dL_set_227 : decode cL_set 227 = .ok (.iload_n 2, 1) := by decide +kernel
theorem dL_set_228 : decode cL_set 228 = .ok (.bipush 16, 2) := by decide +kernel
theorem dL_set_230 : decode cL_set 230 = .ok (.if_icmp .ge 11, 3) := by decide +kernel
theorem dL_set_233 : decode cL_set 233 = .ok (.sipush 256, 3) := by decide +kernel
theorem dL_set_236 : decode cL_set 236 = .ok (.iload_n 3, 1) := by decide +kernel
theorem dL_set_237 : decode cL_set 237 = .ok (.iadd, 1) := by decide +kernel
theorem dL_set_238 : decode cL_set 238 = .ok (.goto 32, 3) := by decide +kernel
theorem dL_set_241 : decode cL_set 241 = .ok (.iload_n 2, 1) := by decide +kernel
theorem dL_set_242 : decode cL_set 242 = .ok (.bipush 18, 2) := by decide +kernel
theorem dL_set_244 : decode cL_set 244 = .ok (.if_icmp .ge 16, 3) := by decide +kernel
theorem dL_set_247 : decode cL_set 247 = .ok (.iconst 1, 1) := by decide +kernel
theorem dL_set_248 : decode cL_set 248 = .ok (.iload_n 1, 1) := by decide +kernel
theorem dL_set_249 : decode cL_set 249 = .ok (.bipush 20, 2) := by decide +kernel
theorem dL_set_251 : decode cL_set 251 = .ok (.idiv, 1) := by decide +kernel
theorem dL_set_252 : decode cL_set 252 = .ok (.sipush 511, 3) := by decide +kernel
theorem dL_set_255 : decode cL_set 255 = .ok (.irem, 1) := by decide +kernel
theorem dL_set_256 : decode cL_set 256 = .ok (.iadd, 1) := by decide +kernel
theorem dL_set_257 : decode cL_set 257 = .ok (.goto 13, 3) := by decide +kernel
theorem dL_set_260 : decode cL_set 260 = .ok (.iload_n 1, 1) := by decide +kernel
theorem dL_set_261 : decode cL_set 261 = .ok (.bipush 20, 2) := by decide +kernel
theorem dL_set_263 : decode cL_set 263 = .ok (.idiv, 1) := by decide +kernel
theorem dL_set_264 : decode cL_set 264 = .ok (.bipush 26, 2) := by decide +kernel
theorem dL_set_266 : decode cL_set 266 = .ok (.irem, 1) := by decide +kernel
theorem dL_set_267 : decode cL_set 267 = .ok (.invokestatic 59, 3) := by decide +kernel
theorem dL_set_270 : decode cL_set 270 = .ok (.ireturn, 1) := by decide +kernel
abbrev mL_set : gM := (yL_set, cL_set, 4, (Option.some FieldType.int), [])
theorem caL_set : cal mL_set 2 := ⟨xw 877 (by decide +kernel) rfl, xw 28 (by decide +kernel) rfl, by decide, by decide +kernel⟩
theorem csL_set : Cond.static yL_set ∈ XW := xw 876 (by decide +kernel) rfl
/-! BrailleDeskLaw.set -/
theorem tL_set {G : gG} (a0 : (Option Nat)) (a1 : Int32) (h : hp) (Q : hQ) (hF : okB (fL_set a0 a1 h) (pP gI Q h)) : gS G mL_set 1 0 0 [sr a0, si a1] h Q := by
  delta fL_set at hF
  refine gS_at [some (sr a0), some (si a1), none, none] pl_L rfl (Nat.le_of_ble_eq_true rfl) rfl ?_
  refine v_iload_n (pc := 0) (i := 1) dL_set_0 rfl rfl ?_
  refine v_bipush (pc := 1) (v := (20 : Int32)) dL_set_1 rfl ?_
  refine s_irem (pc := 3) dL_set_3 hF (fun hF => ?_)
  refine v_istore_n (pc := 4) (i := 2) [some (sr a0), some (si a1), some (si (a1 - a1 / (20 : Int32) * (20 : Int32))), none] dL_set_4 rfl (by decide) rfl rfl ?_
  refine v_aload_n (pc := 5) (i := 0) dL_set_5 rfl rfl ?_
  refine v_iconst (pc := 6) (v := (4 : Int32)) dL_set_6 rfl ?_
  refine s_iald (pc := 7) dL_set_7 hF (fun x1 hF => ?_)
  refine v_iconst (pc := 8) (v := (1 : Int32)) dL_set_8 rfl ?_
  refine mgR (X := fun q2 => gV G mL_set 1 Q 131 [none, some (si a1), some (si (a1 - a1 / (20 : Int32) * (20 : Int32))), none] [] (0) (0) h) hF (fun _ hj3 hr3 hF => ?_) (fun q2 hF => ?_)
  · refine v_icmp_ne (pc := 9) 131 dL_set_9 rfl (fun hc => ?_) (fun hc => ?_)
    · replace hF := (okB_if hF).2 hc
      exact v_lle [none, some (si a1), some (si (a1 - a1 / (20 : Int32) * (20 : Int32))), none] ⟨rfl, rfl, trivial⟩ (hj3 () (okB_some hF))
    replace hF := (okB_if hF).1 hc
    refine v_iload_n (pc := 12) (i := 2) dL_set_12 rfl rfl ?_
    refine v_iconst (pc := 13) (v := (3 : Int32)) dL_set_13 rfl ?_
    refine v_icmp_le (pc := 14) 131 dL_set_14 rfl (fun hc => ?_) (fun hc => ?_)
    · replace hF := (okB_if hF).1 hc
      exact v_lle [none, some (si a1), some (si (a1 - a1 / (20 : Int32) * (20 : Int32))), none] ⟨rfl, rfl, trivial⟩ (hj3 () (okB_some hF))
    replace hF := (okB_if hF).2 hc
    refine v_iload_n (pc := 17) (i := 1) dL_set_17 rfl rfl ?_
    refine v_bipush (pc := 18) (v := (20 : Int32)) dL_set_18 rfl ?_
    refine s_idiv (pc := 20) dL_set_20 hF (fun hF => ?_)
    refine v_bipush (pc := 21) (v := (13 : Int32)) dL_set_21 rfl ?_
    refine s_irem (pc := 23) dL_set_23 hF (fun hF => ?_)
    refine v_istore_n (pc := 24) (i := 3) [some (sr a0), some (si a1), some (si (a1 - a1 / (20 : Int32) * (20 : Int32))), some (si ((a1 / (20 : Int32)) - (a1 / (20 : Int32)) / (13 : Int32) * (13 : Int32)))] dL_set_24 rfl (by decide) rfl rfl ?_
    refine v_iload_n (pc := 25) (i := 3) dL_set_25 rfl rfl ?_
    refine v_bipush (pc := 26) (v := (6 : Int32)) dL_set_26 rfl ?_
    refine v_icmp_ge (pc := 28) 45 dL_set_28 rfl (fun hc => ?_) (fun hc => ?_)
    · replace hF := (okB_if hF).1 hc
      refine v_iload_n (pc := 45) (i := 3) dL_set_45 rfl rfl ?_
      refine v_bipush (pc := 46) (v := (6 : Int32)) dL_set_46 rfl ?_
      refine v_icmp_ne (pc := 48) 56 dL_set_48 rfl (fun hc => ?_) (fun hc => ?_)
      · replace hF := (okB_if hF).2 hc
        refine v_iload_n (pc := 56) (i := 3) dL_set_56 rfl rfl ?_
        refine v_bipush (pc := 57) (v := (7 : Int32)) dL_set_57 rfl ?_
        refine v_icmp_ne (pc := 59) 67 dL_set_59 rfl (fun hc => ?_) (fun hc => ?_)
        · replace hF := (okB_if hF).2 hc
          refine v_iload_n (pc := 67) (i := 3) dL_set_67 rfl rfl ?_
          refine v_bipush (pc := 68) (v := (8 : Int32)) dL_set_68 rfl ?_
          refine v_icmp_ne (pc := 70) 78 dL_set_70 rfl (fun hc => ?_) (fun hc => ?_)
          · replace hF := (okB_if hF).2 hc
            refine v_iload_n (pc := 78) (i := 3) dL_set_78 rfl rfl ?_
            refine v_bipush (pc := 79) (v := (9 : Int32)) dL_set_79 rfl ?_
            refine v_icmp_ne (pc := 81) 90 dL_set_81 rfl (fun hc => ?_) (fun hc => ?_)
            · replace hF := (okB_if hF).2 hc
              refine v_iload_n (pc := 90) (i := 3) dL_set_90 rfl rfl ?_
              refine v_bipush (pc := 91) (v := (10 : Int32)) dL_set_91 rfl ?_
              refine v_icmp_ne (pc := 93) 116 dL_set_93 rfl (fun hc => ?_) (fun hc => ?_)
              · replace hF := (okB_if hF).2 hc
                refine v_iload_n (pc := 116) (i := 3) dL_set_116 rfl rfl ?_
                refine v_bipush (pc := 117) (v := (11 : Int32)) dL_set_117 rfl ?_
                refine v_icmp_ne (pc := 119) 127 dL_set_119 rfl (fun hc => ?_) (fun hc => ?_)
                · replace hF := (okB_if hF).2 hc
                  refine v_sipush (pc := 127) (v := (128 : Int32)) dL_set_127 rfl ?_
                  exact v_iret (pc := 130) dL_set_130 rfl rfl (hr3 _ (okB_some hF))
                replace hF := (okB_if hF).1 hc
                refine v_bipush (pc := 122) (v := (64 : Int32)) dL_set_122 rfl ?_
                refine v_goto (pc := 124) 130 dL_set_124 rfl ?_
                exact v_iret (pc := 130) dL_set_130 rfl rfl (hr3 _ (okB_some hF))
              replace hF := (okB_if hF).1 hc
              refine v_iload_n (pc := 96) (i := 1) dL_set_96 rfl rfl ?_
              refine v_sipush (pc := 97) (v := (260 : Int32)) dL_set_97 rfl ?_
              refine s_idiv (pc := 100) dL_set_100 hF (fun hF => ?_)
              refine v_iconst (pc := 101) (v := (2 : Int32)) dL_set_101 rfl ?_
              refine s_irem (pc := 102) dL_set_102 hF (fun hF => ?_)
              refine v_if_ne (pc := 103) 111 dL_set_103 rfl (fun hc => ?_) (fun hc => ?_)
              · replace hF := (okB_if hF).2 hc
                refine v_bipush (pc := 111) (v := (38 : Int32)) dL_set_111 rfl ?_
                refine v_goto (pc := 113) 130 dL_set_113 rfl ?_
                exact v_iret (pc := 130) dL_set_130 rfl rfl (hr3 _ (okB_some hF))
              replace hF := (okB_if hF).1 hc
              refine v_bipush (pc := 106) (v := (50 : Int32)) dL_set_106 rfl ?_
              refine v_goto (pc := 108) 130 dL_set_108 rfl ?_
              exact v_iret (pc := 130) dL_set_130 rfl rfl (hr3 _ (okB_some hF))
            replace hF := (okB_if hF).1 hc
            refine v_sipush (pc := 84) (v := (256 : Int32)) dL_set_84 rfl ?_
            refine v_goto (pc := 87) 130 dL_set_87 rfl ?_
            exact v_iret (pc := 130) dL_set_130 rfl rfl (hr3 _ (okB_some hF))
          replace hF := (okB_if hF).1 hc
          refine v_bipush (pc := 73) (v := (48 : Int32)) dL_set_73 rfl ?_
          refine v_goto (pc := 75) 130 dL_set_75 rfl ?_
          exact v_iret (pc := 130) dL_set_130 rfl rfl (hr3 _ (okB_some hF))
        replace hF := (okB_if hF).1 hc
        refine v_bipush (pc := 62) (v := (60 : Int32)) dL_set_62 rfl ?_
        refine v_goto (pc := 64) 130 dL_set_64 rfl ?_
        exact v_iret (pc := 130) dL_set_130 rfl rfl (hr3 _ (okB_some hF))
      replace hF := (okB_if hF).1 hc
      refine v_bipush (pc := 51) (v := (32 : Int32)) dL_set_51 rfl ?_
      refine v_goto (pc := 53) 130 dL_set_53 rfl ?_
      exact v_iret (pc := 130) dL_set_130 rfl rfl (hr3 _ (okB_some hF))
    replace hF := (okB_if hF).2 hc
    refine v_iload_n (pc := 31) (i := 1) dL_set_31 rfl rfl ?_
    refine v_sipush (pc := 32) (v := (260 : Int32)) dL_set_32 rfl ?_
    refine s_idiv (pc := 35) dL_set_35 hF (fun hF => ?_)
    refine v_bipush (pc := 36) (v := (26 : Int32)) dL_set_36 rfl ?_
    refine s_irem (pc := 38) dL_set_38 hF (fun hF => ?_)
    refine cp_S (pc := 39) gI (as := [si ((a1 / (260 : Int32)) - (a1 / (260 : Int32)) / (26 : Int32) * (26 : Int32))]) (st := []) (N := mL_points) (k := 0) (n := 0) (k1 := 0) (n1 := 0) dL_set_39 lkL_59 caL_points csL_points rfl (fun Q1 hq => tL_points ((a1 / (260 : Int32)) - (a1 / (260 : Int32)) / (26 : Int32) * (26 : Int32)) h Q1 hq) ⟨by decide, by decide⟩ (Nat.le_of_ble_eq_true rfl) rfl hF (fun x4 hF => ?_)
    show gV G mL_set 1 Q 42 [some (sr a0), some (si a1), some (si (a1 - a1 / (20 : Int32) * (20 : Int32))), some (si ((a1 / (20 : Int32)) - (a1 / (20 : Int32)) / (13 : Int32) * (13 : Int32)))] [si x4] (0) (0) h
    refine v_goto (pc := 42) 130 dL_set_42 rfl ?_
    exact v_iret (pc := 130) dL_set_130 rfl rfl (hr3 _ (okB_some hF))
  refine v_iload_n (pc := 131) (i := 2) dL_set_131 rfl rfl ?_
  refine mg (X := fun q5 => gV G mL_set 1 Q 226 [none, some (si a1), some (si (a1 - a1 / (20 : Int32) * (20 : Int32))), none] [si q5] (0) (0) h) hF (fun _ hj6 hF => ?_) (fun q5 hF => ?_)
  · refine v_if_ne (pc := 132) 139 dL_set_132 rfl (fun hc => ?_) (fun hc => ?_)
    · replace hF := (okB_if hF).2 hc
      refine v_iload_n (pc := 139) (i := 2) dL_set_139 rfl rfl ?_
      refine v_iconst (pc := 140) (v := (4 : Int32)) dL_set_140 rfl ?_
      refine v_icmp_ge (pc := 141) 149 dL_set_141 rfl (fun hc => ?_) (fun hc => ?_)
      · replace hF := (okB_if hF).1 hc
        refine v_iload_n (pc := 149) (i := 2) dL_set_149 rfl rfl ?_
        refine v_iconst (pc := 150) (v := (4 : Int32)) dL_set_150 rfl ?_
        refine v_icmp_ne (pc := 151) 158 dL_set_151 rfl (fun hc => ?_) (fun hc => ?_)
        · replace hF := (okB_if hF).2 hc
          refine v_iload_n (pc := 158) (i := 2) dL_set_158 rfl rfl ?_
          refine v_bipush (pc := 159) (v := (7 : Int32)) dL_set_159 rfl ?_
          refine v_icmp_ge (pc := 161) 169 dL_set_161 rfl (fun hc => ?_) (fun hc => ?_)
          · replace hF := (okB_if hF).1 hc
            refine v_iload_n (pc := 169) (i := 2) dL_set_169 rfl rfl ?_
            refine v_bipush (pc := 170) (v := (7 : Int32)) dL_set_170 rfl ?_
            refine v_icmp_ne (pc := 172) 179 dL_set_172 rfl (fun hc => ?_) (fun hc => ?_)
            · replace hF := (okB_if hF).2 hc
              refine v_iload_n (pc := 179) (i := 2) dL_set_179 rfl rfl ?_
              refine v_bipush (pc := 180) (v := (8 : Int32)) dL_set_180 rfl ?_
              refine v_icmp_ne (pc := 182) 190 dL_set_182 rfl (fun hc => ?_) (fun hc => ?_)
              · replace hF := (okB_if hF).2 hc
                refine v_iload_n (pc := 190) (i := 2) dL_set_190 rfl rfl ?_
                refine v_bipush (pc := 191) (v := (11 : Int32)) dL_set_191 rfl ?_
                refine v_icmp_ge (pc := 193) 201 dL_set_193 rfl (fun hc => ?_) (fun hc => ?_)
                · replace hF := (okB_if hF).1 hc
                  refine v_iload_n (pc := 201) (i := 2) dL_set_201 rfl rfl ?_
                  refine v_bipush (pc := 202) (v := (14 : Int32)) dL_set_202 rfl ?_
                  refine v_icmp_ge (pc := 204) 213 dL_set_204 rfl (fun hc => ?_) (fun hc => ?_)
                  · replace hF := (okB_if hF).1 hc
                    refine v_iload_n (pc := 213) (i := 2) dL_set_213 rfl rfl ?_
                    refine v_bipush (pc := 214) (v := (14 : Int32)) dL_set_214 rfl ?_
                    refine v_icmp_ne (pc := 216) 224 dL_set_216 rfl (fun hc => ?_) (fun hc => ?_)
                    · replace hF := (okB_if hF).2 hc
                      refine v_bipush (pc := 224) (v := (56 : Int32)) dL_set_224 rfl ?_
                      exact v_lle [none, some (si a1), some (si (a1 - a1 / (20 : Int32) * (20 : Int32))), none] ⟨rfl, rfl, trivial⟩ (hj6 (56 : Int32) (okB_some hF))
                    replace hF := (okB_if hF).1 hc
                    refine v_bipush (pc := 219) (v := (7 : Int32)) dL_set_219 rfl ?_
                    refine v_goto (pc := 221) 226 dL_set_221 rfl ?_
                    exact v_lle [none, some (si a1), some (si (a1 - a1 / (20 : Int32) * (20 : Int32))), none] ⟨rfl, rfl, trivial⟩ (hj6 (7 : Int32) (okB_some hF))
                  replace hF := (okB_if hF).2 hc
                  refine v_sipush (pc := 207) (v := (128 : Int32)) dL_set_207 rfl ?_
                  refine v_goto (pc := 210) 226 dL_set_210 rfl ?_
                  exact v_lle [none, some (si a1), some (si (a1 - a1 / (20 : Int32) * (20 : Int32))), none] ⟨rfl, rfl, trivial⟩ (hj6 (128 : Int32) (okB_some hF))
                replace hF := (okB_if hF).2 hc
                refine v_bipush (pc := 196) (v := (30 : Int32)) dL_set_196 rfl ?_
                refine v_goto (pc := 198) 226 dL_set_198 rfl ?_
                exact v_lle [none, some (si a1), some (si (a1 - a1 / (20 : Int32) * (20 : Int32))), none] ⟨rfl, rfl, trivial⟩ (hj6 (30 : Int32) (okB_some hF))
              replace hF := (okB_if hF).1 hc
              refine v_bipush (pc := 185) (v := (16 : Int32)) dL_set_185 rfl ?_
              refine v_goto (pc := 187) 226 dL_set_187 rfl ?_
              exact v_lle [none, some (si a1), some (si (a1 - a1 / (20 : Int32) * (20 : Int32))), none] ⟨rfl, rfl, trivial⟩ (hj6 (16 : Int32) (okB_some hF))
            replace hF := (okB_if hF).1 hc
            refine v_iconst (pc := 175) (v := (2 : Int32)) dL_set_175 rfl ?_
            refine v_goto (pc := 176) 226 dL_set_176 rfl ?_
            exact v_lle [none, some (si a1), some (si (a1 - a1 / (20 : Int32) * (20 : Int32))), none] ⟨rfl, rfl, trivial⟩ (hj6 (2 : Int32) (okB_some hF))
          replace hF := (okB_if hF).2 hc
          refine v_bipush (pc := 164) (v := (32 : Int32)) dL_set_164 rfl ?_
          refine v_goto (pc := 166) 226 dL_set_166 rfl ?_
          exact v_lle [none, some (si a1), some (si (a1 - a1 / (20 : Int32) * (20 : Int32))), none] ⟨rfl, rfl, trivial⟩ (hj6 (32 : Int32) (okB_some hF))
        replace hF := (okB_if hF).1 hc
        refine v_iconst (pc := 154) (v := (4 : Int32)) dL_set_154 rfl ?_
        refine v_goto (pc := 155) 226 dL_set_155 rfl ?_
        exact v_lle [none, some (si a1), some (si (a1 - a1 / (20 : Int32) * (20 : Int32))), none] ⟨rfl, rfl, trivial⟩ (hj6 (4 : Int32) (okB_some hF))
      replace hF := (okB_if hF).2 hc
      refine v_bipush (pc := 144) (v := (8 : Int32)) dL_set_144 rfl ?_
      refine v_goto (pc := 146) 226 dL_set_146 rfl ?_
      exact v_lle [none, some (si a1), some (si (a1 - a1 / (20 : Int32) * (20 : Int32))), none] ⟨rfl, rfl, trivial⟩ (hj6 (8 : Int32) (okB_some hF))
    replace hF := (okB_if hF).1 hc
    refine v_iconst (pc := 135) (v := (1 : Int32)) dL_set_135 rfl ?_
    refine v_goto (pc := 136) 226 dL_set_136 rfl ?_
    exact v_lle [none, some (si a1), some (si (a1 - a1 / (20 : Int32) * (20 : Int32))), none] ⟨rfl, rfl, trivial⟩ (hj6 (1 : Int32) (okB_some hF))
  refine v_istore_n (pc := 226) (i := 3) [none, some (si a1), some (si (a1 - a1 / (20 : Int32) * (20 : Int32))), some (si q5)] dL_set_226 rfl (by decide) rfl rfl ?_
  refine v_iload_n (pc := 227) (i := 2) dL_set_227 rfl rfl ?_
  refine v_bipush (pc := 228) (v := (16 : Int32)) dL_set_228 rfl ?_
  refine v_icmp_ge (pc := 230) 241 dL_set_230 rfl (fun hc => ?_) (fun hc => ?_)
  · replace hF := (okB_if hF).1 hc
    refine v_iload_n (pc := 241) (i := 2) dL_set_241 rfl rfl ?_
    refine v_bipush (pc := 242) (v := (18 : Int32)) dL_set_242 rfl ?_
    refine v_icmp_ge (pc := 244) 260 dL_set_244 rfl (fun hc => ?_) (fun hc => ?_)
    · replace hF := (okB_if hF).1 hc
      refine v_iload_n (pc := 260) (i := 1) dL_set_260 rfl rfl ?_
      refine v_bipush (pc := 261) (v := (20 : Int32)) dL_set_261 rfl ?_
      refine s_idiv (pc := 263) dL_set_263 hF (fun hF => ?_)
      refine v_bipush (pc := 264) (v := (26 : Int32)) dL_set_264 rfl ?_
      refine s_irem (pc := 266) dL_set_266 hF (fun hF => ?_)
      refine cp_S (pc := 267) gI (as := [si ((a1 / (20 : Int32)) - (a1 / (20 : Int32)) / (26 : Int32) * (26 : Int32))]) (st := []) (N := mL_points) (k := 0) (n := 0) (k1 := 0) (n1 := 0) dL_set_267 lkL_59 caL_points csL_points rfl (fun Q1 hq => tL_points ((a1 / (20 : Int32)) - (a1 / (20 : Int32)) / (26 : Int32) * (26 : Int32)) h Q1 hq) ⟨by decide, by decide⟩ (Nat.le_of_ble_eq_true rfl) rfl hF (fun x7 hF => ?_)
      show gV G mL_set 1 Q 270 [none, some (si a1), some (si (a1 - a1 / (20 : Int32) * (20 : Int32))), some (si q5)] [si x7] (0) (0) h
      exact v_iret (pc := 270) dL_set_270 rfl rfl (okr hF fun q => q)
    replace hF := (okB_if hF).2 hc
    refine v_iconst (pc := 247) (v := (1 : Int32)) dL_set_247 rfl ?_
    refine v_iload_n (pc := 248) (i := 1) dL_set_248 rfl rfl ?_
    refine v_bipush (pc := 249) (v := (20 : Int32)) dL_set_249 rfl ?_
    refine s_idiv (pc := 251) dL_set_251 hF (fun hF => ?_)
    refine v_sipush (pc := 252) (v := (511 : Int32)) dL_set_252 rfl ?_
    refine s_irem (pc := 255) dL_set_255 hF (fun hF => ?_)
    refine v_iadd (pc := 256) dL_set_256 ?_
    refine v_goto (pc := 257) 270 dL_set_257 rfl ?_
    exact v_iret (pc := 270) dL_set_270 rfl rfl (okr hF fun q => q)
  replace hF := (okB_if hF).2 hc
  refine v_sipush (pc := 233) (v := (256 : Int32)) dL_set_233 rfl ?_
  refine v_iload_n (pc := 236) (i := 3) dL_set_236 rfl rfl ?_
  refine v_iadd (pc := 237) dL_set_237 ?_
  refine v_goto (pc := 238) 270 dL_set_238 rfl ?_
  exact v_iret (pc := 270) dL_set_270 rfl rfl (okr hF fun q => q)

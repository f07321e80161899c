/-! ===== methods: their functions and rows ===== -/
theorem dX11_write_0 : decode cX11_write 0 = .ok (.iconst 0, 1) := by decide +kernel
theorem dX11_write_1 : decode cX11_write 1 = .ok (.istore 4, 2) := by decide +kernel
theorem dX11_write_3 : decode cX11_write 3 = .ok (.iload 4, 2) := by decide +kernel
theorem dX11_write_5 : decode cX11_write 5 = .ok (.iload_n 3, 1) := by decide +kernel
theorem dX11_write_6 : decode cX11_write 6 = .ok (.if_icmp .ge 162, 3) := by decide +kernel
theorem dX11_write_9 : decode cX11_write 9 = .ok (.aload_n 1, 1) := by decide +kernel
theorem dX11_write_10 : decode cX11_write 10 = .ok (.iload_n 2, 1) := by decide +kernel
theorem dX11_write_11 : decode cX11_write 11 = .ok (.iload 4, 2) := by decide +kernel
theorem dX11_write_13 : decode cX11_write 13 = .ok (.iadd, 1) := by decide +kernel
theorem dX11_write_14 : decode cX11_write 14 = .ok (.iaload, 1) := by decide +kernel
theorem dX11_write_15 : decode cX11_write 15 = .ok (.istore 5, 2) := by decide +kernel
theorem dX11_write_17 : decode cX11_write 17 = .ok (.iload 4, 2) := by decide +kernel
theorem dX11_write_19 : decode cX11_write 19 = .ok (.ifCond .le 21, 3) := by decide +kernel
theorem dX11_write_22 : decode cX11_write 22 = .ok (.aload_n 1, 1) := by decide +kernel
theorem dX11_write_23 : decode cX11_write 23 = .ok (.iload_n 2, 1) := by decide +kernel
theorem dX11_write_24 : decode cX11_write 24 = .ok (.iload 4, 2) := by decide +kernel
theorem dX11_write_26 : decode cX11_write 26 = .ok (.iadd, 1) := by decide +kernel
theorem dX11_write_27 : decode cX11_write 27 = .ok (.iconst 1, 1) := by decide +kernel
theorem dX11_write_28 : decode cX11_write 28 = .ok (.isub, 1) := by decide +kernel
theorem dX11_write_29 : decode cX11_write 29 = .ok (.iaload, 1) := by decide +kernel
theorem dX11_write_30 : decode cX11_write 30 = .ok (.invokestatic 251, 3) := by decide +kernel
theorem dX11_write_33 : decode cX11_write 33 = .ok (.ifCond .eq 7, 3) := by decide +kernel
theorem dX11_write_36 : decode cX11_write 36 = .ok (.iconst 1, 1) := by decide +kernel
theorem dX11_write_37 : decode cX11_write 37 = .ok (.goto 4, 3) := by decide +kernel
theorem dX11_write_40 : decode cX11_write 40 = .ok (.iconst 0, 1) := by decide +kernel
theorem dX11_write_41 : decode cX11_write 41 = .ok (.istore 6, 2) := by decide +kernel
theorem dX11_write_43 : decode cX11_write 43 = .ok (.iload 5, 2) := by decide +kernel
theorem dX11_write_45 : decode cX11_write 45 = .ok (.invokestatic 242, 3) := by decide +kernel
theorem dX11_write_48 : decode cX11_write 48 = .ok (.ifCond .eq 15, 3) := by decide +kernel
theorem dX11_write_51 : decode cX11_write 51 = .ok (.aload_n 0, 1) := by decide +kernel
theorem dX11_write_52 : decode cX11_write 52 = .ok (.aload_n 1, 1) := by decide +kernel
theorem dX11_write_53 : decode cX11_write 53 = .ok (.iload_n 2, 1) := by decide +kernel
theorem dX11_write_54 : decode cX11_write 54 = .ok (.iload_n 3, 1) := by decide +kernel
theorem dX11_write_55 : decode cX11_write 55 = .ok (.iload 4, 2) := by decide +kernel
theorem dX11_write_57 : decode cX11_write 57 = .ok (.invokevirtual 254, 3) := by decide +kernel
theorem dX11_write_60 : decode cX11_write 60 = .ok (.goto 102, 3) := by decide +kernel
theorem dX11_write_63 : decode cX11_write 63 = .ok (.iload 5, 2) := by decide +kernel
theorem dX11_write_65 : decode cX11_write 65 = .ok (.invokestatic 239, 3) := by decide +kernel
theorem dX11_write_68 : decode cX11_write 68 = .ok (.ifCond .eq 37, 3) := by decide +kernel
theorem dX11_write_71 : decode cX11_write 71 = .ok (.iload 6, 2) := by decide +kernel
theorem dX11_write_73 : decode cX11_write 73 = .ok (.ifCond .eq 16, 3) := by decide +kernel
theorem dX11_write_76 : decode cX11_write 76 = .ok (.iload 5, 2) := by decide +kernel
theorem dX11_write_78 : decode cX11_write 78 = .ok (.bipush 106, 2) := by decide +kernel
theorem dX11_write_80 : decode cX11_write 80 = .ok (.if_icmp .gt 9, 3) := by decide +kernel
theorem dX11_write_83 : decode cX11_write 83 = .ok (.aload_n 0, 1) := by decide +kernel
theorem dX11_write_84 : decode cX11_write 84 = .ok (.bipush 48, 2) := by decide +kernel
theorem dX11_write_86 : decode cX11_write 86 = .ok (.invokevirtual 245, 3) := by decide +kernel
theorem dX11_write_89 : decode cX11_write 89 = .ok (.aload_n 0, 1) := by decide +kernel
theorem dX11_write_90 : decode cX11_write 90 = .ok (.aload_n 0, 1) := by decide +kernel
theorem dX11_write_91 : decode cX11_write 91 = .ok (.iload 5, 2) := by decide +kernel
theorem dX11_write_93 : decode cX11_write 93 = .ok (.bipush 97, 2) := by decide +kernel
theorem dX11_write_95 : decode cX11_write 95 = .ok (.isub, 1) := by decide +kernel
theorem dX11_write_96 : decode cX11_write 96 = .ok (.invokevirtual 248, 3) := by decide +kernel
theorem dX11_write_99 : decode cX11_write 99 = .ok (.invokevirtual 245, 3) := by decide +kernel
theorem dX11_write_102 : decode cX11_write 102 = .ok (.goto 60, 3) := by decide +kernel
theorem dX11_write_105 : decode cX11_write 105 = .ok (.iload 5, 2) := by decide +kernel
theorem dX11_write_107 : decode cX11_write 107 = .ok (.invokestatic 251, 3) := by decide +kernel
theorem dX11_write_110 : decode cX11_write 110 = .ok (.ifCond .eq 43, 3) := by decide +kernel
theorem dX11_write_113 : decode cX11_write 113 = .ok (.iload 6, 2) := by decide +kernel
theorem dX11_write_115 : decode cX11_write 115 = .ok (.ifCond .ne 9, 3) := by decide +kernel
theorem dX11_write_118 : decode cX11_write 118 = .ok (.aload_n 0, 1) := by decide +kernel
theorem dX11_write_119 : decode cX11_write 119 = .ok (.bipush 60, 2) := by decide +kernel
theorem dX11_write_121 : decode cX11_write 121 = .ok (.invokevirtual 245, 3) := by decide +kernel
theorem dX11_write_124 : decode cX11_write 124 = .ok (.aload_n 0, 1) := by decide +kernel
theorem dX11_write_125 : decode cX11_write 125 = .ok (.aload_n 0, 1) := by decide +kernel
theorem dX11_write_126 : decode cX11_write 126 = .ok (.getfield 89, 3) := by decide +kernel
theorem dX11_write_129 : decode cX11_write 129 = .ok (.iload 5, 2) := by decide +kernel
theorem dX11_write_131 : decode cX11_write 131 = .ok (.bipush 48, 2) := by decide +kernel
theorem dX11_write_133 : decode cX11_write 133 = .ok (.if_icmp .ne 8, 3) := by decide +kernel
theorem dX11_write_136 : decode cX11_write 136 = .ok (.bipush 9, 2) := by decide +kernel
theorem dX11_write_138 : decode cX11_write 138 = .ok (.goto 8, 3) := by decide +kernel
theorem dX11_write_141 : decode cX11_write 141 = .ok (.iload 5, 2) := by decide +kernel
theorem dX11_write_143 : decode cX11_write 143 = .ok (.bipush 49, 2) := by decide +kernel
theorem dX11_write_145 : decode cX11_write 145 = .ok (.isub, 1) := by decide +kernel
theorem dX11_write_146 : decode cX11_write 146 = .ok (.iaload, 1) := by decide +kernel
theorem dX11_write_147 : decode cX11_write 147 = .ok (.invokevirtual 245, 3) := by decide +kernel
theorem dX11_write_150 : decode cX11_write 150 = .ok (.goto 12, 3) := by decide +kernel
theorem dX11_write_153 : decode cX11_write 153 = .ok (.aload_n 0, 1) := by decide +kernel
theorem dX11_write_154 : decode cX11_write 154 = .ok (.iload 5, 2) := by decide +kernel
theorem dX11_write_156 : decode cX11_write 156 = .ok (.invokestatic 258, 3) := by decide +kernel
theorem dX11_write_159 : decode cX11_write 159 = .ok (.invokevirtual 245, 3) := by decide +kernel
theorem dX11_write_162 : decode cX11_write 162 = .ok (.iinc 4 1, 3) := by decide +kernel
theorem dX11_write_165 : decode cX11_write 165 = .ok (.goto (-162), 3) := by decide +kernel
theorem dX11_write_168 : decode cX11_write 168 = .ok (.return_, 1) := by decide +kernel
abbrev mX11_write : gM := (yX11_write, cX11_write, 7, (Option.none : Option FieldType), [])
theorem caX11_write : cal mX11_write 3 := ⟨xw 1701 (by decide +kernel) rfl, xw 102 (by decide +kernel) rfl, by decide, by decide +kernel⟩
theorem cvX11_write : calV mX11_write := ⟨xw 1700 (by decide +kernel) rfl, xw 53 (by decide +kernel) rfl⟩
theorem lkX11_251 : Cond.methodLink RX11 251 yX11_isDigit ∈ XW := xw 1702 (by decide +kernel) rfl
theorem lkX11_258 : Cond.methodLink RX11 258 yX11_sign ∈ XW := xw 1715 (by decide +kernel) rfl
theorem lkX11_254 : Cond.methodLink RX11 254 yX11_writeGreat ∈ XW := xw 1708 (by decide +kernel) rfl
/-! BrailleDeskModel.write -/
def fX11_write_B3 (c0 : Nat) (c1 : Option Nat) (c2 : Int32) (c3 : Int32) (a : (Int32 × hp)) : Option ((Int32 × hp) ⊕ hp) :=
  if c3 ≤ a.1 then
  (some (.inr a.2))
  else
  (oIL c1 (c2 + a.1) a.2).bind fun x1 =>
  Option.bind (α := Unit)
  (if a.1 ≤ 0 then
  (some ())
  else
  (oIL c1 ((c2 + a.1) - (1 : Int32)) a.2).bind fun x4 =>
  (fX11_isDigit x4).bind fun x5 =>
  if x5 = 0 then
  (some ())
  else
  (fX11_isGreat x1).bind fun x6 =>
  if x6 = 0 then
  ((fX11_isSmall x1).bind fun x7 =>
  if x7 = 0 then
  ((fX11_isDigit x1).bind fun x8 =>
  if x8 = 0 then
  ((fX11_sign x1).bind fun x9 =>
  (oOb 10 (some c0) a.2).bind fun b =>
  o2 (fX11_cell b x9 a.2) fun _ h11 =>
  some (.inl (a.1 + (1 : Int32), h11)))
  else
  Option.bind (α := hp)
  (if (1 : Int32) = 0 then
  ((oOb 10 (some c0) a.2).bind fun b =>
  o2 (fX11_cell b (60 : Int32) a.2) fun _ h15 =>
  some h15)
  else
  some a.2)
  fun q12 =>
  (oGR 10 47 (some c0) q12).bind fun x16 =>
  Option.bind (α := Int32)
  (if x1 = (48 : Int32) then
  (some (9 : Int32))
  else
  some (x1 - (49 : Int32)))
  fun q17 =>
  (oIL x16 q17 q12).bind fun x19 =>
  (oOb 10 (some c0) q12).bind fun b =>
  o2 (fX11_cell b x19 q12) fun _ h21 =>
  some (.inl (a.1 + (1 : Int32), h21)))
  else
  Option.bind (α := hp)
  (if (1 : Int32) = 0 then
  (some a.2)
  else
  if (106 : Int32) < x1 then
  (some a.2)
  else
  (oOb 10 (some c0) a.2).bind fun b =>
  o2 (fX11_cell b (48 : Int32) a.2) fun _ h25 =>
  some h25)
  fun q22 =>
  (oOb 10 (some c0) q22).bind fun b =>
  (fX11_points b (x1 - (97 : Int32)) q22).bind fun x26 =>
  (oOb 10 (some c0) q22).bind fun b =>
  o2 (fX11_cell b x26 q22) fun _ h28 =>
  some (.inl (a.1 + (1 : Int32), h28)))
  else
  (oOb 10 (some c0) a.2).bind fun b =>
  o2 (fX11_writeGreat b c1 c2 c3 a.1 a.2) fun _ h30 =>
  some (.inl (a.1 + (1 : Int32), h30)))
  fun q2 =>
  (fX11_isGreat x1).bind fun x31 =>
  if x31 = 0 then
  ((fX11_isSmall x1).bind fun x32 =>
  if x32 = 0 then
  ((fX11_isDigit x1).bind fun x33 =>
  if x33 = 0 then
  ((fX11_sign x1).bind fun x34 =>
  (oOb 10 (some c0) a.2).bind fun b =>
  o2 (fX11_cell b x34 a.2) fun _ h36 =>
  some (.inl (a.1 + (1 : Int32), h36)))
  else
  Option.bind (α := hp)
  (if (0 : Int32) = 0 then
  ((oOb 10 (some c0) a.2).bind fun b =>
  o2 (fX11_cell b (60 : Int32) a.2) fun _ h40 =>
  some h40)
  else
  some a.2)
  fun q37 =>
  (oGR 10 47 (some c0) q37).bind fun x41 =>
  Option.bind (α := Int32)
  (if x1 = (48 : Int32) then
  (some (9 : Int32))
  else
  some (x1 - (49 : Int32)))
  fun q42 =>
  (oIL x41 q42 q37).bind fun x44 =>
  (oOb 10 (some c0) q37).bind fun b =>
  o2 (fX11_cell b x44 q37) fun _ h46 =>
  some (.inl (a.1 + (1 : Int32), h46)))
  else
  Option.bind (α := hp)
  (if (0 : Int32) = 0 then
  (some a.2)
  else
  if (106 : Int32) < x1 then
  (some a.2)
  else
  (oOb 10 (some c0) a.2).bind fun b =>
  o2 (fX11_cell b (48 : Int32) a.2) fun _ h50 =>
  some h50)
  fun q47 =>
  (oOb 10 (some c0) q47).bind fun b =>
  (fX11_points b (x1 - (97 : Int32)) q47).bind fun x51 =>
  (oOb 10 (some c0) q47).bind fun b =>
  o2 (fX11_cell b x51 q47) fun _ h53 =>
  some (.inl (a.1 + (1 : Int32), h53)))
  else
  (oOb 10 (some c0) a.2).bind fun b =>
  o2 (fX11_writeGreat b c1 c2 c3 a.1 a.2) fun _ h55 =>
  some (.inl (a.1 + (1 : Int32), h55))
theorem lX11_write_3 {G : gG} {Q : hQ} {P : hp → Prop} {k n : Nat} (c0 : Nat) (c1 : Option Nat) (c2 : Int32) (c3 : Int32) (hJ : ∀ q : hp, P q → gV G mX11_write 3 Q 168 [none, none, none, none, none, none, none] [] (k) (n) q) : ∀ (fu : Nat) (a : (Int32 × hp)), okB (itr (fX11_write_B3 c0 c1 c2 c3) fu a) P → gV G mX11_write 3 Q 3 [some (sr (some c0)), some (sr c1), some (si c2), some (si c3), some (si a.1), none, none] [] (k) (n) a.2 :=
  lpg (X := fun (a : (Int32 × hp)) => gV G mX11_write 3 Q 3 [some (sr (some c0)), some (sr c1), some (si c2), some (si c3), some (si a.1), none, none] [] (k) (n) a.2) (fun a P2 hL hE hF => by
    delta fX11_write_B3 at hF
    refine v_iload (pc := 3) (i := 4) dX11_write_3 rfl ?_
    refine v_iload_n (pc := 5) (i := 3) dX11_write_5 rfl rfl ?_
    refine v_icmp_ge (pc := 6) 168 dX11_write_6 rfl (fun hc => ?_) (fun hc => ?_)
    · replace hF := (okB_if hF).1 hc
      exact v_lle [none, none, none, none, none, none, none] trivial (hJ _ (hE _ (okB_some hF)))
    replace hF := (okB_if hF).2 hc
    refine v_aload_n (pc := 9) (i := 1) dX11_write_9 rfl rfl ?_
    refine v_iload_n (pc := 10) (i := 2) dX11_write_10 rfl rfl ?_
    refine v_iload (pc := 11) (i := 4) dX11_write_11 rfl ?_
    refine v_iadd (pc := 13) dX11_write_13 ?_
    refine s_iald (pc := 14) dX11_write_14 hF (fun x1 hF => ?_)
    refine v_istore (pc := 15) (i := 5) [some (sr (some c0)), some (sr c1), some (si c2), some (si c3), some (si a.1), some (si x1), none] dX11_write_15 (by decide) rfl rfl ?_
    refine v_iload (pc := 17) (i := 4) dX11_write_17 rfl ?_
    refine mg (X := fun q2 => gV G mX11_write 3 Q 40 [some (sr (some c0)), some (sr c1), some (si c2), some (si c3), some (si a.1), some (si x1), none] [] (k) (n) a.2) hF (fun _ hj3 hF => ?_) (fun q2 hF => ?_)
    · refine v_if_le (pc := 19) 40 dX11_write_19 rfl (fun hc => ?_) (fun hc => ?_)
      · replace hF := (okB_if hF).1 hc
        exact v_lle [some (sr (some c0)), some (sr c1), some (si c2), some (si c3), some (si a.1), some (si x1), none] ⟨rfl, rfl, rfl, rfl, rfl, rfl, trivial⟩ (hj3 _ (okB_some hF))
      replace hF := (okB_if hF).2 hc
      refine v_aload_n (pc := 22) (i := 1) dX11_write_22 rfl rfl ?_
      refine v_iload_n (pc := 23) (i := 2) dX11_write_23 rfl rfl ?_
      refine v_iload (pc := 24) (i := 4) dX11_write_24 rfl ?_
      refine v_iadd (pc := 26) dX11_write_26 ?_
      refine v_iconst (pc := 27) (v := (1 : Int32)) dX11_write_27 rfl ?_
      refine v_isub (pc := 28) dX11_write_28 ?_
      refine s_iald (pc := 29) dX11_write_29 hF (fun x4 hF => ?_)
      refine cp_S (pc := 30) gI (as := [si x4]) (st := []) (k := k) (n := n) dX11_write_30 lkX11_251 caX11_isDigit csX11_isDigit rfl (fun Q1 hq => tX11_isDigit x4 a.2 Q1 hq) ⟨by decide, by decide⟩ (Nat.le_of_ble_eq_true rfl) rfl hF (fun x5 hF => ?_)
      show gV G mX11_write 3 Q 33 [some (sr (some c0)), some (sr c1), some (si c2), some (si c3), some (si a.1), some (si x1), none] [si x5] (k) (n) a.2
      refine v_if_eq (pc := 33) 40 dX11_write_33 rfl (fun hc => ?_) (fun hc => ?_)
      · replace hF := (okB_if hF).1 hc
        exact v_lle [some (sr (some c0)), some (sr c1), some (si c2), some (si c3), some (si a.1), some (si x1), none] ⟨rfl, rfl, rfl, rfl, rfl, rfl, trivial⟩ (hj3 _ (okB_some hF))
      replace hF := (okB_if hF).2 hc
      refine v_iconst (pc := 36) (v := (1 : Int32)) dX11_write_36 rfl ?_
      refine v_goto (pc := 37) 41 dX11_write_37 rfl ?_
      refine v_istore (pc := 41) (i := 6) [some (sr (some c0)), some (sr c1), some (si c2), some (si c3), some (si a.1), some (si x1), some (si (1 : Int32))] dX11_write_41 (by decide) rfl rfl ?_
      refine v_iload (pc := 43) (i := 5) dX11_write_43 rfl ?_
      refine cp_S (pc := 45) gI (as := [si x1]) (st := []) (k := k) (n := n) dX11_write_45 lkX11_242 caX11_isGreat csX11_isGreat rfl (fun Q1 hq => tX11_isGreat x1 a.2 Q1 hq) ⟨by decide, by decide⟩ (Nat.le_of_ble_eq_true rfl) rfl hF (fun x6 hF => ?_)
      show gV G mX11_write 3 Q 48 [some (sr (some c0)), some (sr c1), some (si c2), some (si c3), some (si a.1), some (si x1), some (si (1 : Int32))] [si x6] (k) (n) a.2
      refine v_if_eq (pc := 48) 63 dX11_write_48 rfl (fun hc => ?_) (fun hc => ?_)
      · replace hF := (okB_if hF).1 hc
        refine v_iload (pc := 63) (i := 5) dX11_write_63 rfl ?_
        refine cp_S (pc := 65) gI (as := [si x1]) (st := []) (k := k) (n := n) dX11_write_65 lkX11_239 caX11_isSmall csX11_isSmall rfl (fun Q1 hq => tX11_isSmall x1 a.2 Q1 hq) ⟨by decide, by decide⟩ (Nat.le_of_ble_eq_true rfl) rfl hF (fun x7 hF => ?_)
        show gV G mX11_write 3 Q 68 [some (sr (some c0)), some (sr c1), some (si c2), some (si c3), some (si a.1), some (si x1), some (si (1 : Int32))] [si x7] (k) (n) a.2
        refine v_if_eq (pc := 68) 105 dX11_write_68 rfl (fun hc => ?_) (fun hc => ?_)
        · replace hF := (okB_if hF).1 hc
          refine v_iload (pc := 105) (i := 5) dX11_write_105 rfl ?_
          refine cp_S (pc := 107) gI (as := [si x1]) (st := []) (k := k) (n := n) dX11_write_107 lkX11_251 caX11_isDigit csX11_isDigit rfl (fun Q1 hq => tX11_isDigit x1 a.2 Q1 hq) ⟨by decide, by decide⟩ (Nat.le_of_ble_eq_true rfl) rfl hF (fun x8 hF => ?_)
          show gV G mX11_write 3 Q 110 [some (sr (some c0)), some (sr c1), some (si c2), some (si c3), some (si a.1), some (si x1), some (si (1 : Int32))] [si x8] (k) (n) a.2
          refine v_if_eq (pc := 110) 153 dX11_write_110 rfl (fun hc => ?_) (fun hc => ?_)
          · replace hF := (okB_if hF).1 hc
            refine v_aload_n (pc := 153) (i := 0) dX11_write_153 rfl rfl ?_
            refine v_iload (pc := 154) (i := 5) dX11_write_154 rfl ?_
            refine cp_S (pc := 156) gI (as := [si x1]) (st := [sr (some c0)]) (k := k) (n := n) dX11_write_156 lkX11_258 caX11_sign csX11_sign rfl (fun Q1 hq => tX11_sign x1 a.2 Q1 hq) ⟨by decide, by decide⟩ (Nat.le_of_ble_eq_true rfl) rfl hF (fun x9 hF => ?_)
            show gV G mX11_write 3 Q 159 [some (sr (some c0)), some (sr c1), some (si c2), some (si c3), some (si a.1), some (si x1), some (si (1 : Int32))] [si x9, sr (some c0)] (k) (n) a.2
            refine ch_V (pc := 159) gU (as := [si x9]) (st := []) (ci := 10) (k := k) (n := n) dX11_write_159 lkX11_245 caX11_cell cvX11_cell rfl (by decide) rfl (fun b Q1 hq => tX11_cell b x9 a.2 Q1 hq) ⟨by decide, by decide⟩ (Nat.le_of_ble_eq_true rfl) rfl hF (fun x10 h11 hF => ?_)
            show gV G mX11_write 3 Q 162 [some (sr (some c0)), some (sr c1), some (si c2), some (si c3), some (si a.1), some (si x1), some (si (1 : Int32))] [] (k) (n) h11
            refine v_iinc (pc := 162) (i := 4) (a.1 + (1 : Int32)) [some (sr (some c0)), some (sr c1), some (si c2), some (si c3), some (si (a.1 + (1 : Int32))), some (si x1), some (si (1 : Int32))] dX11_write_162 rfl rfl rfl rfl ?_
            refine v_goto (pc := 165) 3 dX11_write_165 rfl ?_
            exact v_lle [some (sr (some c0)), some (sr c1), some (si c2), some (si c3), some (si (a.1 + (1 : Int32))), none, none] ⟨rfl, rfl, rfl, rfl, rfl, trivial⟩ (hL _ (okB_some hF))
          replace hF := (okB_if hF).2 hc
          refine v_iload (pc := 113) (i := 6) dX11_write_113 rfl ?_
          refine mg (X := fun q12 => gV G mX11_write 3 Q 124 [some (sr (some c0)), some (sr c1), some (si c2), some (si c3), some (si a.1), some (si x1), none] [] (k) (n) q12) hF (fun _ hj13 hF => ?_) (fun q12 hF => ?_)
          · refine v_if_ne (pc := 115) 124 dX11_write_115 rfl (fun hc => ?_) (fun hc => ?_)
            · replace hF := (okB_if hF).2 hc
              exact v_lle [some (sr (some c0)), some (sr c1), some (si c2), some (si c3), some (si a.1), some (si x1), none] ⟨rfl, rfl, rfl, rfl, rfl, rfl, trivial⟩ (hj13 _ (okB_some hF))
            replace hF := (okB_if hF).1 hc
            refine v_aload_n (pc := 118) (i := 0) dX11_write_118 rfl rfl ?_
            refine v_bipush (pc := 119) (v := (60 : Int32)) dX11_write_119 rfl ?_
            refine ch_V (pc := 121) gU (as := [si (60 : Int32)]) (st := []) (ci := 10) (k := k) (n := n) dX11_write_121 lkX11_245 caX11_cell cvX11_cell rfl (by decide) rfl (fun b Q1 hq => tX11_cell b (60 : Int32) a.2 Q1 hq) ⟨by decide, by decide⟩ (Nat.le_of_ble_eq_true rfl) rfl hF (fun x14 h15 hF => ?_)
            show gV G mX11_write 3 Q 124 [some (sr (some c0)), some (sr c1), some (si c2), some (si c3), some (si a.1), some (si x1), some (si (1 : Int32))] [] (k) (n) h15
            exact v_lle [some (sr (some c0)), some (sr c1), some (si c2), some (si c3), some (si a.1), some (si x1), none] ⟨rfl, rfl, rfl, rfl, rfl, rfl, trivial⟩ (hj13 _ (okB_some hF))
          refine v_aload_n (pc := 124) (i := 0) dX11_write_124 rfl rfl ?_
          refine v_aload_n (pc := 125) (i := 0) dX11_write_125 rfl rfl ?_
          refine s_getR (pc := 126) dX11_write_126 flX11_89 rfl hF (fun x16 hF => ?_)
          refine v_iload (pc := 129) (i := 5) dX11_write_129 rfl ?_
          refine v_bipush (pc := 131) (v := (48 : Int32)) dX11_write_131 rfl ?_
          refine mg (X := fun q17 => gV G mX11_write 3 Q 146 [some (sr (some c0)), some (sr c1), some (si c2), some (si c3), some (si a.1), none, none] [si q17, sr x16, sr (some c0)] (k) (n) q12) hF (fun _ hj18 hF => ?_) (fun q17 hF => ?_)
          · refine v_icmp_ne (pc := 133) 141 dX11_write_133 rfl (fun hc => ?_) (fun hc => ?_)
            · replace hF := (okB_if hF).2 hc
              refine v_iload (pc := 141) (i := 5) dX11_write_141 rfl ?_
              refine v_bipush (pc := 143) (v := (49 : Int32)) dX11_write_143 rfl ?_
              refine v_isub (pc := 145) dX11_write_145 ?_
              exact v_lle [some (sr (some c0)), some (sr c1), some (si c2), some (si c3), some (si a.1), none, none] ⟨rfl, rfl, rfl, rfl, rfl, trivial⟩ (hj18 _ (okB_some hF))
            replace hF := (okB_if hF).1 hc
            refine v_bipush (pc := 136) (v := (9 : Int32)) dX11_write_136 rfl ?_
            refine v_goto (pc := 138) 146 dX11_write_138 rfl ?_
            exact v_lle [some (sr (some c0)), some (sr c1), some (si c2), some (si c3), some (si a.1), none, none] ⟨rfl, rfl, rfl, rfl, rfl, trivial⟩ (hj18 _ (okB_some hF))
          refine s_iald (pc := 146) dX11_write_146 hF (fun x19 hF => ?_)
          refine ch_V (pc := 147) gU (as := [si x19]) (st := []) (ci := 10) (k := k) (n := n) dX11_write_147 lkX11_245 caX11_cell cvX11_cell rfl (by decide) rfl (fun b Q1 hq => tX11_cell b x19 q12 Q1 hq) ⟨by decide, by decide⟩ (Nat.le_of_ble_eq_true rfl) rfl hF (fun x20 h21 hF => ?_)
          show gV G mX11_write 3 Q 150 [some (sr (some c0)), some (sr c1), some (si c2), some (si c3), some (si a.1), none, none] [] (k) (n) h21
          refine v_goto (pc := 150) 162 dX11_write_150 rfl ?_
          refine v_iinc (pc := 162) (i := 4) (a.1 + (1 : Int32)) [some (sr (some c0)), some (sr c1), some (si c2), some (si c3), some (si (a.1 + (1 : Int32))), none, none] dX11_write_162 rfl rfl rfl rfl ?_
          refine v_goto (pc := 165) 3 dX11_write_165 rfl ?_
          exact v_lle [some (sr (some c0)), some (sr c1), some (si c2), some (si c3), some (si (a.1 + (1 : Int32))), none, none] ⟨rfl, rfl, rfl, rfl, rfl, trivial⟩ (hL _ (okB_some hF))
        replace hF := (okB_if hF).2 hc
        refine v_iload (pc := 71) (i := 6) dX11_write_71 rfl ?_
        refine mg (X := fun q22 => gV G mX11_write 3 Q 89 [some (sr (some c0)), some (sr c1), some (si c2), some (si c3), some (si a.1), some (si x1), none] [] (k) (n) q22) hF (fun _ hj23 hF => ?_) (fun q22 hF => ?_)
        · refine v_if_eq (pc := 73) 89 dX11_write_73 rfl (fun hc => ?_) (fun hc => ?_)
          · replace hF := (okB_if hF).1 hc
            exact v_lle [some (sr (some c0)), some (sr c1), some (si c2), some (si c3), some (si a.1), some (si x1), none] ⟨rfl, rfl, rfl, rfl, rfl, rfl, trivial⟩ (hj23 _ (okB_some hF))
          replace hF := (okB_if hF).2 hc
          refine v_iload (pc := 76) (i := 5) dX11_write_76 rfl ?_
          refine v_bipush (pc := 78) (v := (106 : Int32)) dX11_write_78 rfl ?_
          refine v_icmp_gt (pc := 80) 89 dX11_write_80 rfl (fun hc => ?_) (fun hc => ?_)
          · replace hF := (okB_if hF).1 hc
            exact v_lle [some (sr (some c0)), some (sr c1), some (si c2), some (si c3), some (si a.1), some (si x1), none] ⟨rfl, rfl, rfl, rfl, rfl, rfl, trivial⟩ (hj23 _ (okB_some hF))
          replace hF := (okB_if hF).2 hc
          refine v_aload_n (pc := 83) (i := 0) dX11_write_83 rfl rfl ?_
          refine v_bipush (pc := 84) (v := (48 : Int32)) dX11_write_84 rfl ?_
          refine ch_V (pc := 86) gU (as := [si (48 : Int32)]) (st := []) (ci := 10) (k := k) (n := n) dX11_write_86 lkX11_245 caX11_cell cvX11_cell rfl (by decide) rfl (fun b Q1 hq => tX11_cell b (48 : Int32) a.2 Q1 hq) ⟨by decide, by decide⟩ (Nat.le_of_ble_eq_true rfl) rfl hF (fun x24 h25 hF => ?_)
          show gV G mX11_write 3 Q 89 [some (sr (some c0)), some (sr c1), some (si c2), some (si c3), some (si a.1), some (si x1), some (si (1 : Int32))] [] (k) (n) h25
          exact v_lle [some (sr (some c0)), some (sr c1), some (si c2), some (si c3), some (si a.1), some (si x1), none] ⟨rfl, rfl, rfl, rfl, rfl, rfl, trivial⟩ (hj23 _ (okB_some hF))
        refine v_aload_n (pc := 89) (i := 0) dX11_write_89 rfl rfl ?_
        refine v_aload_n (pc := 90) (i := 0) dX11_write_90 rfl rfl ?_
        refine v_iload (pc := 91) (i := 5) dX11_write_91 rfl ?_
        refine v_bipush (pc := 93) (v := (97 : Int32)) dX11_write_93 rfl ?_
        refine v_isub (pc := 95) dX11_write_95 ?_
        refine cp_V (pc := 96) gI (as := [si (x1 - (97 : Int32))]) (st := [sr (some c0)]) (ci := 10) (k := k) (n := n) dX11_write_96 lkX11_248 caX11_points cvX11_points rfl (by decide) rfl (fun b Q1 hq => tX11_points b (x1 - (97 : Int32)) q22 Q1 hq) ⟨by decide, by decide⟩ (Nat.le_of_ble_eq_true rfl) rfl hF (fun x26 hF => ?_)
        show gV G mX11_write 3 Q 99 [some (sr (some c0)), some (sr c1), some (si c2), some (si c3), some (si a.1), some (si x1), none] [si x26, sr (some c0)] (k) (n) q22
        refine ch_V (pc := 99) gU (as := [si x26]) (st := []) (ci := 10) (k := k) (n := n) dX11_write_99 lkX11_245 caX11_cell cvX11_cell rfl (by decide) rfl (fun b Q1 hq => tX11_cell b x26 q22 Q1 hq) ⟨by decide, by decide⟩ (Nat.le_of_ble_eq_true rfl) rfl hF (fun x27 h28 hF => ?_)
        show gV G mX11_write 3 Q 102 [some (sr (some c0)), some (sr c1), some (si c2), some (si c3), some (si a.1), some (si x1), none] [] (k) (n) h28
        refine v_goto (pc := 102) 162 dX11_write_102 rfl ?_
        refine v_iinc (pc := 162) (i := 4) (a.1 + (1 : Int32)) [some (sr (some c0)), some (sr c1), some (si c2), some (si c3), some (si (a.1 + (1 : Int32))), some (si x1), none] dX11_write_162 rfl rfl rfl rfl ?_
        refine v_goto (pc := 165) 3 dX11_write_165 rfl ?_
        exact v_lle [some (sr (some c0)), some (sr c1), some (si c2), some (si c3), some (si (a.1 + (1 : Int32))), none, none] ⟨rfl, rfl, rfl, rfl, rfl, trivial⟩ (hL _ (okB_some hF))
      replace hF := (okB_if hF).2 hc
      refine v_aload_n (pc := 51) (i := 0) dX11_write_51 rfl rfl ?_
      refine v_aload_n (pc := 52) (i := 1) dX11_write_52 rfl rfl ?_
      refine v_iload_n (pc := 53) (i := 2) dX11_write_53 rfl rfl ?_
      refine v_iload_n (pc := 54) (i := 3) dX11_write_54 rfl rfl ?_
      refine v_iload (pc := 55) (i := 4) dX11_write_55 rfl ?_
      refine ch_V (pc := 57) gU (as := [sr c1, si c2, si c3, si a.1]) (st := []) (ci := 10) (k := k) (n := n) dX11_write_57 lkX11_254 caX11_writeGreat cvX11_writeGreat rfl (by decide) rfl (fun b Q1 hq => tX11_writeGreat b c1 c2 c3 a.1 a.2 Q1 hq) ⟨by decide, by decide⟩ (Nat.le_of_ble_eq_true rfl) rfl hF (fun x29 h30 hF => ?_)
      show gV G mX11_write 3 Q 60 [some (sr (some c0)), some (sr c1), some (si c2), some (si c3), some (si a.1), some (si x1), some (si (1 : Int32))] [] (k) (n) h30
      refine v_goto (pc := 60) 162 dX11_write_60 rfl ?_
      refine v_iinc (pc := 162) (i := 4) (a.1 + (1 : Int32)) [some (sr (some c0)), some (sr c1), some (si c2), some (si c3), some (si (a.1 + (1 : Int32))), some (si x1), some (si (1 : Int32))] dX11_write_162 rfl rfl rfl rfl ?_
      refine v_goto (pc := 165) 3 dX11_write_165 rfl ?_
      exact v_lle [some (sr (some c0)), some (sr c1), some (si c2), some (si c3), some (si (a.1 + (1 : Int32))), none, none] ⟨rfl, rfl, rfl, rfl, rfl, trivial⟩ (hL _ (okB_some hF))
    refine v_iconst (pc := 40) (v := (0 : Int32)) dX11_write_40 rfl ?_
    refine v_istore (pc := 41) (i := 6) [some (sr (some c0)), some (sr c1), some (si c2), some (si c3), some (si a.1), some (si x1), some (si (0 : Int32))] dX11_write_41 (by decide) rfl rfl ?_
    refine v_iload (pc := 43) (i := 5) dX11_write_43 rfl ?_
    refine cp_S (pc := 45) gI (as := [si x1]) (st := []) (k := k) (n := n) dX11_write_45 lkX11_242 caX11_isGreat csX11_isGreat rfl (fun Q1 hq => tX11_isGreat x1 a.2 Q1 hq) ⟨by decide, by decide⟩ (Nat.le_of_ble_eq_true rfl) rfl hF (fun x31 hF => ?_)
    show gV G mX11_write 3 Q 48 [some (sr (some c0)), some (sr c1), some (si c2), some (si c3), some (si a.1), some (si x1), some (si (0 : Int32))] [si x31] (k) (n) a.2
    refine v_if_eq (pc := 48) 63 dX11_write_48 rfl (fun hc => ?_) (fun hc => ?_)
    · replace hF := (okB_if hF).1 hc
      refine v_iload (pc := 63) (i := 5) dX11_write_63 rfl ?_
      refine cp_S (pc := 65) gI (as := [si x1]) (st := []) (k := k) (n := n) dX11_write_65 lkX11_239 caX11_isSmall csX11_isSmall rfl (fun Q1 hq => tX11_isSmall x1 a.2 Q1 hq) ⟨by decide, by decide⟩ (Nat.le_of_ble_eq_true rfl) rfl hF (fun x32 hF => ?_)
      show gV G mX11_write 3 Q 68 [some (sr (some c0)), some (sr c1), some (si c2), some (si c3), some (si a.1), some (si x1), some (si (0 : Int32))] [si x32] (k) (n) a.2
      refine v_if_eq (pc := 68) 105 dX11_write_68 rfl (fun hc => ?_) (fun hc => ?_)
      · replace hF := (okB_if hF).1 hc
        refine v_iload (pc := 105) (i := 5) dX11_write_105 rfl ?_
        refine cp_S (pc := 107) gI (as := [si x1]) (st := []) (k := k) (n := n) dX11_write_107 lkX11_251 caX11_isDigit csX11_isDigit rfl (fun Q1 hq => tX11_isDigit x1 a.2 Q1 hq) ⟨by decide, by decide⟩ (Nat.le_of_ble_eq_true rfl) rfl hF (fun x33 hF => ?_)
        show gV G mX11_write 3 Q 110 [some (sr (some c0)), some (sr c1), some (si c2), some (si c3), some (si a.1), some (si x1), some (si (0 : Int32))] [si x33] (k) (n) a.2
        refine v_if_eq (pc := 110) 153 dX11_write_110 rfl (fun hc => ?_) (fun hc => ?_)
        · replace hF := (okB_if hF).1 hc
          refine v_aload_n (pc := 153) (i := 0) dX11_write_153 rfl rfl ?_
          refine v_iload (pc := 154) (i := 5) dX11_write_154 rfl ?_
          refine cp_S (pc := 156) gI (as := [si x1]) (st := [sr (some c0)]) (k := k) (n := n) dX11_write_156 lkX11_258 caX11_sign csX11_sign rfl (fun Q1 hq => tX11_sign x1 a.2 Q1 hq) ⟨by decide, by decide⟩ (Nat.le_of_ble_eq_true rfl) rfl hF (fun x34 hF => ?_)
          show gV G mX11_write 3 Q 159 [some (sr (some c0)), some (sr c1), some (si c2), some (si c3), some (si a.1), some (si x1), some (si (0 : Int32))] [si x34, sr (some c0)] (k) (n) a.2
          refine ch_V (pc := 159) gU (as := [si x34]) (st := []) (ci := 10) (k := k) (n := n) dX11_write_159 lkX11_245 caX11_cell cvX11_cell rfl (by decide) rfl (fun b Q1 hq => tX11_cell b x34 a.2 Q1 hq) ⟨by decide, by decide⟩ (Nat.le_of_ble_eq_true rfl) rfl hF (fun x35 h36 hF => ?_)
          show gV G mX11_write 3 Q 162 [some (sr (some c0)), some (sr c1), some (si c2), some (si c3), some (si a.1), some (si x1), some (si (0 : Int32))] [] (k) (n) h36
          refine v_iinc (pc := 162) (i := 4) (a.1 + (1 : Int32)) [some (sr (some c0)), some (sr c1), some (si c2), some (si c3), some (si (a.1 + (1 : Int32))), some (si x1), some (si (0 : Int32))] dX11_write_162 rfl rfl rfl rfl ?_
          refine v_goto (pc := 165) 3 dX11_write_165 rfl ?_
          exact v_lle [some (sr (some c0)), some (sr c1), some (si c2), some (si c3), some (si (a.1 + (1 : Int32))), none, none] ⟨rfl, rfl, rfl, rfl, rfl, trivial⟩ (hL _ (okB_some hF))
        replace hF := (okB_if hF).2 hc
        refine v_iload (pc := 113) (i := 6) dX11_write_113 rfl ?_
        refine mg (X := fun q37 => gV G mX11_write 3 Q 124 [some (sr (some c0)), some (sr c1), some (si c2), some (si c3), some (si a.1), some (si x1), none] [] (k) (n) q37) hF (fun _ hj38 hF => ?_) (fun q37 hF => ?_)
        · refine v_if_ne (pc := 115) 124 dX11_write_115 rfl (fun hc => ?_) (fun hc => ?_)
          · replace hF := (okB_if hF).2 hc
            exact v_lle [some (sr (some c0)), some (sr c1), some (si c2), some (si c3), some (si a.1), some (si x1), none] ⟨rfl, rfl, rfl, rfl, rfl, rfl, trivial⟩ (hj38 _ (okB_some hF))
          replace hF := (okB_if hF).1 hc
          refine v_aload_n (pc := 118) (i := 0) dX11_write_118 rfl rfl ?_
          refine v_bipush (pc := 119) (v := (60 : Int32)) dX11_write_119 rfl ?_
          refine ch_V (pc := 121) gU (as := [si (60 : Int32)]) (st := []) (ci := 10) (k := k) (n := n) dX11_write_121 lkX11_245 caX11_cell cvX11_cell rfl (by decide) rfl (fun b Q1 hq => tX11_cell b (60 : Int32) a.2 Q1 hq) ⟨by decide, by decide⟩ (Nat.le_of_ble_eq_true rfl) rfl hF (fun x39 h40 hF => ?_)
          show gV G mX11_write 3 Q 124 [some (sr (some c0)), some (sr c1), some (si c2), some (si c3), some (si a.1), some (si x1), some (si (0 : Int32))] [] (k) (n) h40
          exact v_lle [some (sr (some c0)), some (sr c1), some (si c2), some (si c3), some (si a.1), some (si x1), none] ⟨rfl, rfl, rfl, rfl, rfl, rfl, trivial⟩ (hj38 _ (okB_some hF))
        refine v_aload_n (pc := 124) (i := 0) dX11_write_124 rfl rfl ?_
        refine v_aload_n (pc := 125) (i := 0) dX11_write_125 rfl rfl ?_
        refine s_getR (pc := 126) dX11_write_126 flX11_89 rfl hF (fun x41 hF => ?_)
        refine v_iload (pc := 129) (i := 5) dX11_write_129 rfl ?_
        refine v_bipush (pc := 131) (v := (48 : Int32)) dX11_write_131 rfl ?_
        refine mg (X := fun q42 => gV G mX11_write 3 Q 146 [some (sr (some c0)), some (sr c1), some (si c2), some (si c3), some (si a.1), none, none] [si q42, sr x41, sr (some c0)] (k) (n) q37) hF (fun _ hj43 hF => ?_) (fun q42 hF => ?_)
        · refine v_icmp_ne (pc := 133) 141 dX11_write_133 rfl (fun hc => ?_) (fun hc => ?_)
          · replace hF := (okB_if hF).2 hc
            refine v_iload (pc := 141) (i := 5) dX11_write_141 rfl ?_
            refine v_bipush (pc := 143) (v := (49 : Int32)) dX11_write_143 rfl ?_
            refine v_isub (pc := 145) dX11_write_145 ?_
            exact v_lle [some (sr (some c0)), some (sr c1), some (si c2), some (si c3), some (si a.1), none, none] ⟨rfl, rfl, rfl, rfl, rfl, trivial⟩ (hj43 _ (okB_some hF))
          replace hF := (okB_if hF).1 hc
          refine v_bipush (pc := 136) (v := (9 : Int32)) dX11_write_136 rfl ?_
          refine v_goto (pc := 138) 146 dX11_write_138 rfl ?_
          exact v_lle [some (sr (some c0)), some (sr c1), some (si c2), some (si c3), some (si a.1), none, none] ⟨rfl, rfl, rfl, rfl, rfl, trivial⟩ (hj43 _ (okB_some hF))
        refine s_iald (pc := 146) dX11_write_146 hF (fun x44 hF => ?_)
        refine ch_V (pc := 147) gU (as := [si x44]) (st := []) (ci := 10) (k := k) (n := n) dX11_write_147 lkX11_245 caX11_cell cvX11_cell rfl (by decide) rfl (fun b Q1 hq => tX11_cell b x44 q37 Q1 hq) ⟨by decide, by decide⟩ (Nat.le_of_ble_eq_true rfl) rfl hF (fun x45 h46 hF => ?_)
        show gV G mX11_write 3 Q 150 [some (sr (some c0)), some (sr c1), some (si c2), some (si c3), some (si a.1), none, none] [] (k) (n) h46
        refine v_goto (pc := 150) 162 dX11_write_150 rfl ?_
        refine v_iinc (pc := 162) (i := 4) (a.1 + (1 : Int32)) [some (sr (some c0)), some (sr c1), some (si c2), some (si c3), some (si (a.1 + (1 : Int32))), none, none] dX11_write_162 rfl rfl rfl rfl ?_
        refine v_goto (pc := 165) 3 dX11_write_165 rfl ?_
        exact v_lle [some (sr (some c0)), some (sr c1), some (si c2), some (si c3), some (si (a.1 + (1 : Int32))), none, none] ⟨rfl, rfl, rfl, rfl, rfl, trivial⟩ (hL _ (okB_some hF))
      replace hF := (okB_if hF).2 hc
      refine v_iload (pc := 71) (i := 6) dX11_write_71 rfl ?_
      refine mg (X := fun q47 => gV G mX11_write 3 Q 89 [some (sr (some c0)), some (sr c1), some (si c2), some (si c3), some (si a.1), some (si x1), none] [] (k) (n) q47) hF (fun _ hj48 hF => ?_) (fun q47 hF => ?_)
      · refine v_if_eq (pc := 73) 89 dX11_write_73 rfl (fun hc => ?_) (fun hc => ?_)
        · replace hF := (okB_if hF).1 hc
          exact v_lle [some (sr (some c0)), some (sr c1), some (si c2), some (si c3), some (si a.1), some (si x1), none] ⟨rfl, rfl, rfl, rfl, rfl, rfl, trivial⟩ (hj48 _ (okB_some hF))
        replace hF := (okB_if hF).2 hc
        refine v_iload (pc := 76) (i := 5) dX11_write_76 rfl ?_
        refine v_bipush (pc := 78) (v := (106 : Int32)) dX11_write_78 rfl ?_
        refine v_icmp_gt (pc := 80) 89 dX11_write_80 rfl (fun hc => ?_) (fun hc => ?_)
        · replace hF := (okB_if hF).1 hc
          exact v_lle [some (sr (some c0)), some (sr c1), some (si c2), some (si c3), some (si a.1), some (si x1), none] ⟨rfl, rfl, rfl, rfl, rfl, rfl, trivial⟩ (hj48 _ (okB_some hF))
        replace hF := (okB_if hF).2 hc
        refine v_aload_n (pc := 83) (i := 0) dX11_write_83 rfl rfl ?_
        refine v_bipush (pc := 84) (v := (48 : Int32)) dX11_write_84 rfl ?_
        refine ch_V (pc := 86) gU (as := [si (48 : Int32)]) (st := []) (ci := 10) (k := k) (n := n) dX11_write_86 lkX11_245 caX11_cell cvX11_cell rfl (by decide) rfl (fun b Q1 hq => tX11_cell b (48 : Int32) a.2 Q1 hq) ⟨by decide, by decide⟩ (Nat.le_of_ble_eq_true rfl) rfl hF (fun x49 h50 hF => ?_)
        show gV G mX11_write 3 Q 89 [some (sr (some c0)), some (sr c1), some (si c2), some (si c3), some (si a.1), some (si x1), some (si (0 : Int32))] [] (k) (n) h50
        exact v_lle [some (sr (some c0)), some (sr c1), some (si c2), some (si c3), some (si a.1), some (si x1), none] ⟨rfl, rfl, rfl, rfl, rfl, rfl, trivial⟩ (hj48 _ (okB_some hF))
      refine v_aload_n (pc := 89) (i := 0) dX11_write_89 rfl rfl ?_
      refine v_aload_n (pc := 90) (i := 0) dX11_write_90 rfl rfl ?_
      refine v_iload (pc := 91) (i := 5) dX11_write_91 rfl ?_
      refine v_bipush (pc := 93) (v := (97 : Int32)) dX11_write_93 rfl ?_
      refine v_isub (pc := 95) dX11_write_95 ?_
      refine cp_V (pc := 96) gI (as := [si (x1 - (97 : Int32))]) (st := [sr (some c0)]) (ci := 10) (k := k) (n := n) dX11_write_96 lkX11_248 caX11_points cvX11_points rfl (by decide) rfl (fun b Q1 hq => tX11_points b (x1 - (97 : Int32)) q47 Q1 hq) ⟨by decide, by decide⟩ (Nat.le_of_ble_eq_true rfl) rfl hF (fun x51 hF => ?_)
      show gV G mX11_write 3 Q 99 [some (sr (some c0)), some (sr c1), some (si c2), some (si c3), some (si a.1), some (si x1), none] [si x51, sr (some c0)] (k) (n) q47
      refine ch_V (pc := 99) gU (as := [si x51]) (st := []) (ci := 10) (k := k) (n := n) dX11_write_99 lkX11_245 caX11_cell cvX11_cell rfl (by decide) rfl (fun b Q1 hq => tX11_cell b x51 q47 Q1 hq) ⟨by decide, by decide⟩ (Nat.le_of_ble_eq_true rfl) rfl hF (fun x52 h53 hF => ?_)
      show gV G mX11_write 3 Q 102 [some (sr (some c0)), some (sr c1), some (si c2), some (si c3), some (si a.1), some (si x1), none] [] (k) (n) h53
      refine v_goto (pc := 102) 162 dX11_write_102 rfl ?_
      refine v_iinc (pc := 162) (i := 4) (a.1 + (1 : Int32)) [some (sr (some c0)), some (sr c1), some (si c2), some (si c3), some (si (a.1 + (1 : Int32))), some (si x1), none] dX11_write_162 rfl rfl rfl rfl ?_
      refine v_goto (pc := 165) 3 dX11_write_165 rfl ?_
      exact v_lle [some (sr (some c0)), some (sr c1), some (si c2), some (si c3), some (si (a.1 + (1 : Int32))), none, none] ⟨rfl, rfl, rfl, rfl, rfl, trivial⟩ (hL _ (okB_some hF))
    replace hF := (okB_if hF).2 hc
    refine v_aload_n (pc := 51) (i := 0) dX11_write_51 rfl rfl ?_
    refine v_aload_n (pc := 52) (i := 1) dX11_write_52 rfl rfl ?_
    refine v_iload_n (pc := 53) (i := 2) dX11_write_53 rfl rfl ?_
    refine v_iload_n (pc := 54) (i := 3) dX11_write_54 rfl rfl ?_
    refine v_iload (pc := 55) (i := 4) dX11_write_55 rfl ?_
    refine ch_V (pc := 57) gU (as := [sr c1, si c2, si c3, si a.1]) (st := []) (ci := 10) (k := k) (n := n) dX11_write_57 lkX11_254 caX11_writeGreat cvX11_writeGreat rfl (by decide) rfl (fun b Q1 hq => tX11_writeGreat b c1 c2 c3 a.1 a.2 Q1 hq) ⟨by decide, by decide⟩ (Nat.le_of_ble_eq_true rfl) rfl hF (fun x54 h55 hF => ?_)
    show gV G mX11_write 3 Q 60 [some (sr (some c0)), some (sr c1), some (si c2), some (si c3), some (si a.1), some (si x1), some (si (0 : Int32))] [] (k) (n) h55
    refine v_goto (pc := 60) 162 dX11_write_60 rfl ?_
    refine v_iinc (pc := 162) (i := 4) (a.1 + (1 : Int32)) [some (sr (some c0)), some (sr c1), some (si c2), some (si c3), some (si (a.1 + (1 : Int32))), some (si x1), some (si (0 : Int32))] dX11_write_162 rfl rfl rfl rfl ?_
    refine v_goto (pc := 165) 3 dX11_write_165 rfl ?_
    exact v_lle [some (sr (some c0)), some (sr c1), some (si c2), some (si c3), some (si (a.1 + (1 : Int32))), none, none] ⟨rfl, rfl, rfl, rfl, rfl, trivial⟩ (hL _ (okB_some hF)))
def fX11_write (a0 : Nat) (a1 : Option Nat) (a2 : Int32) (a3 : Int32) (h : hp) : Option (Unit × hp) :=
  Option.bind (α := hp)
  (itr (fX11_write_B3 a0 a1 a2 a3) FU ((0 : Int32), h))
  fun q1 =>
  some (((), q1))
theorem tX11_write {G : gG} (a0 : Nat) (a1 : Option Nat) (a2 : Int32) (a3 : Int32) (h : hp) (Q : hQ) (hF : okB (fX11_write a0 a1 a2 a3 h) (pH gU Q)) : gS G mX11_write 3 0 0 [sr (some a0), sr a1, si a2, si a3] h Q := by
  delta fX11_write at hF
  refine gS_at [some (sr (some a0)), some (sr a1), some (si a2), some (si a3), none, none, none] pl_X11 rfl (Nat.le_of_ble_eq_true rfl) rfl ?_
  refine v_iconst (pc := 0) (v := (0 : Int32)) dX11_write_0 rfl ?_
  refine v_istore (pc := 1) (i := 4) [some (sr (some a0)), some (sr a1), some (si a2), some (si a3), some (si (0 : Int32)), none, none] dX11_write_1 (by decide) rfl rfl ?_
  refine mg (X := fun q1 => gV G mX11_write 3 Q 168 [none, none, none, none, none, none, none] [] (0) (0) q1) hF (fun _ hj2 hF => v_lle [some (sr (some a0)), some (sr a1), some (si a2), some (si a3), some (si (0 : Int32)), none, none] ⟨rfl, rfl, rfl, rfl, rfl, trivial⟩ (lX11_write_3 a0 a1 a2 a3 hj2 _ _ hF)) (fun q1 hF => ?_)
  exact v_ret (pc := 168) dX11_write_168 rfl (okr hF fun q => q)

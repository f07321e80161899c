/-! ===== the law's methods that call the desk ===== -/
theorem dL_drafts_0 : decode cL_drafts 0 = .ok (.lconst 0, 1) := by decide +kernel
theorem dL_drafts_1 : decode cL_drafts 1 = .ok (.lstore_n 2, 1) := by decide +kernel
theorem dL_drafts_2 : decode cL_drafts 2 = .ok (.iconst 0, 1) := by decide +kernel
theorem dL_drafts_3 : decode cL_drafts 3 = .ok (.istore 4, 2) := by decide +kernel
theorem dL_drafts_5 : decode cL_drafts 5 = .ok (.iload 4, 2) := by decide +kernel
theorem dL_drafts_7 : decode cL_drafts 7 = .ok (.iload_n 1, 1) := by decide +kernel
theorem dL_drafts_8 : decode cL_drafts 8 = .ok (.iconst 3, 1) := by decide +kernel
theorem dL_drafts_9 : decode cL_drafts 9 = .ok (.idiv, 1) := by decide +kernel
theorem dL_drafts_10 : decode cL_drafts 10 = .ok (.iconst 4, 1) := by decide +kernel
theorem dL_drafts_11 : decode cL_drafts 11 = .ok (.irem, 1) := by decide +kernel
theorem dL_drafts_12 : decode cL_drafts 12 = .ok (.if_icmp .ge 57, 3) := by decide +kernel
theorem dL_drafts_15 : decode cL_drafts 15 = .ok (.iload_n 1, 1) := by decide +kernel
theorem dL_drafts_16 : decode cL_drafts 16 = .ok (.iconst 5, 1) := by decide +kernel
theorem dL_drafts_17 : decode cL_drafts 17 = .ok (.bipush 8, 2) := by decide +kernel
theorem dL_drafts_19 : decode cL_drafts 19 = .ok (.iload 4, 2) := by decide +kernel
theorem dL_drafts_21 : decode cL_drafts 21 = .ok (.imul, 1) := by decide +kernel
theorem dL_drafts_22 : decode cL_drafts 22 = .ok (.iadd, 1) := by decide +kernel
theorem dL_drafts_23 : decode cL_drafts 23 = .ok (.idiv, 1) := by decide +kernel
theorem dL_drafts_24 : decode cL_drafts 24 = .ok (.bipush 64, 2) := by decide +kernel
theorem dL_drafts_26 : decode cL_drafts 26 = .ok (.irem, 1) := by decide +kernel
theorem dL_drafts_27 : decode cL_drafts 27 = .ok (.invokestatic 213, 3) := by decide +kernel
theorem dL_drafts_30 : decode cL_drafts 30 = .ok (.istore 5, 2) := by decide +kernel
theorem dL_drafts_32 : decode cL_drafts 32 = .ok (.lload_n 2, 1) := by decide +kernel
theorem dL_drafts_33 : decode cL_drafts 33 = .ok (.aload_n 0, 1) := by decide +kernel
theorem dL_drafts_34 : decode cL_drafts 34 = .ok (.iload 5, 2) := by decide +kernel
theorem dL_drafts_36 : decode cL_drafts 36 = .ok (.invokevirtual 216, 3) := by decide +kernel
theorem dL_drafts_39 : decode cL_drafts 39 = .ok (.iload 4, 2) := by decide +kernel
theorem dL_drafts_41 : decode cL_drafts 41 = .ok (.iconst 1, 1) := by decide +kernel
theorem dL_drafts_42 : decode cL_drafts 42 = .ok (.iadd, 1) := by decide +kernel
theorem dL_drafts_43 : decode cL_drafts 43 = .ok (.if_icmp .ne 15, 3) := by decide +kernel
theorem dL_drafts_46 : decode cL_drafts 46 = .ok (.iload 5, 2) := by decide +kernel
theorem dL_drafts_48 : decode cL_drafts 48 = .ok (.i2l, 1) := by decide +kernel
theorem dL_drafts_49 : decode cL_drafts 49 = .ok (.bipush 20, 2) := by decide +kernel
theorem dL_drafts_51 : decode cL_drafts 51 = .ok (.iload 4, 2) := by decide +kernel
theorem dL_drafts_53 : decode cL_drafts 53 = .ok (.imul, 1) := by decide +kernel
theorem dL_drafts_54 : decode cL_drafts 54 = .ok (.lshl, 1) := by decide +kernel
theorem dL_drafts_55 : decode cL_drafts 55 = .ok (.goto 6, 3) := by decide +kernel
theorem dL_drafts_58 : decode cL_drafts 58 = .ok (.ldc2_w 91, 3) := by decide +kernel
theorem dL_drafts_61 : decode cL_drafts 61 = .ok (.lor, 1) := by decide +kernel
theorem dL_drafts_62 : decode cL_drafts 62 = .ok (.lstore_n 2, 1) := by decide +kernel
theorem dL_drafts_63 : decode cL_drafts 63 = .ok (.iinc 4 1, 3) := by decide +kernel
theorem dL_drafts_66 : decode cL_drafts 66 = .ok (.goto (-61), 3) := by decide +kernel
theorem dL_drafts_69 : decode cL_drafts 69 = .ok (.lload_n 2, 1) := by decide +kernel
theorem dL_drafts_70 : decode cL_drafts 70 = .ok (.lreturn, 1) := by decide +kernel
abbrev mL_drafts : gM := (yL_drafts, cL_drafts, 6, (Option.some FieldType.long), [])
set_option maxRecDepth 100000 in
theorem caL_drafts : cal mL_drafts 2 := ⟨xw 1244 rfl rfl, xw 28 (by decide +kernel) rfl, by decide, by decide +kernel⟩
theorem csL_drafts : Cond.static yL_drafts ∈ XW := xw 1243 (by decide +kernel) rfl
theorem lkL_213 : Cond.methodLink RL 213 yL_code ∈ XW := xw 1245 (by decide +kernel) rfl
theorem lkL_216 : Cond.methodLink RL 216 yX10_draft ∈ XW := xw 1250 (by decide +kernel) rfl
/-! drafts -/
theorem lL_drafts_5 {G : gG} {Q : hQ} {KE : (Int64 × hp) → Prop} {k n : Nat} (c0 : (Option Nat)) (c1 : Int32) (hJ : ∀ q : (Int64 × hp), KE q → gV G mL_drafts 7 Q 69 [none, none, some (sl q.1), none, none, none] [] (k) (n) q.2) : ∀ (fu : Nat) (a : (Int64 × Int32 × hp)), itrW (fL_drafts_B5 c0 c1) fu a KE → gV G mL_drafts 7 Q 5 [some (sr c0), some (si c1), some (sl a.1), none, some (si a.2.1), none] [] (1 * fu + k) (6 * fu + n) a.2.2 :=
  lpW (X := fun (m : Nat) (a : (Int64 × Int32 × hp)) => gV G mL_drafts 7 Q 5 [some (sr c0), some (si c1), some (sl a.1), none, some (si a.2.1), none] [] (1 * m + k) (6 * m + n) a.2.2) (fun m a P1 hL hF => by
    delta fL_drafts_B5 at hF
    refine v_room (k' := 1 * m + k + 1) (n' := 6 * m + n + 6) (by omega) (by omega) ?_
    refine v_iload (pc := 5) (i := 4) dL_drafts_5 rfl ?_
    refine v_iload_n (pc := 7) (i := 1) dL_drafts_7 rfl rfl ?_
    refine v_iconst (pc := 8) (v := (3 : Int32)) dL_drafts_8 rfl ?_
    refine s_idiv (f := some) (pc := 9) dL_drafts_9 (okB_bs hF) (fun hF => ?_)
    replace hF := okB_some hF
    refine v_iconst (pc := 10) (v := (4 : Int32)) dL_drafts_10 rfl ?_
    refine s_irem (f := some) (pc := 11) dL_drafts_11 (okB_bs hF) (fun hF => ?_)
    replace hF := okB_some hF
    refine v_icmp_ge (pc := 12) 69 dL_drafts_12 rfl (fun hc => ?_) (fun hc => ?_)
    · replace hF := (ifP hF).1 hc
      exact v_room (k' := k) (n' := n) (by omega) (by omega) <| v_lle [none, none, some (sl a.1), none, none, none] ⟨rfl, trivial⟩ (hJ (a.1, a.2.2) hF)
    replace hF := (ifP hF).2 hc
    refine v_iload_n (pc := 15) (i := 1) dL_drafts_15 rfl rfl ?_
    refine v_iconst (pc := 16) (v := (5 : Int32)) dL_drafts_16 rfl ?_
    refine v_bipush (pc := 17) (v := (8 : Int32)) dL_drafts_17 rfl ?_
    refine v_iload (pc := 19) (i := 4) dL_drafts_19 rfl ?_
    refine v_imul (pc := 21) dL_drafts_21 ?_
    refine v_iadd (pc := 22) dL_drafts_22 ?_
    refine s_idiv (f := some) (pc := 23) dL_drafts_23 (okB_bs hF) (fun hF => ?_)
    replace hF := okB_some hF
    refine v_bipush (pc := 24) (v := (64 : Int32)) dL_drafts_24 rfl ?_
    refine s_irem (f := some) (pc := 26) dL_drafts_26 (okB_bs hF) (fun hF => ?_)
    replace hF := okB_some hF
    refine yp_S (pc := 27) gI (as := [si ((c1 / ((5 : Int32) + ((8 : Int32) * a.2.1))) - (c1 / ((5 : Int32) + ((8 : Int32) * a.2.1))) / (64 : Int32) * (64 : Int32))]) (st := []) (N := mL_code) (k := 1 * m + k + 1) (n := 6 * m + n + 6) (k1 := 0) (n1 := 0) dL_drafts_27 lkL_213 caL_code csL_code rfl (fun Q1 hq => tL_code ((c1 / ((5 : Int32) + ((8 : Int32) * a.2.1))) - (c1 / ((5 : Int32) + ((8 : Int32) * a.2.1))) / (64 : Int32) * (64 : Int32)) a.2.2 Q1 hq) ⟨by decide, by decide⟩ (Nat.le_of_ble_eq_true rfl) hF (fun x1 hF => ?_)
    show gV G mL_drafts 7 Q 30 [some (sr c0), some (si c1), some (sl a.1), none, some (si a.2.1), none] [si x1] (1 * m + k + 1) (6 * m + n + 6) a.2.2
    refine v_istore (pc := 30) (i := 5) [some (sr c0), some (si c1), some (sl a.1), none, some (si a.2.1), some (si x1)] dL_drafts_30 (by decide) rfl rfl ?_
    refine v_lload_n (pc := 32) (i := 2) dL_drafts_32 rfl rfl ?_
    refine v_aload_n (pc := 33) (i := 0) dL_drafts_33 rfl rfl ?_
    refine v_iload (pc := 34) (i := 5) dL_drafts_34 rfl ?_
    refine yx_V (pc := 36) gI (as := [si x1]) (st := [sl a.1]) (ci := 9) (N := mX10_draft) (k := 1 * m + k + 0) (n := 6 * m + n + 0) (k1 := 1) (n1 := 6) dL_drafts_36 lkL_216 caX10_draft cvX10_draft rfl (by decide) rfl (fun b Q1 hq => tX10_draft b x1 a.2.2 Q1 hq) ⟨by decide, by decide⟩ (Nat.le_of_ble_eq_true rfl) hF (fun x2 h3 hF => ?_)
    show gV G mL_drafts 7 Q 39 [some (sr c0), some (si c1), some (sl a.1), none, some (si a.2.1), some (si x1)] [si x2, sl a.1] (1 * m + k + 0) (6 * m + n + 0) h3
    refine v_iload (pc := 39) (i := 4) dL_drafts_39 rfl ?_
    refine v_iconst (pc := 41) (v := (1 : Int32)) dL_drafts_41 rfl ?_
    refine v_iadd (pc := 42) dL_drafts_42 ?_
    refine v_icmp_ne (pc := 43) 58 dL_drafts_43 rfl (fun hc => ?_) (fun hc => ?_)
    · replace hF := (ifP hF).2 hc
      refine v_ldc2 (pc := 58) (v := (-1 : Int64)) dL_drafts_58 clL_91 ?_
      refine v_lor (pc := 61) dL_drafts_61 ?_
      refine v_lstore_n (pc := 62) (i := 2) [some (sr c0), some (si c1), some (sl (a.1 ||| (-1 : Int64))), none, some (si a.2.1), some (si x1)] dL_drafts_62 rfl (by decide) rfl rfl ?_
      refine v_iinc (pc := 63) (i := 4) (a.2.1 + (1 : Int32)) [some (sr c0), some (si c1), some (sl (a.1 ||| (-1 : Int64))), none, some (si (a.2.1 + (1 : Int32))), some (si x1)] dL_drafts_63 rfl rfl rfl rfl ?_
      refine v_goto (pc := 66) 5 dL_drafts_66 rfl ?_
      exact v_room (k' := 1 * m + k) (n' := 6 * m + n) (by omega) (by omega) <| v_lle [some (sr c0), some (si c1), some (sl (a.1 ||| (-1 : Int64))), none, some (si (a.2.1 + (1 : Int32))), none] ⟨rfl, rfl, rfl, rfl, trivial⟩ (hL (a.1 ||| (-1 : Int64), a.2.1 + (1 : Int32), h3) hF)
    replace hF := (ifP hF).1 hc
    refine v_iload (pc := 46) (i := 5) dL_drafts_46 rfl ?_
    refine v_i2l (pc := 48) dL_drafts_48 ?_
    refine v_bipush (pc := 49) (v := (20 : Int32)) dL_drafts_49 rfl ?_
    refine v_iload (pc := 51) (i := 4) dL_drafts_51 rfl ?_
    refine v_imul (pc := 53) dL_drafts_53 ?_
    refine v_lshl (pc := 54) dL_drafts_54 ?_
    refine v_goto (pc := 55) 61 dL_drafts_55 rfl ?_
    refine v_lor (pc := 61) dL_drafts_61 ?_
    refine v_lstore_n (pc := 62) (i := 2) [some (sr c0), some (si c1), some (sl (a.1 ||| (x1.toInt64 <<< (((20 : Int32) * a.2.1).toInt64 &&& 63)))), none, some (si a.2.1), some (si x1)] dL_drafts_62 rfl (by decide) rfl rfl ?_
    refine v_iinc (pc := 63) (i := 4) (a.2.1 + (1 : Int32)) [some (sr c0), some (si c1), some (sl (a.1 ||| (x1.toInt64 <<< (((20 : Int32) * a.2.1).toInt64 &&& 63)))), none, some (si (a.2.1 + (1 : Int32))), some (si x1)] dL_drafts_63 rfl rfl rfl rfl ?_
    refine v_goto (pc := 66) 5 dL_drafts_66 rfl ?_
    exact v_room (k' := 1 * m + k) (n' := 6 * m + n) (by omega) (by omega) <| v_lle [some (sr c0), some (si c1), some (sl (a.1 ||| (x1.toInt64 <<< (((20 : Int32) * a.2.1).toInt64 &&& 63)))), none, some (si (a.2.1 + (1 : Int32))), none] ⟨rfl, rfl, rfl, rfl, trivial⟩ (hL (a.1 ||| (x1.toInt64 <<< (((20 : Int32) * a.2.1).toInt64 &&& 63)), a.2.1 + (1 : Int32), h3) hF))
theorem tL_drafts {G : gG} (a0 : (Option Nat)) (a1 : Int32) (h : hp) (K : Int64 → hp → Prop) (Q : hQ) (hK : ∀ x h', K x h' → Q (.inl (some (sl x))) h') (hF : fL_drafts a0 a1 h K) : gS G mL_drafts 7 4 24 [sr a0, si a1] h Q := by
  delta fL_drafts at hF
  refine gS_at [some (sr a0), some (si a1), none, none, none, none] pl_L rfl (Nat.le_of_ble_eq_true rfl) rfl ?_
  refine v_lconst (pc := 0) (v := (0 : Int64)) dL_drafts_0 rfl ?_
  refine v_lstore_n (pc := 1) (i := 2) [some (sr a0), some (si a1), some (sl (0 : Int64)), none, none, none] dL_drafts_1 rfl (by decide) rfl rfl ?_
  refine v_iconst (pc := 2) (v := (0 : Int32)) dL_drafts_2 rfl ?_
  refine v_istore (pc := 3) (i := 4) [some (sr a0), some (si a1), some (sl (0 : Int64)), none, some (si (0 : Int32)), none] dL_drafts_3 (by decide) rfl rfl ?_
  refine mgW (X := fun q1 => gV G mL_drafts 7 Q 69 [none, none, some (sl q1.1), none, none, none] [] (0) (0) q1.2) hF (fun _ hj hF => v_room (k' := 1 * 4 + (0)) (n' := 6 * 4 + (0)) (by decide) (by decide) <| v_lle [some (sr a0), some (si a1), some (sl (0 : Int64)), none, some (si (0 : Int32)), none] ⟨rfl, rfl, rfl, rfl, trivial⟩ (lL_drafts_5 a0 a1 hj 4 ((0 : Int64), (0 : Int32), h) hF)) (fun q1 hF => ?_)
  refine v_lload_n (pc := 69) (i := 2) dL_drafts_69 rfl rfl ?_
  exact v_lret (pc := 70) dL_drafts_70 rfl (hK _ _ hF)

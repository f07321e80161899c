/-! ===== the wrappers ===== -/
theorem dL_nameLength_0 : decode cL_nameLength 0 = .ok (.aload_n 2, 1) := by decide +kernel
theorem dL_nameLength_1 : decode cL_nameLength 1 = .ok (.iconst 0, 1) := by decide +kernel
theorem dL_nameLength_2 : decode cL_nameLength 2 = .ok (.aload_n 0, 1) := by decide +kernel
theorem dL_nameLength_3 : decode cL_nameLength 3 = .ok (.iload_n 1, 1) := by decide +kernel
theorem dL_nameLength_4 : decode cL_nameLength 4 = .ok (.invokevirtual 55, 3) := by decide +kernel
theorem dL_nameLength_7 : decode cL_nameLength 7 = .ok (.i2l, 1) := by decide +kernel
theorem dL_nameLength_8 : decode cL_nameLength 8 = .ok (.lastore, 1) := by decide +kernel
theorem dL_nameLength_9 : decode cL_nameLength 9 = .ok (.goto 6, 3) := by decide +kernel
theorem dL_nameLength_12 : decode cL_nameLength 12 = .ok (.astore_n 3, 1) := by decide +kernel
theorem dL_nameLength_13 : decode cL_nameLength 13 = .ok (.iconst 1, 1) := by decide +kernel
theorem dL_nameLength_14 : decode cL_nameLength 14 = .ok (.ireturn, 1) := by decide +kernel
theorem dL_nameLength_15 : decode cL_nameLength 15 = .ok (.iconst 0, 1) := by decide +kernel
theorem dL_nameLength_16 : decode cL_nameLength 16 = .ok (.ireturn, 1) := by decide +kernel
abbrev mL_nameLength : gM := (yL_nameLength, cL_nameLength, 4, some .int, [(0, 9, 12, 21)])
theorem caL_nameLength : cal2 mL_nameLength 3 := ⟨xw 1025 (by decide +kernel) rfl, xw 86 (by decide +kernel) rfl, by decide, by decide +kernel, xw 1024 (by decide +kernel) rfl⟩
theorem lkL_55 : Cond.methodLink RL 55 yX10_nameLength ∈ XW := xw 1026 (by decide +kernel) rfl
theorem wL_nameLength {G : gG} {x o : Nat} {a1 : Int32} {h h' : hp} {Q : hQ} (a : Int32 ⊕ String) (hx : (hT h x).1 = 10) (ho : hT h' o = (24, 1)) (hS : ∀ Q1 : hQ, Q1 (oA a) h' → gS G mX10_nameLength 7 1 6 [sr (some x), si a1] h Q1) (hq : WrQ o i2l9 [exI] a h' Q) : gS2 G mL_nameLength 8 1 6 [sr (some x), si a1, sr (some o)] h Q := by
  refine gS2_at [some (sr (some x)), some (si a1), some (sr (some o)), none] pl_L (Nat.le_of_ble_eq_true rfl) rfl ?_
  refine z_aload_n (pc := 0) (i := 2) dL_nameLength_0 rfl rfl ?_
  refine z_iconst (pc := 1) (v := 0) dL_nameLength_1 rfl ?_
  refine z_aload_n (pc := 2) (i := 0) dL_nameLength_2 rfl rfl ?_
  refine z_iload_n (pc := 3) (i := 1) dL_nameLength_3 rfl rfl ?_
  refine z_invH (pc := 4) (as := [si a1]) (st := [si 0, sr (some o)]) (ci := 9) (N := mX10_nameLength) (k := 0) (n := 0) (k1 := 1) (n1 := 6) (fun _ z => z) dL_nameLength_4 lkL_55 caX10_nameLength cvX10_nameLength rfl (by decide) rfl hx (hS (fun o9 h9 => o9 = oA a ∧ h9 = h') ⟨rfl, rfl⟩) ⟨by decide, by decide⟩ (Nat.le_of_ble_eq_true rfl) (fun v h9 q => ?_) (fun E h9 n9 q9 q hn => ?_)
  · rcases a with b | E
    · obtain ⟨q1, rfl⟩ := q
      have q2 : v = some (si b) := Sum.inl.inj q1
      subst q2
      show gZ NC G mL_nameLength 8 Q 7 [some (sr (some x)), some (si a1), some (sr (some o)), none] [si b, si 0, sr (some o)] 0 0 h9
      refine z_i2l (pc := 7) dL_nameLength_7 ?_
      refine z_last (pc := 8) dL_nameLength_8 (by rw [ho]) (by rw [ho]; exact in0) ?_
      refine z_goto (pc := 9) 15 dL_nameLength_9 rfl ?_
      refine z_iconst (pc := 15) (v := 0) dL_nameLength_15 rfl ?_
      exact z_iret (pc := 16) dL_nameLength_16 rfl rfl hq
    · exact absurd q.1 (fun z => nomatch z)
  · rcases a with b | E9
    · exact absurd q.1 (fun z => nomatch z)
    · obtain ⟨q1, rfl⟩ := q
      have q2 : E = E9 := Sum.inr.inj q1
      subst q2
      obtain ⟨k9, hk1, rfl, hk2⟩ := hq
      have hk3 : k9 = 0 := by simp at hk1; omega
      subst hk3
      refine ⟨[], ⟨0, 9, 12, 21⟩, [], exI, rfl, (fun z hz => nomatch hz), rfl, by decide, clL_21, ca_exI, ?_⟩
      show gZ NC G mL_nameLength 8 Q 12 [some (sr (some x)), some (si a1), some (sr (some o)), none] [sr (some q9)] 0 0 (wS h9 n9)
      refine z_astore_n (pc := 12) (i := 3) [some (sr (some x)), some (si a1), some (sr (some o)), some (sr (some q9))] dL_nameLength_12 rfl (by decide) rfl rfl ?_
      refine z_iconst (pc := 13) (v := 1) dL_nameLength_13 rfl ?_
      exact z_iret (pc := 14) dL_nameLength_14 rfl rfl (hk2 n9 hn)
theorem dL_nameAt_0 : decode cL_nameAt 0 = .ok (.aload_n 3, 1) := by decide +kernel
theorem dL_nameAt_1 : decode cL_nameAt 1 = .ok (.iconst 0, 1) := by decide +kernel
theorem dL_nameAt_2 : decode cL_nameAt 2 = .ok (.aload_n 0, 1) := by decide +kernel
theorem dL_nameAt_3 : decode cL_nameAt 3 = .ok (.iload_n 1, 1) := by decide +kernel
theorem dL_nameAt_4 : decode cL_nameAt 4 = .ok (.iload_n 2, 1) := by decide +kernel
theorem dL_nameAt_5 : decode cL_nameAt 5 = .ok (.invokevirtual 58, 3) := by decide +kernel
theorem dL_nameAt_8 : decode cL_nameAt 8 = .ok (.i2l, 1) := by decide +kernel
theorem dL_nameAt_9 : decode cL_nameAt 9 = .ok (.lastore, 1) := by decide +kernel
theorem dL_nameAt_10 : decode cL_nameAt 10 = .ok (.goto 7, 3) := by decide +kernel
theorem dL_nameAt_13 : decode cL_nameAt 13 = .ok (.astore 4, 2) := by decide +kernel
theorem dL_nameAt_15 : decode cL_nameAt 15 = .ok (.iconst 1, 1) := by decide +kernel
theorem dL_nameAt_16 : decode cL_nameAt 16 = .ok (.ireturn, 1) := by decide +kernel
theorem dL_nameAt_17 : decode cL_nameAt 17 = .ok (.iconst 0, 1) := by decide +kernel
theorem dL_nameAt_18 : decode cL_nameAt 18 = .ok (.ireturn, 1) := by decide +kernel
abbrev mL_nameAt : gM := (yL_nameAt, cL_nameAt, 5, some .int, [(0, 10, 13, 21)])
theorem caL_nameAt : cal2 mL_nameAt 4 := ⟨xw 1032 (by decide +kernel) rfl, xw 86 (by decide +kernel) rfl, by decide, by decide +kernel, xw 1031 (by decide +kernel) rfl⟩
theorem lkL_58 : Cond.methodLink RL 58 yX10_nameAt ∈ XW := xw 1033 (by decide +kernel) rfl
theorem wL_nameAt {G : gG} {x o : Nat} {a1 a2 : Int32} {h h' : hp} {Q : hQ} (a : Int32 ⊕ String) (hx : (hT h x).1 = 10) (ho : hT h' o = (24, 1)) (hS : ∀ Q1 : hQ, Q1 (oA a) h' → gS G mX10_nameAt 7 2 12 [sr (some x), si a1, si a2] h Q1) (hq : WrQ o i2l9 [exI] a h' Q) : gS2 G mL_nameAt 8 2 12 [sr (some x), si a1, si a2, sr (some o)] h Q := by
  refine gS2_at [some (sr (some x)), some (si a1), some (si a2), some (sr (some o)), none] pl_L (Nat.le_of_ble_eq_true rfl) rfl ?_
  refine z_aload_n (pc := 0) (i := 3) dL_nameAt_0 rfl rfl ?_
  refine z_iconst (pc := 1) (v := 0) dL_nameAt_1 rfl ?_
  refine z_aload_n (pc := 2) (i := 0) dL_nameAt_2 rfl rfl ?_
  refine z_iload_n (pc := 3) (i := 1) dL_nameAt_3 rfl rfl ?_
  refine z_iload_n (pc := 4) (i := 2) dL_nameAt_4 rfl rfl ?_
  refine z_invH (pc := 5) (as := [si a1, si a2]) (st := [si 0, sr (some o)]) (ci := 9) (N := mX10_nameAt) (k := 0) (n := 0) (k1 := 2) (n1 := 12) (fun _ z => z) dL_nameAt_5 lkL_58 caX10_nameAt cvX10_nameAt rfl (by decide) rfl hx (hS (fun o9 h9 => o9 = oA a ∧ h9 = h') ⟨rfl, rfl⟩) ⟨by decide, by decide⟩ (Nat.le_of_ble_eq_true rfl) (fun v h9 q => ?_) (fun E h9 n9 q9 q hn => ?_)
  · rcases a with b | E
    · obtain ⟨q1, rfl⟩ := q
      have q2 : v = some (si b) := Sum.inl.inj q1
      subst q2
      show gZ NC G mL_nameAt 8 Q 8 [some (sr (some x)), some (si a1), some (si a2), some (sr (some o)), none] [si b, si 0, sr (some o)] 0 0 h9
      refine z_i2l (pc := 8) dL_nameAt_8 ?_
      refine z_last (pc := 9) dL_nameAt_9 (by rw [ho]) (by rw [ho]; exact in0) ?_
      refine z_goto (pc := 10) 17 dL_nameAt_10 rfl ?_
      refine z_iconst (pc := 17) (v := 0) dL_nameAt_17 rfl ?_
      exact z_iret (pc := 18) dL_nameAt_18 rfl rfl hq
    · exact absurd q.1 (fun z => nomatch z)
  · rcases a with b | E9
    · exact absurd q.1 (fun z => nomatch z)
    · obtain ⟨q1, rfl⟩ := q
      have q2 : E = E9 := Sum.inr.inj q1
      subst q2
      obtain ⟨k9, hk1, rfl, hk2⟩ := hq
      have hk3 : k9 = 0 := by simp at hk1; omega
      subst hk3
      refine ⟨[], ⟨0, 10, 13, 21⟩, [], exI, rfl, (fun z hz => nomatch hz), rfl, by decide, clL_21, ca_exI, ?_⟩
      show gZ NC G mL_nameAt 8 Q 13 [some (sr (some x)), some (si a1), some (si a2), some (sr (some o)), none] [sr (some q9)] 0 0 (wS h9 n9)
      refine z_astore (pc := 13) (i := 4) [some (sr (some x)), some (si a1), some (si a2), some (sr (some o)), some (sr (some q9))] dL_nameAt_13 (by decide) rfl rfl ?_
      refine z_iconst (pc := 15) (v := 1) dL_nameAt_15 rfl ?_
      exact z_iret (pc := 16) dL_nameAt_16 rfl rfl (hk2 n9 hn)
theorem dL_contentLength_0 : decode cL_contentLength 0 = .ok (.aload_n 2, 1) := by decide +kernel
theorem dL_contentLength_1 : decode cL_contentLength 1 = .ok (.iconst 0, 1) := by decide +kernel
theorem dL_contentLength_2 : decode cL_contentLength 2 = .ok (.aload_n 0, 1) := by decide +kernel
theorem dL_contentLength_3 : decode cL_contentLength 3 = .ok (.iload_n 1, 1) := by decide +kernel
theorem dL_contentLength_4 : decode cL_contentLength 4 = .ok (.invokevirtual 61, 3) := by decide +kernel
theorem dL_contentLength_7 : decode cL_contentLength 7 = .ok (.i2l, 1) := by decide +kernel
theorem dL_contentLength_8 : decode cL_contentLength 8 = .ok (.lastore, 1) := by decide +kernel
theorem dL_contentLength_9 : decode cL_contentLength 9 = .ok (.goto 6, 3) := by decide +kernel
theorem dL_contentLength_12 : decode cL_contentLength 12 = .ok (.astore_n 3, 1) := by decide +kernel
theorem dL_contentLength_13 : decode cL_contentLength 13 = .ok (.iconst 1, 1) := by decide +kernel
theorem dL_contentLength_14 : decode cL_contentLength 14 = .ok (.ireturn, 1) := by decide +kernel
theorem dL_contentLength_15 : decode cL_contentLength 15 = .ok (.iconst 0, 1) := by decide +kernel
theorem dL_contentLength_16 : decode cL_contentLength 16 = .ok (.ireturn, 1) := by decide +kernel
abbrev mL_contentLength : gM := (yL_contentLength, cL_contentLength, 4, some .int, [(0, 9, 12, 21)])
theorem caL_contentLength : cal2 mL_contentLength 3 := ⟨xw 1044 (by decide +kernel) rfl, xw 86 (by decide +kernel) rfl, by decide, by decide +kernel, xw 1043 (by decide +kernel) rfl⟩
theorem lkL_61 : Cond.methodLink RL 61 yX10_contentLength ∈ XW := xw 1045 (by decide +kernel) rfl
theorem wL_contentLength {G : gG} {x o : Nat} {a1 : Int32} {h h' : hp} {Q : hQ} (a : Int32 ⊕ String) (hx : (hT h x).1 = 10) (ho : hT h' o = (24, 1)) (hS : ∀ Q1 : hQ, Q1 (oA a) h' → gS G mX10_contentLength 7 1 6 [sr (some x), si a1] h Q1) (hq : WrQ o i2l9 [exI] a h' Q) : gS2 G mL_contentLength 8 1 6 [sr (some x), si a1, sr (some o)] h Q := by
  refine gS2_at [some (sr (some x)), some (si a1), some (sr (some o)), none] pl_L (Nat.le_of_ble_eq_true rfl) rfl ?_
  refine z_aload_n (pc := 0) (i := 2) dL_contentLength_0 rfl rfl ?_
  refine z_iconst (pc := 1) (v := 0) dL_contentLength_1 rfl ?_
  refine z_aload_n (pc := 2) (i := 0) dL_contentLength_2 rfl rfl ?_
  refine z_iload_n (pc := 3) (i := 1) dL_contentLength_3 rfl rfl ?_
  refine z_invH (pc := 4) (as := [si a1]) (st := [si 0, sr (some o)]) (ci := 9) (N := mX10_contentLength) (k := 0) (n := 0) (k1 := 1) (n1 := 6) (fun _ z => z) dL_contentLength_4 lkL_61 caX10_contentLength cvX10_contentLength rfl (by decide) rfl hx (hS (fun o9 h9 => o9 = oA a ∧ h9 = h') ⟨rfl, rfl⟩) ⟨by decide, by decide⟩ (Nat.le_of_ble_eq_true rfl) (fun v h9 q => ?_) (fun E h9 n9 q9 q hn => ?_)
  · rcases a with b | E
    · obtain ⟨q1, rfl⟩ := q
      have q2 : v = some (si b) := Sum.inl.inj q1
      subst q2
      show gZ NC G mL_contentLength 8 Q 7 [some (sr (some x)), some (si a1), some (sr (some o)), none] [si b, si 0, sr (some o)] 0 0 h9
      refine z_i2l (pc := 7) dL_contentLength_7 ?_
      refine z_last (pc := 8) dL_contentLength_8 (by rw [ho]) (by rw [ho]; exact in0) ?_
      refine z_goto (pc := 9) 15 dL_contentLength_9 rfl ?_
      refine z_iconst (pc := 15) (v := 0) dL_contentLength_15 rfl ?_
      exact z_iret (pc := 16) dL_contentLength_16 rfl rfl hq
    · exact absurd q.1 (fun z => nomatch z)
  · rcases a with b | E9
    · exact absurd q.1 (fun z => nomatch z)
    · obtain ⟨q1, rfl⟩ := q
      have q2 : E = E9 := Sum.inr.inj q1
      subst q2
      obtain ⟨k9, hk1, rfl, hk2⟩ := hq
      have hk3 : k9 = 0 := by simp at hk1; omega
      subst hk3
      refine ⟨[], ⟨0, 9, 12, 21⟩, [], exI, rfl, (fun z hz => nomatch hz), rfl, by decide, clL_21, ca_exI, ?_⟩
      show gZ NC G mL_contentLength 8 Q 12 [some (sr (some x)), some (si a1), some (sr (some o)), none] [sr (some q9)] 0 0 (wS h9 n9)
      refine z_astore_n (pc := 12) (i := 3) [some (sr (some x)), some (si a1), some (sr (some o)), some (sr (some q9))] dL_contentLength_12 rfl (by decide) rfl rfl ?_
      refine z_iconst (pc := 13) (v := 1) dL_contentLength_13 rfl ?_
      exact z_iret (pc := 14) dL_contentLength_14 rfl rfl (hk2 n9 hn)
theorem dL_contentAt_0 : decode cL_contentAt 0 = .ok (.aload_n 3, 1) := by decide +kernel
theorem dL_contentAt_1 : decode cL_contentAt 1 = .ok (.iconst 0, 1) := by decide +kernel
theorem dL_contentAt_2 : decode cL_contentAt 2 = .ok (.aload_n 0, 1) := by decide +kernel
theorem dL_contentAt_3 : decode cL_contentAt 3 = .ok (.iload_n 1, 1) := by decide +kernel
theorem dL_contentAt_4 : decode cL_contentAt 4 = .ok (.iload_n 2, 1) := by decide +kernel
theorem dL_contentAt_5 : decode cL_contentAt 5 = .ok (.invokevirtual 64, 3) := by decide +kernel
theorem dL_contentAt_8 : decode cL_contentAt 8 = .ok (.i2l, 1) := by decide +kernel
theorem dL_contentAt_9 : decode cL_contentAt 9 = .ok (.lastore, 1) := by decide +kernel
theorem dL_contentAt_10 : decode cL_contentAt 10 = .ok (.goto 7, 3) := by decide +kernel
theorem dL_contentAt_13 : decode cL_contentAt 13 = .ok (.astore 4, 2) := by decide +kernel
theorem dL_contentAt_15 : decode cL_contentAt 15 = .ok (.iconst 1, 1) := by decide +kernel
theorem dL_contentAt_16 : decode cL_contentAt 16 = .ok (.ireturn, 1) := by decide +kernel
theorem dL_contentAt_17 : decode cL_contentAt 17 = .ok (.iconst 0, 1) := by decide +kernel
theorem dL_contentAt_18 : decode cL_contentAt 18 = .ok (.ireturn, 1) := by decide +kernel
abbrev mL_contentAt : gM := (yL_contentAt, cL_contentAt, 5, some .int, [(0, 10, 13, 21)])
theorem caL_contentAt : cal2 mL_contentAt 4 := ⟨xw 1051 (by decide +kernel) rfl, xw 86 (by decide +kernel) rfl, by decide, by decide +kernel, xw 1050 (by decide +kernel) rfl⟩
theorem lkL_64 : Cond.methodLink RL 64 yX10_contentAt ∈ XW := xw 1052 (by decide +kernel) rfl
theorem wL_contentAt {G : gG} {x o : Nat} {a1 a2 : Int32} {h h' : hp} {Q : hQ} (a : Int32 ⊕ String) (hx : (hT h x).1 = 10) (ho : hT h' o = (24, 1)) (hS : ∀ Q1 : hQ, Q1 (oA a) h' → gS G mX10_contentAt 7 2 12 [sr (some x), si a1, si a2] h Q1) (hq : WrQ o i2l9 [exI] a h' Q) : gS2 G mL_contentAt 8 2 12 [sr (some x), si a1, si a2, sr (some o)] h Q := by
  refine gS2_at [some (sr (some x)), some (si a1), some (si a2), some (sr (some o)), none] pl_L (Nat.le_of_ble_eq_true rfl) rfl ?_
  refine z_aload_n (pc := 0) (i := 3) dL_contentAt_0 rfl rfl ?_
  refine z_iconst (pc := 1) (v := 0) dL_contentAt_1 rfl ?_
  refine z_aload_n (pc := 2) (i := 0) dL_contentAt_2 rfl rfl ?_
  refine z_iload_n (pc := 3) (i := 1) dL_contentAt_3 rfl rfl ?_
  refine z_iload_n (pc := 4) (i := 2) dL_contentAt_4 rfl rfl ?_
  refine z_invH (pc := 5) (as := [si a1, si a2]) (st := [si 0, sr (some o)]) (ci := 9) (N := mX10_contentAt) (k := 0) (n := 0) (k1 := 2) (n1 := 12) (fun _ z => z) dL_contentAt_5 lkL_64 caX10_contentAt cvX10_contentAt rfl (by decide) rfl hx (hS (fun o9 h9 => o9 = oA a ∧ h9 = h') ⟨rfl, rfl⟩) ⟨by decide, by decide⟩ (Nat.le_of_ble_eq_true rfl) (fun v h9 q => ?_) (fun E h9 n9 q9 q hn => ?_)
  · rcases a with b | E
    · obtain ⟨q1, rfl⟩ := q
      have q2 : v = some (si b) := Sum.inl.inj q1
      subst q2
      show gZ NC G mL_contentAt 8 Q 8 [some (sr (some x)), some (si a1), some (si a2), some (sr (some o)), none] [si b, si 0, sr (some o)] 0 0 h9
      refine z_i2l (pc := 8) dL_contentAt_8 ?_
      refine z_last (pc := 9) dL_contentAt_9 (by rw [ho]) (by rw [ho]; exact in0) ?_
      refine z_goto (pc := 10) 17 dL_contentAt_10 rfl ?_
      refine z_iconst (pc := 17) (v := 0) dL_contentAt_17 rfl ?_
      exact z_iret (pc := 18) dL_contentAt_18 rfl rfl hq
    · exact absurd q.1 (fun z => nomatch z)
  · rcases a with b | E9
    · exact absurd q.1 (fun z => nomatch z)
    · obtain ⟨q1, rfl⟩ := q
      have q2 : E = E9 := Sum.inr.inj q1
      subst q2
      obtain ⟨k9, hk1, rfl, hk2⟩ := hq
      have hk3 : k9 = 0 := by simp at hk1; omega
      subst hk3
      refine ⟨[], ⟨0, 10, 13, 21⟩, [], exI, rfl, (fun z hz => nomatch hz), rfl, by decide, clL_21, ca_exI, ?_⟩
      show gZ NC G mL_contentAt 8 Q 13 [some (sr (some x)), some (si a1), some (si a2), some (sr (some o)), none] [sr (some q9)] 0 0 (wS h9 n9)
      refine z_astore (pc := 13) (i := 4) [some (sr (some x)), some (si a1), some (si a2), some (sr (some o)), some (sr (some q9))] dL_contentAt_13 (by decide) rfl rfl ?_
      refine z_iconst (pc := 15) (v := 1) dL_contentAt_15 rfl ?_
      exact z_iret (pc := 16) dL_contentAt_16 rfl rfl (hk2 n9 hn)
theorem dL_isOn_0 : decode cL_isOn 0 = .ok (.aload_n 2, 1) := by decide +kernel
theorem dL_isOn_1 : decode cL_isOn 1 = .ok (.iconst 0, 1) := by decide +kernel
theorem dL_isOn_2 : decode cL_isOn 2 = .ok (.aload_n 0, 1) := by decide +kernel
theorem dL_isOn_3 : decode cL_isOn 3 = .ok (.iload_n 1, 1) := by decide +kernel
theorem dL_isOn_4 : decode cL_isOn 4 = .ok (.invokevirtual 67, 3) := by decide +kernel
theorem dL_isOn_7 : decode cL_isOn 7 = .ok (.ifCond .eq 7, 3) := by decide +kernel
theorem dL_isOn_10 : decode cL_isOn 10 = .ok (.lconst 1, 1) := by decide +kernel
theorem dL_isOn_11 : decode cL_isOn 11 = .ok (.goto 4, 3) := by decide +kernel
theorem dL_isOn_14 : decode cL_isOn 14 = .ok (.lconst 0, 1) := by decide +kernel
theorem dL_isOn_15 : decode cL_isOn 15 = .ok (.lastore, 1) := by decide +kernel
theorem dL_isOn_16 : decode cL_isOn 16 = .ok (.goto 6, 3) := by decide +kernel
theorem dL_isOn_19 : decode cL_isOn 19 = .ok (.astore_n 3, 1) := by decide +kernel
theorem dL_isOn_20 : decode cL_isOn 20 = .ok (.iconst 1, 1) := by decide +kernel
theorem dL_isOn_21 : decode cL_isOn 21 = .ok (.ireturn, 1) := by decide +kernel
theorem dL_isOn_22 : decode cL_isOn 22 = .ok (.iconst 0, 1) := by decide +kernel
theorem dL_isOn_23 : decode cL_isOn 23 = .ok (.ireturn, 1) := by decide +kernel
abbrev mL_isOn : gM := (yL_isOn, cL_isOn, 4, some .int, [(0, 16, 19, 21)])
theorem caL_isOn : cal2 mL_isOn 3 := ⟨xw 1058 (by decide +kernel) rfl, xw 86 (by decide +kernel) rfl, by decide, by decide +kernel, xw 1057 (by decide +kernel) rfl⟩
theorem lkL_67 : Cond.methodLink RL 67 yX10_isOn ∈ XW := xw 1059 (by decide +kernel) rfl
theorem wL_isOn {G : gG} {x o : Nat} {a1 : Int32} {h h' : hp} {Q : hQ} (a : Int32 ⊕ String) (hx : (hT h x).1 = 10) (ho : hT h' o = (24, 1)) (hS : ∀ Q1 : hQ, Q1 (oA a) h' → gS G mX10_isOn 7 1 6 [sr (some x), si a1] h Q1) (hq : WrQ o b2l [exI] a h' Q) : gS2 G mL_isOn 8 1 6 [sr (some x), si a1, sr (some o)] h Q := by
  refine gS2_at [some (sr (some x)), some (si a1), some (sr (some o)), none] pl_L (Nat.le_of_ble_eq_true rfl) rfl ?_
  refine z_aload_n (pc := 0) (i := 2) dL_isOn_0 rfl rfl ?_
  refine z_iconst (pc := 1) (v := 0) dL_isOn_1 rfl ?_
  refine z_aload_n (pc := 2) (i := 0) dL_isOn_2 rfl rfl ?_
  refine z_iload_n (pc := 3) (i := 1) dL_isOn_3 rfl rfl ?_
  refine z_invH (pc := 4) (as := [si a1]) (st := [si 0, sr (some o)]) (ci := 9) (N := mX10_isOn) (k := 0) (n := 0) (k1 := 1) (n1 := 6) (fun _ z => z) dL_isOn_4 lkL_67 caX10_isOn cvX10_isOn rfl (by decide) rfl hx (hS (fun o9 h9 => o9 = oA a ∧ h9 = h') ⟨rfl, rfl⟩) ⟨by decide, by decide⟩ (Nat.le_of_ble_eq_true rfl) (fun v h9 q => ?_) (fun E h9 n9 q9 q hn => ?_)
  · rcases a with b | E
    · obtain ⟨q1, rfl⟩ := q
      have q2 : v = some (si b) := Sum.inl.inj q1
      subst q2
      show gZ NC G mL_isOn 8 Q 7 [some (sr (some x)), some (si a1), some (sr (some o)), none] [si b, si 0, sr (some o)] 0 0 h9
      refine z_if_eq (pc := 7) 14 dL_isOn_7 rfl (fun hc => ?_) (fun hc => ?_)
      · refine z_lconst (pc := 14) (v := 0) dL_isOn_14 rfl ?_
        refine z_last (pc := 15) dL_isOn_15 (by rw [ho]) (by rw [ho]; exact in0) ?_
        refine z_goto (pc := 16) 22 dL_isOn_16 rfl ?_
        refine z_iconst (pc := 22) (v := 0) dL_isOn_22 rfl ?_
        exact z_iret (pc := 23) dL_isOn_23 rfl rfl (by have hq9 := hq; unfold WrQ b2l at hq9; dsimp only at hq9; rw [if_pos hc] at hq9; exact hq9)
      · refine z_lconst (pc := 10) (v := 1) dL_isOn_10 rfl ?_
        refine z_goto (pc := 11) 15 dL_isOn_11 rfl ?_
        refine z_last (pc := 15) dL_isOn_15 (by rw [ho]) (by rw [ho]; exact in0) ?_
        refine z_goto (pc := 16) 22 dL_isOn_16 rfl ?_
        refine z_iconst (pc := 22) (v := 0) dL_isOn_22 rfl ?_
        exact z_iret (pc := 23) dL_isOn_23 rfl rfl (by have hq9 := hq; unfold WrQ b2l at hq9; dsimp only at hq9; rw [if_neg hc] at hq9; exact hq9)
    · exact absurd q.1 (fun z => nomatch z)
  · rcases a with b | E9
    · exact absurd q.1 (fun z => nomatch z)
    · obtain ⟨q1, rfl⟩ := q
      have q2 : E = E9 := Sum.inr.inj q1
      subst q2
      obtain ⟨k9, hk1, rfl, hk2⟩ := hq
      have hk3 : k9 = 0 := by simp at hk1; omega
      subst hk3
      refine ⟨[], ⟨0, 16, 19, 21⟩, [], exI, rfl, (fun z hz => nomatch hz), rfl, by decide, clL_21, ca_exI, ?_⟩
      show gZ NC G mL_isOn 8 Q 19 [some (sr (some x)), some (si a1), some (sr (some o)), none] [sr (some q9)] 0 0 (wS h9 n9)
      refine z_astore_n (pc := 19) (i := 3) [some (sr (some x)), some (si a1), some (sr (some o)), some (sr (some q9))] dL_isOn_19 rfl (by decide) rfl rfl ?_
      refine z_iconst (pc := 20) (v := 1) dL_isOn_20 rfl ?_
      exact z_iret (pc := 21) dL_isOn_21 rfl rfl (hk2 n9 hn)
theorem dL_presses_0 : decode cL_presses 0 = .ok (.aload_n 2, 1) := by decide +kernel
theorem dL_presses_1 : decode cL_presses 1 = .ok (.iconst 0, 1) := by decide +kernel
theorem dL_presses_2 : decode cL_presses 2 = .ok (.aload_n 0, 1) := by decide +kernel
theorem dL_presses_3 : decode cL_presses 3 = .ok (.iload_n 1, 1) := by decide +kernel
theorem dL_presses_4 : decode cL_presses 4 = .ok (.invokevirtual 71, 3) := by decide +kernel
theorem dL_presses_7 : decode cL_presses 7 = .ok (.i2l, 1) := by decide +kernel
theorem dL_presses_8 : decode cL_presses 8 = .ok (.lastore, 1) := by decide +kernel
theorem dL_presses_9 : decode cL_presses 9 = .ok (.goto 6, 3) := by decide +kernel
theorem dL_presses_12 : decode cL_presses 12 = .ok (.astore_n 3, 1) := by decide +kernel
theorem dL_presses_13 : decode cL_presses 13 = .ok (.iconst 1, 1) := by decide +kernel
theorem dL_presses_14 : decode cL_presses 14 = .ok (.ireturn, 1) := by decide +kernel
theorem dL_presses_15 : decode cL_presses 15 = .ok (.iconst 0, 1) := by decide +kernel
theorem dL_presses_16 : decode cL_presses 16 = .ok (.ireturn, 1) := by decide +kernel
abbrev mL_presses : gM := (yL_presses, cL_presses, 4, some .int, [(0, 9, 12, 21)])
theorem caL_presses : cal2 mL_presses 3 := ⟨xw 1065 (by decide +kernel) rfl, xw 86 (by decide +kernel) rfl, by decide, by decide +kernel, xw 1064 (by decide +kernel) rfl⟩
theorem lkL_71 : Cond.methodLink RL 71 yX10_presses ∈ XW := xw 1066 (by decide +kernel) rfl
theorem wL_presses {G : gG} {x o : Nat} {a1 : Int32} {h h' : hp} {Q : hQ} (a : Int32 ⊕ String) (hx : (hT h x).1 = 10) (ho : hT h' o = (24, 1)) (hS : ∀ Q1 : hQ, Q1 (oA a) h' → gS G mX10_presses 7 1 6 [sr (some x), si a1] h Q1) (hq : WrQ o i2l9 [exI] a h' Q) : gS2 G mL_presses 8 1 6 [sr (some x), si a1, sr (some o)] h Q := by
  refine gS2_at [some (sr (some x)), some (si a1), some (sr (some o)), none] pl_L (Nat.le_of_ble_eq_true rfl) rfl ?_
  refine z_aload_n (pc := 0) (i := 2) dL_presses_0 rfl rfl ?_
  refine z_iconst (pc := 1) (v := 0) dL_presses_1 rfl ?_
  refine z_aload_n (pc := 2) (i := 0) dL_presses_2 rfl rfl ?_
  refine z_iload_n (pc := 3) (i := 1) dL_presses_3 rfl rfl ?_
  refine z_invH (pc := 4) (as := [si a1]) (st := [si 0, sr (some o)]) (ci := 9) (N := mX10_presses) (k := 0) (n := 0) (k1 := 1) (n1 := 6) (fun _ z => z) dL_presses_4 lkL_71 caX10_presses cvX10_presses rfl (by decide) rfl hx (hS (fun o9 h9 => o9 = oA a ∧ h9 = h') ⟨rfl, rfl⟩) ⟨by decide, by decide⟩ (Nat.le_of_ble_eq_true rfl) (fun v h9 q => ?_) (fun E h9 n9 q9 q hn => ?_)
  · rcases a with b | E
    · obtain ⟨q1, rfl⟩ := q
      have q2 : v = some (si b) := Sum.inl.inj q1
      subst q2
      show gZ NC G mL_presses 8 Q 7 [some (sr (some x)), some (si a1), some (sr (some o)), none] [si b, si 0, sr (some o)] 0 0 h9
      refine z_i2l (pc := 7) dL_presses_7 ?_
      refine z_last (pc := 8) dL_presses_8 (by rw [ho]) (by rw [ho]; exact in0) ?_
      refine z_goto (pc := 9) 15 dL_presses_9 rfl ?_
      refine z_iconst (pc := 15) (v := 0) dL_presses_15 rfl ?_
      exact z_iret (pc := 16) dL_presses_16 rfl rfl hq
    · exact absurd q.1 (fun z => nomatch z)
  · rcases a with b | E9
    · exact absurd q.1 (fun z => nomatch z)
    · obtain ⟨q1, rfl⟩ := q
      have q2 : E = E9 := Sum.inr.inj q1
      subst q2
      obtain ⟨k9, hk1, rfl, hk2⟩ := hq
      have hk3 : k9 = 0 := by simp at hk1; omega
      subst hk3
      refine ⟨[], ⟨0, 9, 12, 21⟩, [], exI, rfl, (fun z hz => nomatch hz), rfl, by decide, clL_21, ca_exI, ?_⟩
      show gZ NC G mL_presses 8 Q 12 [some (sr (some x)), some (si a1), some (sr (some o)), none] [sr (some q9)] 0 0 (wS h9 n9)
      refine z_astore_n (pc := 12) (i := 3) [some (sr (some x)), some (si a1), some (sr (some o)), some (sr (some q9))] dL_presses_12 rfl (by decide) rfl rfl ?_
      refine z_iconst (pc := 13) (v := 1) dL_presses_13 rfl ?_
      exact z_iret (pc := 14) dL_presses_14 rfl rfl (hk2 n9 hn)
theorem dL_isShown_0 : decode cL_isShown 0 = .ok (.aload_n 2, 1) := by decide +kernel
theorem dL_isShown_1 : decode cL_isShown 1 = .ok (.iconst 0, 1) := by decide +kernel
theorem dL_isShown_2 : decode cL_isShown 2 = .ok (.aload_n 0, 1) := by decide +kernel
theorem dL_isShown_3 : decode cL_isShown 3 = .ok (.iload_n 1, 1) := by decide +kernel
theorem dL_isShown_4 : decode cL_isShown 4 = .ok (.invokevirtual 74, 3) := by decide +kernel
theorem dL_isShown_7 : decode cL_isShown 7 = .ok (.ifCond .eq 7, 3) := by decide +kernel
theorem dL_isShown_10 : decode cL_isShown 10 = .ok (.lconst 1, 1) := by decide +kernel
theorem dL_isShown_11 : decode cL_isShown 11 = .ok (.goto 4, 3) := by decide +kernel
theorem dL_isShown_14 : decode cL_isShown 14 = .ok (.lconst 0, 1) := by decide +kernel
theorem dL_isShown_15 : decode cL_isShown 15 = .ok (.lastore, 1) := by decide +kernel
theorem dL_isShown_16 : decode cL_isShown 16 = .ok (.goto 6, 3) := by decide +kernel
theorem dL_isShown_19 : decode cL_isShown 19 = .ok (.astore_n 3, 1) := by decide +kernel
theorem dL_isShown_20 : decode cL_isShown 20 = .ok (.iconst 1, 1) := by decide +kernel
theorem dL_isShown_21 : decode cL_isShown 21 = .ok (.ireturn, 1) := by decide +kernel
theorem dL_isShown_22 : decode cL_isShown 22 = .ok (.iconst 0, 1) := by decide +kernel
theorem dL_isShown_23 : decode cL_isShown 23 = .ok (.ireturn, 1) := by decide +kernel
abbrev mL_isShown : gM := (yL_isShown, cL_isShown, 4, some .int, [(0, 16, 19, 21)])
theorem caL_isShown : cal2 mL_isShown 3 := ⟨xw 1072 (by decide +kernel) rfl, xw 86 (by decide +kernel) rfl, by decide, by decide +kernel, xw 1071 (by decide +kernel) rfl⟩
theorem lkL_74 : Cond.methodLink RL 74 yX10_isShown ∈ XW := xw 1073 (by decide +kernel) rfl
theorem wL_isShown {G : gG} {x o : Nat} {a1 : Int32} {h h' : hp} {Q : hQ} (a : Int32 ⊕ String) (hx : (hT h x).1 = 10) (ho : hT h' o = (24, 1)) (hS : ∀ Q1 : hQ, Q1 (oA a) h' → gS G mX10_isShown 7 1 6 [sr (some x), si a1] h Q1) (hq : WrQ o b2l [exI] a h' Q) : gS2 G mL_isShown 8 1 6 [sr (some x), si a1, sr (some o)] h Q := by
  refine gS2_at [some (sr (some x)), some (si a1), some (sr (some o)), none] pl_L (Nat.le_of_ble_eq_true rfl) rfl ?_
  refine z_aload_n (pc := 0) (i := 2) dL_isShown_0 rfl rfl ?_
  refine z_iconst (pc := 1) (v := 0) dL_isShown_1 rfl ?_
  refine z_aload_n (pc := 2) (i := 0) dL_isShown_2 rfl rfl ?_
  refine z_iload_n (pc := 3) (i := 1) dL_isShown_3 rfl rfl ?_
  refine z_invH (pc := 4) (as := [si a1]) (st := [si 0, sr (some o)]) (ci := 9) (N := mX10_isShown) (k := 0) (n := 0) (k1 := 1) (n1 := 6) (fun _ z => z) dL_isShown_4 lkL_74 caX10_isShown cvX10_isShown rfl (by decide) rfl hx (hS (fun o9 h9 => o9 = oA a ∧ h9 = h') ⟨rfl, rfl⟩) ⟨by decide, by decide⟩ (Nat.le_of_ble_eq_true rfl) (fun v h9 q => ?_) (fun E h9 n9 q9 q hn => ?_)
  · rcases a with b | E
    · obtain ⟨q1, rfl⟩ := q
      have q2 : v = some (si b) := Sum.inl.inj q1
      subst q2
      show gZ NC G mL_isShown 8 Q 7 [some (sr (some x)), some (si a1), some (sr (some o)), none] [si b, si 0, sr (some o)] 0 0 h9
      refine z_if_eq (pc := 7) 14 dL_isShown_7 rfl (fun hc => ?_) (fun hc => ?_)
      · refine z_lconst (pc := 14) (v := 0) dL_isShown_14 rfl ?_
        refine z_last (pc := 15) dL_isShown_15 (by rw [ho]) (by rw [ho]; exact in0) ?_
        refine z_goto (pc := 16) 22 dL_isShown_16 rfl ?_
        refine z_iconst (pc := 22) (v := 0) dL_isShown_22 rfl ?_
        exact z_iret (pc := 23) dL_isShown_23 rfl rfl (by have hq9 := hq; unfold WrQ b2l at hq9; dsimp only at hq9; rw [if_pos hc] at hq9; exact hq9)
      · refine z_lconst (pc := 10) (v := 1) dL_isShown_10 rfl ?_
        refine z_goto (pc := 11) 15 dL_isShown_11 rfl ?_
        refine z_last (pc := 15) dL_isShown_15 (by rw [ho]) (by rw [ho]; exact in0) ?_
        refine z_goto (pc := 16) 22 dL_isShown_16 rfl ?_
        refine z_iconst (pc := 22) (v := 0) dL_isShown_22 rfl ?_
        exact z_iret (pc := 23) dL_isShown_23 rfl rfl (by have hq9 := hq; unfold WrQ b2l at hq9; dsimp only at hq9; rw [if_neg hc] at hq9; exact hq9)
    · exact absurd q.1 (fun z => nomatch z)
  · rcases a with b | E9
    · exact absurd q.1 (fun z => nomatch z)
    · obtain ⟨q1, rfl⟩ := q
      have q2 : E = E9 := Sum.inr.inj q1
      subst q2
      obtain ⟨k9, hk1, rfl, hk2⟩ := hq
      have hk3 : k9 = 0 := by simp at hk1; omega
      subst hk3
      refine ⟨[], ⟨0, 16, 19, 21⟩, [], exI, rfl, (fun z hz => nomatch hz), rfl, by decide, clL_21, ca_exI, ?_⟩
      show gZ NC G mL_isShown 8 Q 19 [some (sr (some x)), some (si a1), some (sr (some o)), none] [sr (some q9)] 0 0 (wS h9 n9)
      refine z_astore_n (pc := 19) (i := 3) [some (sr (some x)), some (si a1), some (sr (some o)), some (sr (some q9))] dL_isShown_19 rfl (by decide) rfl rfl ?_
      refine z_iconst (pc := 20) (v := 1) dL_isShown_20 rfl ?_
      exact z_iret (pc := 21) dL_isShown_21 rfl rfl (hk2 n9 hn)
theorem dL_level_0 : decode cL_level 0 = .ok (.aload_n 2, 1) := by decide +kernel
theorem dL_level_1 : decode cL_level 1 = .ok (.iconst 0, 1) := by decide +kernel
theorem dL_level_2 : decode cL_level 2 = .ok (.aload_n 0, 1) := by decide +kernel
theorem dL_level_3 : decode cL_level 3 = .ok (.iload_n 1, 1) := by decide +kernel
theorem dL_level_4 : decode cL_level 4 = .ok (.invokevirtual 77, 3) := by decide +kernel
theorem dL_level_7 : decode cL_level 7 = .ok (.i2l, 1) := by decide +kernel
theorem dL_level_8 : decode cL_level 8 = .ok (.lastore, 1) := by decide +kernel
theorem dL_level_9 : decode cL_level 9 = .ok (.goto 6, 3) := by decide +kernel
theorem dL_level_12 : decode cL_level 12 = .ok (.astore_n 3, 1) := by decide +kernel
theorem dL_level_13 : decode cL_level 13 = .ok (.iconst 1, 1) := by decide +kernel
theorem dL_level_14 : decode cL_level 14 = .ok (.ireturn, 1) := by decide +kernel
theorem dL_level_15 : decode cL_level 15 = .ok (.iconst 0, 1) := by decide +kernel
theorem dL_level_16 : decode cL_level 16 = .ok (.ireturn, 1) := by decide +kernel
abbrev mL_level : gM := (yL_level, cL_level, 4, some .int, [(0, 9, 12, 21)])
theorem caL_level : cal2 mL_level 3 := ⟨xw 1079 (by decide +kernel) rfl, xw 86 (by decide +kernel) rfl, by decide, by decide +kernel, xw 1078 (by decide +kernel) rfl⟩
theorem lkL_77 : Cond.methodLink RL 77 yX10_level ∈ XW := xw 1080 (by decide +kernel) rfl
theorem wL_level {G : gG} {x o : Nat} {a1 : Int32} {h h' : hp} {Q : hQ} (a : Int32 ⊕ String) (hx : (hT h x).1 = 10) (ho : hT h' o = (24, 1)) (hS : ∀ Q1 : hQ, Q1 (oA a) h' → gS G mX10_level 7 1 6 [sr (some x), si a1] h Q1) (hq : WrQ o i2l9 [exI] a h' Q) : gS2 G mL_level 8 1 6 [sr (some x), si a1, sr (some o)] h Q := by
  refine gS2_at [some (sr (some x)), some (si a1), some (sr (some o)), none] pl_L (Nat.le_of_ble_eq_true rfl) rfl ?_
  refine z_aload_n (pc := 0) (i := 2) dL_level_0 rfl rfl ?_
  refine z_iconst (pc := 1) (v := 0) dL_level_1 rfl ?_
  refine z_aload_n (pc := 2) (i := 0) dL_level_2 rfl rfl ?_
  refine z_iload_n (pc := 3) (i := 1) dL_level_3 rfl rfl ?_
  refine z_invH (pc := 4) (as := [si a1]) (st := [si 0, sr (some o)]) (ci := 9) (N := mX10_level) (k := 0) (n := 0) (k1 := 1) (n1 := 6) (fun _ z => z) dL_level_4 lkL_77 caX10_level cvX10_level rfl (by decide) rfl hx (hS (fun o9 h9 => o9 = oA a ∧ h9 = h') ⟨rfl, rfl⟩) ⟨by decide, by decide⟩ (Nat.le_of_ble_eq_true rfl) (fun v h9 q => ?_) (fun E h9 n9 q9 q hn => ?_)
  · rcases a with b | E
    · obtain ⟨q1, rfl⟩ := q
      have q2 : v = some (si b) := Sum.inl.inj q1
      subst q2
      show gZ NC G mL_level 8 Q 7 [some (sr (some x)), some (si a1), some (sr (some o)), none] [si b, si 0, sr (some o)] 0 0 h9
      refine z_i2l (pc := 7) dL_level_7 ?_
      refine z_last (pc := 8) dL_level_8 (by rw [ho]) (by rw [ho]; exact in0) ?_
      refine z_goto (pc := 9) 15 dL_level_9 rfl ?_
      refine z_iconst (pc := 15) (v := 0) dL_level_15 rfl ?_
      exact z_iret (pc := 16) dL_level_16 rfl rfl hq
    · exact absurd q.1 (fun z => nomatch z)
  · rcases a with b | E9
    · exact absurd q.1 (fun z => nomatch z)
    · obtain ⟨q1, rfl⟩ := q
      have q2 : E = E9 := Sum.inr.inj q1
      subst q2
      obtain ⟨k9, hk1, rfl, hk2⟩ := hq
      have hk3 : k9 = 0 := by simp at hk1; omega
      subst hk3
      refine ⟨[], ⟨0, 9, 12, 21⟩, [], exI, rfl, (fun z hz => nomatch hz), rfl, by decide, clL_21, ca_exI, ?_⟩
      show gZ NC G mL_level 8 Q 12 [some (sr (some x)), some (si a1), some (sr (some o)), none] [sr (some q9)] 0 0 (wS h9 n9)
      refine z_astore_n (pc := 12) (i := 3) [some (sr (some x)), some (si a1), some (sr (some o)), some (sr (some q9))] dL_level_12 rfl (by decide) rfl rfl ?_
      refine z_iconst (pc := 13) (v := 1) dL_level_13 rfl ?_
      exact z_iret (pc := 14) dL_level_14 rfl rfl (hk2 n9 hn)
theorem dL_readingAt_0 : decode cL_readingAt 0 = .ok (.aload_n 2, 1) := by decide +kernel
theorem dL_readingAt_1 : decode cL_readingAt 1 = .ok (.iconst 0, 1) := by decide +kernel
theorem dL_readingAt_2 : decode cL_readingAt 2 = .ok (.aload_n 0, 1) := by decide +kernel
theorem dL_readingAt_3 : decode cL_readingAt 3 = .ok (.iload_n 1, 1) := by decide +kernel
theorem dL_readingAt_4 : decode cL_readingAt 4 = .ok (.invokevirtual 80, 3) := by decide +kernel
theorem dL_readingAt_7 : decode cL_readingAt 7 = .ok (.i2l, 1) := by decide +kernel
theorem dL_readingAt_8 : decode cL_readingAt 8 = .ok (.lastore, 1) := by decide +kernel
theorem dL_readingAt_9 : decode cL_readingAt 9 = .ok (.goto 6, 3) := by decide +kernel
theorem dL_readingAt_12 : decode cL_readingAt 12 = .ok (.astore_n 3, 1) := by decide +kernel
theorem dL_readingAt_13 : decode cL_readingAt 13 = .ok (.iconst 1, 1) := by decide +kernel
theorem dL_readingAt_14 : decode cL_readingAt 14 = .ok (.ireturn, 1) := by decide +kernel
theorem dL_readingAt_15 : decode cL_readingAt 15 = .ok (.iconst 0, 1) := by decide +kernel
theorem dL_readingAt_16 : decode cL_readingAt 16 = .ok (.ireturn, 1) := by decide +kernel
abbrev mL_readingAt : gM := (yL_readingAt, cL_readingAt, 4, some .int, [(0, 9, 12, 21)])
theorem caL_readingAt : cal2 mL_readingAt 3 := ⟨xw 1087 (by decide +kernel) rfl, xw 86 (by decide +kernel) rfl, by decide, by decide +kernel, xw 1086 (by decide +kernel) rfl⟩
theorem lkL_80 : Cond.methodLink RL 80 yX10_readingAt ∈ XW := xw 1088 (by decide +kernel) rfl
theorem wL_readingAt {G : gG} {x o : Nat} {a1 : Int32} {h h' : hp} {Q : hQ} (a : Int32 ⊕ String) (hx : (hT h x).1 = 10) (ho : hT h' o = (24, 1)) (hS : ∀ Q1 : hQ, Q1 (oA a) h' → gS G mX10_readingAt 6 1 6 [sr (some x), si a1] h Q1) (hq : WrQ o i2l9 [exI] a h' Q) : gS2 G mL_readingAt 7 1 6 [sr (some x), si a1, sr (some o)] h Q := by
  refine gS2_at [some (sr (some x)), some (si a1), some (sr (some o)), none] pl_L (Nat.le_of_ble_eq_true rfl) rfl ?_
  refine z_aload_n (pc := 0) (i := 2) dL_readingAt_0 rfl rfl ?_
  refine z_iconst (pc := 1) (v := 0) dL_readingAt_1 rfl ?_
  refine z_aload_n (pc := 2) (i := 0) dL_readingAt_2 rfl rfl ?_
  refine z_iload_n (pc := 3) (i := 1) dL_readingAt_3 rfl rfl ?_
  refine z_invH (pc := 4) (as := [si a1]) (st := [si 0, sr (some o)]) (ci := 9) (N := mX10_readingAt) (k := 0) (n := 0) (k1 := 1) (n1 := 6) (fun _ z => z) dL_readingAt_4 lkL_80 caX10_readingAt cvX10_readingAt rfl (by decide) rfl hx (hS (fun o9 h9 => o9 = oA a ∧ h9 = h') ⟨rfl, rfl⟩) ⟨by decide, by decide⟩ (Nat.le_of_ble_eq_true rfl) (fun v h9 q => ?_) (fun E h9 n9 q9 q hn => ?_)
  · rcases a with b | E
    · obtain ⟨q1, rfl⟩ := q
      have q2 : v = some (si b) := Sum.inl.inj q1
      subst q2
      show gZ NC G mL_readingAt 7 Q 7 [some (sr (some x)), some (si a1), some (sr (some o)), none] [si b, si 0, sr (some o)] 0 0 h9
      refine z_i2l (pc := 7) dL_readingAt_7 ?_
      refine z_last (pc := 8) dL_readingAt_8 (by rw [ho]) (by rw [ho]; exact in0) ?_
      refine z_goto (pc := 9) 15 dL_readingAt_9 rfl ?_
      refine z_iconst (pc := 15) (v := 0) dL_readingAt_15 rfl ?_
      exact z_iret (pc := 16) dL_readingAt_16 rfl rfl hq
    · exact absurd q.1 (fun z => nomatch z)
  · rcases a with b | E9
    · exact absurd q.1 (fun z => nomatch z)
    · obtain ⟨q1, rfl⟩ := q
      have q2 : E = E9 := Sum.inr.inj q1
      subst q2
      obtain ⟨k9, hk1, rfl, hk2⟩ := hq
      have hk3 : k9 = 0 := by simp at hk1; omega
      subst hk3
      refine ⟨[], ⟨0, 9, 12, 21⟩, [], exI, rfl, (fun z hz => nomatch hz), rfl, by decide, clL_21, ca_exI, ?_⟩
      show gZ NC G mL_readingAt 7 Q 12 [some (sr (some x)), some (si a1), some (sr (some o)), none] [sr (some q9)] 0 0 (wS h9 n9)
      refine z_astore_n (pc := 12) (i := 3) [some (sr (some x)), some (si a1), some (sr (some o)), some (sr (some q9))] dL_readingAt_12 rfl (by decide) rfl rfl ?_
      refine z_iconst (pc := 13) (v := 1) dL_readingAt_13 rfl ?_
      exact z_iret (pc := 14) dL_readingAt_14 rfl rfl (hk2 n9 hn)
theorem dL_press_0 : decode cL_press 0 = .ok (.aload_n 2, 1) := by decide +kernel
theorem dL_press_1 : decode cL_press 1 = .ok (.iconst 0, 1) := by decide +kernel
theorem dL_press_2 : decode cL_press 2 = .ok (.aload_n 0, 1) := by decide +kernel
theorem dL_press_3 : decode cL_press 3 = .ok (.iload_n 1, 1) := by decide +kernel
theorem dL_press_4 : decode cL_press 4 = .ok (.invokevirtual 83, 3) := by decide +kernel
theorem dL_press_7 : decode cL_press 7 = .ok (.i2l, 1) := by decide +kernel
theorem dL_press_8 : decode cL_press 8 = .ok (.lastore, 1) := by decide +kernel
theorem dL_press_9 : decode cL_press 9 = .ok (.goto 9, 3) := by decide +kernel
theorem dL_press_12 : decode cL_press 12 = .ok (.astore_n 3, 1) := by decide +kernel
theorem dL_press_13 : decode cL_press 13 = .ok (.iconst 1, 1) := by decide +kernel
theorem dL_press_14 : decode cL_press 14 = .ok (.ireturn, 1) := by decide +kernel
theorem dL_press_15 : decode cL_press 15 = .ok (.astore_n 3, 1) := by decide +kernel
theorem dL_press_16 : decode cL_press 16 = .ok (.iconst 2, 1) := by decide +kernel
theorem dL_press_17 : decode cL_press 17 = .ok (.ireturn, 1) := by decide +kernel
theorem dL_press_18 : decode cL_press 18 = .ok (.iconst 0, 1) := by decide +kernel
theorem dL_press_19 : decode cL_press 19 = .ok (.ireturn, 1) := by decide +kernel
abbrev mL_press : gM := (yL_press, cL_press, 4, some .int, [(0, 9, 12, 21), (0, 9, 15, 15)])
theorem caL_press : cal2 mL_press 3 := ⟨xw 1099 (by decide +kernel) rfl, xw 86 (by decide +kernel) rfl, by decide, by decide +kernel, xw 1098 (by decide +kernel) rfl⟩
theorem lkL_83 : Cond.methodLink RL 83 yX10_press ∈ XW := xw 1100 (by decide +kernel) rfl
theorem wL_press {G : gG} {x o : Nat} {a1 : Int32} {h h' : hp} {Q : hQ} (a : Int32 ⊕ String) (hx : (hT h x).1 = 10) (ho : hT h' o = (24, 1)) (hS : ∀ Q1 : hQ, Q1 (oA a) h' → gS G mX10_press 7 2 12 [sr (some x), si a1] h Q1) (hq : WrQ o i2l9 [exI, exS] a h' Q) : gS2 G mL_press 8 2 12 [sr (some x), si a1, sr (some o)] h Q := by
  refine gS2_at [some (sr (some x)), some (si a1), some (sr (some o)), none] pl_L (Nat.le_of_ble_eq_true rfl) rfl ?_
  refine z_aload_n (pc := 0) (i := 2) dL_press_0 rfl rfl ?_
  refine z_iconst (pc := 1) (v := 0) dL_press_1 rfl ?_
  refine z_aload_n (pc := 2) (i := 0) dL_press_2 rfl rfl ?_
  refine z_iload_n (pc := 3) (i := 1) dL_press_3 rfl rfl ?_
  refine z_invH (pc := 4) (as := [si a1]) (st := [si 0, sr (some o)]) (ci := 9) (N := mX10_press) (k := 0) (n := 0) (k1 := 2) (n1 := 12) (fun _ z => z) dL_press_4 lkL_83 caX10_press cvX10_press rfl (by decide) rfl hx (hS (fun o9 h9 => o9 = oA a ∧ h9 = h') ⟨rfl, rfl⟩) ⟨by decide, by decide⟩ (Nat.le_of_ble_eq_true rfl) (fun v h9 q => ?_) (fun E h9 n9 q9 q hn => ?_)
  · rcases a with b | E
    · obtain ⟨q1, rfl⟩ := q
      have q2 : v = some (si b) := Sum.inl.inj q1
      subst q2
      show gZ NC G mL_press 8 Q 7 [some (sr (some x)), some (si a1), some (sr (some o)), none] [si b, si 0, sr (some o)] 0 0 h9
      refine z_i2l (pc := 7) dL_press_7 ?_
      refine z_last (pc := 8) dL_press_8 (by rw [ho]) (by rw [ho]; exact in0) ?_
      refine z_goto (pc := 9) 18 dL_press_9 rfl ?_
      refine z_iconst (pc := 18) (v := 0) dL_press_18 rfl ?_
      exact z_iret (pc := 19) dL_press_19 rfl rfl hq
    · exact absurd q.1 (fun z => nomatch z)
  · rcases a with b | E9
    · exact absurd q.1 (fun z => nomatch z)
    · obtain ⟨q1, rfl⟩ := q
      have q2 : E = E9 := Sum.inr.inj q1
      subst q2
      obtain ⟨k9, hk1, rfl, hk2⟩ := hq
      rcases (show k9 = 0 ∨ k9 = 1 by simp at hk1; omega) with rfl | rfl
      · refine ⟨[], ⟨0, 9, 12, 21⟩, [⟨0, 9, 15, 15⟩], exI, rfl, (fun z hz => nomatch hz), rfl, by decide, clL_21, ca_exI, ?_⟩
        show gZ NC G mL_press 8 Q 12 [some (sr (some x)), some (si a1), some (sr (some o)), none] [sr (some q9)] 0 0 (wS h9 n9)
        refine z_astore_n (pc := 12) (i := 3) [some (sr (some x)), some (si a1), some (sr (some o)), some (sr (some q9))] dL_press_12 rfl (by decide) rfl rfl ?_
        refine z_iconst (pc := 13) (v := 1) dL_press_13 rfl ?_
        exact z_iret (pc := 14) dL_press_14 rfl rfl (hk2 n9 hn)
      · refine ⟨[⟨0, 9, 12, 21⟩], ⟨0, 9, 15, 15⟩, [], exS, rfl, (fun z hz => by
          cases List.mem_singleton.mp hz
          exact ⟨by decide, exI, clL_21, by simp [nc3]⟩), rfl, by decide, clL_15, ca_exS, ?_⟩
        show gZ NC G mL_press 8 Q 15 [some (sr (some x)), some (si a1), some (sr (some o)), none] [sr (some q9)] 0 0 (wS h9 n9)
        refine z_astore_n (pc := 15) (i := 3) [some (sr (some x)), some (si a1), some (sr (some o)), some (sr (some q9))] dL_press_15 rfl (by decide) rfl rfl ?_
        refine z_iconst (pc := 16) (v := 2) dL_press_16 rfl ?_
        exact z_iret (pc := 17) dL_press_17 rfl rfl (hk2 n9 hn)

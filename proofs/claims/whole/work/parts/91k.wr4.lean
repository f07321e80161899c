/-! ===== the wrappers ===== -/
theorem dL_release_0 : decode cL_release 0 = .ok (.aload_n 2, 1) := by decide +kernel
theorem dL_release_1 : decode cL_release 1 = .ok (.iconst 0, 1) := by decide +kernel
theorem dL_release_2 : decode cL_release 2 = .ok (.aload_n 0, 1) := by decide +kernel
theorem dL_release_3 : decode cL_release 3 = .ok (.iload_n 1, 1) := by decide +kernel
theorem dL_release_4 : decode cL_release 4 = .ok (.invokevirtual 86, 3) := by decide +kernel
theorem dL_release_7 : decode cL_release 7 = .ok (.i2l, 1) := by decide +kernel
theorem dL_release_8 : decode cL_release 8 = .ok (.lastore, 1) := by decide +kernel
theorem dL_release_9 : decode cL_release 9 = .ok (.goto 9, 3) := by decide +kernel
theorem dL_release_12 : decode cL_release 12 = .ok (.astore_n 3, 1) := by decide +kernel
theorem dL_release_13 : decode cL_release 13 = .ok (.iconst 1, 1) := by decide +kernel
theorem dL_release_14 : decode cL_release 14 = .ok (.ireturn, 1) := by decide +kernel
theorem dL_release_15 : decode cL_release 15 = .ok (.astore_n 3, 1) := by decide +kernel
theorem dL_release_16 : decode cL_release 16 = .ok (.iconst 2, 1) := by decide +kernel
theorem dL_release_17 : decode cL_release 17 = .ok (.ireturn, 1) := by decide +kernel
theorem dL_release_18 : decode cL_release 18 = .ok (.iconst 0, 1) := by decide +kernel
theorem dL_release_19 : decode cL_release 19 = .ok (.ireturn, 1) := by decide +kernel
abbrev mL_release : gM := (yL_release, cL_release, 4, some .int, [(0, 9, 12, 21), (0, 9, 15, 15)])
theorem caL_release : cal2 mL_release 3 := ⟨xw 1117 (by decide +kernel) rfl, xw 86 (by decide +kernel) rfl, by decide, by decide +kernel, xw 1116 (by decide +kernel) rfl⟩
theorem lkL_86 : Cond.methodLink RL 86 yX10_release ∈ XW := xw 1118 (by decide +kernel) rfl
theorem wL_release {G : gG} {x o : Nat} {a1 : Int32} {h h' : hp} {Q : hQ} (a : Int32 ⊕ String) (hx : (hT h x).1 = 10) (ho : hT h' o = (24, 1)) (hS : ∀ Q1 : hQ, Q1 (oA a) h' → gS G mX10_release 9 2 12 [sr (some x), si a1] h Q1) (hq : WrQ o i2l9 [exI, exS] a h' Q) : gS2 G mL_release 10 2 12 [sr (some x), si a1, sr (some o)] h Q := by
  refine gS2_at [some (sr (some x)), some (si a1), some (sr (some o)), none] pl_L (Nat.le_of_ble_eq_true rfl) rfl ?_
  refine z_aload_n (pc := 0) (i := 2) dL_release_0 rfl rfl ?_
  refine z_iconst (pc := 1) (v := 0) dL_release_1 rfl ?_
  refine z_aload_n (pc := 2) (i := 0) dL_release_2 rfl rfl ?_
  refine z_iload_n (pc := 3) (i := 1) dL_release_3 rfl rfl ?_
  refine z_invH (pc := 4) (as := [si a1]) (st := [si 0, sr (some o)]) (ci := 9) (N := mX10_release) (k := 0) (n := 0) (k1 := 2) (n1 := 12) (fun _ z => z) dL_release_4 lkL_86 caX10_release cvX10_release rfl (by decide) rfl hx (hS (fun o9 h9 => o9 = oA a ∧ h9 = h') ⟨rfl, rfl⟩) ⟨by decide, by decide⟩ (Nat.le_of_ble_eq_true rfl) (fun v h9 q => ?_) (fun E h9 n9 q9 q hn => ?_)
  · rcases a with b | E
    · obtain ⟨q1, rfl⟩ := q
      have q2 : v = some (si b) := Sum.inl.inj q1
      subst q2
      show gZ NC G mL_release 10 Q 7 [some (sr (some x)), some (si a1), some (sr (some o)), none] [si b, si 0, sr (some o)] 0 0 h9
      refine z_i2l (pc := 7) dL_release_7 ?_
      refine z_last (pc := 8) dL_release_8 (by rw [ho]) (by rw [ho]; exact in0) ?_
      refine z_goto (pc := 9) 18 dL_release_9 rfl ?_
      refine z_iconst (pc := 18) (v := 0) dL_release_18 rfl ?_
      exact z_iret (pc := 19) dL_release_19 rfl rfl hq
    · exact absurd q.1 (fun z => nomatch z)
  · rcases a with b | E9
    · exact absurd q.1 (fun z => nomatch z)
    · obtain ⟨q1, rfl⟩ := q
      have q2 : E = E9 := Sum.inr.inj q1
      subst q2
      obtain ⟨k9, hk1, rfl, hk2⟩ := hq
      rcases (show k9 = 0 ∨ k9 = 1 by simp at hk1; omega) with rfl | rfl
      · refine ⟨[], ⟨0, 9, 12, 21⟩, [⟨0, 9, 15, 15⟩], exI, rfl, (fun z hz => nomatch hz), rfl, by decide, clL_21, ca_exI, ?_⟩
        show gZ NC G mL_release 10 Q 12 [some (sr (some x)), some (si a1), some (sr (some o)), none] [sr (some q9)] 0 0 (wS h9 n9)
        refine z_astore_n (pc := 12) (i := 3) [some (sr (some x)), some (si a1), some (sr (some o)), some (sr (some q9))] dL_release_12 rfl (by decide) rfl rfl ?_
        refine z_iconst (pc := 13) (v := 1) dL_release_13 rfl ?_
        exact z_iret (pc := 14) dL_release_14 rfl rfl (hk2 n9 hn)
      · refine ⟨[⟨0, 9, 12, 21⟩], ⟨0, 9, 15, 15⟩, [], exS, rfl, (fun z hz => by
          cases List.mem_singleton.mp hz
          exact ⟨by decide, exI, clL_21, by simp [nc3]⟩), rfl, by decide, clL_15, ca_exS, ?_⟩
        show gZ NC G mL_release 10 Q 15 [some (sr (some x)), some (si a1), some (sr (some o)), none] [sr (some q9)] 0 0 (wS h9 n9)
        refine z_astore_n (pc := 15) (i := 3) [some (sr (some x)), some (si a1), some (sr (some o)), some (sr (some q9))] dL_release_15 rfl (by decide) rfl rfl ?_
        refine z_iconst (pc := 16) (v := 2) dL_release_16 rfl ?_
        exact z_iret (pc := 17) dL_release_17 rfl rfl (hk2 n9 hn)
theorem dL_chord_0 : decode cL_chord 0 = .ok (.aload_n 2, 1) := by decide +kernel
theorem dL_chord_1 : decode cL_chord 1 = .ok (.iconst 0, 1) := by decide +kernel
theorem dL_chord_2 : decode cL_chord 2 = .ok (.aload_n 0, 1) := by decide +kernel
theorem dL_chord_3 : decode cL_chord 3 = .ok (.iload_n 1, 1) := by decide +kernel
theorem dL_chord_4 : decode cL_chord 4 = .ok (.invokevirtual 89, 3) := by decide +kernel
theorem dL_chord_7 : decode cL_chord 7 = .ok (.i2l, 1) := by decide +kernel
theorem dL_chord_8 : decode cL_chord 8 = .ok (.lastore, 1) := by decide +kernel
theorem dL_chord_9 : decode cL_chord 9 = .ok (.goto 9, 3) := by decide +kernel
theorem dL_chord_12 : decode cL_chord 12 = .ok (.astore_n 3, 1) := by decide +kernel
theorem dL_chord_13 : decode cL_chord 13 = .ok (.iconst 1, 1) := by decide +kernel
theorem dL_chord_14 : decode cL_chord 14 = .ok (.ireturn, 1) := by decide +kernel
theorem dL_chord_15 : decode cL_chord 15 = .ok (.astore_n 3, 1) := by decide +kernel
theorem dL_chord_16 : decode cL_chord 16 = .ok (.iconst 2, 1) := by decide +kernel
theorem dL_chord_17 : decode cL_chord 17 = .ok (.ireturn, 1) := by decide +kernel
theorem dL_chord_18 : decode cL_chord 18 = .ok (.iconst 0, 1) := by decide +kernel
theorem dL_chord_19 : decode cL_chord 19 = .ok (.ireturn, 1) := by decide +kernel
abbrev mL_chord : gM := (yL_chord, cL_chord, 4, some .int, [(0, 9, 12, 13), (0, 9, 15, 15)])
theorem caL_chord : cal2 mL_chord 3 := ⟨xw 1280 (by decide +kernel) rfl, xw 86 (by decide +kernel) rfl, by decide, by decide +kernel, xw 1279 (by decide +kernel) rfl⟩
theorem lkL_89 : Cond.methodLink RL 89 yX10_chord ∈ XW := xw 1281 (by decide +kernel) rfl
theorem wL_chord {G : gG} {x o : Nat} {a1 : Int32} {h h' : hp} {Q : hQ} (a : Int32 ⊕ String) (hx : (hT h x).1 = 10) (ho : hT h' o = (24, 1)) (hS : ∀ Q1 : hQ, Q1 (oA a) h' → gS G mX10_chord 9 1 6 [sr (some x), si a1] h Q1) (hq : WrQ o i2l9 [exA, exS] a h' Q) : gS2 G mL_chord 10 1 6 [sr (some x), si a1, sr (some o)] h Q := by
  refine gS2_at [some (sr (some x)), some (si a1), some (sr (some o)), none] pl_L (Nat.le_of_ble_eq_true rfl) rfl ?_
  refine z_aload_n (pc := 0) (i := 2) dL_chord_0 rfl rfl ?_
  refine z_iconst (pc := 1) (v := 0) dL_chord_1 rfl ?_
  refine z_aload_n (pc := 2) (i := 0) dL_chord_2 rfl rfl ?_
  refine z_iload_n (pc := 3) (i := 1) dL_chord_3 rfl rfl ?_
  refine z_invH (pc := 4) (as := [si a1]) (st := [si 0, sr (some o)]) (ci := 9) (N := mX10_chord) (k := 0) (n := 0) (k1 := 1) (n1 := 6) (fun _ z => z) dL_chord_4 lkL_89 caX10_chord cvX10_chord rfl (by decide) rfl hx (hS (fun o9 h9 => o9 = oA a ∧ h9 = h') ⟨rfl, rfl⟩) ⟨by decide, by decide⟩ (Nat.le_of_ble_eq_true rfl) (fun v h9 q => ?_) (fun E h9 n9 q9 q hn => ?_)
  · rcases a with b | E
    · obtain ⟨q1, rfl⟩ := q
      have q2 : v = some (si b) := Sum.inl.inj q1
      subst q2
      show gZ NC G mL_chord 10 Q 7 [some (sr (some x)), some (si a1), some (sr (some o)), none] [si b, si 0, sr (some o)] 0 0 h9
      refine z_i2l (pc := 7) dL_chord_7 ?_
      refine z_last (pc := 8) dL_chord_8 (by rw [ho]) (by rw [ho]; exact in0) ?_
      refine z_goto (pc := 9) 18 dL_chord_9 rfl ?_
      refine z_iconst (pc := 18) (v := 0) dL_chord_18 rfl ?_
      exact z_iret (pc := 19) dL_chord_19 rfl rfl hq
    · exact absurd q.1 (fun z => nomatch z)
  · rcases a with b | E9
    · exact absurd q.1 (fun z => nomatch z)
    · obtain ⟨q1, rfl⟩ := q
      have q2 : E = E9 := Sum.inr.inj q1
      subst q2
      obtain ⟨k9, hk1, rfl, hk2⟩ := hq
      rcases (show k9 = 0 ∨ k9 = 1 by simp at hk1; omega) with rfl | rfl
      · refine ⟨[], ⟨0, 9, 12, 13⟩, [⟨0, 9, 15, 15⟩], exA, rfl, (fun z hz => nomatch hz), rfl, by decide, clL_13, ca_exA, ?_⟩
        show gZ NC G mL_chord 10 Q 12 [some (sr (some x)), some (si a1), some (sr (some o)), none] [sr (some q9)] 0 0 (wS h9 n9)
        refine z_astore_n (pc := 12) (i := 3) [some (sr (some x)), some (si a1), some (sr (some o)), some (sr (some q9))] dL_chord_12 rfl (by decide) rfl rfl ?_
        refine z_iconst (pc := 13) (v := 1) dL_chord_13 rfl ?_
        exact z_iret (pc := 14) dL_chord_14 rfl rfl (hk2 n9 hn)
      · refine ⟨[⟨0, 9, 12, 13⟩], ⟨0, 9, 15, 15⟩, [], exS, rfl, (fun z hz => by
          cases List.mem_singleton.mp hz
          exact ⟨by decide, exA, clL_13, by simp [nc3]⟩), rfl, by decide, clL_15, ca_exS, ?_⟩
        show gZ NC G mL_chord 10 Q 15 [some (sr (some x)), some (si a1), some (sr (some o)), none] [sr (some q9)] 0 0 (wS h9 n9)
        refine z_astore_n (pc := 15) (i := 3) [some (sr (some x)), some (si a1), some (sr (some o)), some (sr (some q9))] dL_chord_15 rfl (by decide) rfl rfl ?_
        refine z_iconst (pc := 16) (v := 2) dL_chord_16 rfl ?_
        exact z_iret (pc := 17) dL_chord_17 rfl rfl (hk2 n9 hn)
theorem dL_pin_0 : decode cL_pin 0 = .ok (.aload_n 2, 1) := by decide +kernel
theorem dL_pin_1 : decode cL_pin 1 = .ok (.iconst 0, 1) := by decide +kernel
theorem dL_pin_2 : decode cL_pin 2 = .ok (.aload_n 0, 1) := by decide +kernel
theorem dL_pin_3 : decode cL_pin 3 = .ok (.iload_n 1, 1) := by decide +kernel
theorem dL_pin_4 : decode cL_pin 4 = .ok (.invokevirtual 92, 3) := by decide +kernel
theorem dL_pin_7 : decode cL_pin 7 = .ok (.i2l, 1) := by decide +kernel
theorem dL_pin_8 : decode cL_pin 8 = .ok (.lastore, 1) := by decide +kernel
theorem dL_pin_9 : decode cL_pin 9 = .ok (.goto 6, 3) := by decide +kernel
theorem dL_pin_12 : decode cL_pin 12 = .ok (.astore_n 3, 1) := by decide +kernel
theorem dL_pin_13 : decode cL_pin 13 = .ok (.iconst 1, 1) := by decide +kernel
theorem dL_pin_14 : decode cL_pin 14 = .ok (.ireturn, 1) := by decide +kernel
theorem dL_pin_15 : decode cL_pin 15 = .ok (.iconst 0, 1) := by decide +kernel
theorem dL_pin_16 : decode cL_pin 16 = .ok (.ireturn, 1) := by decide +kernel
abbrev mL_pin : gM := (yL_pin, cL_pin, 4, some .int, [(0, 9, 12, 21)])
theorem caL_pin : cal2 mL_pin 3 := ⟨xw 1289 (by decide +kernel) rfl, xw 86 (by decide +kernel) rfl, by decide, by decide +kernel, xw 1288 (by decide +kernel) rfl⟩
theorem lkL_92 : Cond.methodLink RL 92 yX10_pin ∈ XW := xw 1290 (by decide +kernel) rfl
theorem wL_pin {G : gG} {x o : Nat} {a1 : Int32} {h h' : hp} {Q : hQ} (a : Int32 ⊕ String) (hx : (hT h x).1 = 10) (ho : hT h' o = (24, 1)) (hS : ∀ Q1 : hQ, Q1 (oA a) h' → gS G mX10_pin 7 1 6 [sr (some x), si a1] h Q1) (hq : WrQ o i2l9 [exI] a h' Q) : gS2 G mL_pin 8 1 6 [sr (some x), si a1, sr (some o)] h Q := by
  refine gS2_at [some (sr (some x)), some (si a1), some (sr (some o)), none] pl_L (Nat.le_of_ble_eq_true rfl) rfl ?_
  refine z_aload_n (pc := 0) (i := 2) dL_pin_0 rfl rfl ?_
  refine z_iconst (pc := 1) (v := 0) dL_pin_1 rfl ?_
  refine z_aload_n (pc := 2) (i := 0) dL_pin_2 rfl rfl ?_
  refine z_iload_n (pc := 3) (i := 1) dL_pin_3 rfl rfl ?_
  refine z_invH (pc := 4) (as := [si a1]) (st := [si 0, sr (some o)]) (ci := 9) (N := mX10_pin) (k := 0) (n := 0) (k1 := 1) (n1 := 6) (fun _ z => z) dL_pin_4 lkL_92 caX10_pin cvX10_pin rfl (by decide) rfl hx (hS (fun o9 h9 => o9 = oA a ∧ h9 = h') ⟨rfl, rfl⟩) ⟨by decide, by decide⟩ (Nat.le_of_ble_eq_true rfl) (fun v h9 q => ?_) (fun E h9 n9 q9 q hn => ?_)
  · rcases a with b | E
    · obtain ⟨q1, rfl⟩ := q
      have q2 : v = some (si b) := Sum.inl.inj q1
      subst q2
      show gZ NC G mL_pin 8 Q 7 [some (sr (some x)), some (si a1), some (sr (some o)), none] [si b, si 0, sr (some o)] 0 0 h9
      refine z_i2l (pc := 7) dL_pin_7 ?_
      refine z_last (pc := 8) dL_pin_8 (by rw [ho]) (by rw [ho]; exact in0) ?_
      refine z_goto (pc := 9) 15 dL_pin_9 rfl ?_
      refine z_iconst (pc := 15) (v := 0) dL_pin_15 rfl ?_
      exact z_iret (pc := 16) dL_pin_16 rfl rfl hq
    · exact absurd q.1 (fun z => nomatch z)
  · rcases a with b | E9
    · exact absurd q.1 (fun z => nomatch z)
    · obtain ⟨q1, rfl⟩ := q
      have q2 : E = E9 := Sum.inr.inj q1
      subst q2
      obtain ⟨k9, hk1, rfl, hk2⟩ := hq
      have hk3 : k9 = 0 := by simp at hk1; omega
      subst hk3
      refine ⟨[], ⟨0, 9, 12, 21⟩, [], exI, rfl, (fun z hz => nomatch hz), rfl, by decide, clL_21, ca_exI, ?_⟩
      show gZ NC G mL_pin 8 Q 12 [some (sr (some x)), some (si a1), some (sr (some o)), none] [sr (some q9)] 0 0 (wS h9 n9)
      refine z_astore_n (pc := 12) (i := 3) [some (sr (some x)), some (si a1), some (sr (some o)), some (sr (some q9))] dL_pin_12 rfl (by decide) rfl rfl ?_
      refine z_iconst (pc := 13) (v := 1) dL_pin_13 rfl ?_
      exact z_iret (pc := 14) dL_pin_14 rfl rfl (hk2 n9 hn)
theorem dL_pinAnew_0 : decode cL_pinAnew 0 = .ok (.aload_n 2, 1) := by decide +kernel
theorem dL_pinAnew_1 : decode cL_pinAnew 1 = .ok (.iconst 0, 1) := by decide +kernel
theorem dL_pinAnew_2 : decode cL_pinAnew 2 = .ok (.aload_n 0, 1) := by decide +kernel
theorem dL_pinAnew_3 : decode cL_pinAnew 3 = .ok (.iload_n 1, 1) := by decide +kernel
theorem dL_pinAnew_4 : decode cL_pinAnew 4 = .ok (.invokevirtual 95, 3) := by decide +kernel
theorem dL_pinAnew_7 : decode cL_pinAnew 7 = .ok (.i2l, 1) := by decide +kernel
theorem dL_pinAnew_8 : decode cL_pinAnew 8 = .ok (.lastore, 1) := by decide +kernel
theorem dL_pinAnew_9 : decode cL_pinAnew 9 = .ok (.goto 6, 3) := by decide +kernel
theorem dL_pinAnew_12 : decode cL_pinAnew 12 = .ok (.astore_n 3, 1) := by decide +kernel
theorem dL_pinAnew_13 : decode cL_pinAnew 13 = .ok (.iconst 1, 1) := by decide +kernel
theorem dL_pinAnew_14 : decode cL_pinAnew 14 = .ok (.ireturn, 1) := by decide +kernel
theorem dL_pinAnew_15 : decode cL_pinAnew 15 = .ok (.iconst 0, 1) := by decide +kernel
theorem dL_pinAnew_16 : decode cL_pinAnew 16 = .ok (.ireturn, 1) := by decide +kernel
abbrev mL_pinAnew : gM := (yL_pinAnew, cL_pinAnew, 4, some .int, [(0, 9, 12, 21)])
theorem caL_pinAnew : cal2 mL_pinAnew 3 := ⟨xw 1309 (by decide +kernel) rfl, xw 86 (by decide +kernel) rfl, by decide, by decide +kernel, xw 1308 (by decide +kernel) rfl⟩
theorem lkL_95 : Cond.methodLink RL 95 yX10_pinAnew ∈ XW := xw 1310 (by decide +kernel) rfl
theorem wL_pinAnew {G : gG} {x o : Nat} {a1 : Int32} {h h' : hp} {Q : hQ} (a : Int32 ⊕ String) (hx : (hT h x).1 = 10) (ho : hT h' o = (24, 1)) (hS : ∀ Q1 : hQ, Q1 (oA a) h' → gS G mX10_pinAnew 8 1 6 [sr (some x), si a1] h Q1) (hq : WrQ o i2l9 [exI] a h' Q) : gS2 G mL_pinAnew 9 1 6 [sr (some x), si a1, sr (some o)] h Q := by
  refine gS2_at [some (sr (some x)), some (si a1), some (sr (some o)), none] pl_L (Nat.le_of_ble_eq_true rfl) rfl ?_
  refine z_aload_n (pc := 0) (i := 2) dL_pinAnew_0 rfl rfl ?_
  refine z_iconst (pc := 1) (v := 0) dL_pinAnew_1 rfl ?_
  refine z_aload_n (pc := 2) (i := 0) dL_pinAnew_2 rfl rfl ?_
  refine z_iload_n (pc := 3) (i := 1) dL_pinAnew_3 rfl rfl ?_
  refine z_invH (pc := 4) (as := [si a1]) (st := [si 0, sr (some o)]) (ci := 9) (N := mX10_pinAnew) (k := 0) (n := 0) (k1 := 1) (n1 := 6) (fun _ z => z) dL_pinAnew_4 lkL_95 caX10_pinAnew cvX10_pinAnew rfl (by decide) rfl hx (hS (fun o9 h9 => o9 = oA a ∧ h9 = h') ⟨rfl, rfl⟩) ⟨by decide, by decide⟩ (Nat.le_of_ble_eq_true rfl) (fun v h9 q => ?_) (fun E h9 n9 q9 q hn => ?_)
  · rcases a with b | E
    · obtain ⟨q1, rfl⟩ := q
      have q2 : v = some (si b) := Sum.inl.inj q1
      subst q2
      show gZ NC G mL_pinAnew 9 Q 7 [some (sr (some x)), some (si a1), some (sr (some o)), none] [si b, si 0, sr (some o)] 0 0 h9
      refine z_i2l (pc := 7) dL_pinAnew_7 ?_
      refine z_last (pc := 8) dL_pinAnew_8 (by rw [ho]) (by rw [ho]; exact in0) ?_
      refine z_goto (pc := 9) 15 dL_pinAnew_9 rfl ?_
      refine z_iconst (pc := 15) (v := 0) dL_pinAnew_15 rfl ?_
      exact z_iret (pc := 16) dL_pinAnew_16 rfl rfl hq
    · exact absurd q.1 (fun z => nomatch z)
  · rcases a with b | E9
    · exact absurd q.1 (fun z => nomatch z)
    · obtain ⟨q1, rfl⟩ := q
      have q2 : E = E9 := Sum.inr.inj q1
      subst q2
      obtain ⟨k9, hk1, rfl, hk2⟩ := hq
      have hk3 : k9 = 0 := by simp at hk1; omega
      subst hk3
      refine ⟨[], ⟨0, 9, 12, 21⟩, [], exI, rfl, (fun z hz => nomatch hz), rfl, by decide, clL_21, ca_exI, ?_⟩
      show gZ NC G mL_pinAnew 9 Q 12 [some (sr (some x)), some (si a1), some (sr (some o)), none] [sr (some q9)] 0 0 (wS h9 n9)
      refine z_astore_n (pc := 12) (i := 3) [some (sr (some x)), some (si a1), some (sr (some o)), some (sr (some q9))] dL_pinAnew_12 rfl (by decide) rfl rfl ?_
      refine z_iconst (pc := 13) (v := 1) dL_pinAnew_13 rfl ?_
      exact z_iret (pc := 14) dL_pinAnew_14 rfl rfl (hk2 n9 hn)
theorem dL_wordsLength_0 : decode cL_wordsLength 0 = .ok (.aload_n 2, 1) := by decide +kernel
theorem dL_wordsLength_1 : decode cL_wordsLength 1 = .ok (.iconst 0, 1) := by decide +kernel
theorem dL_wordsLength_2 : decode cL_wordsLength 2 = .ok (.aload_n 0, 1) := by decide +kernel
theorem dL_wordsLength_3 : decode cL_wordsLength 3 = .ok (.iload_n 1, 1) := by decide +kernel
theorem dL_wordsLength_4 : decode cL_wordsLength 4 = .ok (.invokevirtual 98, 3) := by decide +kernel
theorem dL_wordsLength_7 : decode cL_wordsLength 7 = .ok (.i2l, 1) := by decide +kernel
theorem dL_wordsLength_8 : decode cL_wordsLength 8 = .ok (.lastore, 1) := by decide +kernel
theorem dL_wordsLength_9 : decode cL_wordsLength 9 = .ok (.goto 9, 3) := by decide +kernel
theorem dL_wordsLength_12 : decode cL_wordsLength 12 = .ok (.astore_n 3, 1) := by decide +kernel
theorem dL_wordsLength_13 : decode cL_wordsLength 13 = .ok (.iconst 1, 1) := by decide +kernel
theorem dL_wordsLength_14 : decode cL_wordsLength 14 = .ok (.ireturn, 1) := by decide +kernel
theorem dL_wordsLength_15 : decode cL_wordsLength 15 = .ok (.astore_n 3, 1) := by decide +kernel
theorem dL_wordsLength_16 : decode cL_wordsLength 16 = .ok (.iconst 2, 1) := by decide +kernel
theorem dL_wordsLength_17 : decode cL_wordsLength 17 = .ok (.ireturn, 1) := by decide +kernel
theorem dL_wordsLength_18 : decode cL_wordsLength 18 = .ok (.iconst 0, 1) := by decide +kernel
theorem dL_wordsLength_19 : decode cL_wordsLength 19 = .ok (.ireturn, 1) := by decide +kernel
abbrev mL_wordsLength : gM := (yL_wordsLength, cL_wordsLength, 4, some .int, [(0, 9, 12, 21), (0, 9, 15, 15)])
theorem caL_wordsLength : cal2 mL_wordsLength 3 := ⟨xw 1324 (by decide +kernel) rfl, xw 86 (by decide +kernel) rfl, by decide, by decide +kernel, xw 1323 (by decide +kernel) rfl⟩
theorem lkL_98 : Cond.methodLink RL 98 yX10_wordsLength ∈ XW := xw 1325 (by decide +kernel) rfl
theorem wL_wordsLength {G : gG} {x o : Nat} {a1 : Int32} {h h' : hp} {Q : hQ} (a : Int32 ⊕ String) (hx : (hT h x).1 = 10) (ho : hT h' o = (24, 1)) (hS : ∀ Q1 : hQ, Q1 (oA a) h' → gS G mX10_wordsLength 8 2 12 [sr (some x), si a1] h Q1) (hq : WrQ o i2l9 [exI, exS] a h' Q) : gS2 G mL_wordsLength 9 2 12 [sr (some x), si a1, sr (some o)] h Q := by
  refine gS2_at [some (sr (some x)), some (si a1), some (sr (some o)), none] pl_L (Nat.le_of_ble_eq_true rfl) rfl ?_
  refine z_aload_n (pc := 0) (i := 2) dL_wordsLength_0 rfl rfl ?_
  refine z_iconst (pc := 1) (v := 0) dL_wordsLength_1 rfl ?_
  refine z_aload_n (pc := 2) (i := 0) dL_wordsLength_2 rfl rfl ?_
  refine z_iload_n (pc := 3) (i := 1) dL_wordsLength_3 rfl rfl ?_
  refine z_invH (pc := 4) (as := [si a1]) (st := [si 0, sr (some o)]) (ci := 9) (N := mX10_wordsLength) (k := 0) (n := 0) (k1 := 2) (n1 := 12) (fun _ z => z) dL_wordsLength_4 lkL_98 caX10_wordsLength cvX10_wordsLength rfl (by decide) rfl hx (hS (fun o9 h9 => o9 = oA a ∧ h9 = h') ⟨rfl, rfl⟩) ⟨by decide, by decide⟩ (Nat.le_of_ble_eq_true rfl) (fun v h9 q => ?_) (fun E h9 n9 q9 q hn => ?_)
  · rcases a with b | E
    · obtain ⟨q1, rfl⟩ := q
      have q2 : v = some (si b) := Sum.inl.inj q1
      subst q2
      show gZ NC G mL_wordsLength 9 Q 7 [some (sr (some x)), some (si a1), some (sr (some o)), none] [si b, si 0, sr (some o)] 0 0 h9
      refine z_i2l (pc := 7) dL_wordsLength_7 ?_
      refine z_last (pc := 8) dL_wordsLength_8 (by rw [ho]) (by rw [ho]; exact in0) ?_
      refine z_goto (pc := 9) 18 dL_wordsLength_9 rfl ?_
      refine z_iconst (pc := 18) (v := 0) dL_wordsLength_18 rfl ?_
      exact z_iret (pc := 19) dL_wordsLength_19 rfl rfl hq
    · exact absurd q.1 (fun z => nomatch z)
  · rcases a with b | E9
    · exact absurd q.1 (fun z => nomatch z)
    · obtain ⟨q1, rfl⟩ := q
      have q2 : E = E9 := Sum.inr.inj q1
      subst q2
      obtain ⟨k9, hk1, rfl, hk2⟩ := hq
      rcases (show k9 = 0 ∨ k9 = 1 by simp at hk1; omega) with rfl | rfl
      · refine ⟨[], ⟨0, 9, 12, 21⟩, [⟨0, 9, 15, 15⟩], exI, rfl, (fun z hz => nomatch hz), rfl, by decide, clL_21, ca_exI, ?_⟩
        show gZ NC G mL_wordsLength 9 Q 12 [some (sr (some x)), some (si a1), some (sr (some o)), none] [sr (some q9)] 0 0 (wS h9 n9)
        refine z_astore_n (pc := 12) (i := 3) [some (sr (some x)), some (si a1), some (sr (some o)), some (sr (some q9))] dL_wordsLength_12 rfl (by decide) rfl rfl ?_
        refine z_iconst (pc := 13) (v := 1) dL_wordsLength_13 rfl ?_
        exact z_iret (pc := 14) dL_wordsLength_14 rfl rfl (hk2 n9 hn)
      · refine ⟨[⟨0, 9, 12, 21⟩], ⟨0, 9, 15, 15⟩, [], exS, rfl, (fun z hz => by
          cases List.mem_singleton.mp hz
          exact ⟨by decide, exI, clL_21, by simp [nc3]⟩), rfl, by decide, clL_15, ca_exS, ?_⟩
        show gZ NC G mL_wordsLength 9 Q 15 [some (sr (some x)), some (si a1), some (sr (some o)), none] [sr (some q9)] 0 0 (wS h9 n9)
        refine z_astore_n (pc := 15) (i := 3) [some (sr (some x)), some (si a1), some (sr (some o)), some (sr (some q9))] dL_wordsLength_15 rfl (by decide) rfl rfl ?_
        refine z_iconst (pc := 16) (v := 2) dL_wordsLength_16 rfl ?_
        exact z_iret (pc := 17) dL_wordsLength_17 rfl rfl (hk2 n9 hn)
theorem dL_wordsAt_0 : decode cL_wordsAt 0 = .ok (.aload_n 3, 1) := by decide +kernel
theorem dL_wordsAt_1 : decode cL_wordsAt 1 = .ok (.iconst 0, 1) := by decide +kernel
theorem dL_wordsAt_2 : decode cL_wordsAt 2 = .ok (.aload_n 0, 1) := by decide +kernel
theorem dL_wordsAt_3 : decode cL_wordsAt 3 = .ok (.iload_n 1, 1) := by decide +kernel
theorem dL_wordsAt_4 : decode cL_wordsAt 4 = .ok (.iload_n 2, 1) := by decide +kernel
theorem dL_wordsAt_5 : decode cL_wordsAt 5 = .ok (.invokevirtual 101, 3) := by decide +kernel
theorem dL_wordsAt_8 : decode cL_wordsAt 8 = .ok (.i2l, 1) := by decide +kernel
theorem dL_wordsAt_9 : decode cL_wordsAt 9 = .ok (.lastore, 1) := by decide +kernel
theorem dL_wordsAt_10 : decode cL_wordsAt 10 = .ok (.goto 11, 3) := by decide +kernel
theorem dL_wordsAt_13 : decode cL_wordsAt 13 = .ok (.astore 4, 2) := by decide +kernel
theorem dL_wordsAt_15 : decode cL_wordsAt 15 = .ok (.iconst 1, 1) := by decide +kernel
theorem dL_wordsAt_16 : decode cL_wordsAt 16 = .ok (.ireturn, 1) := by decide +kernel
theorem dL_wordsAt_17 : decode cL_wordsAt 17 = .ok (.astore 4, 2) := by decide +kernel
theorem dL_wordsAt_19 : decode cL_wordsAt 19 = .ok (.iconst 2, 1) := by decide +kernel
theorem dL_wordsAt_20 : decode cL_wordsAt 20 = .ok (.ireturn, 1) := by decide +kernel
theorem dL_wordsAt_21 : decode cL_wordsAt 21 = .ok (.iconst 0, 1) := by decide +kernel
theorem dL_wordsAt_22 : decode cL_wordsAt 22 = .ok (.ireturn, 1) := by decide +kernel
abbrev mL_wordsAt : gM := (yL_wordsAt, cL_wordsAt, 5, some .int, [(0, 10, 13, 15), (0, 10, 17, 21)])
theorem caL_wordsAt : cal2 mL_wordsAt 4 := ⟨xw 1337 (by decide +kernel) rfl, xw 86 (by decide +kernel) rfl, by decide, by decide +kernel, xw 1336 (by decide +kernel) rfl⟩
theorem lkL_101 : Cond.methodLink RL 101 yX10_wordsAt ∈ XW := xw 1338 (by decide +kernel) rfl
theorem wL_wordsAt {G : gG} {x o : Nat} {a1 a2 : Int32} {h h' : hp} {Q : hQ} (a : Int32 ⊕ String) (hx : (hT h x).1 = 10) (ho : hT h' o = (24, 1)) (hS : ∀ Q1 : hQ, Q1 (oA a) h' → gS G mX10_wordsAt 8 3 18 [sr (some x), si a1, si a2] h Q1) (hq : WrQ o i2l9 [exS, exI] a h' Q) : gS2 G mL_wordsAt 9 3 18 [sr (some x), si a1, si a2, sr (some o)] h Q := by
  refine gS2_at [some (sr (some x)), some (si a1), some (si a2), some (sr (some o)), none] pl_L (Nat.le_of_ble_eq_true rfl) rfl ?_
  refine z_aload_n (pc := 0) (i := 3) dL_wordsAt_0 rfl rfl ?_
  refine z_iconst (pc := 1) (v := 0) dL_wordsAt_1 rfl ?_
  refine z_aload_n (pc := 2) (i := 0) dL_wordsAt_2 rfl rfl ?_
  refine z_iload_n (pc := 3) (i := 1) dL_wordsAt_3 rfl rfl ?_
  refine z_iload_n (pc := 4) (i := 2) dL_wordsAt_4 rfl rfl ?_
  refine z_invH (pc := 5) (as := [si a1, si a2]) (st := [si 0, sr (some o)]) (ci := 9) (N := mX10_wordsAt) (k := 0) (n := 0) (k1 := 3) (n1 := 18) (fun _ z => z) dL_wordsAt_5 lkL_101 caX10_wordsAt cvX10_wordsAt rfl (by decide) rfl hx (hS (fun o9 h9 => o9 = oA a ∧ h9 = h') ⟨rfl, rfl⟩) ⟨by decide, by decide⟩ (Nat.le_of_ble_eq_true rfl) (fun v h9 q => ?_) (fun E h9 n9 q9 q hn => ?_)
  · rcases a with b | E
    · obtain ⟨q1, rfl⟩ := q
      have q2 : v = some (si b) := Sum.inl.inj q1
      subst q2
      show gZ NC G mL_wordsAt 9 Q 8 [some (sr (some x)), some (si a1), some (si a2), some (sr (some o)), none] [si b, si 0, sr (some o)] 0 0 h9
      refine z_i2l (pc := 8) dL_wordsAt_8 ?_
      refine z_last (pc := 9) dL_wordsAt_9 (by rw [ho]) (by rw [ho]; exact in0) ?_
      refine z_goto (pc := 10) 21 dL_wordsAt_10 rfl ?_
      refine z_iconst (pc := 21) (v := 0) dL_wordsAt_21 rfl ?_
      exact z_iret (pc := 22) dL_wordsAt_22 rfl rfl hq
    · exact absurd q.1 (fun z => nomatch z)
  · rcases a with b | E9
    · exact absurd q.1 (fun z => nomatch z)
    · obtain ⟨q1, rfl⟩ := q
      have q2 : E = E9 := Sum.inr.inj q1
      subst q2
      obtain ⟨k9, hk1, rfl, hk2⟩ := hq
      rcases (show k9 = 0 ∨ k9 = 1 by simp at hk1; omega) with rfl | rfl
      · refine ⟨[], ⟨0, 10, 13, 15⟩, [⟨0, 10, 17, 21⟩], exS, rfl, (fun z hz => nomatch hz), rfl, by decide, clL_15, ca_exS, ?_⟩
        show gZ NC G mL_wordsAt 9 Q 13 [some (sr (some x)), some (si a1), some (si a2), some (sr (some o)), none] [sr (some q9)] 0 0 (wS h9 n9)
        refine z_astore (pc := 13) (i := 4) [some (sr (some x)), some (si a1), some (si a2), some (sr (some o)), some (sr (some q9))] dL_wordsAt_13 (by decide) rfl rfl ?_
        refine z_iconst (pc := 15) (v := 1) dL_wordsAt_15 rfl ?_
        exact z_iret (pc := 16) dL_wordsAt_16 rfl rfl (hk2 n9 hn)
      · refine ⟨[⟨0, 10, 13, 15⟩], ⟨0, 10, 17, 21⟩, [], exI, rfl, (fun z hz => by
          cases List.mem_singleton.mp hz
          exact ⟨by decide, exS, clL_15, by simp [nc3]⟩), rfl, by decide, clL_21, ca_exI, ?_⟩
        show gZ NC G mL_wordsAt 9 Q 17 [some (sr (some x)), some (si a1), some (si a2), some (sr (some o)), none] [sr (some q9)] 0 0 (wS h9 n9)
        refine z_astore (pc := 17) (i := 4) [some (sr (some x)), some (si a1), some (si a2), some (sr (some o)), some (sr (some q9))] dL_wordsAt_17 (by decide) rfl rfl ?_
        refine z_iconst (pc := 19) (v := 2) dL_wordsAt_19 rfl ?_
        exact z_iret (pc := 20) dL_wordsAt_20 rfl rfl (hk2 n9 hn)
theorem dL_tick_0 : decode cL_tick 0 = .ok (.aload_n 2, 1) := by decide +kernel
theorem dL_tick_1 : decode cL_tick 1 = .ok (.iconst 0, 1) := by decide +kernel
theorem dL_tick_2 : decode cL_tick 2 = .ok (.aload_n 0, 1) := by decide +kernel
theorem dL_tick_3 : decode cL_tick 3 = .ok (.iload_n 1, 1) := by decide +kernel
theorem dL_tick_4 : decode cL_tick 4 = .ok (.invokevirtual 104, 3) := by decide +kernel
theorem dL_tick_7 : decode cL_tick 7 = .ok (.i2l, 1) := by decide +kernel
theorem dL_tick_8 : decode cL_tick 8 = .ok (.lastore, 1) := by decide +kernel
theorem dL_tick_9 : decode cL_tick 9 = .ok (.goto 6, 3) := by decide +kernel
theorem dL_tick_12 : decode cL_tick 12 = .ok (.astore_n 3, 1) := by decide +kernel
theorem dL_tick_13 : decode cL_tick 13 = .ok (.iconst 1, 1) := by decide +kernel
theorem dL_tick_14 : decode cL_tick 14 = .ok (.ireturn, 1) := by decide +kernel
theorem dL_tick_15 : decode cL_tick 15 = .ok (.iconst 0, 1) := by decide +kernel
theorem dL_tick_16 : decode cL_tick 16 = .ok (.ireturn, 1) := by decide +kernel
abbrev mL_tick : gM := (yL_tick, cL_tick, 4, some .int, [(0, 9, 12, 13)])
theorem caL_tick : cal2 mL_tick 3 := ⟨xw 1344 (by decide +kernel) rfl, xw 86 (by decide +kernel) rfl, by decide, by decide +kernel, xw 1343 (by decide +kernel) rfl⟩
theorem lkL_104 : Cond.methodLink RL 104 yX10_tick ∈ XW := xw 1345 (by decide +kernel) rfl
theorem wL_tick {G : gG} {x o : Nat} {a1 : Int32} {h h' : hp} {Q : hQ} (a : Int32 ⊕ String) (hx : (hT h x).1 = 10) (ho : hT h' o = (24, 1)) (hS : ∀ Q1 : hQ, Q1 (oA a) h' → gS G mX10_tick 6 1 6 [sr (some x), si a1] h Q1) (hq : WrQ o i2l9 [exA] a h' Q) : gS2 G mL_tick 7 1 6 [sr (some x), si a1, sr (some o)] h Q := by
  refine gS2_at [some (sr (some x)), some (si a1), some (sr (some o)), none] pl_L (Nat.le_of_ble_eq_true rfl) rfl ?_
  refine z_aload_n (pc := 0) (i := 2) dL_tick_0 rfl rfl ?_
  refine z_iconst (pc := 1) (v := 0) dL_tick_1 rfl ?_
  refine z_aload_n (pc := 2) (i := 0) dL_tick_2 rfl rfl ?_
  refine z_iload_n (pc := 3) (i := 1) dL_tick_3 rfl rfl ?_
  refine z_invH (pc := 4) (as := [si a1]) (st := [si 0, sr (some o)]) (ci := 9) (N := mX10_tick) (k := 0) (n := 0) (k1 := 1) (n1 := 6) (fun _ z => z) dL_tick_4 lkL_104 caX10_tick cvX10_tick rfl (by decide) rfl hx (hS (fun o9 h9 => o9 = oA a ∧ h9 = h') ⟨rfl, rfl⟩) ⟨by decide, by decide⟩ (Nat.le_of_ble_eq_true rfl) (fun v h9 q => ?_) (fun E h9 n9 q9 q hn => ?_)
  · rcases a with b | E
    · obtain ⟨q1, rfl⟩ := q
      have q2 : v = some (si b) := Sum.inl.inj q1
      subst q2
      show gZ NC G mL_tick 7 Q 7 [some (sr (some x)), some (si a1), some (sr (some o)), none] [si b, si 0, sr (some o)] 0 0 h9
      refine z_i2l (pc := 7) dL_tick_7 ?_
      refine z_last (pc := 8) dL_tick_8 (by rw [ho]) (by rw [ho]; exact in0) ?_
      refine z_goto (pc := 9) 15 dL_tick_9 rfl ?_
      refine z_iconst (pc := 15) (v := 0) dL_tick_15 rfl ?_
      exact z_iret (pc := 16) dL_tick_16 rfl rfl hq
    · exact absurd q.1 (fun z => nomatch z)
  · rcases a with b | E9
    · exact absurd q.1 (fun z => nomatch z)
    · obtain ⟨q1, rfl⟩ := q
      have q2 : E = E9 := Sum.inr.inj q1
      subst q2
      obtain ⟨k9, hk1, rfl, hk2⟩ := hq
      have hk3 : k9 = 0 := by simp at hk1; omega
      subst hk3
      refine ⟨[], ⟨0, 9, 12, 13⟩, [], exA, rfl, (fun z hz => nomatch hz), rfl, by decide, clL_13, ca_exA, ?_⟩
      show gZ NC G mL_tick 7 Q 12 [some (sr (some x)), some (si a1), some (sr (some o)), none] [sr (some q9)] 0 0 (wS h9 n9)
      refine z_astore_n (pc := 12) (i := 3) [some (sr (some x)), some (si a1), some (sr (some o)), some (sr (some q9))] dL_tick_12 rfl (by decide) rfl rfl ?_
      refine z_iconst (pc := 13) (v := 1) dL_tick_13 rfl ?_
      exact z_iret (pc := 14) dL_tick_14 rfl rfl (hk2 n9 hn)
theorem dL_waiting_0 : decode cL_waiting 0 = .ok (.aload_n 2, 1) := by decide +kernel
theorem dL_waiting_1 : decode cL_waiting 1 = .ok (.iconst 0, 1) := by decide +kernel
theorem dL_waiting_2 : decode cL_waiting 2 = .ok (.aload_n 0, 1) := by decide +kernel
theorem dL_waiting_3 : decode cL_waiting 3 = .ok (.iload_n 1, 1) := by decide +kernel
theorem dL_waiting_4 : decode cL_waiting 4 = .ok (.invokevirtual 107, 3) := by decide +kernel
theorem dL_waiting_7 : decode cL_waiting 7 = .ok (.i2l, 1) := by decide +kernel
theorem dL_waiting_8 : decode cL_waiting 8 = .ok (.lastore, 1) := by decide +kernel
theorem dL_waiting_9 : decode cL_waiting 9 = .ok (.goto 6, 3) := by decide +kernel
theorem dL_waiting_12 : decode cL_waiting 12 = .ok (.astore_n 3, 1) := by decide +kernel
theorem dL_waiting_13 : decode cL_waiting 13 = .ok (.iconst 1, 1) := by decide +kernel
theorem dL_waiting_14 : decode cL_waiting 14 = .ok (.ireturn, 1) := by decide +kernel
theorem dL_waiting_15 : decode cL_waiting 15 = .ok (.iconst 0, 1) := by decide +kernel
theorem dL_waiting_16 : decode cL_waiting 16 = .ok (.ireturn, 1) := by decide +kernel
abbrev mL_waiting : gM := (yL_waiting, cL_waiting, 4, some .int, [(0, 9, 12, 13)])
theorem caL_waiting : cal2 mL_waiting 3 := ⟨xw 1373 (by decide +kernel) rfl, xw 86 (by decide +kernel) rfl, by decide, by decide +kernel, xw 1372 (by decide +kernel) rfl⟩
theorem lkL_107 : Cond.methodLink RL 107 yX10_waiting ∈ XW := xw 1374 (by decide +kernel) rfl
theorem wL_waiting {G : gG} {x o : Nat} {a1 : Int32} {h h' : hp} {Q : hQ} (a : Int32 ⊕ String) (hx : (hT h x).1 = 10) (ho : hT h' o = (24, 1)) (hS : ∀ Q1 : hQ, Q1 (oA a) h' → gS G mX10_waiting 6 1 6 [sr (some x), si a1] h Q1) (hq : WrQ o i2l9 [exA] a h' Q) : gS2 G mL_waiting 7 1 6 [sr (some x), si a1, sr (some o)] h Q := by
  refine gS2_at [some (sr (some x)), some (si a1), some (sr (some o)), none] pl_L (Nat.le_of_ble_eq_true rfl) rfl ?_
  refine z_aload_n (pc := 0) (i := 2) dL_waiting_0 rfl rfl ?_
  refine z_iconst (pc := 1) (v := 0) dL_waiting_1 rfl ?_
  refine z_aload_n (pc := 2) (i := 0) dL_waiting_2 rfl rfl ?_
  refine z_iload_n (pc := 3) (i := 1) dL_waiting_3 rfl rfl ?_
  refine z_invH (pc := 4) (as := [si a1]) (st := [si 0, sr (some o)]) (ci := 9) (N := mX10_waiting) (k := 0) (n := 0) (k1 := 1) (n1 := 6) (fun _ z => z) dL_waiting_4 lkL_107 caX10_waiting cvX10_waiting rfl (by decide) rfl hx (hS (fun o9 h9 => o9 = oA a ∧ h9 = h') ⟨rfl, rfl⟩) ⟨by decide, by decide⟩ (Nat.le_of_ble_eq_true rfl) (fun v h9 q => ?_) (fun E h9 n9 q9 q hn => ?_)
  · rcases a with b | E
    · obtain ⟨q1, rfl⟩ := q
      have q2 : v = some (si b) := Sum.inl.inj q1
      subst q2
      show gZ NC G mL_waiting 7 Q 7 [some (sr (some x)), some (si a1), some (sr (some o)), none] [si b, si 0, sr (some o)] 0 0 h9
      refine z_i2l (pc := 7) dL_waiting_7 ?_
      refine z_last (pc := 8) dL_waiting_8 (by rw [ho]) (by rw [ho]; exact in0) ?_
      refine z_goto (pc := 9) 15 dL_waiting_9 rfl ?_
      refine z_iconst (pc := 15) (v := 0) dL_waiting_15 rfl ?_
      exact z_iret (pc := 16) dL_waiting_16 rfl rfl hq
    · exact absurd q.1 (fun z => nomatch z)
  · rcases a with b | E9
    · exact absurd q.1 (fun z => nomatch z)
    · obtain ⟨q1, rfl⟩ := q
      have q2 : E = E9 := Sum.inr.inj q1
      subst q2
      obtain ⟨k9, hk1, rfl, hk2⟩ := hq
      have hk3 : k9 = 0 := by simp at hk1; omega
      subst hk3
      refine ⟨[], ⟨0, 9, 12, 13⟩, [], exA, rfl, (fun z hz => nomatch hz), rfl, by decide, clL_13, ca_exA, ?_⟩
      show gZ NC G mL_waiting 7 Q 12 [some (sr (some x)), some (si a1), some (sr (some o)), none] [sr (some q9)] 0 0 (wS h9 n9)
      refine z_astore_n (pc := 12) (i := 3) [some (sr (some x)), some (si a1), some (sr (some o)), some (sr (some q9))] dL_waiting_12 rfl (by decide) rfl rfl ?_
      refine z_iconst (pc := 13) (v := 1) dL_waiting_13 rfl ?_
      exact z_iret (pc := 14) dL_waiting_14 rfl rfl (hk2 n9 hn)
theorem dL_heardAt_0 : decode cL_heardAt 0 = .ok (.aload_n 2, 1) := by decide +kernel
theorem dL_heardAt_1 : decode cL_heardAt 1 = .ok (.iconst 0, 1) := by decide +kernel
theorem dL_heardAt_2 : decode cL_heardAt 2 = .ok (.aload_n 0, 1) := by decide +kernel
theorem dL_heardAt_3 : decode cL_heardAt 3 = .ok (.iload_n 1, 1) := by decide +kernel
theorem dL_heardAt_4 : decode cL_heardAt 4 = .ok (.invokevirtual 110, 3) := by decide +kernel
theorem dL_heardAt_7 : decode cL_heardAt 7 = .ok (.i2l, 1) := by decide +kernel
theorem dL_heardAt_8 : decode cL_heardAt 8 = .ok (.lastore, 1) := by decide +kernel
theorem dL_heardAt_9 : decode cL_heardAt 9 = .ok (.goto 6, 3) := by decide +kernel
theorem dL_heardAt_12 : decode cL_heardAt 12 = .ok (.astore_n 3, 1) := by decide +kernel
theorem dL_heardAt_13 : decode cL_heardAt 13 = .ok (.iconst 1, 1) := by decide +kernel
theorem dL_heardAt_14 : decode cL_heardAt 14 = .ok (.ireturn, 1) := by decide +kernel
theorem dL_heardAt_15 : decode cL_heardAt 15 = .ok (.iconst 0, 1) := by decide +kernel
theorem dL_heardAt_16 : decode cL_heardAt 16 = .ok (.ireturn, 1) := by decide +kernel
abbrev mL_heardAt : gM := (yL_heardAt, cL_heardAt, 4, some .int, [(0, 9, 12, 21)])
theorem caL_heardAt : cal2 mL_heardAt 3 := ⟨xw 1381 (by decide +kernel) rfl, xw 86 (by decide +kernel) rfl, by decide, by decide +kernel, xw 1380 (by decide +kernel) rfl⟩
theorem lkL_110 : Cond.methodLink RL 110 yX10_heardAt ∈ XW := xw 1382 (by decide +kernel) rfl
theorem wL_heardAt {G : gG} {x o : Nat} {a1 : Int32} {h h' : hp} {Q : hQ} (a : Int32 ⊕ String) (hx : (hT h x).1 = 10) (ho : hT h' o = (24, 1)) (hS : ∀ Q1 : hQ, Q1 (oA a) h' → gS G mX10_heardAt 6 1 6 [sr (some x), si a1] h Q1) (hq : WrQ o i2l9 [exI] a h' Q) : gS2 G mL_heardAt 7 1 6 [sr (some x), si a1, sr (some o)] h Q := by
  refine gS2_at [some (sr (some x)), some (si a1), some (sr (some o)), none] pl_L (Nat.le_of_ble_eq_true rfl) rfl ?_
  refine z_aload_n (pc := 0) (i := 2) dL_heardAt_0 rfl rfl ?_
  refine z_iconst (pc := 1) (v := 0) dL_heardAt_1 rfl ?_
  refine z_aload_n (pc := 2) (i := 0) dL_heardAt_2 rfl rfl ?_
  refine z_iload_n (pc := 3) (i := 1) dL_heardAt_3 rfl rfl ?_
  refine z_invH (pc := 4) (as := [si a1]) (st := [si 0, sr (some o)]) (ci := 9) (N := mX10_heardAt) (k := 0) (n := 0) (k1 := 1) (n1 := 6) (fun _ z => z) dL_heardAt_4 lkL_110 caX10_heardAt cvX10_heardAt rfl (by decide) rfl hx (hS (fun o9 h9 => o9 = oA a ∧ h9 = h') ⟨rfl, rfl⟩) ⟨by decide, by decide⟩ (Nat.le_of_ble_eq_true rfl) (fun v h9 q => ?_) (fun E h9 n9 q9 q hn => ?_)
  · rcases a with b | E
    · obtain ⟨q1, rfl⟩ := q
      have q2 : v = some (si b) := Sum.inl.inj q1
      subst q2
      show gZ NC G mL_heardAt 7 Q 7 [some (sr (some x)), some (si a1), some (sr (some o)), none] [si b, si 0, sr (some o)] 0 0 h9
      refine z_i2l (pc := 7) dL_heardAt_7 ?_
      refine z_last (pc := 8) dL_heardAt_8 (by rw [ho]) (by rw [ho]; exact in0) ?_
      refine z_goto (pc := 9) 15 dL_heardAt_9 rfl ?_
      refine z_iconst (pc := 15) (v := 0) dL_heardAt_15 rfl ?_
      exact z_iret (pc := 16) dL_heardAt_16 rfl rfl hq
    · exact absurd q.1 (fun z => nomatch z)
  · rcases a with b | E9
    · exact absurd q.1 (fun z => nomatch z)
    · obtain ⟨q1, rfl⟩ := q
      have q2 : E = E9 := Sum.inr.inj q1
      subst q2
      obtain ⟨k9, hk1, rfl, hk2⟩ := hq
      have hk3 : k9 = 0 := by simp at hk1; omega
      subst hk3
      refine ⟨[], ⟨0, 9, 12, 21⟩, [], exI, rfl, (fun z hz => nomatch hz), rfl, by decide, clL_21, ca_exI, ?_⟩
      show gZ NC G mL_heardAt 7 Q 12 [some (sr (some x)), some (si a1), some (sr (some o)), none] [sr (some q9)] 0 0 (wS h9 n9)
      refine z_astore_n (pc := 12) (i := 3) [some (sr (some x)), some (si a1), some (sr (some o)), some (sr (some q9))] dL_heardAt_12 rfl (by decide) rfl rfl ?_
      refine z_iconst (pc := 13) (v := 1) dL_heardAt_13 rfl ?_
      exact z_iret (pc := 14) dL_heardAt_14 rfl rfl (hk2 n9 hn)

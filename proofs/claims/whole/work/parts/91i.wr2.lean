/-! ===== the wrappers ===== -/
theorem dL_remove_0 : decode cL_remove 0 = .ok (.aload_n 2, 1) := by decide +kernel
theorem dL_remove_1 : decode cL_remove 1 = .ok (.iconst 0, 1) := by decide +kernel
theorem dL_remove_2 : decode cL_remove 2 = .ok (.aload_n 0, 1) := by decide +kernel
theorem dL_remove_3 : decode cL_remove 3 = .ok (.iload_n 1, 1) := by decide +kernel
theorem dL_remove_4 : decode cL_remove 4 = .ok (.invokevirtual 23, 3) := by decide +kernel
theorem dL_remove_7 : decode cL_remove 7 = .ok (.i2l, 1) := by decide +kernel
theorem dL_remove_8 : decode cL_remove 8 = .ok (.lastore, 1) := by decide +kernel
theorem dL_remove_9 : decode cL_remove 9 = .ok (.goto 9, 3) := by decide +kernel
theorem dL_remove_12 : decode cL_remove 12 = .ok (.astore_n 3, 1) := by decide +kernel
theorem dL_remove_13 : decode cL_remove 13 = .ok (.iconst 1, 1) := by decide +kernel
theorem dL_remove_14 : decode cL_remove 14 = .ok (.ireturn, 1) := by decide +kernel
theorem dL_remove_15 : decode cL_remove 15 = .ok (.astore_n 3, 1) := by decide +kernel
theorem dL_remove_16 : decode cL_remove 16 = .ok (.iconst 2, 1) := by decide +kernel
theorem dL_remove_17 : decode cL_remove 17 = .ok (.ireturn, 1) := by decide +kernel
theorem dL_remove_18 : decode cL_remove 18 = .ok (.iconst 0, 1) := by decide +kernel
theorem dL_remove_19 : decode cL_remove 19 = .ok (.ireturn, 1) := by decide +kernel
abbrev mL_remove : gM := (yL_remove, cL_remove, 4, some .int, [(0, 9, 12, 21), (0, 9, 15, 15)])
theorem caL_remove : cal2 mL_remove 3 := ⟨xw 884 (by decide +kernel) rfl, xw 86 (by decide +kernel) rfl, by decide, by decide +kernel, xw 883 (by decide +kernel) rfl⟩
theorem lkL_23 : Cond.methodLink RL 23 yX10_remove ∈ XW := xw 885 (by decide +kernel) rfl
theorem wL_remove {G : gG} {x o : Nat} {a1 : Int32} {h h' : hp} {Q : hQ} (a : Int32 ⊕ String) (hx : (hT h x).1 = 10) (ho : hT h' o = (24, 1)) (hS : ∀ Q1 : hQ, Q1 (oA a) h' → gS G mX10_remove 54 3 18 [sr (some x), si a1] h Q1) (hq : WrQ o i2l9 [exI, exS] a h' Q) : gS2 G mL_remove 55 3 18 [sr (some x), si a1, sr (some o)] h Q := by
  refine gS2_at [some (sr (some x)), some (si a1), some (sr (some o)), none] pl_L (Nat.le_of_ble_eq_true rfl) rfl ?_
  refine z_aload_n (pc := 0) (i := 2) dL_remove_0 rfl rfl ?_
  refine z_iconst (pc := 1) (v := 0) dL_remove_1 rfl ?_
  refine z_aload_n (pc := 2) (i := 0) dL_remove_2 rfl rfl ?_
  refine z_iload_n (pc := 3) (i := 1) dL_remove_3 rfl rfl ?_
  refine z_invH (pc := 4) (as := [si a1]) (st := [si 0, sr (some o)]) (ci := 9) (N := mX10_remove) (k := 0) (n := 0) (k1 := 3) (n1 := 18) (fun _ z => z) dL_remove_4 lkL_23 caX10_remove cvX10_remove rfl (by decide) rfl hx (hS (fun o9 h9 => o9 = oA a ∧ h9 = h') ⟨rfl, rfl⟩) ⟨by decide, by decide⟩ (Nat.le_of_ble_eq_true rfl) (fun v h9 q => ?_) (fun E h9 n9 q9 q hn => ?_)
  · rcases a with b | E
    · obtain ⟨q1, rfl⟩ := q
      have q2 : v = some (si b) := Sum.inl.inj q1
      subst q2
      show gZ NC G mL_remove 55 Q 7 [some (sr (some x)), some (si a1), some (sr (some o)), none] [si b, si 0, sr (some o)] 0 0 h9
      refine z_i2l (pc := 7) dL_remove_7 ?_
      refine z_last (pc := 8) dL_remove_8 (by rw [ho]) (by rw [ho]; exact in0) ?_
      refine z_goto (pc := 9) 18 dL_remove_9 rfl ?_
      refine z_iconst (pc := 18) (v := 0) dL_remove_18 rfl ?_
      exact z_iret (pc := 19) dL_remove_19 rfl rfl hq
    · exact absurd q.1 (fun z => nomatch z)
  · rcases a with b | E9
    · exact absurd q.1 (fun z => nomatch z)
    · obtain ⟨q1, rfl⟩ := q
      have q2 : E = E9 := Sum.inr.inj q1
      subst q2
      obtain ⟨k9, hk1, rfl, hk2⟩ := hq
      rcases (show k9 = 0 ∨ k9 = 1 by simp at hk1; omega) with rfl | rfl
      · refine ⟨[], ⟨0, 9, 12, 21⟩, [⟨0, 9, 15, 15⟩], exI, rfl, (fun z hz => nomatch hz), rfl, by decide, clL_21, ca_exI, ?_⟩
        show gZ NC G mL_remove 55 Q 12 [some (sr (some x)), some (si a1), some (sr (some o)), none] [sr (some q9)] 0 0 (wS h9 n9)
        refine z_astore_n (pc := 12) (i := 3) [some (sr (some x)), some (si a1), some (sr (some o)), some (sr (some q9))] dL_remove_12 rfl (by decide) rfl rfl ?_
        refine z_iconst (pc := 13) (v := 1) dL_remove_13 rfl ?_
        exact z_iret (pc := 14) dL_remove_14 rfl rfl (hk2 n9 hn)
      · refine ⟨[⟨0, 9, 12, 21⟩], ⟨0, 9, 15, 15⟩, [], exS, rfl, (fun z hz => by
          cases List.mem_singleton.mp hz
          exact ⟨by decide, exI, clL_21, by simp [nc3]⟩), rfl, by decide, clL_15, ca_exS, ?_⟩
        show gZ NC G mL_remove 55 Q 15 [some (sr (some x)), some (si a1), some (sr (some o)), none] [sr (some q9)] 0 0 (wS h9 n9)
        refine z_astore_n (pc := 15) (i := 3) [some (sr (some x)), some (si a1), some (sr (some o)), some (sr (some q9))] dL_remove_15 rfl (by decide) rfl rfl ?_
        refine z_iconst (pc := 16) (v := 2) dL_remove_16 rfl ?_
        exact z_iret (pc := 17) dL_remove_17 rfl rfl (hk2 n9 hn)
theorem dL_hide_0 : decode cL_hide 0 = .ok (.aload_n 3, 1) := by decide +kernel
theorem dL_hide_1 : decode cL_hide 1 = .ok (.iconst 0, 1) := by decide +kernel
theorem dL_hide_2 : decode cL_hide 2 = .ok (.aload_n 0, 1) := by decide +kernel
theorem dL_hide_3 : decode cL_hide 3 = .ok (.iload_n 1, 1) := by decide +kernel
theorem dL_hide_4 : decode cL_hide 4 = .ok (.iload_n 2, 1) := by decide +kernel
theorem dL_hide_5 : decode cL_hide 5 = .ok (.invokevirtual 26, 3) := by decide +kernel
theorem dL_hide_8 : decode cL_hide 8 = .ok (.ifCond .eq 7, 3) := by decide +kernel
theorem dL_hide_11 : decode cL_hide 11 = .ok (.lconst 1, 1) := by decide +kernel
theorem dL_hide_12 : decode cL_hide 12 = .ok (.goto 4, 3) := by decide +kernel
theorem dL_hide_15 : decode cL_hide 15 = .ok (.lconst 0, 1) := by decide +kernel
theorem dL_hide_16 : decode cL_hide 16 = .ok (.lastore, 1) := by decide +kernel
theorem dL_hide_17 : decode cL_hide 17 = .ok (.goto 11, 3) := by decide +kernel
theorem dL_hide_20 : decode cL_hide 20 = .ok (.astore 4, 2) := by decide +kernel
theorem dL_hide_22 : decode cL_hide 22 = .ok (.iconst 1, 1) := by decide +kernel
theorem dL_hide_23 : decode cL_hide 23 = .ok (.ireturn, 1) := by decide +kernel
theorem dL_hide_24 : decode cL_hide 24 = .ok (.astore 4, 2) := by decide +kernel
theorem dL_hide_26 : decode cL_hide 26 = .ok (.iconst 2, 1) := by decide +kernel
theorem dL_hide_27 : decode cL_hide 27 = .ok (.ireturn, 1) := by decide +kernel
theorem dL_hide_28 : decode cL_hide 28 = .ok (.iconst 0, 1) := by decide +kernel
theorem dL_hide_29 : decode cL_hide 29 = .ok (.ireturn, 1) := by decide +kernel
abbrev mL_hide : gM := (yL_hide, cL_hide, 5, some .int, [(0, 17, 20, 21), (0, 17, 24, 15)])
theorem caL_hide : cal2 mL_hide 4 := ⟨xw 945 (by decide +kernel) rfl, xw 86 (by decide +kernel) rfl, by decide, by decide +kernel, xw 944 (by decide +kernel) rfl⟩
theorem lkL_26 : Cond.methodLink RL 26 yX10_hide ∈ XW := xw 946 (by decide +kernel) rfl
theorem wL_hide {G : gG} {x o : Nat} {a1 a2 : Int32} {h h' : hp} {Q : hQ} (a : Int32 ⊕ String) (hx : (hT h x).1 = 10) (ho : hT h' o = (24, 1)) (hS : ∀ Q1 : hQ, Q1 (oA a) h' → gS G mX10_hide 53 3 18 [sr (some x), si a1, si a2] h Q1) (hq : WrQ o b2l [exI, exS] a h' Q) : gS2 G mL_hide 54 3 18 [sr (some x), si a1, si a2, sr (some o)] h Q := by
  refine gS2_at [some (sr (some x)), some (si a1), some (si a2), some (sr (some o)), none] pl_L (Nat.le_of_ble_eq_true rfl) rfl ?_
  refine z_aload_n (pc := 0) (i := 3) dL_hide_0 rfl rfl ?_
  refine z_iconst (pc := 1) (v := 0) dL_hide_1 rfl ?_
  refine z_aload_n (pc := 2) (i := 0) dL_hide_2 rfl rfl ?_
  refine z_iload_n (pc := 3) (i := 1) dL_hide_3 rfl rfl ?_
  refine z_iload_n (pc := 4) (i := 2) dL_hide_4 rfl rfl ?_
  refine z_invH (pc := 5) (as := [si a1, si a2]) (st := [si 0, sr (some o)]) (ci := 9) (N := mX10_hide) (k := 0) (n := 0) (k1 := 3) (n1 := 18) (fun _ z => z) dL_hide_5 lkL_26 caX10_hide cvX10_hide rfl (by decide) rfl hx (hS (fun o9 h9 => o9 = oA a ∧ h9 = h') ⟨rfl, rfl⟩) ⟨by decide, by decide⟩ (Nat.le_of_ble_eq_true rfl) (fun v h9 q => ?_) (fun E h9 n9 q9 q hn => ?_)
  · rcases a with b | E
    · obtain ⟨q1, rfl⟩ := q
      have q2 : v = some (si b) := Sum.inl.inj q1
      subst q2
      show gZ NC G mL_hide 54 Q 8 [some (sr (some x)), some (si a1), some (si a2), some (sr (some o)), none] [si b, si 0, sr (some o)] 0 0 h9
      refine z_if_eq (pc := 8) 15 dL_hide_8 rfl (fun hc => ?_) (fun hc => ?_)
      · refine z_lconst (pc := 15) (v := 0) dL_hide_15 rfl ?_
        refine z_last (pc := 16) dL_hide_16 (by rw [ho]) (by rw [ho]; exact in0) ?_
        refine z_goto (pc := 17) 28 dL_hide_17 rfl ?_
        refine z_iconst (pc := 28) (v := 0) dL_hide_28 rfl ?_
        exact z_iret (pc := 29) dL_hide_29 rfl rfl (by have hq9 := hq; unfold WrQ b2l at hq9; dsimp only at hq9; rw [if_pos hc] at hq9; exact hq9)
      · refine z_lconst (pc := 11) (v := 1) dL_hide_11 rfl ?_
        refine z_goto (pc := 12) 16 dL_hide_12 rfl ?_
        refine z_last (pc := 16) dL_hide_16 (by rw [ho]) (by rw [ho]; exact in0) ?_
        refine z_goto (pc := 17) 28 dL_hide_17 rfl ?_
        refine z_iconst (pc := 28) (v := 0) dL_hide_28 rfl ?_
        exact z_iret (pc := 29) dL_hide_29 rfl rfl (by have hq9 := hq; unfold WrQ b2l at hq9; dsimp only at hq9; rw [if_neg hc] at hq9; exact hq9)
    · exact absurd q.1 (fun z => nomatch z)
  · rcases a with b | E9
    · exact absurd q.1 (fun z => nomatch z)
    · obtain ⟨q1, rfl⟩ := q
      have q2 : E = E9 := Sum.inr.inj q1
      subst q2
      obtain ⟨k9, hk1, rfl, hk2⟩ := hq
      rcases (show k9 = 0 ∨ k9 = 1 by simp at hk1; omega) with rfl | rfl
      · refine ⟨[], ⟨0, 17, 20, 21⟩, [⟨0, 17, 24, 15⟩], exI, rfl, (fun z hz => nomatch hz), rfl, by decide, clL_21, ca_exI, ?_⟩
        show gZ NC G mL_hide 54 Q 20 [some (sr (some x)), some (si a1), some (si a2), some (sr (some o)), none] [sr (some q9)] 0 0 (wS h9 n9)
        refine z_astore (pc := 20) (i := 4) [some (sr (some x)), some (si a1), some (si a2), some (sr (some o)), some (sr (some q9))] dL_hide_20 (by decide) rfl rfl ?_
        refine z_iconst (pc := 22) (v := 1) dL_hide_22 rfl ?_
        exact z_iret (pc := 23) dL_hide_23 rfl rfl (hk2 n9 hn)
      · refine ⟨[⟨0, 17, 20, 21⟩], ⟨0, 17, 24, 15⟩, [], exS, rfl, (fun z hz => by
          cases List.mem_singleton.mp hz
          exact ⟨by decide, exI, clL_21, by simp [nc3]⟩), rfl, by decide, clL_15, ca_exS, ?_⟩
        show gZ NC G mL_hide 54 Q 24 [some (sr (some x)), some (si a1), some (si a2), some (sr (some o)), none] [sr (some q9)] 0 0 (wS h9 n9)
        refine z_astore (pc := 24) (i := 4) [some (sr (some x)), some (si a1), some (si a2), some (sr (some o)), some (sr (some q9))] dL_hide_24 (by decide) rfl rfl ?_
        refine z_iconst (pc := 26) (v := 2) dL_hide_26 rfl ?_
        exact z_iret (pc := 27) dL_hide_27 rfl rfl (hk2 n9 hn)
theorem dL_rename_0 : decode cL_rename 0 = .ok (.aload_n 2, 1) := by decide +kernel
theorem dL_rename_1 : decode cL_rename 1 = .ok (.iconst 0, 1) := by decide +kernel
theorem dL_rename_2 : decode cL_rename 2 = .ok (.aload_n 0, 1) := by decide +kernel
theorem dL_rename_3 : decode cL_rename 3 = .ok (.iload_n 1, 1) := by decide +kernel
theorem dL_rename_4 : decode cL_rename 4 = .ok (.invokevirtual 30, 3) := by decide +kernel
theorem dL_rename_7 : decode cL_rename 7 = .ok (.i2l, 1) := by decide +kernel
theorem dL_rename_8 : decode cL_rename 8 = .ok (.lastore, 1) := by decide +kernel
theorem dL_rename_9 : decode cL_rename 9 = .ok (.goto 9, 3) := by decide +kernel
theorem dL_rename_12 : decode cL_rename 12 = .ok (.astore_n 3, 1) := by decide +kernel
theorem dL_rename_13 : decode cL_rename 13 = .ok (.iconst 1, 1) := by decide +kernel
theorem dL_rename_14 : decode cL_rename 14 = .ok (.ireturn, 1) := by decide +kernel
theorem dL_rename_15 : decode cL_rename 15 = .ok (.astore_n 3, 1) := by decide +kernel
theorem dL_rename_16 : decode cL_rename 16 = .ok (.iconst 2, 1) := by decide +kernel
theorem dL_rename_17 : decode cL_rename 17 = .ok (.ireturn, 1) := by decide +kernel
theorem dL_rename_18 : decode cL_rename 18 = .ok (.iconst 0, 1) := by decide +kernel
theorem dL_rename_19 : decode cL_rename 19 = .ok (.ireturn, 1) := by decide +kernel
abbrev mL_rename : gM := (yL_rename, cL_rename, 4, some .int, [(0, 9, 12, 21), (0, 9, 15, 15)])
theorem caL_rename : cal2 mL_rename 3 := ⟨xw 953 (by decide +kernel) rfl, xw 86 (by decide +kernel) rfl, by decide, by decide +kernel, xw 952 (by decide +kernel) rfl⟩
theorem lkL_30 : Cond.methodLink RL 30 yX10_rename ∈ XW := xw 954 (by decide +kernel) rfl
theorem wL_rename {G : gG} {x o : Nat} {a1 : Int32} {h h' : hp} {Q : hQ} (a : Int32 ⊕ String) (hx : (hT h x).1 = 10) (ho : hT h' o = (24, 1)) (hS : ∀ Q1 : hQ, Q1 (oA a) h' → gS G mX10_rename 8 3 18 [sr (some x), si a1] h Q1) (hq : WrQ o i2l9 [exI, exS] a h' Q) : gS2 G mL_rename 9 3 18 [sr (some x), si a1, sr (some o)] h Q := by
  refine gS2_at [some (sr (some x)), some (si a1), some (sr (some o)), none] pl_L (Nat.le_of_ble_eq_true rfl) rfl ?_
  refine z_aload_n (pc := 0) (i := 2) dL_rename_0 rfl rfl ?_
  refine z_iconst (pc := 1) (v := 0) dL_rename_1 rfl ?_
  refine z_aload_n (pc := 2) (i := 0) dL_rename_2 rfl rfl ?_
  refine z_iload_n (pc := 3) (i := 1) dL_rename_3 rfl rfl ?_
  refine z_invH (pc := 4) (as := [si a1]) (st := [si 0, sr (some o)]) (ci := 9) (N := mX10_rename) (k := 0) (n := 0) (k1 := 3) (n1 := 18) (fun _ z => z) dL_rename_4 lkL_30 caX10_rename cvX10_rename rfl (by decide) rfl hx (hS (fun o9 h9 => o9 = oA a ∧ h9 = h') ⟨rfl, rfl⟩) ⟨by decide, by decide⟩ (Nat.le_of_ble_eq_true rfl) (fun v h9 q => ?_) (fun E h9 n9 q9 q hn => ?_)
  · rcases a with b | E
    · obtain ⟨q1, rfl⟩ := q
      have q2 : v = some (si b) := Sum.inl.inj q1
      subst q2
      show gZ NC G mL_rename 9 Q 7 [some (sr (some x)), some (si a1), some (sr (some o)), none] [si b, si 0, sr (some o)] 0 0 h9
      refine z_i2l (pc := 7) dL_rename_7 ?_
      refine z_last (pc := 8) dL_rename_8 (by rw [ho]) (by rw [ho]; exact in0) ?_
      refine z_goto (pc := 9) 18 dL_rename_9 rfl ?_
      refine z_iconst (pc := 18) (v := 0) dL_rename_18 rfl ?_
      exact z_iret (pc := 19) dL_rename_19 rfl rfl hq
    · exact absurd q.1 (fun z => nomatch z)
  · rcases a with b | E9
    · exact absurd q.1 (fun z => nomatch z)
    · obtain ⟨q1, rfl⟩ := q
      have q2 : E = E9 := Sum.inr.inj q1
      subst q2
      obtain ⟨k9, hk1, rfl, hk2⟩ := hq
      rcases (show k9 = 0 ∨ k9 = 1 by simp at hk1; omega) with rfl | rfl
      · refine ⟨[], ⟨0, 9, 12, 21⟩, [⟨0, 9, 15, 15⟩], exI, rfl, (fun z hz => nomatch hz), rfl, by decide, clL_21, ca_exI, ?_⟩
        show gZ NC G mL_rename 9 Q 12 [some (sr (some x)), some (si a1), some (sr (some o)), none] [sr (some q9)] 0 0 (wS h9 n9)
        refine z_astore_n (pc := 12) (i := 3) [some (sr (some x)), some (si a1), some (sr (some o)), some (sr (some q9))] dL_rename_12 rfl (by decide) rfl rfl ?_
        refine z_iconst (pc := 13) (v := 1) dL_rename_13 rfl ?_
        exact z_iret (pc := 14) dL_rename_14 rfl rfl (hk2 n9 hn)
      · refine ⟨[⟨0, 9, 12, 21⟩], ⟨0, 9, 15, 15⟩, [], exS, rfl, (fun z hz => by
          cases List.mem_singleton.mp hz
          exact ⟨by decide, exI, clL_21, by simp [nc3]⟩), rfl, by decide, clL_15, ca_exS, ?_⟩
        show gZ NC G mL_rename 9 Q 15 [some (sr (some x)), some (si a1), some (sr (some o)), none] [sr (some q9)] 0 0 (wS h9 n9)
        refine z_astore_n (pc := 15) (i := 3) [some (sr (some x)), some (si a1), some (sr (some o)), some (sr (some q9))] dL_rename_15 rfl (by decide) rfl rfl ?_
        refine z_iconst (pc := 16) (v := 2) dL_rename_16 rfl ?_
        exact z_iret (pc := 17) dL_rename_17 rfl rfl (hk2 n9 hn)
theorem dL_set_0 : decode cL_set 0 = .ok (.aload_n 3, 1) := by decide +kernel
theorem dL_set_1 : decode cL_set 1 = .ok (.iconst 0, 1) := by decide +kernel
theorem dL_set_2 : decode cL_set 2 = .ok (.aload_n 0, 1) := by decide +kernel
theorem dL_set_3 : decode cL_set 3 = .ok (.iload_n 1, 1) := by decide +kernel
theorem dL_set_4 : decode cL_set 4 = .ok (.iload_n 2, 1) := by decide +kernel
theorem dL_set_5 : decode cL_set 5 = .ok (.invokevirtual 33, 3) := by decide +kernel
theorem dL_set_8 : decode cL_set 8 = .ok (.ifCond .eq 7, 3) := by decide +kernel
theorem dL_set_11 : decode cL_set 11 = .ok (.lconst 1, 1) := by decide +kernel
theorem dL_set_12 : decode cL_set 12 = .ok (.goto 4, 3) := by decide +kernel
theorem dL_set_15 : decode cL_set 15 = .ok (.lconst 0, 1) := by decide +kernel
theorem dL_set_16 : decode cL_set 16 = .ok (.lastore, 1) := by decide +kernel
theorem dL_set_17 : decode cL_set 17 = .ok (.goto 11, 3) := by decide +kernel
theorem dL_set_20 : decode cL_set 20 = .ok (.astore 4, 2) := by decide +kernel
theorem dL_set_22 : decode cL_set 22 = .ok (.iconst 1, 1) := by decide +kernel
theorem dL_set_23 : decode cL_set 23 = .ok (.ireturn, 1) := by decide +kernel
theorem dL_set_24 : decode cL_set 24 = .ok (.astore 4, 2) := by decide +kernel
theorem dL_set_26 : decode cL_set 26 = .ok (.iconst 2, 1) := by decide +kernel
theorem dL_set_27 : decode cL_set 27 = .ok (.ireturn, 1) := by decide +kernel
theorem dL_set_28 : decode cL_set 28 = .ok (.iconst 0, 1) := by decide +kernel
theorem dL_set_29 : decode cL_set 29 = .ok (.ireturn, 1) := by decide +kernel
abbrev mL_set : gM := (yL_set, cL_set, 5, some .int, [(0, 17, 20, 21), (0, 17, 24, 15)])
theorem caL_set : cal2 mL_set 4 := ⟨xw 969 (by decide +kernel) rfl, xw 86 (by decide +kernel) rfl, by decide, by decide +kernel, xw 968 (by decide +kernel) rfl⟩
theorem lkL_33 : Cond.methodLink RL 33 yX10_set ∈ XW := xw 970 (by decide +kernel) rfl
theorem wL_set {G : gG} {x o : Nat} {a1 a2 : Int32} {h h' : hp} {Q : hQ} (a : Int32 ⊕ String) (hx : (hT h x).1 = 10) (ho : hT h' o = (24, 1)) (hS : ∀ Q1 : hQ, Q1 (oA a) h' → gS G mX10_set 8 2 12 [sr (some x), si a1, si a2] h Q1) (hq : WrQ o b2l [exI, exS] a h' Q) : gS2 G mL_set 9 2 12 [sr (some x), si a1, si a2, sr (some o)] h Q := by
  refine gS2_at [some (sr (some x)), some (si a1), some (si a2), some (sr (some o)), none] pl_L (Nat.le_of_ble_eq_true rfl) rfl ?_
  refine z_aload_n (pc := 0) (i := 3) dL_set_0 rfl rfl ?_
  refine z_iconst (pc := 1) (v := 0) dL_set_1 rfl ?_
  refine z_aload_n (pc := 2) (i := 0) dL_set_2 rfl rfl ?_
  refine z_iload_n (pc := 3) (i := 1) dL_set_3 rfl rfl ?_
  refine z_iload_n (pc := 4) (i := 2) dL_set_4 rfl rfl ?_
  refine z_invH (pc := 5) (as := [si a1, si a2]) (st := [si 0, sr (some o)]) (ci := 9) (N := mX10_set) (k := 0) (n := 0) (k1 := 2) (n1 := 12) (fun _ z => z) dL_set_5 lkL_33 caX10_set cvX10_set rfl (by decide) rfl hx (hS (fun o9 h9 => o9 = oA a ∧ h9 = h') ⟨rfl, rfl⟩) ⟨by decide, by decide⟩ (Nat.le_of_ble_eq_true rfl) (fun v h9 q => ?_) (fun E h9 n9 q9 q hn => ?_)
  · rcases a with b | E
    · obtain ⟨q1, rfl⟩ := q
      have q2 : v = some (si b) := Sum.inl.inj q1
      subst q2
      show gZ NC G mL_set 9 Q 8 [some (sr (some x)), some (si a1), some (si a2), some (sr (some o)), none] [si b, si 0, sr (some o)] 0 0 h9
      refine z_if_eq (pc := 8) 15 dL_set_8 rfl (fun hc => ?_) (fun hc => ?_)
      · refine z_lconst (pc := 15) (v := 0) dL_set_15 rfl ?_
        refine z_last (pc := 16) dL_set_16 (by rw [ho]) (by rw [ho]; exact in0) ?_
        refine z_goto (pc := 17) 28 dL_set_17 rfl ?_
        refine z_iconst (pc := 28) (v := 0) dL_set_28 rfl ?_
        exact z_iret (pc := 29) dL_set_29 rfl rfl (by have hq9 := hq; unfold WrQ b2l at hq9; dsimp only at hq9; rw [if_pos hc] at hq9; exact hq9)
      · refine z_lconst (pc := 11) (v := 1) dL_set_11 rfl ?_
        refine z_goto (pc := 12) 16 dL_set_12 rfl ?_
        refine z_last (pc := 16) dL_set_16 (by rw [ho]) (by rw [ho]; exact in0) ?_
        refine z_goto (pc := 17) 28 dL_set_17 rfl ?_
        refine z_iconst (pc := 28) (v := 0) dL_set_28 rfl ?_
        exact z_iret (pc := 29) dL_set_29 rfl rfl (by have hq9 := hq; unfold WrQ b2l at hq9; dsimp only at hq9; rw [if_neg hc] at hq9; exact hq9)
    · exact absurd q.1 (fun z => nomatch z)
  · rcases a with b | E9
    · exact absurd q.1 (fun z => nomatch z)
    · obtain ⟨q1, rfl⟩ := q
      have q2 : E = E9 := Sum.inr.inj q1
      subst q2
      obtain ⟨k9, hk1, rfl, hk2⟩ := hq
      rcases (show k9 = 0 ∨ k9 = 1 by simp at hk1; omega) with rfl | rfl
      · refine ⟨[], ⟨0, 17, 20, 21⟩, [⟨0, 17, 24, 15⟩], exI, rfl, (fun z hz => nomatch hz), rfl, by decide, clL_21, ca_exI, ?_⟩
        show gZ NC G mL_set 9 Q 20 [some (sr (some x)), some (si a1), some (si a2), some (sr (some o)), none] [sr (some q9)] 0 0 (wS h9 n9)
        refine z_astore (pc := 20) (i := 4) [some (sr (some x)), some (si a1), some (si a2), some (sr (some o)), some (sr (some q9))] dL_set_20 (by decide) rfl rfl ?_
        refine z_iconst (pc := 22) (v := 1) dL_set_22 rfl ?_
        exact z_iret (pc := 23) dL_set_23 rfl rfl (hk2 n9 hn)
      · refine ⟨[⟨0, 17, 20, 21⟩], ⟨0, 17, 24, 15⟩, [], exS, rfl, (fun z hz => by
          cases List.mem_singleton.mp hz
          exact ⟨by decide, exI, clL_21, by simp [nc3]⟩), rfl, by decide, clL_15, ca_exS, ?_⟩
        show gZ NC G mL_set 9 Q 24 [some (sr (some x)), some (si a1), some (si a2), some (sr (some o)), none] [sr (some q9)] 0 0 (wS h9 n9)
        refine z_astore (pc := 24) (i := 4) [some (sr (some x)), some (si a1), some (si a2), some (sr (some o)), some (sr (some q9))] dL_set_24 (by decide) rfl rfl ?_
        refine z_iconst (pc := 26) (v := 2) dL_set_26 rfl ?_
        exact z_iret (pc := 27) dL_set_27 rfl rfl (hk2 n9 hn)
theorem dL_setRule_0 : decode cL_setRule 0 = .ok (.aload_n 3, 1) := by decide +kernel
theorem dL_setRule_1 : decode cL_setRule 1 = .ok (.iconst 0, 1) := by decide +kernel
theorem dL_setRule_2 : decode cL_setRule 2 = .ok (.aload_n 0, 1) := by decide +kernel
theorem dL_setRule_3 : decode cL_setRule 3 = .ok (.iload_n 1, 1) := by decide +kernel
theorem dL_setRule_4 : decode cL_setRule 4 = .ok (.iload_n 2, 1) := by decide +kernel
theorem dL_setRule_5 : decode cL_setRule 5 = .ok (.invokevirtual 36, 3) := by decide +kernel
theorem dL_setRule_8 : decode cL_setRule 8 = .ok (.i2l, 1) := by decide +kernel
theorem dL_setRule_9 : decode cL_setRule 9 = .ok (.lastore, 1) := by decide +kernel
theorem dL_setRule_10 : decode cL_setRule 10 = .ok (.goto 11, 3) := by decide +kernel
theorem dL_setRule_13 : decode cL_setRule 13 = .ok (.astore 4, 2) := by decide +kernel
theorem dL_setRule_15 : decode cL_setRule 15 = .ok (.iconst 1, 1) := by decide +kernel
theorem dL_setRule_16 : decode cL_setRule 16 = .ok (.ireturn, 1) := by decide +kernel
theorem dL_setRule_17 : decode cL_setRule 17 = .ok (.astore 4, 2) := by decide +kernel
theorem dL_setRule_19 : decode cL_setRule 19 = .ok (.iconst 2, 1) := by decide +kernel
theorem dL_setRule_20 : decode cL_setRule 20 = .ok (.ireturn, 1) := by decide +kernel
theorem dL_setRule_21 : decode cL_setRule 21 = .ok (.iconst 0, 1) := by decide +kernel
theorem dL_setRule_22 : decode cL_setRule 22 = .ok (.ireturn, 1) := by decide +kernel
abbrev mL_setRule : gM := (yL_setRule, cL_setRule, 5, some .int, [(0, 10, 13, 21), (0, 10, 17, 13)])
theorem caL_setRule : cal2 mL_setRule 4 := ⟨xw 977 (by decide +kernel) rfl, xw 86 (by decide +kernel) rfl, by decide, by decide +kernel, xw 976 (by decide +kernel) rfl⟩
theorem lkL_36 : Cond.methodLink RL 36 yX10_setRule ∈ XW := xw 978 (by decide +kernel) rfl
theorem wL_setRule {G : gG} {x o : Nat} {a1 a2 : Int32} {h h' : hp} {Q : hQ} (a : Int32 ⊕ String) (hx : (hT h x).1 = 10) (ho : hT h' o = (24, 1)) (hS : ∀ Q1 : hQ, Q1 (oA a) h' → gS G mX10_setRule 8 2 12 [sr (some x), si a1, si a2] h Q1) (hq : WrQ o i2l9 [exI, exA] a h' Q) : gS2 G mL_setRule 9 2 12 [sr (some x), si a1, si a2, sr (some o)] h Q := by
  refine gS2_at [some (sr (some x)), some (si a1), some (si a2), some (sr (some o)), none] pl_L (Nat.le_of_ble_eq_true rfl) rfl ?_
  refine z_aload_n (pc := 0) (i := 3) dL_setRule_0 rfl rfl ?_
  refine z_iconst (pc := 1) (v := 0) dL_setRule_1 rfl ?_
  refine z_aload_n (pc := 2) (i := 0) dL_setRule_2 rfl rfl ?_
  refine z_iload_n (pc := 3) (i := 1) dL_setRule_3 rfl rfl ?_
  refine z_iload_n (pc := 4) (i := 2) dL_setRule_4 rfl rfl ?_
  refine z_invH (pc := 5) (as := [si a1, si a2]) (st := [si 0, sr (some o)]) (ci := 9) (N := mX10_setRule) (k := 0) (n := 0) (k1 := 2) (n1 := 12) (fun _ z => z) dL_setRule_5 lkL_36 caX10_setRule cvX10_setRule rfl (by decide) rfl hx (hS (fun o9 h9 => o9 = oA a ∧ h9 = h') ⟨rfl, rfl⟩) ⟨by decide, by decide⟩ (Nat.le_of_ble_eq_true rfl) (fun v h9 q => ?_) (fun E h9 n9 q9 q hn => ?_)
  · rcases a with b | E
    · obtain ⟨q1, rfl⟩ := q
      have q2 : v = some (si b) := Sum.inl.inj q1
      subst q2
      show gZ NC G mL_setRule 9 Q 8 [some (sr (some x)), some (si a1), some (si a2), some (sr (some o)), none] [si b, si 0, sr (some o)] 0 0 h9
      refine z_i2l (pc := 8) dL_setRule_8 ?_
      refine z_last (pc := 9) dL_setRule_9 (by rw [ho]) (by rw [ho]; exact in0) ?_
      refine z_goto (pc := 10) 21 dL_setRule_10 rfl ?_
      refine z_iconst (pc := 21) (v := 0) dL_setRule_21 rfl ?_
      exact z_iret (pc := 22) dL_setRule_22 rfl rfl hq
    · exact absurd q.1 (fun z => nomatch z)
  · rcases a with b | E9
    · exact absurd q.1 (fun z => nomatch z)
    · obtain ⟨q1, rfl⟩ := q
      have q2 : E = E9 := Sum.inr.inj q1
      subst q2
      obtain ⟨k9, hk1, rfl, hk2⟩ := hq
      rcases (show k9 = 0 ∨ k9 = 1 by simp at hk1; omega) with rfl | rfl
      · refine ⟨[], ⟨0, 10, 13, 21⟩, [⟨0, 10, 17, 13⟩], exI, rfl, (fun z hz => nomatch hz), rfl, by decide, clL_21, ca_exI, ?_⟩
        show gZ NC G mL_setRule 9 Q 13 [some (sr (some x)), some (si a1), some (si a2), some (sr (some o)), none] [sr (some q9)] 0 0 (wS h9 n9)
        refine z_astore (pc := 13) (i := 4) [some (sr (some x)), some (si a1), some (si a2), some (sr (some o)), some (sr (some q9))] dL_setRule_13 (by decide) rfl rfl ?_
        refine z_iconst (pc := 15) (v := 1) dL_setRule_15 rfl ?_
        exact z_iret (pc := 16) dL_setRule_16 rfl rfl (hk2 n9 hn)
      · refine ⟨[⟨0, 10, 13, 21⟩], ⟨0, 10, 17, 13⟩, [], exA, rfl, (fun z hz => by
          cases List.mem_singleton.mp hz
          exact ⟨by decide, exI, clL_21, by simp [nc3]⟩), rfl, by decide, clL_13, ca_exA, ?_⟩
        show gZ NC G mL_setRule 9 Q 17 [some (sr (some x)), some (si a1), some (si a2), some (sr (some o)), none] [sr (some q9)] 0 0 (wS h9 n9)
        refine z_astore (pc := 17) (i := 4) [some (sr (some x)), some (si a1), some (si a2), some (sr (some o)), some (sr (some q9))] dL_setRule_17 (by decide) rfl rfl ?_
        refine z_iconst (pc := 19) (v := 2) dL_setRule_19 rfl ?_
        exact z_iret (pc := 20) dL_setRule_20 rfl rfl (hk2 n9 hn)
theorem dL_setManner_0 : decode cL_setManner 0 = .ok (.aload_n 3, 1) := by decide +kernel
theorem dL_setManner_1 : decode cL_setManner 1 = .ok (.iconst 0, 1) := by decide +kernel
theorem dL_setManner_2 : decode cL_setManner 2 = .ok (.aload_n 0, 1) := by decide +kernel
theorem dL_setManner_3 : decode cL_setManner 3 = .ok (.iload_n 1, 1) := by decide +kernel
theorem dL_setManner_4 : decode cL_setManner 4 = .ok (.iload_n 2, 1) := by decide +kernel
theorem dL_setManner_5 : decode cL_setManner 5 = .ok (.invokevirtual 40, 3) := by decide +kernel
theorem dL_setManner_8 : decode cL_setManner 8 = .ok (.i2l, 1) := by decide +kernel
theorem dL_setManner_9 : decode cL_setManner 9 = .ok (.lastore, 1) := by decide +kernel
theorem dL_setManner_10 : decode cL_setManner 10 = .ok (.goto 15, 3) := by decide +kernel
theorem dL_setManner_13 : decode cL_setManner 13 = .ok (.astore 4, 2) := by decide +kernel
theorem dL_setManner_15 : decode cL_setManner 15 = .ok (.iconst 1, 1) := by decide +kernel
theorem dL_setManner_16 : decode cL_setManner 16 = .ok (.ireturn, 1) := by decide +kernel
theorem dL_setManner_17 : decode cL_setManner 17 = .ok (.astore 4, 2) := by decide +kernel
theorem dL_setManner_19 : decode cL_setManner 19 = .ok (.iconst 2, 1) := by decide +kernel
theorem dL_setManner_20 : decode cL_setManner 20 = .ok (.ireturn, 1) := by decide +kernel
theorem dL_setManner_21 : decode cL_setManner 21 = .ok (.astore 4, 2) := by decide +kernel
theorem dL_setManner_23 : decode cL_setManner 23 = .ok (.iconst 3, 1) := by decide +kernel
theorem dL_setManner_24 : decode cL_setManner 24 = .ok (.ireturn, 1) := by decide +kernel
theorem dL_setManner_25 : decode cL_setManner 25 = .ok (.iconst 0, 1) := by decide +kernel
theorem dL_setManner_26 : decode cL_setManner 26 = .ok (.ireturn, 1) := by decide +kernel
abbrev mL_setManner : gM := (yL_setManner, cL_setManner, 5, some .int, [(0, 10, 13, 21), (0, 10, 17, 13), (0, 10, 21, 15)])
theorem caL_setManner : cal2 mL_setManner 4 := ⟨xw 985 (by decide +kernel) rfl, xw 86 (by decide +kernel) rfl, by decide, by decide +kernel, xw 984 (by decide +kernel) rfl⟩
theorem lkL_40 : Cond.methodLink RL 40 yX10_setManner ∈ XW := xw 986 (by decide +kernel) rfl
theorem wL_setManner {G : gG} {x o : Nat} {a1 a2 : Int32} {h h' : hp} {Q : hQ} (a : Int32 ⊕ String) (hx : (hT h x).1 = 10) (ho : hT h' o = (24, 1)) (hS : ∀ Q1 : hQ, Q1 (oA a) h' → gS G mX10_setManner 7 2 12 [sr (some x), si a1, si a2] h Q1) (hq : WrQ o i2l9 [exI, exA, exS] a h' Q) : gS2 G mL_setManner 8 2 12 [sr (some x), si a1, si a2, sr (some o)] h Q := by
  refine gS2_at [some (sr (some x)), some (si a1), some (si a2), some (sr (some o)), none] pl_L (Nat.le_of_ble_eq_true rfl) rfl ?_
  refine z_aload_n (pc := 0) (i := 3) dL_setManner_0 rfl rfl ?_
  refine z_iconst (pc := 1) (v := 0) dL_setManner_1 rfl ?_
  refine z_aload_n (pc := 2) (i := 0) dL_setManner_2 rfl rfl ?_
  refine z_iload_n (pc := 3) (i := 1) dL_setManner_3 rfl rfl ?_
  refine z_iload_n (pc := 4) (i := 2) dL_setManner_4 rfl rfl ?_
  refine z_invH (pc := 5) (as := [si a1, si a2]) (st := [si 0, sr (some o)]) (ci := 9) (N := mX10_setManner) (k := 0) (n := 0) (k1 := 2) (n1 := 12) (fun _ z => z) dL_setManner_5 lkL_40 caX10_setManner cvX10_setManner rfl (by decide) rfl hx (hS (fun o9 h9 => o9 = oA a ∧ h9 = h') ⟨rfl, rfl⟩) ⟨by decide, by decide⟩ (Nat.le_of_ble_eq_true rfl) (fun v h9 q => ?_) (fun E h9 n9 q9 q hn => ?_)
  · rcases a with b | E
    · obtain ⟨q1, rfl⟩ := q
      have q2 : v = some (si b) := Sum.inl.inj q1
      subst q2
      show gZ NC G mL_setManner 8 Q 8 [some (sr (some x)), some (si a1), some (si a2), some (sr (some o)), none] [si b, si 0, sr (some o)] 0 0 h9
      refine z_i2l (pc := 8) dL_setManner_8 ?_
      refine z_last (pc := 9) dL_setManner_9 (by rw [ho]) (by rw [ho]; exact in0) ?_
      refine z_goto (pc := 10) 25 dL_setManner_10 rfl ?_
      refine z_iconst (pc := 25) (v := 0) dL_setManner_25 rfl ?_
      exact z_iret (pc := 26) dL_setManner_26 rfl rfl hq
    · exact absurd q.1 (fun z => nomatch z)
  · rcases a with b | E9
    · exact absurd q.1 (fun z => nomatch z)
    · obtain ⟨q1, rfl⟩ := q
      have q2 : E = E9 := Sum.inr.inj q1
      subst q2
      obtain ⟨k9, hk1, rfl, hk2⟩ := hq
      rcases (show k9 = 0 ∨ k9 = 1 ∨ k9 = 2 by simp at hk1; omega) with rfl | rfl | rfl
      · refine ⟨[], ⟨0, 10, 13, 21⟩, [⟨0, 10, 17, 13⟩, ⟨0, 10, 21, 15⟩], exI, rfl, (fun z hz => nomatch hz), rfl, by decide, clL_21, ca_exI, ?_⟩
        show gZ NC G mL_setManner 8 Q 13 [some (sr (some x)), some (si a1), some (si a2), some (sr (some o)), none] [sr (some q9)] 0 0 (wS h9 n9)
        refine z_astore (pc := 13) (i := 4) [some (sr (some x)), some (si a1), some (si a2), some (sr (some o)), some (sr (some q9))] dL_setManner_13 (by decide) rfl rfl ?_
        refine z_iconst (pc := 15) (v := 1) dL_setManner_15 rfl ?_
        exact z_iret (pc := 16) dL_setManner_16 rfl rfl (hk2 n9 hn)
      · refine ⟨[⟨0, 10, 13, 21⟩], ⟨0, 10, 17, 13⟩, [⟨0, 10, 21, 15⟩], exA, rfl, (fun z hz => by
          cases List.mem_singleton.mp hz
          exact ⟨by decide, exI, clL_21, by simp [nc3]⟩), rfl, by decide, clL_13, ca_exA, ?_⟩
        show gZ NC G mL_setManner 8 Q 17 [some (sr (some x)), some (si a1), some (si a2), some (sr (some o)), none] [sr (some q9)] 0 0 (wS h9 n9)
        refine z_astore (pc := 17) (i := 4) [some (sr (some x)), some (si a1), some (si a2), some (sr (some o)), some (sr (some q9))] dL_setManner_17 (by decide) rfl rfl ?_
        refine z_iconst (pc := 19) (v := 2) dL_setManner_19 rfl ?_
        exact z_iret (pc := 20) dL_setManner_20 rfl rfl (hk2 n9 hn)
      · refine ⟨[⟨0, 10, 13, 21⟩, ⟨0, 10, 17, 13⟩], ⟨0, 10, 21, 15⟩, [], exS, rfl, (fun z hz => by
          rcases List.mem_cons.mp hz with rfl | hz
          · exact ⟨by decide, exI, clL_21, by simp [nc3]⟩
          · cases List.mem_singleton.mp hz
            exact ⟨by decide, exA, clL_13, by simp [nc3]⟩), rfl, by decide, clL_15, ca_exS, ?_⟩
        show gZ NC G mL_setManner 8 Q 21 [some (sr (some x)), some (si a1), some (si a2), some (sr (some o)), none] [sr (some q9)] 0 0 (wS h9 n9)
        refine z_astore (pc := 21) (i := 4) [some (sr (some x)), some (si a1), some (si a2), some (sr (some o)), some (sr (some q9))] dL_setManner_21 (by decide) rfl rfl ?_
        refine z_iconst (pc := 23) (v := 3) dL_setManner_23 rfl ?_
        exact z_iret (pc := 24) dL_setManner_24 rfl rfl (hk2 n9 hn)
theorem dL_kind_0 : decode cL_kind 0 = .ok (.aload_n 2, 1) := by decide +kernel
theorem dL_kind_1 : decode cL_kind 1 = .ok (.iconst 0, 1) := by decide +kernel
theorem dL_kind_2 : decode cL_kind 2 = .ok (.aload_n 0, 1) := by decide +kernel
theorem dL_kind_3 : decode cL_kind 3 = .ok (.iload_n 1, 1) := by decide +kernel
theorem dL_kind_4 : decode cL_kind 4 = .ok (.invokevirtual 43, 3) := by decide +kernel
theorem dL_kind_7 : decode cL_kind 7 = .ok (.i2l, 1) := by decide +kernel
theorem dL_kind_8 : decode cL_kind 8 = .ok (.lastore, 1) := by decide +kernel
theorem dL_kind_9 : decode cL_kind 9 = .ok (.goto 6, 3) := by decide +kernel
theorem dL_kind_12 : decode cL_kind 12 = .ok (.astore_n 3, 1) := by decide +kernel
theorem dL_kind_13 : decode cL_kind 13 = .ok (.iconst 1, 1) := by decide +kernel
theorem dL_kind_14 : decode cL_kind 14 = .ok (.ireturn, 1) := by decide +kernel
theorem dL_kind_15 : decode cL_kind 15 = .ok (.iconst 0, 1) := by decide +kernel
theorem dL_kind_16 : decode cL_kind 16 = .ok (.ireturn, 1) := by decide +kernel
abbrev mL_kind : gM := (yL_kind, cL_kind, 4, some .int, [(0, 9, 12, 21)])
theorem caL_kind : cal2 mL_kind 3 := ⟨xw 995 (by decide +kernel) rfl, xw 86 (by decide +kernel) rfl, by decide, by decide +kernel, xw 994 (by decide +kernel) rfl⟩
theorem lkL_43 : Cond.methodLink RL 43 yX10_kind ∈ XW := xw 996 (by decide +kernel) rfl
theorem wL_kind {G : gG} {x o : Nat} {a1 : Int32} {h h' : hp} {Q : hQ} (a : Int32 ⊕ String) (hx : (hT h x).1 = 10) (ho : hT h' o = (24, 1)) (hS : ∀ Q1 : hQ, Q1 (oA a) h' → gS G mX10_kind 7 1 6 [sr (some x), si a1] h Q1) (hq : WrQ o i2l9 [exI] a h' Q) : gS2 G mL_kind 8 1 6 [sr (some x), si a1, sr (some o)] h Q := by
  refine gS2_at [some (sr (some x)), some (si a1), some (sr (some o)), none] pl_L (Nat.le_of_ble_eq_true rfl) rfl ?_
  refine z_aload_n (pc := 0) (i := 2) dL_kind_0 rfl rfl ?_
  refine z_iconst (pc := 1) (v := 0) dL_kind_1 rfl ?_
  refine z_aload_n (pc := 2) (i := 0) dL_kind_2 rfl rfl ?_
  refine z_iload_n (pc := 3) (i := 1) dL_kind_3 rfl rfl ?_
  refine z_invH (pc := 4) (as := [si a1]) (st := [si 0, sr (some o)]) (ci := 9) (N := mX10_kind) (k := 0) (n := 0) (k1 := 1) (n1 := 6) (fun _ z => z) dL_kind_4 lkL_43 caX10_kind cvX10_kind rfl (by decide) rfl hx (hS (fun o9 h9 => o9 = oA a ∧ h9 = h') ⟨rfl, rfl⟩) ⟨by decide, by decide⟩ (Nat.le_of_ble_eq_true rfl) (fun v h9 q => ?_) (fun E h9 n9 q9 q hn => ?_)
  · rcases a with b | E
    · obtain ⟨q1, rfl⟩ := q
      have q2 : v = some (si b) := Sum.inl.inj q1
      subst q2
      show gZ NC G mL_kind 8 Q 7 [some (sr (some x)), some (si a1), some (sr (some o)), none] [si b, si 0, sr (some o)] 0 0 h9
      refine z_i2l (pc := 7) dL_kind_7 ?_
      refine z_last (pc := 8) dL_kind_8 (by rw [ho]) (by rw [ho]; exact in0) ?_
      refine z_goto (pc := 9) 15 dL_kind_9 rfl ?_
      refine z_iconst (pc := 15) (v := 0) dL_kind_15 rfl ?_
      exact z_iret (pc := 16) dL_kind_16 rfl rfl hq
    · exact absurd q.1 (fun z => nomatch z)
  · rcases a with b | E9
    · exact absurd q.1 (fun z => nomatch z)
    · obtain ⟨q1, rfl⟩ := q
      have q2 : E = E9 := Sum.inr.inj q1
      subst q2
      obtain ⟨k9, hk1, rfl, hk2⟩ := hq
      have hk3 : k9 = 0 := by simp at hk1; omega
      subst hk3
      refine ⟨[], ⟨0, 9, 12, 21⟩, [], exI, rfl, (fun z hz => nomatch hz), rfl, by decide, clL_21, ca_exI, ?_⟩
      show gZ NC G mL_kind 8 Q 12 [some (sr (some x)), some (si a1), some (sr (some o)), none] [sr (some q9)] 0 0 (wS h9 n9)
      refine z_astore_n (pc := 12) (i := 3) [some (sr (some x)), some (si a1), some (sr (some o)), some (sr (some q9))] dL_kind_12 rfl (by decide) rfl rfl ?_
      refine z_iconst (pc := 13) (v := 1) dL_kind_13 rfl ?_
      exact z_iret (pc := 14) dL_kind_14 rfl rfl (hk2 n9 hn)
theorem dL_parent_0 : decode cL_parent 0 = .ok (.aload_n 2, 1) := by decide +kernel
theorem dL_parent_1 : decode cL_parent 1 = .ok (.iconst 0, 1) := by decide +kernel
theorem dL_parent_2 : decode cL_parent 2 = .ok (.aload_n 0, 1) := by decide +kernel
theorem dL_parent_3 : decode cL_parent 3 = .ok (.iload_n 1, 1) := by decide +kernel
theorem dL_parent_4 : decode cL_parent 4 = .ok (.invokevirtual 46, 3) := by decide +kernel
theorem dL_parent_7 : decode cL_parent 7 = .ok (.i2l, 1) := by decide +kernel
theorem dL_parent_8 : decode cL_parent 8 = .ok (.lastore, 1) := by decide +kernel
theorem dL_parent_9 : decode cL_parent 9 = .ok (.goto 6, 3) := by decide +kernel
theorem dL_parent_12 : decode cL_parent 12 = .ok (.astore_n 3, 1) := by decide +kernel
theorem dL_parent_13 : decode cL_parent 13 = .ok (.iconst 1, 1) := by decide +kernel
theorem dL_parent_14 : decode cL_parent 14 = .ok (.ireturn, 1) := by decide +kernel
theorem dL_parent_15 : decode cL_parent 15 = .ok (.iconst 0, 1) := by decide +kernel
theorem dL_parent_16 : decode cL_parent 16 = .ok (.ireturn, 1) := by decide +kernel
abbrev mL_parent : gM := (yL_parent, cL_parent, 4, some .int, [(0, 9, 12, 21)])
theorem caL_parent : cal2 mL_parent 3 := ⟨xw 1002 (by decide +kernel) rfl, xw 86 (by decide +kernel) rfl, by decide, by decide +kernel, xw 1001 (by decide +kernel) rfl⟩
theorem lkL_46 : Cond.methodLink RL 46 yX10_parent ∈ XW := xw 1003 (by decide +kernel) rfl
theorem wL_parent {G : gG} {x o : Nat} {a1 : Int32} {h h' : hp} {Q : hQ} (a : Int32 ⊕ String) (hx : (hT h x).1 = 10) (ho : hT h' o = (24, 1)) (hS : ∀ Q1 : hQ, Q1 (oA a) h' → gS G mX10_parent 7 1 6 [sr (some x), si a1] h Q1) (hq : WrQ o i2l9 [exI] a h' Q) : gS2 G mL_parent 8 1 6 [sr (some x), si a1, sr (some o)] h Q := by
  refine gS2_at [some (sr (some x)), some (si a1), some (sr (some o)), none] pl_L (Nat.le_of_ble_eq_true rfl) rfl ?_
  refine z_aload_n (pc := 0) (i := 2) dL_parent_0 rfl rfl ?_
  refine z_iconst (pc := 1) (v := 0) dL_parent_1 rfl ?_
  refine z_aload_n (pc := 2) (i := 0) dL_parent_2 rfl rfl ?_
  refine z_iload_n (pc := 3) (i := 1) dL_parent_3 rfl rfl ?_
  refine z_invH (pc := 4) (as := [si a1]) (st := [si 0, sr (some o)]) (ci := 9) (N := mX10_parent) (k := 0) (n := 0) (k1 := 1) (n1 := 6) (fun _ z => z) dL_parent_4 lkL_46 caX10_parent cvX10_parent rfl (by decide) rfl hx (hS (fun o9 h9 => o9 = oA a ∧ h9 = h') ⟨rfl, rfl⟩) ⟨by decide, by decide⟩ (Nat.le_of_ble_eq_true rfl) (fun v h9 q => ?_) (fun E h9 n9 q9 q hn => ?_)
  · rcases a with b | E
    · obtain ⟨q1, rfl⟩ := q
      have q2 : v = some (si b) := Sum.inl.inj q1
      subst q2
      show gZ NC G mL_parent 8 Q 7 [some (sr (some x)), some (si a1), some (sr (some o)), none] [si b, si 0, sr (some o)] 0 0 h9
      refine z_i2l (pc := 7) dL_parent_7 ?_
      refine z_last (pc := 8) dL_parent_8 (by rw [ho]) (by rw [ho]; exact in0) ?_
      refine z_goto (pc := 9) 15 dL_parent_9 rfl ?_
      refine z_iconst (pc := 15) (v := 0) dL_parent_15 rfl ?_
      exact z_iret (pc := 16) dL_parent_16 rfl rfl hq
    · exact absurd q.1 (fun z => nomatch z)
  · rcases a with b | E9
    · exact absurd q.1 (fun z => nomatch z)
    · obtain ⟨q1, rfl⟩ := q
      have q2 : E = E9 := Sum.inr.inj q1
      subst q2
      obtain ⟨k9, hk1, rfl, hk2⟩ := hq
      have hk3 : k9 = 0 := by simp at hk1; omega
      subst hk3
      refine ⟨[], ⟨0, 9, 12, 21⟩, [], exI, rfl, (fun z hz => nomatch hz), rfl, by decide, clL_21, ca_exI, ?_⟩
      show gZ NC G mL_parent 8 Q 12 [some (sr (some x)), some (si a1), some (sr (some o)), none] [sr (some q9)] 0 0 (wS h9 n9)
      refine z_astore_n (pc := 12) (i := 3) [some (sr (some x)), some (si a1), some (sr (some o)), some (sr (some q9))] dL_parent_12 rfl (by decide) rfl rfl ?_
      refine z_iconst (pc := 13) (v := 1) dL_parent_13 rfl ?_
      exact z_iret (pc := 14) dL_parent_14 rfl rfl (hk2 n9 hn)
theorem dL_children_0 : decode cL_children 0 = .ok (.aload_n 2, 1) := by decide +kernel
theorem dL_children_1 : decode cL_children 1 = .ok (.iconst 0, 1) := by decide +kernel
theorem dL_children_2 : decode cL_children 2 = .ok (.aload_n 0, 1) := by decide +kernel
theorem dL_children_3 : decode cL_children 3 = .ok (.iload_n 1, 1) := by decide +kernel
theorem dL_children_4 : decode cL_children 4 = .ok (.invokevirtual 49, 3) := by decide +kernel
theorem dL_children_7 : decode cL_children 7 = .ok (.i2l, 1) := by decide +kernel
theorem dL_children_8 : decode cL_children 8 = .ok (.lastore, 1) := by decide +kernel
theorem dL_children_9 : decode cL_children 9 = .ok (.goto 6, 3) := by decide +kernel
theorem dL_children_12 : decode cL_children 12 = .ok (.astore_n 3, 1) := by decide +kernel
theorem dL_children_13 : decode cL_children 13 = .ok (.iconst 1, 1) := by decide +kernel
theorem dL_children_14 : decode cL_children 14 = .ok (.ireturn, 1) := by decide +kernel
theorem dL_children_15 : decode cL_children 15 = .ok (.iconst 0, 1) := by decide +kernel
theorem dL_children_16 : decode cL_children 16 = .ok (.ireturn, 1) := by decide +kernel
abbrev mL_children : gM := (yL_children, cL_children, 4, some .int, [(0, 9, 12, 21)])
theorem caL_children : cal2 mL_children 3 := ⟨xw 1009 (by decide +kernel) rfl, xw 86 (by decide +kernel) rfl, by decide, by decide +kernel, xw 1008 (by decide +kernel) rfl⟩
theorem lkL_49 : Cond.methodLink RL 49 yX10_children ∈ XW := xw 1010 (by decide +kernel) rfl
theorem wL_children {G : gG} {x o : Nat} {a1 : Int32} {h h' : hp} {Q : hQ} (a : Int32 ⊕ String) (hx : (hT h x).1 = 10) (ho : hT h' o = (24, 1)) (hS : ∀ Q1 : hQ, Q1 (oA a) h' → gS G mX10_children 7 1 6 [sr (some x), si a1] h Q1) (hq : WrQ o i2l9 [exI] a h' Q) : gS2 G mL_children 8 1 6 [sr (some x), si a1, sr (some o)] h Q := by
  refine gS2_at [some (sr (some x)), some (si a1), some (sr (some o)), none] pl_L (Nat.le_of_ble_eq_true rfl) rfl ?_
  refine z_aload_n (pc := 0) (i := 2) dL_children_0 rfl rfl ?_
  refine z_iconst (pc := 1) (v := 0) dL_children_1 rfl ?_
  refine z_aload_n (pc := 2) (i := 0) dL_children_2 rfl rfl ?_
  refine z_iload_n (pc := 3) (i := 1) dL_children_3 rfl rfl ?_
  refine z_invH (pc := 4) (as := [si a1]) (st := [si 0, sr (some o)]) (ci := 9) (N := mX10_children) (k := 0) (n := 0) (k1 := 1) (n1 := 6) (fun _ z => z) dL_children_4 lkL_49 caX10_children cvX10_children rfl (by decide) rfl hx (hS (fun o9 h9 => o9 = oA a ∧ h9 = h') ⟨rfl, rfl⟩) ⟨by decide, by decide⟩ (Nat.le_of_ble_eq_true rfl) (fun v h9 q => ?_) (fun E h9 n9 q9 q hn => ?_)
  · rcases a with b | E
    · obtain ⟨q1, rfl⟩ := q
      have q2 : v = some (si b) := Sum.inl.inj q1
      subst q2
      show gZ NC G mL_children 8 Q 7 [some (sr (some x)), some (si a1), some (sr (some o)), none] [si b, si 0, sr (some o)] 0 0 h9
      refine z_i2l (pc := 7) dL_children_7 ?_
      refine z_last (pc := 8) dL_children_8 (by rw [ho]) (by rw [ho]; exact in0) ?_
      refine z_goto (pc := 9) 15 dL_children_9 rfl ?_
      refine z_iconst (pc := 15) (v := 0) dL_children_15 rfl ?_
      exact z_iret (pc := 16) dL_children_16 rfl rfl hq
    · exact absurd q.1 (fun z => nomatch z)
  · rcases a with b | E9
    · exact absurd q.1 (fun z => nomatch z)
    · obtain ⟨q1, rfl⟩ := q
      have q2 : E = E9 := Sum.inr.inj q1
      subst q2
      obtain ⟨k9, hk1, rfl, hk2⟩ := hq
      have hk3 : k9 = 0 := by simp at hk1; omega
      subst hk3
      refine ⟨[], ⟨0, 9, 12, 21⟩, [], exI, rfl, (fun z hz => nomatch hz), rfl, by decide, clL_21, ca_exI, ?_⟩
      show gZ NC G mL_children 8 Q 12 [some (sr (some x)), some (si a1), some (sr (some o)), none] [sr (some q9)] 0 0 (wS h9 n9)
      refine z_astore_n (pc := 12) (i := 3) [some (sr (some x)), some (si a1), some (sr (some o)), some (sr (some q9))] dL_children_12 rfl (by decide) rfl rfl ?_
      refine z_iconst (pc := 13) (v := 1) dL_children_13 rfl ?_
      exact z_iret (pc := 14) dL_children_14 rfl rfl (hk2 n9 hn)
theorem dL_childAt_0 : decode cL_childAt 0 = .ok (.aload_n 3, 1) := by decide +kernel
theorem dL_childAt_1 : decode cL_childAt 1 = .ok (.iconst 0, 1) := by decide +kernel
theorem dL_childAt_2 : decode cL_childAt 2 = .ok (.aload_n 0, 1) := by decide +kernel
theorem dL_childAt_3 : decode cL_childAt 3 = .ok (.iload_n 1, 1) := by decide +kernel
theorem dL_childAt_4 : decode cL_childAt 4 = .ok (.iload_n 2, 1) := by decide +kernel
theorem dL_childAt_5 : decode cL_childAt 5 = .ok (.invokevirtual 52, 3) := by decide +kernel
theorem dL_childAt_8 : decode cL_childAt 8 = .ok (.i2l, 1) := by decide +kernel
theorem dL_childAt_9 : decode cL_childAt 9 = .ok (.lastore, 1) := by decide +kernel
theorem dL_childAt_10 : decode cL_childAt 10 = .ok (.goto 7, 3) := by decide +kernel
theorem dL_childAt_13 : decode cL_childAt 13 = .ok (.astore 4, 2) := by decide +kernel
theorem dL_childAt_15 : decode cL_childAt 15 = .ok (.iconst 1, 1) := by decide +kernel
theorem dL_childAt_16 : decode cL_childAt 16 = .ok (.ireturn, 1) := by decide +kernel
theorem dL_childAt_17 : decode cL_childAt 17 = .ok (.iconst 0, 1) := by decide +kernel
theorem dL_childAt_18 : decode cL_childAt 18 = .ok (.ireturn, 1) := by decide +kernel
abbrev mL_childAt : gM := (yL_childAt, cL_childAt, 5, some .int, [(0, 10, 13, 21)])
theorem caL_childAt : cal2 mL_childAt 4 := ⟨xw 1016 (by decide +kernel) rfl, xw 86 (by decide +kernel) rfl, by decide, by decide +kernel, xw 1015 (by decide +kernel) rfl⟩
theorem lkL_52 : Cond.methodLink RL 52 yX10_childAt ∈ XW := xw 1017 (by decide +kernel) rfl
theorem wL_childAt {G : gG} {x o : Nat} {a1 a2 : Int32} {h h' : hp} {Q : hQ} (a : Int32 ⊕ String) (hx : (hT h x).1 = 10) (ho : hT h' o = (24, 1)) (hS : ∀ Q1 : hQ, Q1 (oA a) h' → gS G mX10_childAt 7 2 12 [sr (some x), si a1, si a2] h Q1) (hq : WrQ o i2l9 [exI] a h' Q) : gS2 G mL_childAt 8 2 12 [sr (some x), si a1, si a2, sr (some o)] h Q := by
  refine gS2_at [some (sr (some x)), some (si a1), some (si a2), some (sr (some o)), none] pl_L (Nat.le_of_ble_eq_true rfl) rfl ?_
  refine z_aload_n (pc := 0) (i := 3) dL_childAt_0 rfl rfl ?_
  refine z_iconst (pc := 1) (v := 0) dL_childAt_1 rfl ?_
  refine z_aload_n (pc := 2) (i := 0) dL_childAt_2 rfl rfl ?_
  refine z_iload_n (pc := 3) (i := 1) dL_childAt_3 rfl rfl ?_
  refine z_iload_n (pc := 4) (i := 2) dL_childAt_4 rfl rfl ?_
  refine z_invH (pc := 5) (as := [si a1, si a2]) (st := [si 0, sr (some o)]) (ci := 9) (N := mX10_childAt) (k := 0) (n := 0) (k1 := 2) (n1 := 12) (fun _ z => z) dL_childAt_5 lkL_52 caX10_childAt cvX10_childAt rfl (by decide) rfl hx (hS (fun o9 h9 => o9 = oA a ∧ h9 = h') ⟨rfl, rfl⟩) ⟨by decide, by decide⟩ (Nat.le_of_ble_eq_true rfl) (fun v h9 q => ?_) (fun E h9 n9 q9 q hn => ?_)
  · rcases a with b | E
    · obtain ⟨q1, rfl⟩ := q
      have q2 : v = some (si b) := Sum.inl.inj q1
      subst q2
      show gZ NC G mL_childAt 8 Q 8 [some (sr (some x)), some (si a1), some (si a2), some (sr (some o)), none] [si b, si 0, sr (some o)] 0 0 h9
      refine z_i2l (pc := 8) dL_childAt_8 ?_
      refine z_last (pc := 9) dL_childAt_9 (by rw [ho]) (by rw [ho]; exact in0) ?_
      refine z_goto (pc := 10) 17 dL_childAt_10 rfl ?_
      refine z_iconst (pc := 17) (v := 0) dL_childAt_17 rfl ?_
      exact z_iret (pc := 18) dL_childAt_18 rfl rfl hq
    · exact absurd q.1 (fun z => nomatch z)
  · rcases a with b | E9
    · exact absurd q.1 (fun z => nomatch z)
    · obtain ⟨q1, rfl⟩ := q
      have q2 : E = E9 := Sum.inr.inj q1
      subst q2
      obtain ⟨k9, hk1, rfl, hk2⟩ := hq
      have hk3 : k9 = 0 := by simp at hk1; omega
      subst hk3
      refine ⟨[], ⟨0, 10, 13, 21⟩, [], exI, rfl, (fun z hz => nomatch hz), rfl, by decide, clL_21, ca_exI, ?_⟩
      show gZ NC G mL_childAt 8 Q 13 [some (sr (some x)), some (si a1), some (si a2), some (sr (some o)), none] [sr (some q9)] 0 0 (wS h9 n9)
      refine z_astore (pc := 13) (i := 4) [some (sr (some x)), some (si a1), some (si a2), some (sr (some o)), some (sr (some q9))] dL_childAt_13 (by decide) rfl rfl ?_
      refine z_iconst (pc := 15) (v := 1) dL_childAt_15 rfl ?_
      exact z_iret (pc := 16) dL_childAt_16 rfl rfl (hk2 n9 hn)

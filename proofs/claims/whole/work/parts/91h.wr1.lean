/-! ===== the wrappers ===== -/
def oA (a : Int32 ⊕ String) : oc := match a with
  | .inl b => .inl (some (si b))
  | .inr E => .inr E
def i2l9 (b : Int32) : Int64 := b.toInt64
def b2l (b : Int32) : Int64 := if b = 0 then 0 else 1
/-- what is asked behind a call that may throw: its answer in out, or the number of what was thrown -/
def WrQ (o : Nat) (cv : Int32 → Int64) (es : List String) (a : Int32 ⊕ String) (h' : hp) (Q : hQ) : Prop := match a with
  | .inl b => Q (.inl (some (si 0))) (wJ h' o 0 (cv b))
  | .inr E => ∃ k, k < es.length ∧ E = es.getD k "" ∧ ∀ n, hN h' ≤ n → Q (.inl (some (si (nI (k + 1))))) (wS h' n)
theorem in0 : vp_in 0 1 := by unfold vp_in; decide
theorem pl_L : plainName RL = true := by decide +kernel
theorem ca_exI : Cond.castable exI exI ∈ XW := xw 712 (by decide +kernel) rfl
theorem ca_exA : Cond.castable exA exA ∈ XW := xw 612 (by decide +kernel) rfl
theorem ca_exS : Cond.castable exS exS ∈ XW := xw 679 (by decide +kernel) rfl
theorem clL_13 : Cond.classLink RL 13 exA ∈ XW := xw 599 (by decide +kernel) rfl
theorem clL_15 : Cond.classLink RL 15 exS ∈ XW := xw 600 (by decide +kernel) rfl
theorem clL_21 : Cond.classLink RL 21 exI ∈ XW := xw 697 (by decide +kernel) rfl
theorem dL_draft_0 : decode cL_draft 0 = .ok (.aload_n 2, 1) := by decide +kernel
theorem dL_draft_1 : decode cL_draft 1 = .ok (.iconst 0, 1) := by decide +kernel
theorem dL_draft_2 : decode cL_draft 2 = .ok (.aload_n 0, 1) := by decide +kernel
theorem dL_draft_3 : decode cL_draft 3 = .ok (.iload_n 1, 1) := by decide +kernel
theorem dL_draft_4 : decode cL_draft 4 = .ok (.invokevirtual 7, 3) := by decide +kernel
theorem dL_draft_7 : decode cL_draft 7 = .ok (.i2l, 1) := by decide +kernel
theorem dL_draft_8 : decode cL_draft 8 = .ok (.lastore, 1) := by decide +kernel
theorem dL_draft_9 : decode cL_draft 9 = .ok (.goto 9, 3) := by decide +kernel
theorem dL_draft_12 : decode cL_draft 12 = .ok (.astore_n 3, 1) := by decide +kernel
theorem dL_draft_13 : decode cL_draft 13 = .ok (.iconst 1, 1) := by decide +kernel
theorem dL_draft_14 : decode cL_draft 14 = .ok (.ireturn, 1) := by decide +kernel
theorem dL_draft_15 : decode cL_draft 15 = .ok (.astore_n 3, 1) := by decide +kernel
theorem dL_draft_16 : decode cL_draft 16 = .ok (.iconst 2, 1) := by decide +kernel
theorem dL_draft_17 : decode cL_draft 17 = .ok (.ireturn, 1) := by decide +kernel
theorem dL_draft_18 : decode cL_draft 18 = .ok (.iconst 0, 1) := by decide +kernel
theorem dL_draft_19 : decode cL_draft 19 = .ok (.ireturn, 1) := by decide +kernel
abbrev mL_draft : gM := (yL_draft, cL_draft, 4, some .int, [(0, 9, 12, 13), (0, 9, 15, 15)])
theorem caL_draft : cal2 mL_draft 3 := ⟨xw 598 (by decide +kernel) rfl, xw 86 (by decide +kernel) rfl, by decide, by decide +kernel, xw 597 (by decide +kernel) rfl⟩
theorem lkL_7 : Cond.methodLink RL 7 yX10_draft ∈ XW := xw 601 (by decide +kernel) rfl
theorem wL_draft {G : gG} {x o : Nat} {a1 : Int32} {h h' : hp} {Q : hQ} (a : Int32 ⊕ String) (hx : (hT h x).1 = 10) (ho : hT h' o = (24, 1)) (hS : ∀ Q1 : hQ, Q1 (oA a) h' → gS G mX10_draft 6 1 6 [sr (some x), si a1] h Q1) (hq : WrQ o i2l9 [exA, exS] a h' Q) : gS2 G mL_draft 7 1 6 [sr (some x), si a1, sr (some o)] h Q := by
  refine gS2_at [some (sr (some x)), some (si a1), some (sr (some o)), none] pl_L (Nat.le_of_ble_eq_true rfl) rfl ?_
  refine z_aload_n (pc := 0) (i := 2) dL_draft_0 rfl rfl ?_
  refine z_iconst (pc := 1) (v := 0) dL_draft_1 rfl ?_
  refine z_aload_n (pc := 2) (i := 0) dL_draft_2 rfl rfl ?_
  refine z_iload_n (pc := 3) (i := 1) dL_draft_3 rfl rfl ?_
  refine z_invH (pc := 4) (as := [si a1]) (st := [si 0, sr (some o)]) (ci := 9) (N := mX10_draft) (k := 0) (n := 0) (k1 := 1) (n1 := 6) (fun _ z => z) dL_draft_4 lkL_7 caX10_draft cvX10_draft rfl (by decide) rfl hx (hS (fun o9 h9 => o9 = oA a ∧ h9 = h') ⟨rfl, rfl⟩) ⟨by decide, by decide⟩ (Nat.le_of_ble_eq_true rfl) (fun v h9 q => ?_) (fun E h9 n9 q9 q hn => ?_)
  · rcases a with b | E
    · obtain ⟨q1, rfl⟩ := q
      have q2 : v = some (si b) := Sum.inl.inj q1
      subst q2
      show gZ NC G mL_draft 7 Q 7 [some (sr (some x)), some (si a1), some (sr (some o)), none] [si b, si 0, sr (some o)] 0 0 h9
      refine z_i2l (pc := 7) dL_draft_7 ?_
      refine z_last (pc := 8) dL_draft_8 (by rw [ho]) (by rw [ho]; exact in0) ?_
      refine z_goto (pc := 9) 18 dL_draft_9 rfl ?_
      refine z_iconst (pc := 18) (v := 0) dL_draft_18 rfl ?_
      exact z_iret (pc := 19) dL_draft_19 rfl rfl hq
    · exact absurd q.1 (fun z => nomatch z)
  · rcases a with b | E9
    · exact absurd q.1 (fun z => nomatch z)
    · obtain ⟨q1, rfl⟩ := q
      have q2 : E = E9 := Sum.inr.inj q1
      subst q2
      obtain ⟨k9, hk1, rfl, hk2⟩ := hq
      rcases (show k9 = 0 ∨ k9 = 1 by simp at hk1; omega) with rfl | rfl
      · refine ⟨[], ⟨0, 9, 12, 13⟩, [⟨0, 9, 15, 15⟩], exA, rfl, (fun z hz => nomatch hz), rfl, by decide, clL_13, ca_exA, ?_⟩
        show gZ NC G mL_draft 7 Q 12 [some (sr (some x)), some (si a1), some (sr (some o)), none] [sr (some q9)] 0 0 (wS h9 n9)
        refine z_astore_n (pc := 12) (i := 3) [some (sr (some x)), some (si a1), some (sr (some o)), some (sr (some q9))] dL_draft_12 rfl (by decide) rfl rfl ?_
        refine z_iconst (pc := 13) (v := 1) dL_draft_13 rfl ?_
        exact z_iret (pc := 14) dL_draft_14 rfl rfl (hk2 n9 hn)
      · refine ⟨[⟨0, 9, 12, 13⟩], ⟨0, 9, 15, 15⟩, [], exS, rfl, (fun z hz => by
          cases List.mem_singleton.mp hz
          exact ⟨by decide, exA, clL_13, by simp [nc3]⟩), rfl, by decide, clL_15, ca_exS, ?_⟩
        show gZ NC G mL_draft 7 Q 15 [some (sr (some x)), some (si a1), some (sr (some o)), none] [sr (some q9)] 0 0 (wS h9 n9)
        refine z_astore_n (pc := 15) (i := 3) [some (sr (some x)), some (si a1), some (sr (some o)), some (sr (some q9))] dL_draft_15 rfl (by decide) rfl rfl ?_
        refine z_iconst (pc := 16) (v := 2) dL_draft_16 rfl ?_
        exact z_iret (pc := 17) dL_draft_17 rfl rfl (hk2 n9 hn)
theorem dL_add_0 : decode cL_add 0 = .ok (.aload 4, 2) := by decide +kernel
theorem dL_add_2 : decode cL_add 2 = .ok (.iconst 0, 1) := by decide +kernel
theorem dL_add_3 : decode cL_add 3 = .ok (.aload_n 0, 1) := by decide +kernel
theorem dL_add_4 : decode cL_add 4 = .ok (.iload_n 1, 1) := by decide +kernel
theorem dL_add_5 : decode cL_add 5 = .ok (.iload_n 2, 1) := by decide +kernel
theorem dL_add_6 : decode cL_add 6 = .ok (.iload_n 3, 1) := by decide +kernel
theorem dL_add_7 : decode cL_add 7 = .ok (.invokevirtual 17, 3) := by decide +kernel
theorem dL_add_10 : decode cL_add 10 = .ok (.i2l, 1) := by decide +kernel
theorem dL_add_11 : decode cL_add 11 = .ok (.lastore, 1) := by decide +kernel
theorem dL_add_12 : decode cL_add 12 = .ok (.goto 15, 3) := by decide +kernel
theorem dL_add_15 : decode cL_add 15 = .ok (.astore 5, 2) := by decide +kernel
theorem dL_add_17 : decode cL_add 17 = .ok (.iconst 1, 1) := by decide +kernel
theorem dL_add_18 : decode cL_add 18 = .ok (.ireturn, 1) := by decide +kernel
theorem dL_add_19 : decode cL_add 19 = .ok (.astore 5, 2) := by decide +kernel
theorem dL_add_21 : decode cL_add 21 = .ok (.iconst 2, 1) := by decide +kernel
theorem dL_add_22 : decode cL_add 22 = .ok (.ireturn, 1) := by decide +kernel
theorem dL_add_23 : decode cL_add 23 = .ok (.astore 5, 2) := by decide +kernel
theorem dL_add_25 : decode cL_add 25 = .ok (.iconst 3, 1) := by decide +kernel
theorem dL_add_26 : decode cL_add 26 = .ok (.ireturn, 1) := by decide +kernel
theorem dL_add_27 : decode cL_add 27 = .ok (.iconst 0, 1) := by decide +kernel
theorem dL_add_28 : decode cL_add 28 = .ok (.ireturn, 1) := by decide +kernel
abbrev mL_add : gM := (yL_add, cL_add, 6, some .int, [(0, 12, 15, 21), (0, 12, 19, 13), (0, 12, 23, 15)])
theorem caL_add : cal2 mL_add 5 := ⟨xw 696 (by decide +kernel) rfl, xw 86 (by decide +kernel) rfl, by decide, by decide +kernel, xw 695 (by decide +kernel) rfl⟩
theorem lkL_17 : Cond.methodLink RL 17 yX10_add ∈ XW := xw 698 (by decide +kernel) rfl
theorem wL_add {G : gG} {x o : Nat} {a1 a2 a3 : Int32} {h h' : hp} {Q : hQ} (a : Int32 ⊕ String) (hx : (hT h x).1 = 10) (ho : hT h' o = (24, 1)) (hS : ∀ Q1 : hQ, Q1 (oA a) h' → gS G mX10_add 54 10 343 [sr (some x), si a1, si a2, si a3] h Q1) (hq : WrQ o i2l9 [exI, exA, exS] a h' Q) : gS2 G mL_add 55 10 343 [sr (some x), si a1, si a2, si a3, sr (some o)] h Q := by
  refine gS2_at [some (sr (some x)), some (si a1), some (si a2), some (si a3), some (sr (some o)), none] pl_L (Nat.le_of_ble_eq_true rfl) rfl ?_
  refine z_aload (pc := 0) (i := 4) dL_add_0 rfl ?_
  refine z_iconst (pc := 2) (v := 0) dL_add_2 rfl ?_
  refine z_aload_n (pc := 3) (i := 0) dL_add_3 rfl rfl ?_
  refine z_iload_n (pc := 4) (i := 1) dL_add_4 rfl rfl ?_
  refine z_iload_n (pc := 5) (i := 2) dL_add_5 rfl rfl ?_
  refine z_iload_n (pc := 6) (i := 3) dL_add_6 rfl rfl ?_
  refine z_invH (pc := 7) (as := [si a1, si a2, si a3]) (st := [si 0, sr (some o)]) (ci := 9) (N := mX10_add) (k := 0) (n := 0) (k1 := 10) (n1 := 343) (fun _ z => z) dL_add_7 lkL_17 caX10_add cvX10_add rfl (by decide) rfl hx (hS (fun o9 h9 => o9 = oA a ∧ h9 = h') ⟨rfl, rfl⟩) ⟨by decide, by decide⟩ (Nat.le_of_ble_eq_true rfl) (fun v h9 q => ?_) (fun E h9 n9 q9 q hn => ?_)
  · rcases a with b | E
    · obtain ⟨q1, rfl⟩ := q
      have q2 : v = some (si b) := Sum.inl.inj q1
      subst q2
      show gZ NC G mL_add 55 Q 10 [some (sr (some x)), some (si a1), some (si a2), some (si a3), some (sr (some o)), none] [si b, si 0, sr (some o)] 0 0 h9
      refine z_i2l (pc := 10) dL_add_10 ?_
      refine z_last (pc := 11) dL_add_11 (by rw [ho]) (by rw [ho]; exact in0) ?_
      refine z_goto (pc := 12) 27 dL_add_12 rfl ?_
      refine z_iconst (pc := 27) (v := 0) dL_add_27 rfl ?_
      exact z_iret (pc := 28) dL_add_28 rfl rfl hq
    · exact absurd q.1 (fun z => nomatch z)
  · rcases a with b | E9
    · exact absurd q.1 (fun z => nomatch z)
    · obtain ⟨q1, rfl⟩ := q
      have q2 : E = E9 := Sum.inr.inj q1
      subst q2
      obtain ⟨k9, hk1, rfl, hk2⟩ := hq
      rcases (show k9 = 0 ∨ k9 = 1 ∨ k9 = 2 by simp at hk1; omega) with rfl | rfl | rfl
      · refine ⟨[], ⟨0, 12, 15, 21⟩, [⟨0, 12, 19, 13⟩, ⟨0, 12, 23, 15⟩], exI, rfl, (fun z hz => nomatch hz), rfl, by decide, clL_21, ca_exI, ?_⟩
        show gZ NC G mL_add 55 Q 15 [some (sr (some x)), some (si a1), some (si a2), some (si a3), some (sr (some o)), none] [sr (some q9)] 0 0 (wS h9 n9)
        refine z_astore (pc := 15) (i := 5) [some (sr (some x)), some (si a1), some (si a2), some (si a3), some (sr (some o)), some (sr (some q9))] dL_add_15 (by decide) rfl rfl ?_
        refine z_iconst (pc := 17) (v := 1) dL_add_17 rfl ?_
        exact z_iret (pc := 18) dL_add_18 rfl rfl (hk2 n9 hn)
      · refine ⟨[⟨0, 12, 15, 21⟩], ⟨0, 12, 19, 13⟩, [⟨0, 12, 23, 15⟩], exA, rfl, (fun z hz => by
          cases List.mem_singleton.mp hz
          exact ⟨by decide, exI, clL_21, by simp [nc3]⟩), rfl, by decide, clL_13, ca_exA, ?_⟩
        show gZ NC G mL_add 55 Q 19 [some (sr (some x)), some (si a1), some (si a2), some (si a3), some (sr (some o)), none] [sr (some q9)] 0 0 (wS h9 n9)
        refine z_astore (pc := 19) (i := 5) [some (sr (some x)), some (si a1), some (si a2), some (si a3), some (sr (some o)), some (sr (some q9))] dL_add_19 (by decide) rfl rfl ?_
        refine z_iconst (pc := 21) (v := 2) dL_add_21 rfl ?_
        exact z_iret (pc := 22) dL_add_22 rfl rfl (hk2 n9 hn)
      · refine ⟨[⟨0, 12, 15, 21⟩, ⟨0, 12, 19, 13⟩], ⟨0, 12, 23, 15⟩, [], exS, rfl, (fun z hz => by
          rcases List.mem_cons.mp hz with rfl | hz
          · exact ⟨by decide, exI, clL_21, by simp [nc3]⟩
          · cases List.mem_singleton.mp hz
            exact ⟨by decide, exA, clL_13, by simp [nc3]⟩), rfl, by decide, clL_15, ca_exS, ?_⟩
        show gZ NC G mL_add 55 Q 23 [some (sr (some x)), some (si a1), some (si a2), some (si a3), some (sr (some o)), none] [sr (some q9)] 0 0 (wS h9 n9)
        refine z_astore (pc := 23) (i := 5) [some (sr (some x)), some (si a1), some (si a2), some (si a3), some (sr (some o)), some (sr (some q9))] dL_add_23 (by decide) rfl rfl ?_
        refine z_iconst (pc := 25) (v := 3) dL_add_25 rfl ?_
        exact z_iret (pc := 26) dL_add_26 rfl rfl (hk2 n9 hn)

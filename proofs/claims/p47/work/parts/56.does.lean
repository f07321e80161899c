/-! ===== the law's method that catches ===== -/
theorem dL_does_0 : decode cL_does 0 = .ok (.iload_n 1, 1) := by decide +kernel
theorem dL_does_1 : decode cL_does 1 = .ok (.ifCond .ne 14, 3) := by decide +kernel
theorem dL_does_4 : decode cL_does 4 = .ok (.aload_n 0, 1) := by decide +kernel
theorem dL_does_5 : decode cL_does 5 = .ok (.iload_n 2, 1) := by decide +kernel
theorem dL_does_6 : decode cL_does 6 = .ok (.iload_n 3, 1) := by decide +kernel
theorem dL_does_7 : decode cL_does 7 = .ok (.iload 4, 2) := by decide +kernel
theorem dL_does_9 : decode cL_does 9 = .ok (.invokevirtual 104, 3) := by decide +kernel
theorem dL_does_12 : decode cL_does 12 = .ok (.goto 125, 3) := by decide +kernel
theorem dL_does_15 : decode cL_does 15 = .ok (.iload_n 1, 1) := by decide +kernel
theorem dL_does_16 : decode cL_does 16 = .ok (.iconst 1, 1) := by decide +kernel
theorem dL_does_17 : decode cL_does 17 = .ok (.if_icmp .ne 11, 3) := by decide +kernel
theorem dL_does_20 : decode cL_does 20 = .ok (.aload_n 0, 1) := by decide +kernel
theorem dL_does_21 : decode cL_does 21 = .ok (.iload_n 2, 1) := by decide +kernel
theorem dL_does_22 : decode cL_does 22 = .ok (.invokevirtual 110, 3) := by decide +kernel
theorem dL_does_25 : decode cL_does 25 = .ok (.goto 112, 3) := by decide +kernel
theorem dL_does_28 : decode cL_does 28 = .ok (.iload_n 1, 1) := by decide +kernel
theorem dL_does_29 : decode cL_does 29 = .ok (.iconst 2, 1) := by decide +kernel
theorem dL_does_30 : decode cL_does 30 = .ok (.if_icmp .ne 29, 3) := by decide +kernel
theorem dL_does_33 : decode cL_does 33 = .ok (.aload_n 0, 1) := by decide +kernel
theorem dL_does_34 : decode cL_does 34 = .ok (.iload_n 2, 1) := by decide +kernel
theorem dL_does_35 : decode cL_does 35 = .ok (.iload_n 3, 1) := by decide +kernel
theorem dL_does_36 : decode cL_does 36 = .ok (.iconst 1, 1) := by decide +kernel
theorem dL_does_37 : decode cL_does 37 = .ok (.if_icmp .ne 7, 3) := by decide +kernel
theorem dL_does_40 : decode cL_does 40 = .ok (.iconst 1, 1) := by decide +kernel
theorem dL_does_41 : decode cL_does 41 = .ok (.goto 4, 3) := by decide +kernel
theorem dL_does_44 : decode cL_does 44 = .ok (.iconst 0, 1) := by decide +kernel
theorem dL_does_45 : decode cL_does 45 = .ok (.invokevirtual 113, 3) := by decide +kernel
theorem dL_does_48 : decode cL_does 48 = .ok (.ifCond .eq 7, 3) := by decide +kernel
theorem dL_does_51 : decode cL_does 51 = .ok (.iconst 1, 1) := by decide +kernel
theorem dL_does_52 : decode cL_does 52 = .ok (.goto 85, 3) := by decide +kernel
theorem dL_does_55 : decode cL_does 55 = .ok (.iconst 0, 1) := by decide +kernel
theorem dL_does_56 : decode cL_does 56 = .ok (.goto 81, 3) := by decide +kernel
theorem dL_does_59 : decode cL_does 59 = .ok (.iload_n 1, 1) := by decide +kernel
theorem dL_does_60 : decode cL_does 60 = .ok (.iconst 3, 1) := by decide +kernel
theorem dL_does_61 : decode cL_does 61 = .ok (.if_icmp .ne 11, 3) := by decide +kernel
theorem dL_does_64 : decode cL_does 64 = .ok (.aload_n 0, 1) := by decide +kernel
theorem dL_does_65 : decode cL_does 65 = .ok (.iload_n 2, 1) := by decide +kernel
theorem dL_does_66 : decode cL_does 66 = .ok (.invokevirtual 117, 3) := by decide +kernel
theorem dL_does_69 : decode cL_does 69 = .ok (.goto 68, 3) := by decide +kernel
theorem dL_does_72 : decode cL_does 72 = .ok (.iload_n 1, 1) := by decide +kernel
theorem dL_does_73 : decode cL_does 73 = .ok (.iconst 4, 1) := by decide +kernel
theorem dL_does_74 : decode cL_does 74 = .ok (.if_icmp .ne 29, 3) := by decide +kernel
theorem dL_does_77 : decode cL_does 77 = .ok (.aload_n 0, 1) := by decide +kernel
theorem dL_does_78 : decode cL_does 78 = .ok (.iload_n 2, 1) := by decide +kernel
theorem dL_does_79 : decode cL_does 79 = .ok (.iload_n 3, 1) := by decide +kernel
theorem dL_does_80 : decode cL_does 80 = .ok (.iconst 1, 1) := by decide +kernel
theorem dL_does_81 : decode cL_does 81 = .ok (.if_icmp .ne 7, 3) := by decide +kernel
theorem dL_does_84 : decode cL_does 84 = .ok (.iconst 1, 1) := by decide +kernel
theorem dL_does_85 : decode cL_does 85 = .ok (.goto 4, 3) := by decide +kernel
theorem dL_does_88 : decode cL_does 88 = .ok (.iconst 0, 1) := by decide +kernel
theorem dL_does_89 : decode cL_does 89 = .ok (.invokevirtual 120, 3) := by decide +kernel
theorem dL_does_92 : decode cL_does 92 = .ok (.ifCond .eq 7, 3) := by decide +kernel
theorem dL_does_95 : decode cL_does 95 = .ok (.iconst 1, 1) := by decide +kernel
theorem dL_does_96 : decode cL_does 96 = .ok (.goto 41, 3) := by decide +kernel
theorem dL_does_99 : decode cL_does 99 = .ok (.iconst 0, 1) := by decide +kernel
theorem dL_does_100 : decode cL_does 100 = .ok (.goto 37, 3) := by decide +kernel
theorem dL_does_103 : decode cL_does 103 = .ok (.iload_n 1, 1) := by decide +kernel
theorem dL_does_104 : decode cL_does 104 = .ok (.iconst 5, 1) := by decide +kernel
theorem dL_does_105 : decode cL_does 105 = .ok (.if_icmp .ne 12, 3) := by decide +kernel
theorem dL_does_108 : decode cL_does 108 = .ok (.aload_n 0, 1) := by decide +kernel
theorem dL_does_109 : decode cL_does 109 = .ok (.iload_n 2, 1) := by decide +kernel
theorem dL_does_110 : decode cL_does 110 = .ok (.iload_n 3, 1) := by decide +kernel
theorem dL_does_111 : decode cL_does 111 = .ok (.invokevirtual 123, 3) := by decide +kernel
theorem dL_does_114 : decode cL_does 114 = .ok (.goto 23, 3) := by decide +kernel
theorem dL_does_117 : decode cL_does 117 = .ok (.iload_n 1, 1) := by decide +kernel
theorem dL_does_118 : decode cL_does 118 = .ok (.bipush 6, 2) := by decide +kernel
theorem dL_does_120 : decode cL_does 120 = .ok (.if_icmp .ne 11, 3) := by decide +kernel
theorem dL_does_123 : decode cL_does 123 = .ok (.aload_n 0, 1) := by decide +kernel
theorem dL_does_124 : decode cL_does 124 = .ok (.iload_n 2, 1) := by decide +kernel
theorem dL_does_125 : decode cL_does 125 = .ok (.invokevirtual 127, 3) := by decide +kernel
theorem dL_does_128 : decode cL_does 128 = .ok (.goto 9, 3) := by decide +kernel
theorem dL_does_131 : decode cL_does 131 = .ok (.aload_n 0, 1) := by decide +kernel
theorem dL_does_132 : decode cL_does 132 = .ok (.iload_n 2, 1) := by decide +kernel
theorem dL_does_133 : decode cL_does 133 = .ok (.iload_n 3, 1) := by decide +kernel
theorem dL_does_134 : decode cL_does 134 = .ok (.invokevirtual 130, 3) := by decide +kernel
theorem dL_does_137 : decode cL_does 137 = .ok (.ireturn, 1) := by decide +kernel
theorem dL_does_138 : decode cL_does 138 = .ok (.astore 5, 2) := by decide +kernel
theorem dL_does_140 : decode cL_does 140 = .ok (.bipush (-11), 2) := by decide +kernel
theorem dL_does_142 : decode cL_does 142 = .ok (.ireturn, 1) := by decide +kernel
theorem dL_does_143 : decode cL_does 143 = .ok (.astore 5, 2) := by decide +kernel
theorem dL_does_145 : decode cL_does 145 = .ok (.bipush (-12), 2) := by decide +kernel
theorem dL_does_147 : decode cL_does 147 = .ok (.ireturn, 1) := by decide +kernel
theorem dL_does_148 : decode cL_does 148 = .ok (.astore 5, 2) := by decide +kernel
theorem dL_does_150 : decode cL_does 150 = .ok (.bipush (-13), 2) := by decide +kernel
theorem dL_does_152 : decode cL_does 152 = .ok (.ireturn, 1) := by decide +kernel
abbrev mL_does : gM := (yL_does, cL_does, 6, some .int, [(0, 137, 138, 133), (0, 137, 143, 135), (0, 137, 148, 137)])
theorem caL_does : cal2 mL_does 5 := ⟨xw 951 (by decide +kernel) rfl, xw 28 (by decide +kernel) rfl, by decide, by decide +kernel, xw 950 (by decide +kernel) rfl⟩
theorem ca_exI : Cond.castable exI exI ∈ XW := xw 966 (by decide +kernel) rfl
theorem clL_133 : Cond.classLink RL 133 exI ∈ XW := xw 952 (by decide +kernel) rfl
theorem ca_exA : Cond.castable exA exA ∈ XW := xw 478 (by decide +kernel) rfl
theorem clL_135 : Cond.classLink RL 135 exA ∈ XW := xw 953 (by decide +kernel) rfl
theorem ca_exS : Cond.castable exS exS ∈ XW := xw 545 (by decide +kernel) rfl
theorem clL_137 : Cond.classLink RL 137 exS ∈ XW := xw 954 (by decide +kernel) rfl
theorem lkL_104 : Cond.methodLink RL 104 yX10_add ∈ XW := xw 955 (by decide +kernel) rfl
theorem lkL_110 : Cond.methodLink RL 110 yX10_remove ∈ XW := xw 1036 (by decide +kernel) rfl
theorem lkL_113 : Cond.methodLink RL 113 yX10_hide ∈ XW := xw 1082 (by decide +kernel) rfl
theorem lkL_117 : Cond.methodLink RL 117 yX10_rename ∈ XW := xw 1087 (by decide +kernel) rfl
theorem lkL_120 : Cond.methodLink RL 120 yX10_set ∈ XW := xw 1101 (by decide +kernel) rfl
theorem lkL_123 : Cond.methodLink RL 123 yX10_setRule ∈ XW := xw 1106 (by decide +kernel) rfl
theorem lkL_127 : Cond.methodLink RL 127 yX10_wordsLength ∈ XW := xw 1111 (by decide +kernel) rfl
theorem lkL_130 : Cond.methodLink RL 130 yX10_wordsAt ∈ XW := xw 1121 (by decide +kernel) rfl
def zbE (o : Option ((Int32 ⊕ String) × hp)) : Option ((Int32 ⊕ String) × hp) := o.map fun p => (match p.1 with
  | .inl w => .inl (if w = 0 then 0 else 1)
  | .inr E => .inr E, p.2)
def wE2 (o : Option ((Int32 ⊕ String) × hp)) (K K2 : Int32 → hp → Prop) : Prop := okB o (fun p => match p.1 with
  | .inl x => K x p.2
  | .inr E => (E = exI ∨ E = exA ∨ E = exS) ∧ ∀ n, hN p.2 ≤ n → K2 (thC E) (wS p.2 n))
theorem wE_2 {o : Option ((Int32 ⊕ String) × hp)} {K : Int32 → hp → Prop} (h : wE o K) : wE2 o K K := h
theorem wE_zb {o : Option ((Int32 ⊕ String) × hp)} {K : Int32 → hp → Prop} (h : wE (zbE o) K) : wE2 o (fun w h' => K (if w = 0 then 0 else 1) h') K := by
  obtain ⟨p, h1, h2⟩ := h
  cases o with
  | none => cases h1
  | some q =>
    obtain ⟨q, h'⟩ := q
    cases h1
    refine ⟨(q, h'), rfl, ?_⟩
    cases q <;> exact h2
def fL_does (a0 : Option Nat) (a1 a2 a3 a4 : Int32) (h : hp) : Option ((Int32 ⊕ String) × hp) :=
  if a1 = 0 then (oOb 9 a0 h).bind fun b => fX10_add b a2 a3 a4 h
  else if a1 = 1 then (oOb 9 a0 h).bind fun b => fX10_remove b a2 h
  else if a1 = 2 then zbE ((oOb 9 a0 h).bind fun b => fX10_hide b a2 (if a3 = 1 then 1 else 0) h)
  else if a1 = 3 then (oOb 9 a0 h).bind fun b => fX10_rename b a2 h
  else if a1 = 4 then zbE ((oOb 9 a0 h).bind fun b => fX10_set b a2 (if a3 = 1 then 1 else 0) h)
  else if a1 = 5 then (oOb 9 a0 h).bind fun b => fX10_setRule b a2 a3 h
  else if a1 = 6 then (oOb 9 a0 h).bind fun b => fX10_wordsLength b a2 h
  else (oOb 9 a0 h).bind fun b => fX10_wordsAt b a2 a3 h
section DOES
variable {G : gG} {Q : hQ} {k n : Nat} {h : hp}
theorem does_xh {E : String} {pc q : Nat} {o : Option Nat} {a1 a2 a3 a4 : Int32} (hE : E = exI ∨ E = exA ∨ E = exS) (hpc : pc < 137) (hq : Q (.inl (some (si (thC E)))) h) : XH G mL_does 55 Q E pc [some (sr o), some (si a1), some (si a2), some (si a3), some (si a4), none] k n h q := by
  have cv : ∀ x : ExceptionTableEntry, x ∈ tableOf mL_does.2.2.2.2 → covers x pc = true := by
    intro x hx
    have e : tableOf mL_does.2.2.2.2 = [⟨0, 137, 138, 133⟩, ⟨0, 137, 143, 135⟩, ⟨0, 137, 148, 137⟩] := rfl
    rw [e] at hx
    simp only [List.mem_cons, List.not_mem_nil, or_false] at hx
    rcases hx with rfl | rfl | rfl <;> simp [covers] <;> omega
  rcases hE with rfl | rfl | rfl
  · refine ⟨[], ⟨0, 137, 138, 133⟩, [⟨0, 137, 143, 135⟩, ⟨0, 137, 148, 137⟩], exI, rfl, fun z hz => (nomatch hz), cv _ (by exact List.mem_cons_self), by decide, clL_133, ca_exI, ?_⟩
    refine v_astore (pc := 138) (i := 5) [some (sr o), some (si a1), some (si a2), some (si a3), some (si a4), some (sr (some q))] dL_does_138 (by decide) rfl rfl ?_
    refine v_bipush (pc := 140) (v := -11) dL_does_140 rfl ?_
    exact v_iret (pc := 142) dL_does_142 rfl rfl hq
  · refine ⟨[⟨0, 137, 138, 133⟩], ⟨0, 137, 143, 135⟩, [⟨0, 137, 148, 137⟩], exA, rfl, fun z hz => ?_, cv _ (by exact List.mem_cons_of_mem _ List.mem_cons_self), by decide, clL_135, ca_exA, ?_⟩
    · have : z = ⟨0, 137, 138, 133⟩ := by simpa using hz
      subst this
      exact ⟨by decide, exI, clL_133, by decide⟩
    refine v_astore (pc := 143) (i := 5) [some (sr o), some (si a1), some (si a2), some (si a3), some (si a4), some (sr (some q))] dL_does_143 (by decide) rfl rfl ?_
    refine v_bipush (pc := 145) (v := -12) dL_does_145 rfl ?_
    exact v_iret (pc := 147) dL_does_147 rfl rfl hq
  · refine ⟨[⟨0, 137, 138, 133⟩, ⟨0, 137, 143, 135⟩], ⟨0, 137, 148, 137⟩, [], exS, rfl, fun z hz => ?_, cv _ (by exact List.mem_cons_of_mem _ (List.mem_cons_of_mem _ List.mem_cons_self)), by decide, clL_137, ca_exS, ?_⟩
    · have : z = ⟨0, 137, 138, 133⟩ ∨ z = ⟨0, 137, 143, 135⟩ := by simpa using hz
      rcases this with rfl | rfl
      · exact ⟨by decide, exI, clL_133, by decide⟩
      · exact ⟨by decide, exA, clL_135, by decide⟩
    refine v_astore (pc := 148) (i := 5) [some (sr o), some (si a1), some (si a2), some (si a3), some (si a4), some (sr (some q))] dL_does_148 (by decide) rfl rfl ?_
    refine v_bipush (pc := 150) (v := -13) dL_does_150 rfl ?_
    exact v_iret (pc := 152) dL_does_152 rfl rfl hq
theorem does_call {pc idx np d1 k1 n1 : Nat} {N : gM} {as : List sv} {o : Option Nat} {a1 a2 a3 a4 : Int32} {F : Nat → Option ((Int32 ⊕ String) × hp)} {K K2 : Int32 → hp → Prop} (hpc : pc < 137) (hd : decode cL_does pc = .ok (.invokevirtual idx, 3)) (hlk : Cond.methodLink RL idx N.1 ∈ XW) (hcal : cal N np) (hcv : calV N) (hnp : as.length = np) (hC : N.1.cls = hk_C 9)
    (hS : ∀ (b : Nat) (Q1 : hQ), okB (F b) (pX gI Q1) → gS G N d1 k1 n1 (sr (some b) :: as) h Q1) (hdd : d1 + 1 ≤ 55 ∧ N.2.2.1 ≤ 21) (hF : wE2 ((oOb 9 o h).bind F) K K2) (hK : ∀ E h', K2 (thC E) h' → Q (.inl (some (si (thC E)))) h')
    (kk : ∀ (x : Int32) (h' : hp), K x h' → gV G mL_does 55 Q (pc + 3) [some (sr o), some (si a1), some (si a2), some (si a3), some (si a4), none] [si x] k n h') : gV G mL_does 55 Q pc [some (sr o), some (si a1), some (si a2), some (si a3), some (si a4), none] (as.reverse ++ sr o :: []) (k + k1) (n + n1) h := by
  rw [Nat.add_comm k k1, Nat.add_comm n n1]
  obtain ⟨⟨x, h1⟩, hx0, hK1⟩ := hF
  have hx1 : okB ((oOb 9 o h).bind F) (fun p => p = (x, h1)) := ⟨_, hx0, rfl⟩
  obtain ⟨b, hb, y, hx, rfl⟩ := okB_bind hx1
  obtain ⟨hr, hc⟩ := oOb_of hb
  subst hr
  refine v_invH (M := mL_does) hd hlk hcal hcv hnp (by decide) hC hc (Q1 := fun oc h' => (match x with
    | .inl v => oc = .inl (some (si v)) ∧ h' = h1
    | .inr E => oc = .inr E ∧ h' = h1)) (hS b _ ⟨(x, h1), hx, ?_⟩) hdd (Nat.le_of_ble_eq_true rfl) (fun v h' hv => ?_) (fun E h' n' q hv hn => ?_)
  · cases x <;> exact ⟨rfl, rfl⟩
  · cases x with
    | inl v1 =>
      obtain ⟨e1, rfl⟩ := hv
      cases e1
      exact kk v1 _ hK1
    | inr E => exact absurd hv.1 (fun z => nomatch z)
  · cases x with
    | inl v1 => exact absurd hv.1 (fun z => nomatch z)
    | inr E9 =>
      obtain ⟨e1, rfl⟩ := hv
      cases e1
      exact does_xh hK1.1 hpc (hK _ _ (hK1.2 n' hn))
end DOES
theorem tL_does {G : gG} (a0 : Option Nat) (a1 a2 a3 a4 : Int32) (h : hp) (Q : hQ) (hF : wE (fL_does a0 a1 a2 a3 a4 h) (fun x h' => Q (.inl (some (si x))) h')) : gSX G mL_does 55 10 343 [sr a0, si a1, si a2, si a3, si a4] h Q := by
  unfold fL_does at hF
  refine gSX_at [some (sr a0), some (si a1), some (si a2), some (si a3), some (si a4), none] pl_L (Nat.le_of_ble_eq_true rfl) rfl ?_
  refine v_iload_n (pc := 0) (i := 1) dL_does_0 rfl rfl ?_
  refine v_if_ne (pc := 1) 15 dL_does_1 rfl (fun hc0 => ?_) (fun hc0 => ?_)
  rotate_left
  · rw [if_pos hc0] at hF
    refine v_aload_n (pc := 4) (i := 0) dL_does_4 rfl rfl ?_
    refine v_iload_n (pc := 5) (i := 2) dL_does_5 rfl rfl ?_
    refine v_iload_n (pc := 6) (i := 3) dL_does_6 rfl rfl ?_
    refine v_iload (pc := 7) (i := 4) dL_does_7 rfl ?_
    refine v_room (k' := 0 + 10) (n' := 0 + 343) (by decide) (by decide) ?_
    refine does_call (pc := 9) (as := [si a2, si a3, si a4]) (N := mX10_add) (k := 0) (n := 0) (k1 := 10) (n1 := 343)  (by decide) dL_does_9 lkL_104 caX10_add cvX10_add rfl rfl (fun b Q1 hq => tX10_add b a2 a3 a4 h Q1 hq) ⟨by decide, by decide⟩ (wE_2 hF) (fun E h' q => q) (fun x h' hK => ?_)
    refine v_goto (pc := 12) 137 dL_does_12 rfl ?_
    exact v_iret (pc := 137) dL_does_137 rfl rfl hK
  rw [if_neg hc0] at hF
  refine v_iload_n (pc := 15) (i := 1) dL_does_15 rfl rfl ?_
  refine v_iconst (pc := 16) (v := 1) dL_does_16 rfl ?_
  refine v_icmp_ne (pc := 17) 28 dL_does_17 rfl (fun hc1 => ?_) (fun hc1 => ?_)
  rotate_left
  · rw [if_pos hc1] at hF
    refine v_aload_n (pc := 20) (i := 0) dL_does_20 rfl rfl ?_
    refine v_iload_n (pc := 21) (i := 2) dL_does_21 rfl rfl ?_
    refine v_room (k' := 0 + 3) (n' := 0 + 18) (by decide) (by decide) ?_
    refine does_call (pc := 22) (as := [si a2]) (N := mX10_remove) (k := 0) (n := 0) (k1 := 3) (n1 := 18)  (by decide) dL_does_22 lkL_110 caX10_remove cvX10_remove rfl rfl (fun b Q1 hq => tX10_remove b a2 h Q1 hq) ⟨by decide, by decide⟩ (wE_2 hF) (fun E h' q => q) (fun x h' hK => ?_)
    refine v_goto (pc := 25) 137 dL_does_25 rfl ?_
    exact v_iret (pc := 137) dL_does_137 rfl rfl hK
  rw [if_neg hc1] at hF
  refine v_iload_n (pc := 28) (i := 1) dL_does_28 rfl rfl ?_
  refine v_iconst (pc := 29) (v := 2) dL_does_29 rfl ?_
  refine v_icmp_ne (pc := 30) 59 dL_does_30 rfl (fun hc2 => ?_) (fun hc2 => ?_)
  rotate_left
  · rw [if_pos hc2] at hF
    have hF2 := wE_zb hF
    refine v_aload_n (pc := 33) (i := 0) dL_does_33 rfl rfl ?_
    refine v_iload_n (pc := 34) (i := 2) dL_does_34 rfl rfl ?_
    refine v_iload_n (pc := 35) (i := 3) dL_does_35 rfl rfl ?_
    refine v_iconst (pc := 36) (v := 1) dL_does_36 rfl ?_
    have key : gV G mL_does 55 Q 45 [some (sr a0), some (si a1), some (si a2), some (si a3), some (si a4), none] [si (if a3 = 1 then 1 else 0), si a2, sr a0] 10 343 h := ?_
    · refine v_icmp_ne (pc := 37) 44 dL_does_37 rfl (fun hc => ?_) (fun hc => ?_)
      · refine v_iconst (pc := 44) (v := 0) dL_does_44 rfl ?_
        rw [if_neg hc] at key
        exact key
      · refine v_iconst (pc := 40) (v := 1) dL_does_40 rfl (v_goto (pc := 41) 45 dL_does_41 rfl ?_)
        rw [if_pos hc] at key
        exact key
    refine v_room (k' := 0 + 3) (n' := 0 + 18) (by decide) (by decide) ?_
    refine does_call (pc := 45) (as := [si a2, si (if a3 = 1 then 1 else 0)]) (N := mX10_hide) (k := 0) (n := 0) (k1 := 3) (n1 := 18) (K := fun w h' => Q (.inl (some (si (if w = 0 then 0 else 1)))) h') (K2 := fun x h' => Q (.inl (some (si x))) h') (by decide) dL_does_45 lkL_113 caX10_hide cvX10_hide rfl rfl (fun b Q1 hq => tX10_hide b a2 (if a3 = 1 then 1 else 0) h Q1 hq) ⟨by decide, by decide⟩ hF2 (fun E h' q => q) (fun x h' hK => ?_)
    refine v_if_eq (pc := 48) 55 dL_does_48 rfl (fun hc => ?_) (fun hc => ?_)
    · rw [if_pos hc] at hK
      refine v_iconst (pc := 55) (v := 0) dL_does_55 rfl (v_goto (pc := 56) 137 dL_does_56 rfl ?_)
      exact v_iret (pc := 137) dL_does_137 rfl rfl hK
    · rw [if_neg hc] at hK
      refine v_iconst (pc := 51) (v := 1) dL_does_51 rfl (v_goto (pc := 52) 137 dL_does_52 rfl ?_)
      exact v_iret (pc := 137) dL_does_137 rfl rfl hK
  rw [if_neg hc2] at hF
  refine v_iload_n (pc := 59) (i := 1) dL_does_59 rfl rfl ?_
  refine v_iconst (pc := 60) (v := 3) dL_does_60 rfl ?_
  refine v_icmp_ne (pc := 61) 72 dL_does_61 rfl (fun hc3 => ?_) (fun hc3 => ?_)
  rotate_left
  · rw [if_pos hc3] at hF
    refine v_aload_n (pc := 64) (i := 0) dL_does_64 rfl rfl ?_
    refine v_iload_n (pc := 65) (i := 2) dL_does_65 rfl rfl ?_
    refine v_room (k' := 0 + 3) (n' := 0 + 18) (by decide) (by decide) ?_
    refine does_call (pc := 66) (as := [si a2]) (N := mX10_rename) (k := 0) (n := 0) (k1 := 3) (n1 := 18)  (by decide) dL_does_66 lkL_117 caX10_rename cvX10_rename rfl rfl (fun b Q1 hq => tX10_rename b a2 h Q1 hq) ⟨by decide, by decide⟩ (wE_2 hF) (fun E h' q => q) (fun x h' hK => ?_)
    refine v_goto (pc := 69) 137 dL_does_69 rfl ?_
    exact v_iret (pc := 137) dL_does_137 rfl rfl hK
  rw [if_neg hc3] at hF
  refine v_iload_n (pc := 72) (i := 1) dL_does_72 rfl rfl ?_
  refine v_iconst (pc := 73) (v := 4) dL_does_73 rfl ?_
  refine v_icmp_ne (pc := 74) 103 dL_does_74 rfl (fun hc4 => ?_) (fun hc4 => ?_)
  rotate_left
  · rw [if_pos hc4] at hF
    have hF2 := wE_zb hF
    refine v_aload_n (pc := 77) (i := 0) dL_does_77 rfl rfl ?_
    refine v_iload_n (pc := 78) (i := 2) dL_does_78 rfl rfl ?_
    refine v_iload_n (pc := 79) (i := 3) dL_does_79 rfl rfl ?_
    refine v_iconst (pc := 80) (v := 1) dL_does_80 rfl ?_
    have key : gV G mL_does 55 Q 89 [some (sr a0), some (si a1), some (si a2), some (si a3), some (si a4), none] [si (if a3 = 1 then 1 else 0), si a2, sr a0] 10 343 h := ?_
    · refine v_icmp_ne (pc := 81) 88 dL_does_81 rfl (fun hc => ?_) (fun hc => ?_)
      · refine v_iconst (pc := 88) (v := 0) dL_does_88 rfl ?_
        rw [if_neg hc] at key
        exact key
      · refine v_iconst (pc := 84) (v := 1) dL_does_84 rfl (v_goto (pc := 85) 89 dL_does_85 rfl ?_)
        rw [if_pos hc] at key
        exact key
    refine v_room (k' := 0 + 2) (n' := 0 + 12) (by decide) (by decide) ?_
    refine does_call (pc := 89) (as := [si a2, si (if a3 = 1 then 1 else 0)]) (N := mX10_set) (k := 0) (n := 0) (k1 := 2) (n1 := 12) (K := fun w h' => Q (.inl (some (si (if w = 0 then 0 else 1)))) h') (K2 := fun x h' => Q (.inl (some (si x))) h') (by decide) dL_does_89 lkL_120 caX10_set cvX10_set rfl rfl (fun b Q1 hq => tX10_set b a2 (if a3 = 1 then 1 else 0) h Q1 hq) ⟨by decide, by decide⟩ hF2 (fun E h' q => q) (fun x h' hK => ?_)
    refine v_if_eq (pc := 92) 99 dL_does_92 rfl (fun hc => ?_) (fun hc => ?_)
    · rw [if_pos hc] at hK
      refine v_iconst (pc := 99) (v := 0) dL_does_99 rfl (v_goto (pc := 100) 137 dL_does_100 rfl ?_)
      exact v_iret (pc := 137) dL_does_137 rfl rfl hK
    · rw [if_neg hc] at hK
      refine v_iconst (pc := 95) (v := 1) dL_does_95 rfl (v_goto (pc := 96) 137 dL_does_96 rfl ?_)
      exact v_iret (pc := 137) dL_does_137 rfl rfl hK
  rw [if_neg hc4] at hF
  refine v_iload_n (pc := 103) (i := 1) dL_does_103 rfl rfl ?_
  refine v_iconst (pc := 104) (v := 5) dL_does_104 rfl ?_
  refine v_icmp_ne (pc := 105) 117 dL_does_105 rfl (fun hc5 => ?_) (fun hc5 => ?_)
  rotate_left
  · rw [if_pos hc5] at hF
    refine v_aload_n (pc := 108) (i := 0) dL_does_108 rfl rfl ?_
    refine v_iload_n (pc := 109) (i := 2) dL_does_109 rfl rfl ?_
    refine v_iload_n (pc := 110) (i := 3) dL_does_110 rfl rfl ?_
    refine v_room (k' := 0 + 2) (n' := 0 + 12) (by decide) (by decide) ?_
    refine does_call (pc := 111) (as := [si a2, si a3]) (N := mX10_setRule) (k := 0) (n := 0) (k1 := 2) (n1 := 12)  (by decide) dL_does_111 lkL_123 caX10_setRule cvX10_setRule rfl rfl (fun b Q1 hq => tX10_setRule b a2 a3 h Q1 hq) ⟨by decide, by decide⟩ (wE_2 hF) (fun E h' q => q) (fun x h' hK => ?_)
    refine v_goto (pc := 114) 137 dL_does_114 rfl ?_
    exact v_iret (pc := 137) dL_does_137 rfl rfl hK
  rw [if_neg hc5] at hF
  refine v_iload_n (pc := 117) (i := 1) dL_does_117 rfl rfl ?_
  refine v_bipush (pc := 118) (v := 6) dL_does_118 rfl ?_
  refine v_icmp_ne (pc := 120) 131 dL_does_120 rfl (fun hc6 => ?_) (fun hc6 => ?_)
  rotate_left
  · rw [if_pos hc6] at hF
    refine v_aload_n (pc := 123) (i := 0) dL_does_123 rfl rfl ?_
    refine v_iload_n (pc := 124) (i := 2) dL_does_124 rfl rfl ?_
    refine v_room (k' := 0 + 2) (n' := 0 + 12) (by decide) (by decide) ?_
    refine does_call (pc := 125) (as := [si a2]) (N := mX10_wordsLength) (k := 0) (n := 0) (k1 := 2) (n1 := 12)  (by decide) dL_does_125 lkL_127 caX10_wordsLength cvX10_wordsLength rfl rfl (fun b Q1 hq => tX10_wordsLength b a2 h Q1 hq) ⟨by decide, by decide⟩ (wE_2 hF) (fun E h' q => q) (fun x h' hK => ?_)
    refine v_goto (pc := 128) 137 dL_does_128 rfl ?_
    exact v_iret (pc := 137) dL_does_137 rfl rfl hK
  rw [if_neg hc6] at hF
  refine v_aload_n (pc := 131) (i := 0) dL_does_131 rfl rfl ?_
  refine v_iload_n (pc := 132) (i := 2) dL_does_132 rfl rfl ?_
  refine v_iload_n (pc := 133) (i := 3) dL_does_133 rfl rfl ?_
  refine v_room (k' := 0 + 3) (n' := 0 + 18) (by decide) (by decide) ?_
  refine does_call (pc := 134) (as := [si a2, si a3]) (N := mX10_wordsAt) (k := 0) (n := 0) (k1 := 3) (n1 := 18)  (by decide) dL_does_134 lkL_130 caX10_wordsAt cvX10_wordsAt rfl rfl (fun b Q1 hq => tX10_wordsAt b a2 a3 h Q1 hq) ⟨by decide, by decide⟩ (wE_2 hF) (fun E h' q => q) (fun x h' hK => ?_)
  exact v_iret (pc := 137) dL_does_137 rfl rfl hK

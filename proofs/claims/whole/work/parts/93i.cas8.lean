/-! ===== cases of the law ===== -/
theorem dL_law_2136 : decode cL_law 2136 = .ok (.aload_n 1, 1) := by decide +kernel
theorem dL_law_2137 : decode cL_law 2137 = .ok (.invokevirtual 247, 3) := by decide +kernel
theorem dL_law_2140 : decode cL_law 2140 = .ok (.aload_n 2, 1) := by decide +kernel
theorem dL_law_2141 : decode cL_law 2141 = .ok (.invokevirtual 250, 3) := by decide +kernel
theorem dL_law_2144 : decode cL_law 2144 = .ok (.if_icmp .eq 169, 3) := by decide +kernel
theorem lkL_247 : Cond.methodLink RL 247 yX10_speaking ∈ XW := xw 571 (by decide +kernel) rfl
theorem lkL_250 : Cond.methodLink RL 250 yX11_speaking ∈ XW := xw 1995 (by decide +kernel) rfl
theorem kL_speaking {nm : String} {hh : List (Nat × Nat × Nat × Nat)} {G : gG} {b L x m o i : Nat} {xs : Nat → Int32} {h h2 : hp} {Q : hQ} {K N : Nat} (v : Int32) (hx : (hT h x).1 = 10) (hS : ∀ Q1 : hQ, Q1 (.inl (some (si v))) h → gS G mX10_speaking 0 0 0 [sr (some x)] h Q1) (hm : (hT h m).1 = 11) (hM : ∀ Q1 : hQ, Q1 (.inl (some (si v))) h2 → gS G mX11_speaking 0 0 0 [sr (some m)] h Q1) (kk : gZ (LF b L xs) G (mLw nm hh) 60 Q 2313 [some (sr (some b)), some (sr (some x)), some (sr (some m)), some (sr (some o)), some (si (nI i)), none, none] [] K N h2) : gZ (LF b L xs) G (mLw nm hh) 60 Q 2136 [some (sr (some b)), some (sr (some x)), some (sr (some m)), some (sr (some o)), some (si (nI i)), none, none] [] K N h := by
  refine z_aload_n (pc := 2136) (i := 1) dL_law_2136 rfl rfl ?_
  refine z_room (k' := 0 + K) (n' := 0 + N) (by omega) (by omega) ?_
  refine y_V (pc := 2137) (as := []) (st := []) (ci := 9) (N := mX10_speaking) (k := K) (n := N) (k1 := 0) (n1 := 0) dL_law_2137 lkL_247 caX10_speaking cvX10_speaking rfl (by decide) rfl hx (hS (fun o9 h9 => o9 = .inl (some (si v)) ∧ h9 = h) ⟨rfl, rfl⟩) ⟨by decide, by decide⟩ (Nat.le_of_ble_eq_true rfl) (fun v9 h3 q => ?_) (fun E h3 q => nomatch q.1)
  obtain ⟨q1, rfl⟩ := q
  have q3 : v9 = some (si v) := Sum.inl.inj q1
  subst q3
  show gZ (LF b L xs) G (mLw nm hh) 60 Q 2140 [some (sr (some b)), some (sr (some x)), some (sr (some m)), some (sr (some o)), some (si (nI i)), none, none] [si v] K N h3
  refine z_aload_n (pc := 2140) (i := 2) dL_law_2140 rfl rfl ?_
  refine z_room (k' := 0 + K) (n' := 0 + N) (by omega) (by omega) ?_
  refine y_V (pc := 2141) (as := []) (st := [si v]) (ci := 10) (N := mX11_speaking) (k := K) (n := N) (k1 := 0) (n1 := 0) dL_law_2141 lkL_250 caX11_speaking cvX11_speaking rfl (by decide) rfl hm (hM (fun o9 h9 => o9 = .inl (some (si v)) ∧ h9 = h2) ⟨rfl, rfl⟩) ⟨by decide, by decide⟩ (Nat.le_of_ble_eq_true rfl) (fun v9 h4 q => ?_) (fun E h4 q => nomatch q.1)
  obtain ⟨q1, rfl⟩ := q
  have q3 : v9 = some (si v) := Sum.inl.inj q1
  subst q3
  show gZ (LF b L xs) G (mLw nm hh) 60 Q 2144 [some (sr (some b)), some (sr (some x)), some (sr (some m)), some (sr (some o)), some (si (nI i)), none, none] [si v, si v] K N h4
  refine z_icmp_eq (pc := 2144) 2313 dL_law_2144 rfl (fun _ => ?_) (fun hc => absurd rfl hc)
  exact kk
theorem dL_law_2149 : decode cL_law 2149 = .ok (.aload_n 1, 1) := by decide +kernel
theorem dL_law_2150 : decode cL_law 2150 = .ok (.invokevirtual 251, 3) := by decide +kernel
theorem dL_law_2153 : decode cL_law 2153 = .ok (.aload_n 2, 1) := by decide +kernel
theorem dL_law_2154 : decode cL_law 2154 = .ok (.invokevirtual 254, 3) := by decide +kernel
theorem dL_law_2157 : decode cL_law 2157 = .ok (.if_icmp .eq 156, 3) := by decide +kernel
theorem lkL_251 : Cond.methodLink RL 251 yX10_left ∈ XW := xw 575 (by decide +kernel) rfl
theorem lkL_254 : Cond.methodLink RL 254 yX11_left ∈ XW := xw 1999 (by decide +kernel) rfl
theorem kL_left {nm : String} {hh : List (Nat × Nat × Nat × Nat)} {G : gG} {b L x m o i : Nat} {xs : Nat → Int32} {h h2 : hp} {Q : hQ} {K N : Nat} (v : Int32) (hx : (hT h x).1 = 10) (hS : ∀ Q1 : hQ, Q1 (.inl (some (si v))) h → gS G mX10_left 2 0 0 [sr (some x)] h Q1) (hm : (hT h m).1 = 11) (hM : ∀ Q1 : hQ, Q1 (.inl (some (si v))) h2 → gS G mX11_left 0 0 0 [sr (some m)] h Q1) (kk : gZ (LF b L xs) G (mLw nm hh) 60 Q 2313 [some (sr (some b)), some (sr (some x)), some (sr (some m)), some (sr (some o)), some (si (nI i)), none, none] [] K N h2) : gZ (LF b L xs) G (mLw nm hh) 60 Q 2149 [some (sr (some b)), some (sr (some x)), some (sr (some m)), some (sr (some o)), some (si (nI i)), none, none] [] K N h := by
  refine z_aload_n (pc := 2149) (i := 1) dL_law_2149 rfl rfl ?_
  refine z_room (k' := 0 + K) (n' := 0 + N) (by omega) (by omega) ?_
  refine y_V (pc := 2150) (as := []) (st := []) (ci := 9) (N := mX10_left) (k := K) (n := N) (k1 := 0) (n1 := 0) dL_law_2150 lkL_251 caX10_left cvX10_left rfl (by decide) rfl hx (hS (fun o9 h9 => o9 = .inl (some (si v)) ∧ h9 = h) ⟨rfl, rfl⟩) ⟨by decide, by decide⟩ (Nat.le_of_ble_eq_true rfl) (fun v9 h3 q => ?_) (fun E h3 q => nomatch q.1)
  obtain ⟨q1, rfl⟩ := q
  have q3 : v9 = some (si v) := Sum.inl.inj q1
  subst q3
  show gZ (LF b L xs) G (mLw nm hh) 60 Q 2153 [some (sr (some b)), some (sr (some x)), some (sr (some m)), some (sr (some o)), some (si (nI i)), none, none] [si v] K N h3
  refine z_aload_n (pc := 2153) (i := 2) dL_law_2153 rfl rfl ?_
  refine z_room (k' := 0 + K) (n' := 0 + N) (by omega) (by omega) ?_
  refine y_V (pc := 2154) (as := []) (st := [si v]) (ci := 10) (N := mX11_left) (k := K) (n := N) (k1 := 0) (n1 := 0) dL_law_2154 lkL_254 caX11_left cvX11_left rfl (by decide) rfl hm (hM (fun o9 h9 => o9 = .inl (some (si v)) ∧ h9 = h2) ⟨rfl, rfl⟩) ⟨by decide, by decide⟩ (Nat.le_of_ble_eq_true rfl) (fun v9 h4 q => ?_) (fun E h4 q => nomatch q.1)
  obtain ⟨q1, rfl⟩ := q
  have q3 : v9 = some (si v) := Sum.inl.inj q1
  subst q3
  show gZ (LF b L xs) G (mLw nm hh) 60 Q 2157 [some (sr (some b)), some (sr (some x)), some (sr (some m)), some (sr (some o)), some (si (nI i)), none, none] [si v, si v] K N h4
  refine z_icmp_eq (pc := 2157) 2313 dL_law_2157 rfl (fun _ => ?_) (fun hc => absurd rfl hc)
  exact kk
theorem dL_law_2162 : decode cL_law 2162 = .ok (.aload_n 1, 1) := by decide +kernel
theorem dL_law_2163 : decode cL_law 2163 = .ok (.aload_n 0, 1) := by decide +kernel
theorem dL_law_2164 : decode cL_law 2164 = .ok (.iload 4, 2) := by decide +kernel
theorem dL_law_2166 : decode cL_law 2166 = .ok (.iconst 1, 1) := by decide +kernel
theorem dL_law_2167 : decode cL_law 2167 = .ok (.iadd, 1) := by decide +kernel
theorem dL_law_2168 : decode cL_law 2168 = .ok (.iaload, 1) := by decide +kernel
theorem dL_law_2169 : decode cL_law 2169 = .ok (.aload_n 3, 1) := by decide +kernel
theorem dL_law_2170 : decode cL_law 2170 = .ok (.invokestatic 255, 3) := by decide +kernel
theorem dL_law_2173 : decode cL_law 2173 = .ok (.istore 5, 2) := by decide +kernel
theorem dL_law_2175 : decode cL_law 2175 = .ok (.aload_n 2, 1) := by decide +kernel
theorem dL_law_2176 : decode cL_law 2176 = .ok (.aload_n 0, 1) := by decide +kernel
theorem dL_law_2177 : decode cL_law 2177 = .ok (.iload 4, 2) := by decide +kernel
theorem dL_law_2179 : decode cL_law 2179 = .ok (.iconst 1, 1) := by decide +kernel
theorem dL_law_2180 : decode cL_law 2180 = .ok (.iadd, 1) := by decide +kernel
theorem dL_law_2181 : decode cL_law 2181 = .ok (.iaload, 1) := by decide +kernel
theorem dL_law_2182 : decode cL_law 2182 = .ok (.invokevirtual 257, 3) := by decide +kernel
theorem dL_law_2185 : decode cL_law 2185 = .ok (.istore 6, 2) := by decide +kernel
theorem dL_law_2187 : decode cL_law 2187 = .ok (.aload_n 2, 1) := by decide +kernel
theorem dL_law_2188 : decode cL_law 2188 = .ok (.invokevirtual 123, 3) := by decide +kernel
theorem dL_law_2191 : decode cL_law 2191 = .ok (.iload 5, 2) := by decide +kernel
theorem dL_law_2193 : decode cL_law 2193 = .ok (.if_icmp .eq 5, 3) := by decide +kernel
theorem dL_law_2198 : decode cL_law 2198 = .ok (.iload 5, 2) := by decide +kernel
theorem dL_law_2200 : decode cL_law 2200 = .ok (.ifCond .ne 15, 3) := by decide +kernel
theorem dL_law_2203 : decode cL_law 2203 = .ok (.aload_n 3, 1) := by decide +kernel
theorem dL_law_2204 : decode cL_law 2204 = .ok (.iconst 0, 1) := by decide +kernel
theorem dL_law_2205 : decode cL_law 2205 = .ok (.laload, 1) := by decide +kernel
theorem dL_law_2206 : decode cL_law 2206 = .ok (.iload 6, 2) := by decide +kernel
theorem dL_law_2208 : decode cL_law 2208 = .ok (.i2l, 1) := by decide +kernel
theorem dL_law_2209 : decode cL_law 2209 = .ok (.lcmp, 1) := by decide +kernel
theorem dL_law_2210 : decode cL_law 2210 = .ok (.ifCond .eq 5, 3) := by decide +kernel
theorem dL_law_2215 : decode cL_law 2215 = .ok (.goto 98, 3) := by decide +kernel
theorem lkL_255 : Cond.methodLink RL 255 yL_waiting ∈ XW := xw 1371 (by decide +kernel) rfl
theorem lkL_257 : Cond.methodLink RL 257 yX11_waiting ∈ XW := xw 2003 (by decide +kernel) rfl
theorem kL_waiting {nm : String} {hh : List (Nat × Nat × Nat × Nat)} {G : gG} {b L x m o i : Nat} {xs : Nat → Int32} {h h' : hp} {Q : hQ} {K N : Nat} {M : hp → hp} (a : Int32 ⊕ String) (r : aS) (hb : ¬ gb G ≤ b) (hL : L ≤ 2048) (hi : i + 4 ≤ L) (hx : (hT h x).1 = 10) (ho : hT h' o = (24, 1)) (hS : ∀ Q1 : hQ, Q1 (oA a) h' → gS G mX10_waiting 6 1 6 [sr (some x), si (xs (i + 1))] h Q1) (hA : An [exA] a r) (hM : ∀ h2, HH h' o i2l9 a h2 → MM G mX11_waiting 1 [si (xs (i + 1))] m o r M h2) (kk : ∀ h2, HH h' o i2l9 a h2 → gZ (LF b L xs) G (mLw nm hh) 60 Q 2313 [some (sr (some b)), some (sr (some x)), some (sr (some m)), some (sr (some o)), some (si (nI i)), none, none] [] K N (M h2)) : gZ (LF b L xs) G (mLw nm hh) 60 Q 2162 [some (sr (some b)), some (sr (some x)), some (sr (some m)), some (sr (some o)), some (si (nI i)), none, none] [] (1 + K) (6 + N) h := by
  refine z_aload_n (pc := 2162) (i := 1) dL_law_2162 rfl rfl ?_
  refine y_arg (pc := 2163) (i := i) 1 hb hL hi (by decide) rfl dL_law_2163 dL_law_2164 dL_law_2166 dL_law_2167 dL_law_2168 rfl rfl ?_
  refine z_aload_n (pc := 2169) (i := 3) dL_law_2169 rfl rfl ?_
  refine y_X (pc := 2170) (as := [sr (some x), si (xs (i + 1)), sr (some o)]) (st := []) (N := mL_waiting) (k := K) (n := N) (k1 := 1) (n1 := 6) (fun _ z => z.1) dL_law_2170 lkL_255 caL_waiting rfl (wL_waiting a hx ho hS (hA.wr o i2l9 h')) ⟨by decide, by decide⟩ (Nat.le_of_ble_eq_true rfl) (fun v h2 q => ?_) (fun E h2 q => nomatch q.1)
  obtain ⟨q1, q2⟩ := q
  have q3 : v = some (si r.1) := Sum.inl.inj q1
  subst q3
  show gZ (LF b L xs) G (mLw nm hh) 60 Q 2173 [some (sr (some b)), some (sr (some x)), some (sr (some m)), some (sr (some o)), some (si (nI i)), none, none] [si r.1] K N h2
  obtain ⟨m1, m2, m3, m4, m5, m6⟩ := hM h2 q2
  refine z_istore (pc := 2173) (i := 5) [some (sr (some b)), some (sr (some x)), some (sr (some m)), some (sr (some o)), some (si (nI i)), some (si r.1), none] dL_law_2173 (show 5 < 7 by decide) rfl rfl ?_
  refine z_aload_n (pc := 2175) (i := 2) dL_law_2175 rfl rfl ?_
  refine y_arg (pc := 2176) (i := i) 1 hb hL hi (by decide) rfl dL_law_2176 dL_law_2177 dL_law_2179 dL_law_2180 dL_law_2181 rfl rfl ?_
  refine z_room (k' := 0 + K) (n' := 0 + N) (by omega) (by omega) ?_
  refine y_V (pc := 2182) (as := [si (xs (i + 1))]) (st := []) (ci := 10) (N := mX11_waiting) (k := K) (n := N) (k1 := 0) (n1 := 0) dL_law_2182 lkL_257 caX11_waiting cvX11_waiting rfl (by decide) rfl m1 (m2 (fun o9 h9 => o9 = .inl (some (si r.2.1)) ∧ h9 = M h2) ⟨rfl, rfl⟩) ⟨by decide, by decide⟩ (Nat.le_of_ble_eq_true rfl) (fun v h3 q => ?_) (fun E h3 q => nomatch q.1)
  obtain ⟨q1, rfl⟩ := q
  have q3 : v = some (si r.2.1) := Sum.inl.inj q1
  subst q3
  show gZ (LF b L xs) G (mLw nm hh) 60 Q 2185 [some (sr (some b)), some (sr (some x)), some (sr (some m)), some (sr (some o)), some (si (nI i)), some (si r.1), none] [si r.2.1] K N (M h2)
  refine z_istore (pc := 2185) (i := 6) [some (sr (some b)), some (sr (some x)), some (sr (some m)), some (sr (some o)), some (si (nI i)), some (si r.1), some (si r.2.1)] dL_law_2185 (show 6 < 7 by decide) rfl rfl ?_
  refine z_aload_n (pc := 2187) (i := 2) dL_law_2187 rfl rfl ?_
  refine z_room (k' := 0 + K) (n' := 0 + N) (by omega) (by omega) ?_
  refine y_V (pc := 2188) (as := []) (st := []) (ci := 10) (N := mX11_thrown) (k := K) (n := N) (k1 := 0) (n1 := 0) dL_law_2188 lkL_123 caX11_thrown cvX11_thrown rfl (by decide) rfl m3 (m4 (fun o9 h9 => o9 = .inl (some (si r.1)) ∧ h9 = M h2) ⟨rfl, rfl⟩) ⟨by decide, by decide⟩ (Nat.le_of_ble_eq_true rfl) (fun v h3 q => ?_) (fun E h3 q => nomatch q.1)
  obtain ⟨q1, rfl⟩ := q
  have q3 : v = some (si r.1) := Sum.inl.inj q1
  subst q3
  show gZ (LF b L xs) G (mLw nm hh) 60 Q 2191 [some (sr (some b)), some (sr (some x)), some (sr (some m)), some (sr (some o)), some (si (nI i)), some (si r.1), some (si r.2.1)] [si r.1] K N (M h2)
  refine z_iload (pc := 2191) (i := 5) dL_law_2191 rfl ?_
  refine z_icmp_eq (pc := 2193) 2198 dL_law_2193 rfl (fun _ => ?_) (fun hc => absurd rfl hc)
  refine z_iload (pc := 2198) (i := 5) dL_law_2198 rfl ?_
  refine z_if_ne (pc := 2200) 2215 dL_law_2200 rfl (fun hc => ?_) (fun hc => ?_)
  · refine z_goto (pc := 2215) 2313 dL_law_2215 rfl ?_
    exact z_less [some (sr (some b)), some (sr (some x)), some (sr (some m)), some (sr (some o)), some (si (nI i)), none, none] law_less (kk h2 q2)
  · refine z_aload_n (pc := 2203) (i := 3) dL_law_2203 rfl rfl ?_
    refine z_iconst (pc := 2204) (v := 0) dL_law_2204 rfl ?_
    refine z_lald (pc := 2205) dL_law_2205 (by rw [m5]) (by rw [m5]; exact in0) ?_
    have hv : hJ (M h2) o (0 : Int32).toNatClampNeg = i2l9 r.2.1 := (show hJ (M h2) o 0 = _ by rw [m6]; exact hA.out (by decide) hc q2)
    rw [hv]
    refine z_iload (pc := 2206) (i := 6) dL_law_2206 rfl ?_
    refine z_i2l (pc := 2208) dL_law_2208 ?_
    refine z_lcmp (pc := 2209) dL_law_2209 ?_
    refine z_if_eq (pc := 2210) 2215 dL_law_2210 rfl (fun _ => ?_) (fun hc9 => absurd (lg_self _) hc9)
    refine z_goto (pc := 2215) 2313 dL_law_2215 rfl ?_
    exact z_less [some (sr (some b)), some (sr (some x)), some (sr (some m)), some (sr (some o)), some (si (nI i)), none, none] law_less (kk h2 q2)
theorem dL_law_2218 : decode cL_law 2218 = .ok (.aload_n 1, 1) := by decide +kernel
theorem dL_law_2219 : decode cL_law 2219 = .ok (.invokevirtual 258, 3) := by decide +kernel
theorem dL_law_2222 : decode cL_law 2222 = .ok (.aload_n 2, 1) := by decide +kernel
theorem dL_law_2223 : decode cL_law 2223 = .ok (.invokevirtual 261, 3) := by decide +kernel
theorem dL_law_2226 : decode cL_law 2226 = .ok (.if_icmp .eq 87, 3) := by decide +kernel
theorem lkL_258 : Cond.methodLink RL 258 yX10_heard ∈ XW := xw 584 (by decide +kernel) rfl
theorem lkL_261 : Cond.methodLink RL 261 yX11_heard ∈ XW := xw 2007 (by decide +kernel) rfl
theorem kL_heard {nm : String} {hh : List (Nat × Nat × Nat × Nat)} {G : gG} {b L x m o i : Nat} {xs : Nat → Int32} {h h2 : hp} {Q : hQ} {K N : Nat} (v : Int32) (hx : (hT h x).1 = 10) (hS : ∀ Q1 : hQ, Q1 (.inl (some (si v))) h → gS G mX10_heard 0 0 0 [sr (some x)] h Q1) (hm : (hT h m).1 = 11) (hM : ∀ Q1 : hQ, Q1 (.inl (some (si v))) h2 → gS G mX11_heard 0 0 0 [sr (some m)] h Q1) (kk : gZ (LF b L xs) G (mLw nm hh) 60 Q 2313 [some (sr (some b)), some (sr (some x)), some (sr (some m)), some (sr (some o)), some (si (nI i)), none, none] [] K N h2) : gZ (LF b L xs) G (mLw nm hh) 60 Q 2218 [some (sr (some b)), some (sr (some x)), some (sr (some m)), some (sr (some o)), some (si (nI i)), none, none] [] K N h := by
  refine z_aload_n (pc := 2218) (i := 1) dL_law_2218 rfl rfl ?_
  refine z_room (k' := 0 + K) (n' := 0 + N) (by omega) (by omega) ?_
  refine y_V (pc := 2219) (as := []) (st := []) (ci := 9) (N := mX10_heard) (k := K) (n := N) (k1 := 0) (n1 := 0) dL_law_2219 lkL_258 caX10_heard cvX10_heard rfl (by decide) rfl hx (hS (fun o9 h9 => o9 = .inl (some (si v)) ∧ h9 = h) ⟨rfl, rfl⟩) ⟨by decide, by decide⟩ (Nat.le_of_ble_eq_true rfl) (fun v9 h3 q => ?_) (fun E h3 q => nomatch q.1)
  obtain ⟨q1, rfl⟩ := q
  have q3 : v9 = some (si v) := Sum.inl.inj q1
  subst q3
  show gZ (LF b L xs) G (mLw nm hh) 60 Q 2222 [some (sr (some b)), some (sr (some x)), some (sr (some m)), some (sr (some o)), some (si (nI i)), none, none] [si v] K N h3
  refine z_aload_n (pc := 2222) (i := 2) dL_law_2222 rfl rfl ?_
  refine z_room (k' := 0 + K) (n' := 0 + N) (by omega) (by omega) ?_
  refine y_V (pc := 2223) (as := []) (st := [si v]) (ci := 10) (N := mX11_heard) (k := K) (n := N) (k1 := 0) (n1 := 0) dL_law_2223 lkL_261 caX11_heard cvX11_heard rfl (by decide) rfl hm (hM (fun o9 h9 => o9 = .inl (some (si v)) ∧ h9 = h2) ⟨rfl, rfl⟩) ⟨by decide, by decide⟩ (Nat.le_of_ble_eq_true rfl) (fun v9 h4 q => ?_) (fun E h4 q => nomatch q.1)
  obtain ⟨q1, rfl⟩ := q
  have q3 : v9 = some (si v) := Sum.inl.inj q1
  subst q3
  show gZ (LF b L xs) G (mLw nm hh) 60 Q 2226 [some (sr (some b)), some (sr (some x)), some (sr (some m)), some (sr (some o)), some (si (nI i)), none, none] [si v, si v] K N h4
  refine z_icmp_eq (pc := 2226) 2313 dL_law_2226 rfl (fun _ => ?_) (fun hc => absurd rfl hc)
  exact kk
theorem dL_law_2231 : decode cL_law 2231 = .ok (.aload_n 1, 1) := by decide +kernel
theorem dL_law_2232 : decode cL_law 2232 = .ok (.aload_n 0, 1) := by decide +kernel
theorem dL_law_2233 : decode cL_law 2233 = .ok (.iload 4, 2) := by decide +kernel
theorem dL_law_2235 : decode cL_law 2235 = .ok (.iconst 1, 1) := by decide +kernel
theorem dL_law_2236 : decode cL_law 2236 = .ok (.iadd, 1) := by decide +kernel
theorem dL_law_2237 : decode cL_law 2237 = .ok (.iaload, 1) := by decide +kernel
theorem dL_law_2238 : decode cL_law 2238 = .ok (.aload_n 3, 1) := by decide +kernel
theorem dL_law_2239 : decode cL_law 2239 = .ok (.invokestatic 262, 3) := by decide +kernel
theorem dL_law_2242 : decode cL_law 2242 = .ok (.istore 5, 2) := by decide +kernel
theorem dL_law_2244 : decode cL_law 2244 = .ok (.aload_n 2, 1) := by decide +kernel
theorem dL_law_2245 : decode cL_law 2245 = .ok (.aload_n 0, 1) := by decide +kernel
theorem dL_law_2246 : decode cL_law 2246 = .ok (.iload 4, 2) := by decide +kernel
theorem dL_law_2248 : decode cL_law 2248 = .ok (.iconst 1, 1) := by decide +kernel
theorem dL_law_2249 : decode cL_law 2249 = .ok (.iadd, 1) := by decide +kernel
theorem dL_law_2250 : decode cL_law 2250 = .ok (.iaload, 1) := by decide +kernel
theorem dL_law_2251 : decode cL_law 2251 = .ok (.invokevirtual 264, 3) := by decide +kernel
theorem dL_law_2254 : decode cL_law 2254 = .ok (.istore 6, 2) := by decide +kernel
theorem dL_law_2256 : decode cL_law 2256 = .ok (.aload_n 2, 1) := by decide +kernel
theorem dL_law_2257 : decode cL_law 2257 = .ok (.invokevirtual 123, 3) := by decide +kernel
theorem dL_law_2260 : decode cL_law 2260 = .ok (.iload 5, 2) := by decide +kernel
theorem dL_law_2262 : decode cL_law 2262 = .ok (.if_icmp .eq 5, 3) := by decide +kernel
theorem dL_law_2267 : decode cL_law 2267 = .ok (.iload 5, 2) := by decide +kernel
theorem dL_law_2269 : decode cL_law 2269 = .ok (.ifCond .ne 15, 3) := by decide +kernel
theorem dL_law_2272 : decode cL_law 2272 = .ok (.aload_n 3, 1) := by decide +kernel
theorem dL_law_2273 : decode cL_law 2273 = .ok (.iconst 0, 1) := by decide +kernel
theorem dL_law_2274 : decode cL_law 2274 = .ok (.laload, 1) := by decide +kernel
theorem dL_law_2275 : decode cL_law 2275 = .ok (.iload 6, 2) := by decide +kernel
theorem dL_law_2277 : decode cL_law 2277 = .ok (.i2l, 1) := by decide +kernel
theorem dL_law_2278 : decode cL_law 2278 = .ok (.lcmp, 1) := by decide +kernel
theorem dL_law_2279 : decode cL_law 2279 = .ok (.ifCond .eq 5, 3) := by decide +kernel
theorem dL_law_2284 : decode cL_law 2284 = .ok (.goto 29, 3) := by decide +kernel
theorem lkL_262 : Cond.methodLink RL 262 yL_heardAt ∈ XW := xw 1379 (by decide +kernel) rfl
theorem lkL_264 : Cond.methodLink RL 264 yX11_heardAt ∈ XW := xw 2011 (by decide +kernel) rfl
theorem kL_heardAt {nm : String} {hh : List (Nat × Nat × Nat × Nat)} {G : gG} {b L x m o i : Nat} {xs : Nat → Int32} {h h' : hp} {Q : hQ} {K N : Nat} {M : hp → hp} (a : Int32 ⊕ String) (r : aS) (hb : ¬ gb G ≤ b) (hL : L ≤ 2048) (hi : i + 4 ≤ L) (hx : (hT h x).1 = 10) (ho : hT h' o = (24, 1)) (hS : ∀ Q1 : hQ, Q1 (oA a) h' → gS G mX10_heardAt 6 1 6 [sr (some x), si (xs (i + 1))] h Q1) (hA : An [exI] a r) (hM : ∀ h2, HH h' o i2l9 a h2 → MM G mX11_heardAt 1 [si (xs (i + 1))] m o r M h2) (kk : ∀ h2, HH h' o i2l9 a h2 → gZ (LF b L xs) G (mLw nm hh) 60 Q 2313 [some (sr (some b)), some (sr (some x)), some (sr (some m)), some (sr (some o)), some (si (nI i)), none, none] [] K N (M h2)) : gZ (LF b L xs) G (mLw nm hh) 60 Q 2231 [some (sr (some b)), some (sr (some x)), some (sr (some m)), some (sr (some o)), some (si (nI i)), none, none] [] (1 + K) (6 + N) h := by
  refine z_aload_n (pc := 2231) (i := 1) dL_law_2231 rfl rfl ?_
  refine y_arg (pc := 2232) (i := i) 1 hb hL hi (by decide) rfl dL_law_2232 dL_law_2233 dL_law_2235 dL_law_2236 dL_law_2237 rfl rfl ?_
  refine z_aload_n (pc := 2238) (i := 3) dL_law_2238 rfl rfl ?_
  refine y_X (pc := 2239) (as := [sr (some x), si (xs (i + 1)), sr (some o)]) (st := []) (N := mL_heardAt) (k := K) (n := N) (k1 := 1) (n1 := 6) (fun _ z => z.1) dL_law_2239 lkL_262 caL_heardAt rfl (wL_heardAt a hx ho hS (hA.wr o i2l9 h')) ⟨by decide, by decide⟩ (Nat.le_of_ble_eq_true rfl) (fun v h2 q => ?_) (fun E h2 q => nomatch q.1)
  obtain ⟨q1, q2⟩ := q
  have q3 : v = some (si r.1) := Sum.inl.inj q1
  subst q3
  show gZ (LF b L xs) G (mLw nm hh) 60 Q 2242 [some (sr (some b)), some (sr (some x)), some (sr (some m)), some (sr (some o)), some (si (nI i)), none, none] [si r.1] K N h2
  obtain ⟨m1, m2, m3, m4, m5, m6⟩ := hM h2 q2
  refine z_istore (pc := 2242) (i := 5) [some (sr (some b)), some (sr (some x)), some (sr (some m)), some (sr (some o)), some (si (nI i)), some (si r.1), none] dL_law_2242 (show 5 < 7 by decide) rfl rfl ?_
  refine z_aload_n (pc := 2244) (i := 2) dL_law_2244 rfl rfl ?_
  refine y_arg (pc := 2245) (i := i) 1 hb hL hi (by decide) rfl dL_law_2245 dL_law_2246 dL_law_2248 dL_law_2249 dL_law_2250 rfl rfl ?_
  refine z_room (k' := 0 + K) (n' := 0 + N) (by omega) (by omega) ?_
  refine y_V (pc := 2251) (as := [si (xs (i + 1))]) (st := []) (ci := 10) (N := mX11_heardAt) (k := K) (n := N) (k1 := 0) (n1 := 0) dL_law_2251 lkL_264 caX11_heardAt cvX11_heardAt rfl (by decide) rfl m1 (m2 (fun o9 h9 => o9 = .inl (some (si r.2.1)) ∧ h9 = M h2) ⟨rfl, rfl⟩) ⟨by decide, by decide⟩ (Nat.le_of_ble_eq_true rfl) (fun v h3 q => ?_) (fun E h3 q => nomatch q.1)
  obtain ⟨q1, rfl⟩ := q
  have q3 : v = some (si r.2.1) := Sum.inl.inj q1
  subst q3
  show gZ (LF b L xs) G (mLw nm hh) 60 Q 2254 [some (sr (some b)), some (sr (some x)), some (sr (some m)), some (sr (some o)), some (si (nI i)), some (si r.1), none] [si r.2.1] K N (M h2)
  refine z_istore (pc := 2254) (i := 6) [some (sr (some b)), some (sr (some x)), some (sr (some m)), some (sr (some o)), some (si (nI i)), some (si r.1), some (si r.2.1)] dL_law_2254 (show 6 < 7 by decide) rfl rfl ?_
  refine z_aload_n (pc := 2256) (i := 2) dL_law_2256 rfl rfl ?_
  refine z_room (k' := 0 + K) (n' := 0 + N) (by omega) (by omega) ?_
  refine y_V (pc := 2257) (as := []) (st := []) (ci := 10) (N := mX11_thrown) (k := K) (n := N) (k1 := 0) (n1 := 0) dL_law_2257 lkL_123 caX11_thrown cvX11_thrown rfl (by decide) rfl m3 (m4 (fun o9 h9 => o9 = .inl (some (si r.1)) ∧ h9 = M h2) ⟨rfl, rfl⟩) ⟨by decide, by decide⟩ (Nat.le_of_ble_eq_true rfl) (fun v h3 q => ?_) (fun E h3 q => nomatch q.1)
  obtain ⟨q1, rfl⟩ := q
  have q3 : v = some (si r.1) := Sum.inl.inj q1
  subst q3
  show gZ (LF b L xs) G (mLw nm hh) 60 Q 2260 [some (sr (some b)), some (sr (some x)), some (sr (some m)), some (sr (some o)), some (si (nI i)), some (si r.1), some (si r.2.1)] [si r.1] K N (M h2)
  refine z_iload (pc := 2260) (i := 5) dL_law_2260 rfl ?_
  refine z_icmp_eq (pc := 2262) 2267 dL_law_2262 rfl (fun _ => ?_) (fun hc => absurd rfl hc)
  refine z_iload (pc := 2267) (i := 5) dL_law_2267 rfl ?_
  refine z_if_ne (pc := 2269) 2284 dL_law_2269 rfl (fun hc => ?_) (fun hc => ?_)
  · refine z_goto (pc := 2284) 2313 dL_law_2284 rfl ?_
    exact z_less [some (sr (some b)), some (sr (some x)), some (sr (some m)), some (sr (some o)), some (si (nI i)), none, none] law_less (kk h2 q2)
  · refine z_aload_n (pc := 2272) (i := 3) dL_law_2272 rfl rfl ?_
    refine z_iconst (pc := 2273) (v := 0) dL_law_2273 rfl ?_
    refine z_lald (pc := 2274) dL_law_2274 (by rw [m5]) (by rw [m5]; exact in0) ?_
    have hv : hJ (M h2) o (0 : Int32).toNatClampNeg = i2l9 r.2.1 := (show hJ (M h2) o 0 = _ by rw [m6]; exact hA.out (by decide) hc q2)
    rw [hv]
    refine z_iload (pc := 2275) (i := 6) dL_law_2275 rfl ?_
    refine z_i2l (pc := 2277) dL_law_2277 ?_
    refine z_lcmp (pc := 2278) dL_law_2278 ?_
    refine z_if_eq (pc := 2279) 2284 dL_law_2279 rfl (fun _ => ?_) (fun hc9 => absurd (lg_self _) hc9)
    refine z_goto (pc := 2284) 2313 dL_law_2284 rfl ?_
    exact z_less [some (sr (some b)), some (sr (some x)), some (sr (some m)), some (sr (some o)), some (si (nI i)), none, none] law_less (kk h2 q2)
theorem dL_law_2287 : decode cL_law 2287 = .ok (.aload_n 1, 1) := by decide +kernel
theorem dL_law_2288 : decode cL_law 2288 = .ok (.invokevirtual 265, 3) := by decide +kernel
theorem dL_law_2291 : decode cL_law 2291 = .ok (.aload_n 2, 1) := by decide +kernel
theorem dL_law_2292 : decode cL_law 2292 = .ok (.invokevirtual 268, 3) := by decide +kernel
theorem dL_law_2295 : decode cL_law 2295 = .ok (.if_icmp .eq 18, 3) := by decide +kernel
theorem lkL_265 : Cond.methodLink RL 265 yX10_dropped ∈ XW := xw 588 (by decide +kernel) rfl
theorem lkL_268 : Cond.methodLink RL 268 yX11_dropped ∈ XW := xw 2015 (by decide +kernel) rfl
theorem kL_dropped {nm : String} {hh : List (Nat × Nat × Nat × Nat)} {G : gG} {b L x m o i : Nat} {xs : Nat → Int32} {h h2 : hp} {Q : hQ} {K N : Nat} (v : Int32) (hx : (hT h x).1 = 10) (hS : ∀ Q1 : hQ, Q1 (.inl (some (si v))) h → gS G mX10_dropped 0 0 0 [sr (some x)] h Q1) (hm : (hT h m).1 = 11) (hM : ∀ Q1 : hQ, Q1 (.inl (some (si v))) h2 → gS G mX11_dropped 0 0 0 [sr (some m)] h Q1) (kk : gZ (LF b L xs) G (mLw nm hh) 60 Q 2313 [some (sr (some b)), some (sr (some x)), some (sr (some m)), some (sr (some o)), some (si (nI i)), none, none] [] K N h2) : gZ (LF b L xs) G (mLw nm hh) 60 Q 2287 [some (sr (some b)), some (sr (some x)), some (sr (some m)), some (sr (some o)), some (si (nI i)), none, none] [] K N h := by
  refine z_aload_n (pc := 2287) (i := 1) dL_law_2287 rfl rfl ?_
  refine z_room (k' := 0 + K) (n' := 0 + N) (by omega) (by omega) ?_
  refine y_V (pc := 2288) (as := []) (st := []) (ci := 9) (N := mX10_dropped) (k := K) (n := N) (k1 := 0) (n1 := 0) dL_law_2288 lkL_265 caX10_dropped cvX10_dropped rfl (by decide) rfl hx (hS (fun o9 h9 => o9 = .inl (some (si v)) ∧ h9 = h) ⟨rfl, rfl⟩) ⟨by decide, by decide⟩ (Nat.le_of_ble_eq_true rfl) (fun v9 h3 q => ?_) (fun E h3 q => nomatch q.1)
  obtain ⟨q1, rfl⟩ := q
  have q3 : v9 = some (si v) := Sum.inl.inj q1
  subst q3
  show gZ (LF b L xs) G (mLw nm hh) 60 Q 2291 [some (sr (some b)), some (sr (some x)), some (sr (some m)), some (sr (some o)), some (si (nI i)), none, none] [si v] K N h3
  refine z_aload_n (pc := 2291) (i := 2) dL_law_2291 rfl rfl ?_
  refine z_room (k' := 0 + K) (n' := 0 + N) (by omega) (by omega) ?_
  refine y_V (pc := 2292) (as := []) (st := [si v]) (ci := 10) (N := mX11_dropped) (k := K) (n := N) (k1 := 0) (n1 := 0) dL_law_2292 lkL_268 caX11_dropped cvX11_dropped rfl (by decide) rfl hm (hM (fun o9 h9 => o9 = .inl (some (si v)) ∧ h9 = h2) ⟨rfl, rfl⟩) ⟨by decide, by decide⟩ (Nat.le_of_ble_eq_true rfl) (fun v9 h4 q => ?_) (fun E h4 q => nomatch q.1)
  obtain ⟨q1, rfl⟩ := q
  have q3 : v9 = some (si v) := Sum.inl.inj q1
  subst q3
  show gZ (LF b L xs) G (mLw nm hh) 60 Q 2295 [some (sr (some b)), some (sr (some x)), some (sr (some m)), some (sr (some o)), some (si (nI i)), none, none] [si v, si v] K N h4
  refine z_icmp_eq (pc := 2295) 2313 dL_law_2295 rfl (fun _ => ?_) (fun hc => absurd rfl hc)
  exact kk
theorem dL_law_2300 : decode cL_law 2300 = .ok (.aload_n 1, 1) := by decide +kernel
theorem dL_law_2301 : decode cL_law 2301 = .ok (.invokevirtual 269, 3) := by decide +kernel
theorem dL_law_2304 : decode cL_law 2304 = .ok (.aload_n 2, 1) := by decide +kernel
theorem dL_law_2305 : decode cL_law 2305 = .ok (.invokevirtual 272, 3) := by decide +kernel
theorem dL_law_2308 : decode cL_law 2308 = .ok (.if_icmp .eq 5, 3) := by decide +kernel
theorem lkL_269 : Cond.methodLink RL 269 yX10_swallowed ∈ XW := xw 592 (by decide +kernel) rfl
theorem lkL_272 : Cond.methodLink RL 272 yX11_swallowed ∈ XW := xw 2019 (by decide +kernel) rfl
theorem kL_swallowed {nm : String} {hh : List (Nat × Nat × Nat × Nat)} {G : gG} {b L x m o i : Nat} {xs : Nat → Int32} {h h2 : hp} {Q : hQ} {K N : Nat} (v : Int32) (hx : (hT h x).1 = 10) (hS : ∀ Q1 : hQ, Q1 (.inl (some (si v))) h → gS G mX10_swallowed 0 0 0 [sr (some x)] h Q1) (hm : (hT h m).1 = 11) (hM : ∀ Q1 : hQ, Q1 (.inl (some (si v))) h2 → gS G mX11_swallowed 0 0 0 [sr (some m)] h Q1) (kk : gZ (LF b L xs) G (mLw nm hh) 60 Q 2313 [some (sr (some b)), some (sr (some x)), some (sr (some m)), some (sr (some o)), some (si (nI i)), none, none] [] K N h2) : gZ (LF b L xs) G (mLw nm hh) 60 Q 2300 [some (sr (some b)), some (sr (some x)), some (sr (some m)), some (sr (some o)), some (si (nI i)), none, none] [] K N h := by
  refine z_aload_n (pc := 2300) (i := 1) dL_law_2300 rfl rfl ?_
  refine z_room (k' := 0 + K) (n' := 0 + N) (by omega) (by omega) ?_
  refine y_V (pc := 2301) (as := []) (st := []) (ci := 9) (N := mX10_swallowed) (k := K) (n := N) (k1 := 0) (n1 := 0) dL_law_2301 lkL_269 caX10_swallowed cvX10_swallowed rfl (by decide) rfl hx (hS (fun o9 h9 => o9 = .inl (some (si v)) ∧ h9 = h) ⟨rfl, rfl⟩) ⟨by decide, by decide⟩ (Nat.le_of_ble_eq_true rfl) (fun v9 h3 q => ?_) (fun E h3 q => nomatch q.1)
  obtain ⟨q1, rfl⟩ := q
  have q3 : v9 = some (si v) := Sum.inl.inj q1
  subst q3
  show gZ (LF b L xs) G (mLw nm hh) 60 Q 2304 [some (sr (some b)), some (sr (some x)), some (sr (some m)), some (sr (some o)), some (si (nI i)), none, none] [si v] K N h3
  refine z_aload_n (pc := 2304) (i := 2) dL_law_2304 rfl rfl ?_
  refine z_room (k' := 0 + K) (n' := 0 + N) (by omega) (by omega) ?_
  refine y_V (pc := 2305) (as := []) (st := [si v]) (ci := 10) (N := mX11_swallowed) (k := K) (n := N) (k1 := 0) (n1 := 0) dL_law_2305 lkL_272 caX11_swallowed cvX11_swallowed rfl (by decide) rfl hm (hM (fun o9 h9 => o9 = .inl (some (si v)) ∧ h9 = h2) ⟨rfl, rfl⟩) ⟨by decide, by decide⟩ (Nat.le_of_ble_eq_true rfl) (fun v9 h4 q => ?_) (fun E h4 q => nomatch q.1)
  obtain ⟨q1, rfl⟩ := q
  have q3 : v9 = some (si v) := Sum.inl.inj q1
  subst q3
  show gZ (LF b L xs) G (mLw nm hh) 60 Q 2308 [some (sr (some b)), some (sr (some x)), some (sr (some m)), some (sr (some o)), some (si (nI i)), none, none] [si v, si v] K N h4
  refine z_icmp_eq (pc := 2308) 2313 dL_law_2308 rfl (fun _ => ?_) (fun hc => absurd rfl hc)
  exact kk

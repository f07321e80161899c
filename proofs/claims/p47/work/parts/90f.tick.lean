/-! ===== the class's ticks ===== -/
/-- what is kept waits for news that were told -/
def WKN (S : SS) : Prop := ∀ i, 0 < (sL S 17 i).length → sI S 15 i ≠ -1
theorem WKN.cg {S S' : SS} (h : WKN S) (h15 : sI S' 15 = sI S 15) (h17 : sL S' 17 = sL S 17) : WKN S' := by
  unfold WKN
  rw [h15, h17]; exact h
theorem WKN.sd {S S' : SS} {ki kl kq : List Nat} (h : WKN S) (hs : Sd ki kl kq S S') (h1 : (decide (15 ∉ ki) && decide (17 ∉ kl)) = true) : WKN S' := by
  rw [Bool.and_eq_true] at h1
  exact h.cg (hs.i 15 h1.1) (hs.l 17 h1.2)
theorem WKN.kswl {S : SS} (h : WKN S) (r : Nat) : WKN (swl S r) := fun i hi => by
  rw [swl_17] at hi
  rw [(sd_swl S r).i 15 rfl]
  by_cases q : i = r
  · rw [if_pos q] at hi
    exact absurd hi (Nat.lt_irrefl 0)
  · rw [if_neg q] at hi
    exact h i hi
theorem WKN.w15 {S : SS} (h : WKN S) {r : Nat} {v : Int32} (hv : v ≠ -1) : WKN (wSI S 15 r v) := fun i hi => by
  rw [sI_I]
  by_cases q : i = r
  · rw [if_pos ⟨rfl, q⟩]; exact hv
  · rw [if_neg (fun z => q z.2)]
    exact h i hi
theorem WKN.w17 {S : SS} (h : WKN S) {r : Nat} : WKN (wSL S 17 r []) := fun i hi => by
  rw [sL_L] at hi
  by_cases q : i = r
  · rw [if_pos ⟨rfl, q⟩] at hi
    exact absurd hi (Nat.lt_irrefl 0)
  · rw [if_neg (fun z => q z.2)] at hi
    exact h i hi
theorem WKN.ktel {S : SS} (h : WKN S) (hn : sI S 46 0 ≠ -1) (o : Option Nat) (t : List Int32) : WKN (tel S o t) := by
  cases o with
  | none => exact h
  | some r =>
    show WKN (if t.length = 0 ∨ sI S 14 r = 0 then S else if sI S 14 r = 2 then cAl S t else if canN S r = true then cNews (wSI S 15 r (sI S 46 0)) t else wSL (swl S r) 17 r t)
    by_cases q0 : t.length = 0 ∨ sI S 14 r = 0
    · rw [if_pos q0]; exact h
    · rw [if_neg q0]
      by_cases q1 : sI S 14 r = 2
      · rw [if_pos q1]
        exact h.sd (sd_cAl S t) rfl
      · rw [if_neg q1]
        by_cases q2 : canN S r = true
        · rw [if_pos q2]
          exact (h.w15 hn).sd (sd_cNews _ t) rfl
        · rw [if_neg q2]
          intro i hi
          rw [sL_L] at hi
          show sI (swl S r) 15 i ≠ -1
          by_cases q : i = r
          · rw [(sd_swl S r).i 15 rfl, q]
            intro z
            exact q2 (decide_eq_true (Or.inl z))
          · rw [if_neg (fun z => q z.2)] at hi
            exact h.kswl r i hi
theorem WKN.ktelW {S : SS} (h : WKN S) (hn : sI S 46 0 ≠ -1) (i : Nat) : WKN (telW S i) := by
  unfold telW
  split
  · exact h.ktel hn _ _
  · exact h
theorem WKN.kkpt1 {S : SS} (h : WKN S) (hn : sI S 46 0 ≠ -1) (r : Nat) : WKN (kpt1 S r) := by
  unfold kpt1
  split
  · exact h
  · split
    · exact (WKN.w15 (h.w17 (r := r)) hn).sd (sd_cNews _ _) rfl
    · exact h.kswl r
theorem WKN.kkptF {S : SS} (h : WKN S) (hn : sI S 46 0 ≠ -1) : ∀ n, WKN (kptF S n)
  | 0 => h
  | n + 1 => by
    rw [kptF_s]
    refine (h.kkptF hn n).kkpt1 ?_ n
    rw [(sd_kptF S n).i 46 rfl]; exact hn
theorem WKN.ktck1 {S : SS} (h : WKN S) {c : Nat} (hN : WN S c) (hc : c < 2000000) : WKN (tck1 S) := by
  obtain ⟨n, n1, n2⟩ := hN.1
  have h0 : WKN (wSI S 46 0 (sI S 46 0 + 1)) := h.sd (Sd.I (ki := [46]) (kl := []) (kq := []) (by decide)) rfl
  have h1 := h0.kkptF (by rw [sI_I, if_pos ⟨rfl, rfl⟩, n2, nI_1]; exact nI_m1 (by omega)) (made (wSI S 46 0 (sI S 46 0 + 1)))
  exact (h1.sd (sd_bgnI _) rfl).sd (sd_spkI _) rfl
theorem WKN.ktckN {S : SS} {c : Nat} (h : WKN S) (hI : Inv S c) : ∀ n, c + 2 * n < 2000000 → WKN (tckN S n)
  | 0, _ => h
  | n + 1, hc => (h.ktckN hI n (by omega)).ktck1 (hI.kTick n).1.2.2.1 (by omega)
theorem cNews_17 {T : SS} {r : Nat} (t : List Int32) : cNews (wSL T 17 r []) t = wSL (cNews T t) 17 r [] := by
  unfold cNews
  by_cases q : (sQ T 30).length = 5
  · rw [if_pos q, if_pos (show (sQ (wSL T 17 r []) 30).length = 5 from q)]; rfl
  · rw [if_neg q, if_neg (show ¬ (sQ (wSL T 17 r []) 30).length = 5 from q)]; rfl
section TK
variable {B : Nat} {E : Nat → Nat} {S : SS} {li : List Int32} {od : List Nat} {h h' : hp}
theorem g_come (x : RW B E S li od h) (hP : PW S) (h5 : (sQ S 30).length ≤ 5) {n : Nat} (hn : n < 2 ^ 31) (hN : sI S 46 0 = nI n) {r : Nat} (hr : r < made S) (h0 : 0 < (sL S 17 r).length) (ht : (sL S 17 r).length ≤ 80) : ∃ h', fX6_letKeptCome (B + 76) (some (E r)) h = some ((), h') ∧ RW B E (if shn S r = true then cNews (wSI (wSL S 17 r []) 15 r (sI S 46 0)) (sL S 17 r) else swl S r) li od h' := by
  unfold fX6_letKeptCome
  rw [x.es.ob hr, sb, e_shown x.es hP hr, sb, bI_i]
  by_cases q : shn S r = true
  · have far : (E r = B + 2 ∨ B + 96 ≤ E r) := by
      rcases Nat.eq_zero_or_pos r with z | z
      · subst z
        exact Or.inl x.2.1.1
      · exact Or.inr (x.2.1.2.2.1 r z hr).1
    obtain ⟨h1, a1, x1⟩ := g_news x h5 hn hN hr (x.es.ck hr) (by omega) ⟨by omega, by omega⟩ h0 ht
    have hs : Sd [15, 44] [] [30] S (cNews (wSI S 15 r (sI S 46 0)) (sL S 17 r)) := Sd.tr (Sd.I (by decide)) ((sd_cNews _ _).mono (by decide))
    have hr1 : r < made (cNews (wSI S 15 r (sI S 46 0)) (sL S 17 r)) := by rw [made_cg (hs.i 0 rfl)]; exact hr
    obtain ⟨h2, a2, c2, g2⟩ := c_clear (x1.es.ck hr1)
    have x2 := x1.w17 hr1 g2 c2
    rw [← cNews_17] at x2
    rw [if_pos q, if_pos q, x.es.kept hr, sb, x.fo (o := 76) (t := 5) (by decide), sb, a1, o2s, x1.es.kept hr1, sb, (x1.es.ck hr1).ob, sb, a2, o2s]
    exact ⟨h2, rfl, x2⟩
  · obtain ⟨h1, a1, x1, -⟩ := g_swl x hr
    rw [if_neg q, if_neg q, x.fo (o := 76) (t := 5) (by decide), sb, a1, o2s]
    exact ⟨h1, rfl, x1⟩
theorem g_pass (x : RW B E S li od h) (hW : WT S) (hL : WL S) (hV : WV S) {c : Nat} (hN : WN S c) (hc : c < 2000000) (hk : WKN S) (hx : WXk S) : ∃ h', fX6_passTick (B + 76) h = some ((), h') ∧ RW B E (kpt (wSI S 46 0 (sI S 46 0 + 1))) li od h' := by
  have h40 := hW.pw.2.1
  obtain ⟨n, n1, n2⟩ := hN.1
  have e3 : oGI 5 3 (some (B + 76)) h = some (sI S 46 0) := x.fi (o := 76) (f := 3) (k := 46) (by decide) (by decide)
  have x0 := x.num (o := 76) (f := 3) (k := 46) (by decide) (by decide) (sI S 46 0 + 1)
  have s0 : Sd [46] [] [] S (wSI S 46 0 (sI S 46 0 + 1)) := Sd.I (by decide)
  have hW0 : WT (wSI S 46 0 (sI S 46 0 + 1)) := WT.cg (s0.i 0 rfl) (s0.i 1 rfl) (s0.i 2 rfl) (s0.i 3 rfl) (s0.i 12 rfl) s0.2.2.2 hW
  have hL0 : WL (wSI S 46 0 (sI S 46 0 + 1)) := hL.sd s0 rfl rfl rfl
  have hV0 : WV (wSI S 46 0 (sI S 46 0 + 1)) := hV.i (by decide) (by decide)
  have hk0 : WKN (wSI S 46 0 (sI S 46 0 + 1)) := hk.sd s0 rfl
  have hx0 : WXk (wSI S 46 0 (sI S 46 0 + 1)) := hx.cg (s0.i 0 rfl) (s0.i 1 rfl) (s0.i 2 rfl) (s0.l 17 rfl)
  have hn0 : sI (wSI S 46 0 (sI S 46 0 + 1)) 46 0 = nI (n + 1) := by rw [sI_I, if_pos ⟨rfl, rfl⟩, n2, nI_1]
  have m0 : made (wSI S 46 0 (sI S 46 0 + 1)) = made S := made_cg (s0.i 0 rfl)
  have pre : fX6_passTick (B + 76) h = Option.bind (α := hp) (itr (fX6_passTick_B12 (B + 76)) FU (nI 0, wI h (B + 76) 3 (sI S 46 0 + 1))) fun q3 => some (((), q3)) := by
    unfold fX6_passTick
    rw [e3, sb, oPI_ok (x.1.t 76 6 (by decide)), sb]; rfl
  rw [pre]
  unfold kpt
  rw [← m0] at h40
  generalize wSI S 46 0 (sI S 46 0 + 1) = T at *
  generalize wI h (B + 76) 3 (sI S 46 0 + 1) = h0 at *
  have key : ∃ h', itr (fX6_passTick_B12 (B + 76)) FU (nI 0, h0) = some h' ∧ RW B E (kptF T (made T)) li od h' := by
    refine itr_for (R := fun h' => RW B E (kptF T (made T)) li od h') (fun j a => ∃ h', a = (nI j, h') ∧ RW B E (kptF T (min j (made T))) li od h') 40 (fun j a hj hX => ?_) (fun a hX => ?_) (FU_lt (by omega)) ⟨h0, rfl, by rw [Nat.zero_min]; exact x0⟩
    · obtain ⟨h', rfl, x1⟩ := hX
      have hs := sd_kptF T (min j (made T))
      have hm : made (kptF T (min j (made T))) = made T := made_cg (hs.i 0 rfl)
      have e0 : oGR 5 0 (some (B + 76)) h' = some (some (B + 1)) := x1.fp (by decide) (by decide)
      unfold fX6_passTick_B12
      rw [if_neg (show ¬ (40 : Int32) ≤ nI j from nI_ge (b := 40) hj (by decide))]
      show ∃ a', ((oGR 5 0 (some (B + 76)) h').bind _ = _) ∧ _
      rw [e0, sb]
      show ∃ a', ((oOb 6 (some (B + 1)) h').bind _ = _) ∧ _
      rw [x1.fo (o := 1) (t := 6) (by decide), sb]
      show ∃ a', ((fX7_find (B + 1) (nI j) h').bind _ = _) ∧ _
      rw [t_find x1 hj, sb, hm, (hs.i 1 rfl)]
      by_cases q : j < made T ∧ sI T 1 j ≠ 0
      · have hmin : min j (made T) = j := Nat.min_eq_left (by omega)
        have hmin2 : min (j + 1) (made T) = j + 1 := Nat.min_eq_left (by omega)
        rw [hmin] at x1 hs hm
        have hj1 : j < made (kptF T j) := by rw [hm]; exact q.1
        have hVj := (hV0.kkptF hL0 j)
        have hkj := hk0.kkptF (by rw [hn0]; exact nI_m1 (by omega)) j
        have ck := x1.es.ck hj1
        rw [if_pos q, if_neg (Option.some_ne_none _), hmin2, kptF_s]
        show ∃ a', ((oGR 1 12 (some (E j)) h').bind _ = _) ∧ _
        rw [x1.es.kept hj1, sb]
        show ∃ a', ((oOb 0 (some (E j + 6)) h').bind _ = _) ∧ _
        rw [ck.ob, sb]
        show ∃ a', ((fX1_size (E j + 6) h').bind _ = _) ∧ _
        rw [c_size ck, sb]
        have l80 := (hVj.2 j).2.2
        unfold kpt1
        by_cases w : (sL (kptF T j) 17 j).length = 0
        · rw [w, if_pos (show nI 0 ≤ 0 by decide), if_pos (Or.inl rfl)]
          refine ⟨(nI (j + 1), h'), ?_, h', rfl, x1⟩
          show some (Sum.inl (nI j + 1, h')) = _
          rw [nI_1]
        · have h15 := hkj j (by omega)
          have h7 : sI (kptF T j) 2 j = 7 := by
            rw [hs.i 2 rfl]
            rcases k17_kptF T j j with z | z
            · rw [z] at w
              exact (hx0 j (by omega)).1
            · rw [z] at w
              exact absurd rfl w
          rw [if_neg (nI_nle (by omega) (by omega))]
          show ∃ a', ((oOb 5 (some (B + 76)) h').bind _ = _) ∧ _
          rw [x1.fo (o := 76) (t := 5) (by decide), sb]
          show ∃ a', ((fX6_mayTellAgain (B + 76) (some (E j)) h').bind _ = _) ∧ _
          rw [g_may x1 hj1 h7 h15, sb, bI_i]
          by_cases u : canN (kptF T j) j = true
          · have hcn : ¬ ((sL (kptF T j) 17 j).length = 0 ∨ canN (kptF T j) j = false) := fun z => z.elim w (fun z => by rw [u] at z; cases z)
            obtain ⟨h2, a2, x2⟩ := g_come x1 (PW.cg (hs.i 0 rfl) (hs.i 3 rfl) hW0.pw) hVj.1.1 (n := n + 1) (by omega) (by rw [hs.i 46 rfl]; exact hn0) hj1 (by omega) l80
            rw [if_pos u, if_neg hcn]
            refine ⟨(nI (j + 1), h2), ?_, h2, rfl, x2⟩
            rw [sb]
            show o2 (fX6_letKeptCome (B + 76) (some (E j)) h') _ = _
            rw [a2, o2s]
            show some (Sum.inl (nI j + 1, h2)) = _
            rw [nI_1]
          · rw [if_neg u, if_pos (Or.inr (Bool.not_eq_true _ ▸ u))]
            refine ⟨(nI (j + 1), h'), ?_, h', rfl, x1⟩
            show some (Sum.inl (nI j + 1, h')) = _
            rw [nI_1]
      · rw [if_neg q, if_pos rfl]
        refine ⟨(nI (j + 1), h'), ?_, h', rfl, ?_⟩
        · show some (Sum.inl (nI j + 1, h')) = _
          rw [nI_1]
        · by_cases w : j < made T
          · have w0 : sI T 1 j = 0 := Classical.byContradiction (fun z => q ⟨w, z⟩)
            have hmin : min j (made T) = j := Nat.min_eq_left (by omega)
            have hmin2 : min (j + 1) (made T) = j + 1 := Nat.min_eq_left (by omega)
            rw [hmin] at x1 hs
            have hl : (sL (kptF T j) 17 j).length = 0 := by
              rcases k17_kptF T j j with z | z
              · rw [z]
                refine Classical.byContradiction (fun u => ?_)
                exact (hx0 j (by omega)).2.2 w0
              · rw [z]; rfl
            rw [hmin2, kptF_s]
            unfold kpt1
            rw [if_pos (Or.inl hl)]
            exact x1
          · rw [Nat.min_eq_right (show made T ≤ j + 1 by omega)]
            rw [Nat.min_eq_right (show made T ≤ j by omega)] at x1
            exact x1
    · obtain ⟨h', rfl, x1⟩ := hX
      rw [Nat.min_eq_right h40] at x1
      refine ⟨h', ?_, x1⟩
      unfold fX6_passTick_B12
      rw [if_pos (show (40 : Int32) ≤ nI 40 from Int32.le_refl _)]
  obtain ⟨h', k1, k2⟩ := key
  exact ⟨h', by rw [k1, sb], k2⟩
theorem g_tick1 (x : RW B E S li od h) (hW : WT S) (hL : WL S) (hV : WV S) {c : Nat} (hN : WN S c) (hc : c < 1000000) (hk : WKN S) (hx : WXk S) : ∃ h1 h2, fX6_passTick (B + 76) h = some ((), h1) ∧ RW B E (kpt (wSI S 46 0 (sI S 46 0 + 1))) li od h1 ∧ fX9_speak (B + 12) h1 = some ((), h2) ∧ RW B E (tck1 S) li od h2 := by
  obtain ⟨h1, a1, x1⟩ := g_pass x hW hL hV hN (by omega) hk hx
  obtain ⟨m, m1, m2⟩ := hN.2.1
  have s0 : Sd [46] [] [] S (wSI S 46 0 (sI S 46 0 + 1)) := Sd.I (by decide)
  have hV0 : WV (wSI S 46 0 (sI S 46 0 + 1)) := hV.i (by decide) (by decide)
  have hV1 := (hV0.kkptF (hL.sd s0 rfl rfl rfl) (made (wSI S 46 0 (sI S 46 0 + 1)))).1
  have h43 : sI (kpt (wSI S 46 0 (sI S 46 0 + 1))) 43 0 = nI m := by
    unfold kpt
    rw [(sd_kptF _ _).i 43 rfl, s0.i 43 rfl]; exact m2
  obtain ⟨h2, a2, x2⟩ := r_speak x1 hV1 (n := m) (by omega) h43
  exact ⟨h1, h2, a1, x1, a2, x2⟩
end TK

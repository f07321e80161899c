/-! ===== the class's keys ===== -/
theorem key_and : ∀ d, d < 512 → ∀ k, k < 9 → ((nI d &&& ((1 : Int32) <<< (nI k &&& 31))) = 0 ↔ ¬ ((nI d >>> (nI k &&& 31)) &&& (1 : Int32) = 1)) ∧ ((nI d >>> (nI k &&& 31)) &&& (1 : Int32) = 0 ↔ ¬ ((nI d >>> (nI k &&& 31)) &&& (1 : Int32) = 1)) ∧ ((nI d &&& ((1 : Int32) <<< (nI k &&& 31))) ≠ 0 → d ≠ 0) := by decide +kernel
theorem key_cnt : ∀ d, d < 512 → fJ6_bitCount_0f7a4 (nI d) = some (nI (bts d)) := by decide +kernel
section KY
variable {B : Nat} {E : Nat → Nat} {S : SS} {li : List Int32} {od : List Nat} {h h' : hp}
theorem c_keyBit (x : Int32) : fX10_keyBit x = some (if 0 ≤ x ∧ x ≤ 8 then .inl ((1 : Int32) <<< (x &&& 31)) else .inr exI) := by
  unfold fX10_keyBit
  by_cases q : x < 0
  · rw [if_pos q, if_neg (fun z => Int32.not_le.mpr q z.1)]; rfl
  · rw [if_neg q]
    by_cases w : x ≤ 8
    · rw [if_pos w, if_pos ⟨Int32.not_lt.mp q, w⟩]
    · rw [if_neg w, if_neg (fun z => w z.2)]; rfl
theorem k9 {x : Int32} (q : 0 ≤ x ∧ x ≤ 8) : ∃ k, k < 9 ∧ x = nI k := by
  obtain ⟨j, j1, rfl⟩ := nI_of (Int32.not_lt.mpr q.1)
  refine ⟨j, ?_, rfl⟩
  rcases Nat.lt_or_ge 8 j with w | w
  · exact absurd q.2 (nI_ge (a := 8) w j1)
  · omega
theorem RW.g5 (x : RW B E S li od h) : oGI 9 5 (some B) h = some (sI S 26 0) := x.fi (o := 0) (f := 5) (k := 26) (t := 9) (by decide) (by decide)
theorem C_press (x : RC B E S h) {c : Nat} (hv : Inv S c) (key : Int32) : CS B [exI, exS] (fX10_press B key h) (cPress S key) := by
  obtain ⟨d, e, d1, e1, d2, e2, de⟩ := hv.1.1.xp
  have t0 : (hT h B).1 = 9 + 1 := x.1.t 0 10 (by decide)
  unfold fX10_press cPress
  rw [c_keyBit]
  by_cases q : 0 ≤ key ∧ key ≤ 8
  · obtain ⟨k, k1, rfl⟩ := k9 q
    obtain ⟨u1, u2, u3⟩ := key_and d d1 k k1
    rw [if_pos q, oC_l, RW.g5 x, sb, if_neg (show ¬ ¬ ((0 : Int32) ≤ nI k ∧ nI k ≤ 8) from fun z => z q), d2]
    by_cases w : (nI d >>> (nI k &&& 31)) &&& (1 : Int32) = 1
    · rw [if_neg (fun z => u1.mp z w), if_pos w]
      exact CS.thr 1 x (by decide) rfl rfl
    · rw [if_pos (u1.mpr w), if_neg w, sb]
      obtain ⟨ob1, ob2, ob3⟩ := or_bit d d1 k k1
      have hq4 : (if nI d = 0 then (some ((1 : Int32) <<< (nI k &&& 31))) else (oGI 9 6 (some B) h).bind fun x6 => some (x6 ||| ((1 : Int32) <<< (nI k &&& 31)))) = some ((if sI S 26 0 = 0 then 0 else sI S 27 0) ||| ((1 : Int32) <<< (nI k &&& 31))) := by
        rw [d2]
        by_cases z : nI d = 0
        · rw [if_pos z, if_pos z, Int32.zero_or]
        · have e6 : oGI 9 6 (some B) h = some (sI S 27 0) := hgI t0 (x.2.2.1.2.2.1 (by rw [d2]; exact z))
          rw [if_neg z, if_neg z, e6, sb]
      rw [hq4, sb]
      generalize hch : (if sI S 26 0 = 0 then 0 else sI S 27 0) ||| ((1 : Int32) <<< (nI k &&& 31)) = ch
      have hprs : prs S (nI k) = wSI (wSI S 27 0 ch) 26 0 (nI (d ||| 2 ^ k)) := by
        unfold prs
        rw [hch, d2, ob1]
      have e5 : oGI 9 5 (some B) (wI h B 6 ch) = some (nI d) := hgI (show (hT (wI h B 6 ch) B).1 = 9 + 1 from t0) (by
        rw [hI_n _ _ _ (by decide)]
        have := x.2.2.1.n 0 5 26 (by decide)
        rw [Nat.add_zero] at this
        rw [this, d2])
      have e5' : oGI 9 5 (some B) (wI (wI h B 6 ch) B 5 (nI (d ||| 2 ^ k))) = some (nI (d ||| 2 ^ k)) := hgI (show (hT (wI (wI h B 6 ch) B 5 (nI (d ||| 2 ^ k))) B).1 = 9 + 1 from t0) (by rw [hI_s])
      have hs : Sd [26, 27] [] [] S (prs S (nI k)) := by
        rw [hprs]
        exact (Sd.I (by decide)).tr (Sd.I (by decide))
      have x1 : RW B E (prs S (nI k)) (ln S) (ord S) (wI (wI h B 6 ch) B 5 (nI (d ||| 2 ^ k))) := by
        refine RW.key x ((Ag.wI (List.mem_singleton.mpr rfl)).tr (Ag.wI (List.mem_singleton.mpr rfl))) rfl hs ?_ (fun _ => ?_)
        · rw [hI_s, hprs, sI_I, if_pos (show 26 = 26 ∧ 0 = 0 from ⟨rfl, rfl⟩)]
        · rw [hI_n _ _ _ (by decide), hI_s, hprs, sI_N (by decide), sI_I, if_pos (show 27 = 27 ∧ 0 = 0 from ⟨rfl, rfl⟩)]
      have hdw : dwn (prs S (nI k)) = d ||| 2 ^ k := by
        unfold dwn nth
        rw [hprs, sI_I, if_pos (show 26 = 26 ∧ 0 = 0 from ⟨rfl, rfl⟩), nI_clamp (by omega)]
      rw [hdw]
      refine CS.ok (E' := E) (h' := wI (wI h B 6 ch) B 5 (nI (d ||| 2 ^ k))) ?_ ?_
      · unfold RC
        rw [ln_sd hs rfl, ord_sd hs rfl]
        exact x1
      · rw [oPI_ok t0, sb, e5, sb, ob1, oPI_ok (show (hT (wI h B 6 ch) B).1 = 9 + 1 from t0), sb, e5', sb, key_cnt _ ob2, sb]
  · rw [if_neg q, if_pos q]
    exact CS.thr 0 x (by decide) rfl rfl
theorem C_release (x : RC B E S h) {c : Nat} (hv : Inv S c) (key : Int32) : CS B [exI, exS] (fX10_release B key h) (cRelease S key) := by
  obtain ⟨d, e, d1, e1, d2, e2, de⟩ := hv.1.1.xp
  have t0 : (hT h B).1 = 9 + 1 := x.1.t 0 10 (by decide)
  unfold fX10_release cRelease
  rw [c_keyBit]
  by_cases q : 0 ≤ key ∧ key ≤ 8
  · obtain ⟨k, k1, rfl⟩ := k9 q
    obtain ⟨u1, u2, u3⟩ := key_and d d1 k k1
    rw [if_pos q, oC_l, RW.g5 x, sb, if_neg (show ¬ ¬ ((0 : Int32) ≤ nI k ∧ nI k ≤ 8) from fun z => z q), d2]
    by_cases w : (nI d &&& ((1 : Int32) <<< (nI k &&& 31))) = 0
    · rw [if_pos w, if_pos (u2.mpr (u1.mp w))]
      exact CS.thr 1 x (by decide) rfl rfl
    · have hd0 : d ≠ 0 := u3 w
      rw [if_neg w, if_neg (fun z => w (u1.mpr (u2.mp z))), sb]
      obtain ⟨ob1, ob2⟩ := and_bit d d1 k k1
      have hr1 : rls1 S (nI k) = wSI S 26 0 (nI (d &&& (511 ^^^ 2 ^ k))) := by
        unfold rls1
        rw [d2, ob1]
      have hs : Sd [26] [] [] S (rls1 S (nI k)) := by
        rw [hr1]
        exact Sd.I (by decide)
      have h26 : sI (rls1 S (nI k)) 26 0 = nI (d &&& (511 ^^^ 2 ^ k)) := by rw [hr1, sI_I, if_pos (show 26 = 26 ∧ 0 = 0 from ⟨rfl, rfl⟩)]
      have hB6 : hI h B 6 = sI S 27 0 := x.2.2.1.2.2.1 (by rw [d2]; exact fun z => hd0 ((nI_eq (b := 0) (by omega) (by decide)).mp z))
      have x1 : RW B E (rls1 S (nI k)) (ln S) (ord S) (wI h B 5 (nI (d &&& (511 ^^^ 2 ^ k)))) := by
        refine RW.key x (Ag.wI (List.mem_singleton.mpr rfl)) rfl (hs.mono (by decide)) ?_ (fun _ => ?_)
        · rw [hI_s, h26]
        · rw [hI_n _ _ _ (by decide), hB6, hs.i 27 rfl]
      have hI1 : Inv (rls1 S (nI k)) c := hv.kRls1 (by omega)
      have e6 : oGI 9 6 (some B) (wI h B 5 (nI (d &&& (511 ^^^ 2 ^ k)))) = some (sI S 27 0) := hgI (show (hT (wI h B 5 (nI (d &&& (511 ^^^ 2 ^ k)))) B).1 = 9 + 1 from t0) (by rw [hI_n _ _ _ (by decide), hB6])
      have hdw : dwn (rls1 S (nI k)) = d &&& (511 ^^^ 2 ^ k) := by
        unfold dwn nth
        rw [h26, nI_clamp (by omega)]
      have key2 : ∃ h2, (if nI (d &&& (511 ^^^ 2 ^ k)) = 0 then ((oGR 9 3 (some B) (wI h B 5 (nI (d &&& (511 ^^^ 2 ^ k))))).bind fun x8 => (oGI 9 6 (some B) (wI h B 5 (nI (d &&& (511 ^^^ 2 ^ k))))).bind fun x9 => (oOb 4 x8 (wI h B 5 (nI (d &&& (511 ^^^ 2 ^ k))))).bind fun b => o2 (fX5_obey b x9 (wI h B 5 (nI (d &&& (511 ^^^ 2 ^ k))))) fun _ h11 => some h11) else some (wI h B 5 (nI (d &&& (511 ^^^ 2 ^ k))))) = some h2 ∧ RC B E (rls S (nI k)) h2 ∧ sI (rls S (nI k)) 26 0 = nI (d &&& (511 ^^^ 2 ^ k)) := by
        unfold rls
        rw [h26]
        by_cases z : nI (d &&& (511 ^^^ 2 ^ k)) = 0
        · have hp0 : sI S 27 0 ≠ 0 := by
            rw [e2]
            exact fun y => de hd0 ((nI_eq (b := 0) (by omega) (by decide)).mp y)
          have x1' : RW B E (rls1 S (nI k)) (ln (rls1 S (nI k))) (ord (rls1 S (nI k))) (wI h B 5 (nI (d &&& (511 ^^^ 2 ^ k)))) := by
            rw [ln_sd hs rfl, ord_sd hs rfl]
            exact x1
          obtain ⟨h2, a2, x2⟩ := r_obey x1' hI1.1 hp0
          rw [if_pos z, if_pos z, x1.p03, sb, e6, sb, x1.ob79, sb, a2, o2s]
          refine ⟨h2, rfl, x2, ?_⟩
          rw [(sd_chd _ _).i 26 rfl, h26]
        · rw [if_neg z, if_neg z]
          refine ⟨_, rfl, ?_, h26⟩
          unfold RC
          rw [ln_sd hs rfl, ord_sd hs rfl]
          exact x1
      obtain ⟨h2, a2, x2, b26⟩ := key2
      rw [hdw]
      refine CS.ok (E' := E) (h' := h2) x2 ?_
      rw [ob1, oPI_ok t0, sb, x1.g5, sb, h26, a2, sb, RW.g5 x2, sb, b26, key_cnt _ ob2, sb]
  · rw [if_neg q, if_pos q]
    exact CS.thr 0 x (by decide) rfl rfl
theorem C_chord (x : RC B E S h) {c : Nat} (hv : Inv S c) (p : Int32) : CS B [exA, exS] (fX10_chord B p h) (cChord S p) := by
  obtain ⟨d, e, d1, e1, d2, e2, de⟩ := hv.1.1.xp
  unfold fX10_chord cChord
  by_cases q1 : p < 1
  · rw [if_pos q1, if_pos (fun z => Int32.not_le.mpr q1 z.1)]
    exact CS.thr 0 x (by decide) rfl rfl
  · rw [if_neg q1]
    by_cases q2 : p ≤ 511
    · rw [if_pos q2, if_neg (fun z => z ⟨Int32.not_lt.mp q1, q2⟩), RW.g5 x, sb, d2]
      by_cases w : d = 0
      · have hp0 : p ≠ 0 := fun z => q1 (by rw [z]; decide)
        obtain ⟨h2, a2, x2⟩ := r_obey x hv.1 hp0
        have hC2 := (hv.chd p).1.1.c
        rw [w, if_pos (show nI 0 = 0 from rfl), if_neg (show ¬ 0 < nI 0 by decide), RW.p03 x, sb, RW.ob79 x, sb, a2, o2s, x2.p03, sb, x2.cu, sb, x2.es.numb hC2.2.lt, sb]
        exact CS.ok (E' := E) (h' := h2) x2 (by rw [hC2.1])
      · rw [if_neg (show ¬ nI d = 0 from fun z => w ((nI_eq (b := 0) (by omega) (by decide)).mp z)), if_pos (show 0 < nI d from nI_lt (a := 0) (by omega) (by omega))]
        exact CS.thr 1 x (by decide) rfl rfl
    · rw [if_neg q2, if_pos (fun z => q2 z.2)]
      exact CS.thr 0 x (by decide) rfl rfl
end KY

/-! ===== the class adds an element ===== -/
section AD
variable {B : Nat} {E : Nat → Nat} {S : SS} {li : List Int32} {od : List Nat} {h h' : hp}
theorem can_t : ∀ a, a < 8 → ∀ b, b < 8 → (if nI a = 0 then (if nI b = (6 : Int32) then (some ((0 : Int32))) else some ((1 : Int32))) else if nI a = 5 then (if nI b = (6 : Int32) then (some ((1 : Int32))) else some ((0 : Int32))) else if nI a = 6 then (if nI b = (1 : Int32) then (some ((1 : Int32))) else if nI b = (2 : Int32) then (some ((1 : Int32))) else if nI b = (3 : Int32) then (some ((1 : Int32))) else if nI b = (4 : Int32) then (some ((1 : Int32))) else some ((0 : Int32))) else if nI a = 7 then (if nI b = (6 : Int32) then (some ((0 : Int32))) else some ((1 : Int32))) else some ((0 : Int32))) = some (bI (cnH (nI a) (nI b))) := by decide +kernel
theorem e_can (x : ES S E h) {i a b : Nat} (hi : i < made S) (ha : a < 8) (hk : sI S 2 i = nI a) (hb : b < 8) : fX2_canHave (E i) (nI b) h = some (bI (cnH (sI S 2 i) (nI b))) := by
  unfold fX2_canHave
  rw [x.kind hi, sb, hk]
  exact can_t a ha b hb
theorem C_add (x : RC B E S h) {c : Nat} (hv : Inv S c) (hc : c < 1000000) (hkm : WKM S) (p pl k : Int32) : CS B [exI, exA, exS] (fX10_add B p pl k h) (cAdd S p pl k) := by
  have hC := hv.1.1
  have hW := hC.t
  have h40 := hW.m40
  refine ex_c x hW.pw p rfl (by decide) (fun i hp1 hn hi q => ?_) (fun q => by unfold cAdd; rw [if_pos q])
  obtain ⟨k1, k2, k3⟩ := hW.kids hi
  unfold cAdd
  rw [q, if_neg (show ¬ true = false by decide), hn]
  have bad : ∀ (hb : ¬ (0 ≤ pl ∧ pl ≤ nI (sK S i).length) ∨ ¬ (0 ≤ k ∧ k ≤ 7)) (Z : aS), CS B [exI, exA, exS] (some (Sum.inr "java/lang/IllegalArgumentException", h)) (if ¬ (0 ≤ pl ∧ pl ≤ nI (sK S i).length) ∨ ¬ (0 ≤ k ∧ k ≤ 7) then tw 2 S else Z) := fun hb Z => by
    rw [if_pos hb]
    exact CS.thr 1 x (by decide) rfl rfl
  by_cases q1 : pl < 0
  · rw [if_pos q1]
    exact bad (Or.inl (fun z => Int32.not_le.mpr q1 z.1)) _
  rw [if_neg q1, x.es.ob hi.lt, sb, e_size x.es hi.lt, sb]
  by_cases q2 : nI (sK S i).length < pl
  · rw [if_pos q2]
    exact bad (Or.inl (fun z => Int32.not_le.mpr q2 z.2)) _
  rw [if_neg q2]
  by_cases q3 : k < 0
  · rw [if_pos q3]
    exact bad (Or.inr (fun z => Int32.not_le.mpr q3 z.1)) _
  rw [if_neg q3]
  by_cases q4 : k ≤ 7
  case neg =>
    rw [if_neg q4]
    exact bad (Or.inr (fun z => q4 z.2)) _
  have hok : ¬ (¬ (0 ≤ pl ∧ pl ≤ nI (sK S i).length) ∨ ¬ (0 ≤ k ∧ k ≤ 7)) := fun z => z.elim (fun z => z ⟨Int32.not_lt.mp q1, Int32.not_lt.mp q2⟩) (fun z => z ⟨Int32.not_lt.mp q3, q4⟩)
  obtain ⟨j, j1, rfl⟩ := nI_of q1
  obtain ⟨kk, kk1, rfl⟩ := nI_of q3
  have hj : j ≤ (sK S i).length := by
    rcases Nat.lt_or_ge (sK S i).length j with w | w
    · exact absurd (nI_lt w j1) q2
    · exact w
  have hkk : kk ≤ 7 := by
    rcases Nat.lt_or_ge 7 kk with w | w
    · exact absurd q4 (nI_ge (a := 7) w kk1)
    · exact w
  have hnj : nth (nI j) = j := nI_clamp j1
  rw [if_pos q4, if_neg hok, hnj, RW.p00 x, sb, RW.o1 x, sb]
  have full : ∀ (hb : made S = 40 ∨ (sK S i).length = 10 ∨ cnH (sI S 2 i) (nI kk) = false ∨ 20 ≤ (sQ S 35).length) (Z : aS), CS B [exI, exA, exS] (some (Sum.inr "java/lang/IllegalStateException", h)) (if made S = 40 ∨ (sK S i).length = 10 ∨ cnH (sI S 2 i) (nI kk) = false ∨ 20 ≤ (sQ S 35).length then tw 3 S else Z) := fun hb Z => by
    rw [if_pos hb]
    exact CS.thr 2 x (by decide) rfl rfl
  have hroom : fX7_hasRoom (B + 1) h = some (if made S = 40 then 0 else 1) := by
    unfold fX7_hasRoom
    rw [hgI (x.1.t 1 7 (by decide)) x.2.2.2.2.1.1, sb]
    by_cases w : made S = 40
    · rw [if_pos (show (40 : Int32) ≤ nI (made S) from nI_le (a := 40) (by omega) (by omega)), if_pos w]
    · rw [if_neg (show ¬ (40 : Int32) ≤ nI (made S) from nI_ge (b := 40) (by omega) (by decide)), if_neg w]
  rw [hroom, sb]
  by_cases r1 : made S = 40
  · rw [if_pos r1, if_pos rfl]
    exact full (Or.inl r1) _
  rw [if_neg r1, if_neg (show ¬ (1 : Int32) = 0 by decide), sb, e_size x.es hi.lt, sb]
  by_cases r2 : (sK S i).length = 10
  · rw [if_pos (show (10 : Int32) ≤ nI (sK S i).length from nI_le (a := 10) (by omega) (by omega))]
    exact full (Or.inr (Or.inl r2)) _
  obtain ⟨a, a7, ha⟩ := hC.k i hi
  rw [if_neg (show ¬ (10 : Int32) ≤ nI (sK S i).length from nI_ge (b := 10) (by omega) (by decide)), sb, e_can x.es hi.lt (by omega) ha (by omega), sb, bI_i]
  by_cases r3 : cnH (sI S 2 i) (nI kk) = true
  case neg =>
    have r3' : cnH (sI S 2 i) (nI kk) = false := by
      cases hh : cnH (sI S 2 i) (nI kk) with
      | true => exact absurd hh r3
      | false => rfl
    rw [if_neg r3]
    exact full (Or.inr (Or.inr (Or.inl r3'))) _
  rw [if_pos r3, RW.ob0 x, sb, c_ref x hv.2.2]
  by_cases r4 : 20 ≤ (sQ S 35).length
  · rw [if_pos r4]
    exact full (Or.inr (Or.inr (Or.inr r4))) _
  have hgo : ¬ (made S = 40 ∨ (sK S i).length = 10 ∨ cnH (sI S 2 i) (nI kk) = false ∨ 20 ≤ (sQ S 35).length) := fun z => z.elim r1 (fun z => z.elim r2 (fun z => z.elim (fun z => by rw [r3] at z; cases z) r4))
  rw [if_neg r4, if_neg hgo, oC_l]
  have hm : made S < 40 := by omega
  have hk10 : (sK S i).length < 10 := by omega
  obtain ⟨h11, a11, x11⟩ := t_make x hW hm hi hk10 hj hkk hC.xd hC.xz hkm hC.c.2.lt (by
    rcases hC.xf with q | ⟨f, f1, f2, f3, f4⟩
    · exact Or.inl q
    · refine Or.inr ?_
      have := f2.l40 hW
      rw [f1, show nth (nI f) = f from nI_clamp (by omega)]
      exact f2.lt) (fun j hj => (ord_in hW hj).1.lt)
  have hEn : (fun i => if i = made S then hN h else E i) (made S) = hN h := if_pos rfl
  generalize hE' : (fun i => if i = made S then hN h else E i) = E' at *
  generalize hvv : hN h = vv at *
  have cd := x11.2.2.2.2.2.2.2.2.2.2.1
  obtain ⟨h14, a14, c14, g14⟩ := c_clear cd
  have x14 : RW B E' (add1 S i j (nI kk)) (ln S) (ord (add1 S i j (nI kk))) h14 := x11.drf g14 c14
  have hI1 : Inv0 (add1 S i j (nI kk)) c := a1_Inv0 hv.1 hm hi hk10 hkk
  have hth : th (add1 S i j (nI kk)) (made S) := (a1_th hm i j (nI kk) (made S)).mpr (Or.inr rfl)
  obtain ⟨h17, a17, x17⟩ := g_telW x14 hI1.1.t hI1.1.l hI1.2.1 hI1.2.2.1 (by omega) (show (sQ S 35).length < 21 by omega) hth
  have hst := sd_telW (add1 S i j (nI kk)) (made S)
  have hl2 : ln (telW (add1 S i j (nI kk)) (made S)) = ln S := by rw [ln_sd hst rfl, a1_ln hC hm hi.lt]
  have h25 : sI (telW (add1 S i j (nI kk)) (made S)) 25 = sI S 25 := by
    rw [hst.i 25 rfl]
    exact funext fun z => a1_f i j (nI kk) (by decide)
  have hf2 : add2 S i j (nI kk) = telW (add1 S i j (nI kk)) (made S) := fit_keep hv.2.1 hl2 h25
  have hmn : made S < made (telW (add1 S i j (nI kk)) (made S)) := by
    rw [made_cg (hst.i 0 rfl), a1_made hm]; omega
  have e17 := x17.es.numb hmn
  rw [hEn] at e17 a17
  refine CS.ok (E' := E') (h' := h17) ?_ ?_
  · rw [hf2]
    unfold RC
    rw [hl2, ord_sd hst rfl]
    exact x17
  · rw [sb, RW.p04 x, sb, RW.o1 x, sb, a11, o2s, x11.p04, sb, cd.ob, sb, a14, o2s, x14.p02, sb, x14.o76, sb, a17, o2s, e17, sb]
end AD

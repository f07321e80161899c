/-! ===== one turn: an element is added ===== -/
section ADT
variable {B c : Nat} {E : Nat → Nat} {S T : SS} {h : hp} {m : LY}
theorem cn_tab : ∀ a, a < 7 → ∀ b, b < 7 → (if nI a = 0 then (if nI b = (6 : Int32) then (if nI a = (5 : Int32) then (if nI b = (6 : Int32) then (1 : Int32) else (if nI a = (6 : Int32) then (if nI b ≤ 0 then 0 else if (5 : Int32) ≤ nI b then 0 else 1) else 0)) else (if nI a = (6 : Int32) then (if nI b ≤ 0 then 0 else if (5 : Int32) ≤ nI b then 0 else 1) else 0)) else 1) else (if nI a = (5 : Int32) then (if nI b = (6 : Int32) then 1 else (if nI a = (6 : Int32) then (if nI b ≤ 0 then 0 else if (5 : Int32) ≤ nI b then 0 else 1) else 0)) else (if nI a = (6 : Int32) then (if nI b ≤ 0 then 0 else if (5 : Int32) ≤ nI b then 0 else 1) else 0))) = bI (cnH (nI a) (nI b)) := by decide +kernel
theorem cn_law {a b : Nat} (ha : a < 7) (hb : b < 7) {K : Int32 → Prop} (hK : K (bI (cnH (nI a) (nI b)))) : wM (fun (K2 : Int32 → Prop) =>
  if nI a = 0 then
  (if nI b = (6 : Int32) then
  (wM (fun (K4 : Unit → Prop) =>
  if nI a = (5 : Int32) then
  (if nI b = (6 : Int32) then
  (K2 (1 : Int32))
  else
  K4 ())
  else
  K4 ())
  fun q4 =>
  if nI a = (6 : Int32) then
  (if nI b ≤ 0 then
  (K2 (0 : Int32))
  else
  if (5 : Int32) ≤ nI b then
  (K2 (0 : Int32))
  else
  K2 (1 : Int32))
  else
  K2 (0 : Int32))
  else
  K2 (1 : Int32))
  else
  wM (fun (K3 : Unit → Prop) =>
  if nI a = (5 : Int32) then
  (if nI b = (6 : Int32) then
  (K2 (1 : Int32))
  else
  K3 ())
  else
  K3 ())
  fun q3 =>
  if nI a = (6 : Int32) then
  (if nI b ≤ 0 then
  (K2 (0 : Int32))
  else
  if (5 : Int32) ≤ nI b then
  (K2 (0 : Int32))
  else
  K2 (1 : Int32))
  else
  K2 (0 : Int32)) K := by
  rw [← cn_tab a ha b hb] at hK
  rw [wMs]
  by_cases c0 : nI a = 0
  · rw [if_pos c0] at hK ⊢
    by_cases d6 : nI b = (6 : Int32)
    · rw [if_pos d6] at hK ⊢
      rw [if_pos d6] at hK
      rw [wMs]
      have c5 : ¬ nI a = (5 : Int32) := by rw [c0]; decide
      have c6 : ¬ nI a = (6 : Int32) := by rw [c0]; decide
      rw [if_neg c5, if_neg c6] at hK
      rw [if_neg c5]
      dsimp only
      rw [if_neg c6]
      exact hK
    · rw [if_neg d6] at hK ⊢
      exact hK
  · rw [if_neg c0] at hK ⊢
    rw [wMs]
    by_cases c5 : nI a = (5 : Int32)
    · rw [if_pos c5] at hK ⊢
      by_cases d6 : nI b = (6 : Int32)
      · rw [if_pos d6] at hK ⊢
        exact hK
      · have c6 : ¬ nI a = (6 : Int32) := by rw [c5]; decide
        rw [if_neg d6] at hK ⊢
        rw [if_neg c6] at hK
        rw [if_neg c6]
        exact hK
    · rw [if_neg c5] at hK ⊢
      by_cases c6 : nI a = (6 : Int32)
      · rw [if_pos c6] at hK ⊢
        by_cases b0 : nI b ≤ 0
        · rw [if_pos b0] at hK ⊢; exact hK
        · rw [if_neg b0] at hK ⊢
          by_cases b5 : (5 : Int32) ≤ nI b
          · rw [if_pos b5] at hK ⊢; exact hK
          · rw [if_neg b5] at hK ⊢; exact hK
      · rw [if_neg c6] at hK ⊢
        exact hK
/-- what is gone has no children -/
theorem r_kids0 (x : RD B h m S) {p : Nat} (hpm : p < made S) (hp : ¬ th S p) : fL_kids (some (B + 90)) (some (B + 91)) (nI p) h = some (nI 0) := by
  have l10 := x.m10
  obtain ⟨v, e1, e2⟩ := itr_for (F := fL_kids_B5 (some (B + 90)) (some (B + 91)) (nI p) h) (R := fun v => v = nI 0) (fun j q => q = (nI 0, nI j)) (made S) (fun j q hj hX => by
    subst hX
    unfold fL_kids_B5
    dsimp only
    rw [x.n0, sb, if_neg (show ¬ nI (made S) ≤ nI j from nI_ge hj (by omega))]
    by_cases t : th S j
    · rw [r_thereY x t, sb, if_neg (by decide), x.pr hj, sb]
      by_cases e : sI S 3 j = nI p
      · have j0 : 0 < j := by
          rcases Nat.eq_zero_or_pos j with z | z
          · subst z
            rw [x.p0] at e
            exact absurd e.symm (nI_m1 (by omega))
          · exact z
        have hd : dpar S j = p := by
          rw [(x.pp j0 hj).1] at e
          exact (nI_eq (by have := (x.pp j0 hj).2; omega) (by omega)).mp e
        exact absurd (by rw [← hd]; exact (x.t.up j0 t).1) hp
      · rw [if_neg e, nI_1]
        exact ⟨_, rfl, by rw [show nI 0 + 0 = nI 0 from rfl]⟩
    · rw [r_thereN x hj t, sb, if_pos rfl, nI_1]
      exact ⟨_, rfl, by rw [show nI 0 + 0 = nI 0 from rfl]⟩) (fun q hX => by
    subst hX
    refine ⟨_, ?_, rfl⟩
    unfold fL_kids_B5
    dsimp only
    rw [x.n0, sb, if_pos (nI_le (Nat.le_refl _) (by omega))]) (fu := FU) (a := (0, 0)) (by unfold FU; omega) rfl
  unfold fL_kids
  rw [e1, sb, e2]
/-- ADD -/
theorem t_add (j : JJ B c S h) (hc : c < 1000000) (hm10 : made S < 10) {p kk dd : Nat} (hpm : p < made S) (hk : kk < 7) (hd : dd < 2 ^ 31) {K : Int32 → hp → Prop} (hK : ∀ S' h', Md B c S' h' → Qt S' → made S ≤ made S' → ((th S p ∧ cnH (sI S 2 p) (nI kk) = true ∧ (sK S p).length < 10) → made S' = made S + 1) → K 1 h') : fL_isAdded (some B) (some (B + 90)) (some (B + 91)) (some (B + 92)) (nI p) (nI kk) (nI dd) h K := by
  obtain ⟨E, x, rd⟩ := j.rd
  have hI := j.1.2.1
  have hC := hI.1.1
  obtain ⟨kp, kp1, kp2⟩ := (rd.k.2 p hpm).1
  -- the children's count
  obtain ⟨n, n10, en, nth_⟩ : ∃ n, n ≤ 10 ∧ fL_kids (some (B + 90)) (some (B + 91)) (nI p) h = some (nI n) ∧ (th S p → n = (sK S p).length) := by
    by_cases t : th S p
    · exact ⟨_, (hC.t.kids t).2.1, r_kids rd t, fun _ => rfl⟩
    · exact ⟨0, by decide, r_kids0 rd hpm t, fun z => absurd z t⟩
  have do1 : ∀ S1 h1 E1 v, RC B E1 S1 h1 → fL_does (some B) 0 (nI p) v (nI kk) h1 = fX10_add B (nI p) v (nI kk) h1 := fun S1 h1 E1 v x1 => by
    unfold fL_does
    rw [if_pos rfl, RW.ob0 x1, sb]
  have e11 : nI dd / (13 : Int32) - nI dd / (13 : Int32) / (nI n + 1) * (nI n + 1) = nI (dd / 13 % (n + 1)) := by
    rw [nI_1, show (13 : Int32) = nI 13 from rfl, nI_div hd (by decide), nI_rem (by omega) (by omega)]
  have pl_le : dd / 13 % (n + 1) ≤ n := Nat.lt_succ_iff.mp (Nat.mod_lt _ (Nat.succ_pos n))
  unfold fL_isAdded
  rw [rd.kd hpm, wPs, kp2]
  refine cn_law (a := kp) (b := kk) (by omega) hk ?_
  rw [r_there rd hpm, wPs, en, wPs, wMs]
  -- refused
  have ref : ∀ k v, k < 3 → cAdd S (nI p) v (nI kk) = tw (nI (k + 1)) S → ¬ (th S p ∧ cnH (sI S 2 p) (nI kk) = true ∧ (sK S p).length < 10) → ∀ q14 : Int32, q14 = thC ([exI, exA, exS].getD k "") → wE (fL_does (some B) 0 (nI p) v (nI kk) h) fun x12 h13 => wM (fun (K16 : Int32 → Prop) => if x12 = q14 then K16 1 else K16 0) fun q16 => wP (oBo q16) fun _ => K q16 h13 := fun k v hk hr hno q14 hq => by
    rw [do1 S h E v x]
    have q := C_add x hI hc j.1.2.2.2.2.1 (nI p) v (nI kk)
    rw [hr] at q
    refine ref_e (k := k) j (by decide) (by decide) q hk (fun h' j' => ?_)
    rw [wMs, hq, if_pos rfl]
    dsimp only
    rw [show oBo (1 : Int32) = some () from rfl, wPs]
    exact hK _ _ j'.md j'.2.2 (Nat.le_refl _) (fun w => absurd w hno)
  by_cases t : th S p
  · have en' := nth_ t
    rw [decide_eq_true t.2, if_neg (show ¬ bI true = 0 by decide)]
    have hz : elt S (nI p) = true ∧ nth (nI p) = p := ⟨elt_y t (by omega), nth_nI (by omega)⟩
    have pr : ∀ U : SS, sK U p = sK S p → ¬ (¬ (0 ≤ nI (dd / 13 % (n + 1)) ∧ nI (dd / 13 % (n + 1)) ≤ nI (sK U p).length) ∨ ¬ ((0 : Int32) ≤ nI kk ∧ nI kk ≤ 7)) := fun U hU w => by
      rcases w with w | w
      · refine w ⟨nI_pos' (by omega), ?_⟩
        rw [hU]
        exact nI_le (by omega) (by omega)
      · exact w ⟨nI_pos' (by omega), nI_le (b := 7) (by omega) (by decide)⟩
    have refS : (cnH (nI kp) (nI kk) = false ∨ 10 ≤ n) → cAdd S (nI p) (nI (dd / 13 % (n + 1))) (nI kk) = tw (nI (2 + 1)) S := fun w => by
      unfold cAdd
      rw [hz.1, if_neg (by decide), hz.2, if_neg (pr S rfl), if_pos]
      · rfl
      · rcases w with w | w
        · exact Or.inr (Or.inr (Or.inl (by rw [kp2]; exact w)))
        · exact Or.inr (Or.inl (by omega))
    have refuse : (cnH (nI kp) (nI kk) = false ∨ 10 ≤ n) → wP (oNz (13 : Int32)) fun _ =>
        wP (oNz (nI n + (1 : Int32))) fun _ =>
        wE (fL_does (some B) 0 (nI p) (nI dd / (13 : Int32) - nI dd / (13 : Int32) / (nI n + 1) * (nI n + 1)) (nI kk) h) fun x12 h13 => wM (fun (K16 : Int32 → Prop) => if x12 = (-13 : Int32) then K16 1 else K16 0) fun q16 => wP (oBo q16) fun _ => K q16 h13 := fun w => by
      rw [show oNz (13 : Int32) = some () from rfl, wPs, nI_1, oNz_n (by omega) (by omega), wPs, ← nI_1, e11]
      exact ref 2 _ (by decide) (refS w) (fun z => by
        rcases w with w | w
        · rw [kp2, w] at z; exact absurd z.2.1 (by decide)
        · have := z.2.2; omega) _ (by decide)
    cases hcn : cnH (nI kp) (nI kk)
    · rw [if_pos (show bI false = 0 from rfl)]
      dsimp only
      have := refuse (Or.inl hcn)
      simpa only [wMs, if_true, if_pos (show (0 : Int32) = 0 from rfl), if_neg (show ¬ bI true = 0 by decide)] using this
    · rw [if_neg (show ¬ bI true = 0 by decide)]
      by_cases n10' : 10 ≤ n
      · rw [if_pos (show (10 : Int32) ≤ nI n from nI_le (a := 10) n10' (by omega))]
        dsimp only
        have := refuse (Or.inr n10')
        simpa only [wMs, if_true, if_pos (show (0 : Int32) = 0 from rfl), if_neg (show ¬ bI true = 0 by decide)] using this
      · rw [if_neg (show ¬ (10 : Int32) ≤ nI n from nI_ge (b := 10) (by omega) (by decide))]
        dsimp only
        rw [show oNz (13 : Int32) = some () from rfl, wPs, nI_1, oNz_n (by omega) (by omega), wPs, wMs, if_neg (show ¬ (1 : Int32) = 0 by decide)]
        refine t_drafts j hc hd (fun l S' h' dr ll ok => ?_)
        obtain ⟨⟨E', x'⟩, I', v', n', m', h26', h18', lb', q', hs'⟩ := dr
        have hm' := made_cg (hs'.i 0 rfl)
        have tp : th S' p := (th_cg (hs'.i 0 rfl) (hs'.i 1 rfl) p).mpr t
        have hK' : sK S' = sK S := hs'.2.2.2
        have C' := I'.1.1
        have e2' : sI S' 2 p = nI kp := by rw [hs'.i 2 rfl]; exact kp2
        have hv' : VK (add1 S' p (dd / 13 % (n + 1)) (nI kk)) := v'.add C' (by rw [hm']; exact hm10) (by rw [h18']; exact ll) (by rw [h18']; exact ok) (by omega)
        have ef : add2 S' p (dd / 13 % (n + 1)) (nI kk) = fit (add1 S' p (dd / 13 % (n + 1)) (nI kk)) := by
          unfold add2
          rw [telW_id hv' (a1_PW C'.t.pw (by rw [hm']; omega) tp.lt _ _) (by rw [a1_made (by rw [hm']; omega)]; omega)]
        have hr : cAdd S' (nI p) (nI (dd / 13 % (n + 1))) (nI kk) = rt (nI (made S')) (fit (add1 S' p (dd / 13 % (n + 1)) (nI kk))) := by
          unfold cAdd
          rw [elt_y tp (by omega), if_neg (by decide), nth_nI (by omega), if_neg (pr S' (by rw [hK'])), if_neg, nth_nI (by omega), ef]
          intro w
          rcases w with w | w | w | w
          · omega
          · rw [hK'] at w; omega
          · rw [e2', hcn] at w; exact absurd w (by decide)
          · rw [q'.2.2.1] at w; exact absurd w (by decide)
        obtain ⟨E3, h3, e3, x3⟩ := (C_add x' I' hc m' (nI p) (nI (dd / 13 % (n + 1))) (nI kk)).v (by decide) hr
        have k4 := kAdd I' hc n' m' (nI p) (nI (dd / 13 % (n + 1))) (nI kk)
        have I3 := iAdd I' (nI p) (nI (dd / 13 % (n + 1))) (nI kk)
        rw [hr] at k4 I3
        have lst := k4.1.lst
        have k4' : KP S' (fit (add1 S' p (dd / 13 % (n + 1)) (nI kk))) := k4
        have I3' : Inv (fit (add1 S' p (dd / 13 % (n + 1)) (nI kk))) c := I3
        have a18 : sL (add1 S' p (dd / 13 % (n + 1)) (nI kk)) 18 0 = [] := a1_L18 p _ _
        have a26 : sI (add1 S' p (dd / 13 % (n + 1)) (nI kk)) 26 0 = 0 := by rw [a1_f p _ _ (by decide)]; exact h26'
        have q3 : Qt (add1 S' p (dd / 13 % (n + 1)) (nI kk)) := ⟨fun i => by rw [a1_L p _ _ (by decide) (by decide)]; exact q'.1 i, by rw [a1_Q]; exact q'.2.1, by rw [a1_Q]; exact q'.2.2.1, by rw [a1_f p _ _ (by decide)]; exact q'.2.2.2⟩
        have lbA : LB (add1 S' p (dd / 13 % (n + 1)) (nI kk)) (newM S' p (dd / 13 % (n + 1)) (nI kk) (lN (pkF 20 (sL S' 18 0))) (lSt S')) := lb'.add C' (by rw [hm']; exact hm10) tp (by rw [hK', ← en']; exact pl_le) (nI kk)
        rw [h18'] at lbA
        have jc : JC B c (fit (add1 S' p (dd / 13 % (n + 1)) (nI kk))) h3 := ⟨⟨E3, x3⟩, I3', hv'.sd (sd_fit _) rfl, k4'.2.1, k4'.2.2, by rw [(sd_fit _).l 18 rfl]; exact a18, by rw [(sd_fit _).i 26 rfl]; exact a26⟩
        have x3' : RC B E3 (fit (add1 S' p (dd / 13 % (n + 1)) (nI kk))) h3 := x3
        have ml1 : ∀ i k, (lSt (fit (add1 S' p (dd / 13 % (n + 1)) (nI kk)))).1 i k = (lSt S').1 i k := lst.1
        have ml2 : ∀ i k, (lSt (fit (add1 S' p (dd / 13 % (n + 1)) (nI kk)))).2 i k = (lSt S').2 i k := lst.2
        have mle : lSt (fit (add1 S' p (dd / 13 % (n + 1)) (nI kk))) = lSt S' := Prod.ext (funext fun i => funext fun k => ml1 i k) (funext fun i => funext fun k => ml2 i k)
        have hh := RW.lws x3'
        rw [mle] at hh
        have t3 := RW.lt6 x3'
        have lq3 := RW.lq x3'
        rw [mle] at lq3
        have fin : ∀ h4, h4 = lw B h3 (newM S' p (dd / 13 % (n + 1)) (nI kk) (lN (pkF 20 l)) (lSt S')) → K 1 h4 := fun h4 e4 => by
          rw [e4]
          generalize newM S' p (dd / 13 % (n + 1)) (nI kk) (lN (pkF 20 l)) (lSt S') = m3 at lbA
          have emd : made (wml (fit (add1 S' p (dd / 13 % (n + 1)) (nI kk))) m3) = made S + 1 := by
            rw [made_cg ((lo8_m _ m3).e 0 rfl), made_cg ((sd_fit _).i 0 rfl), a1_made (by rw [hm']; omega), hm']
          refine hK (wml (fit (add1 S' p (dd / 13 % (n + 1)) (nI kk))) m3) _ ⟨jc.lwp m3, wml (add1 S' p (dd / 13 % (n + 1)) (nI kk)) m3, ?_, fit_wml _ _⟩ (q3.fit.lo8 (lo8_m _ m3)) (by rw [emd]; omega) (fun _ => emd)
          exact (lbA.lo8 (lo8_m _ m3)).ag5 (fun i hi => lSt_w _ m3 i (by omega))
        rw [wMs, if_neg (show ¬ bI true = 0 by decide)]
        dsimp only
        rw [← nI_1, e11, do1 _ _ _ _ x', e3]
        refine wE_l ?_
        rw [wMs, if_neg (show ¬ bI true = 0 by decide), if_neg (show ¬ (1 : Int32) = 0 by decide), lq3.n0, lb'.1, wPs]
        dsimp only
        rw [wMs, if_pos rfl]
        dsimp only
        rw [if_neg (show ¬ (1 : Int32) = 0 by decide)]
        have ms : made S' < 10 := by rw [hm']; exact hm10
        have lp := add_loop (S := S') (m := lSt S') (B := B) (h := h3) t3 (by omega) (by have := C'.t.2.1.lt; omega) lb'.1 (fun i hi => (lb'.e hi).2.1) (nI p) (dd / 13 % (n + 1)) (some (B + 92)) (nI kk) (lN (pkF 20 l)) 1 (K := fun q17 => wP (oIL (some (B + 90)) (0 : Int32) q17) fun x18 =>
          wP (oIS (some (B + 91)) ((6 : Int32) * x18) (nI kk) q17) fun h19 =>
          wP (oIL (some (B + 90)) (0 : Int32) h19) fun x20 =>
          wP (oIS (some (B + 91)) (((6 : Int32) * x20) + (1 : Int32)) (nI p) h19) fun h21 =>
          wP (oIL (some (B + 90)) (0 : Int32) h21) fun x22 =>
          wP (oIS (some (B + 91)) (((6 : Int32) * x22) + (2 : Int32)) (nI (dd / 13 % (n + 1))) h21) fun h23 =>
          wP (oIL (some (B + 90)) (0 : Int32) h23) fun x24 =>
          wP (oIS (some (B + 91)) (((6 : Int32) * x24) + (3 : Int32)) (1 : Int32) h23) fun h25 =>
          wP (oIL (some (B + 90)) (0 : Int32) h25) fun x26 =>
          wP (oJS (some (B + 92)) x26 (lN (pkF 20 l)) h25) fun h27 =>
          wP (oIL (some (B + 90)) (0 : Int32) h27) fun x28 =>
          wP (oIS (some (B + 90)) (0 : Int32) (x28 + (1 : Int32)) h27) fun h29 =>
          wP (oBo 1) fun _ =>
          K 1 h29) (by
            have i0 : (incM S' (nI p) (dd / 13 % (n + 1)) (lSt S') (made S')).1 0 0 = nI (made S') := by rw [inc_o (by omega)]; exact lb'.1
            rw [(t3.lq _).n0, i0, wPs, t3.pe0 ms, wPs, (t3.lq _).n0, lu_f (by omega), i0, wPs, t3.pe1 ms, wPs, (t3.lq _).n0, lu_f (by omega), lu_f (by omega), i0, wPs, t3.pe2 ms, wPs, (t3.lq _).n0, lu_f (by omega), lu_f (by omega), lu_f (by omega), i0, wPs, t3.pe3 ms, wPs, (t3.lq _).n0, lu_f (by omega), lu_f (by omega), lu_f (by omega), lu_f (by omega), i0, wPs, t3.pc ms, wPs, (t3.lq _).n0]
            rw [show (lv (lu (lu (lu (lu (incM S' (nI p) (dd / 13 % (n + 1)) (lSt S') (made S')) 1 (6 * made S') (nI kk)) 1 (6 * made S' + 1) (nI p)) 1 (6 * made S' + 2) (nI (dd / 13 % (n + 1)))) 1 (6 * made S' + 3) 1) 2 (made S') (lN (pkF 20 l))).1 0 0 = nI (made S') by
              rw [lv_1, lu_f (by omega), lu_f (by omega), lu_f (by omega), lu_f (by omega), i0], wPs, t3.pn0, wPs, show oBo (1 : Int32) = some () from rfl, wPs]
            exact fin _ rfl)
        rw [hh] at lp
        exact lp
  · have z1 : sI S 1 p = 0 := Classical.byContradiction fun w => t ⟨hpm, w⟩
    rw [decide_eq_false (show ¬ sI S 1 p ≠ 0 from fun w => w z1), if_pos (show bI false = 0 from rfl)]
    dsimp only
    rw [show oNz (13 : Int32) = some () from rfl, wPs, nI_1, oNz_n (by omega) (by omega), wPs, wMs, if_pos (show (0 : Int32) = 0 from rfl)]
    dsimp only
    rw [wMs, if_pos (show bI false = 0 from rfl)]
    have := ref 0 0 (by decide) (by
      unfold cAdd
      rw [elt_n t (by omega), if_pos rfl]; rfl) (fun z => t z.1) (-11) (by decide)
    simpa only [wMs, if_true, if_pos (show (0 : Int32) = 0 from rfl), if_pos (show bI false = 0 from rfl)] using this
end ADT

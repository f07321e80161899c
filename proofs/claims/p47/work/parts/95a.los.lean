/-! ===== the law loses cursor and focus ===== -/
section LOS
variable {B : Nat} {h : hp} {m : LY} {S : SS}
theorem r_gon (x : RD B h m S) {i : Nat} (hi : i < made S) : fL_isShown (some (B + 91)) (nI i) h = some (bI (!gonA S (nI i))) := by
  have l10 := x.m10
  have e : gonA S (nI i) = (decide (sI S 1 i = 0) || !shn S i) := by
    unfold gonA
    rw [nth_nI (by omega), decide_eq_true (show nI i ≠ -1 from nI_m1 (by omega)), Bool.true_and]
  rw [e]
  by_cases q : th S i
  · rw [r_shown x q, decide_eq_false q.2, Bool.false_or, Bool.not_not]
  · have : sI S 1 i = 0 := Classical.byContradiction fun z => q ⟨hi, z⟩
    rw [r_shownN x hi q, decide_eq_true this, Bool.true_or]; rfl
theorem idx_ge {l : List Nat} (hn : l.Nodup) {k y : Nat} (hy : y ∈ l.drop k) : k ≤ l.idxOf y := by
  obtain ⟨j, hj, rfl⟩ := List.getElem_of_mem hy
  have hj' := hj
  rw [List.length_drop] at hj'
  rw [List.getElem_drop, hn.idxOf_getElem (k + j) (by omega)]
  omega
theorem fnd_rev {S : SS} {l : List Nat} {k y : Nat} (hy : y ∈ l) (hk : k ≤ l.idxOf y) (hv : hid S y = false) (b : Nat) : (fnd S (l.drop (l.idxOf y + 1)).reverse).getD y = (fnd S (l.drop k).reverse).getD b := by
  have hi := List.idxOf_lt_length_of_mem hy
  have e : l.drop k = (l.drop k).take (l.idxOf y - k) ++ (y :: l.drop (l.idxOf y + 1)) := by
    conv => lhs; rw [← List.take_append_drop (l.idxOf y - k) (l.drop k)]
    congr 1
    rw [List.drop_drop, show k + (l.idxOf y - k) = l.idxOf y by omega, List.drop_eq_getElem_cons hi]
    congr 1
    exact List.getElem_idxOf hi
  rw [e]
  unfold fnd
  rw [List.reverse_append, List.reverse_cons, List.append_assoc, List.find?_append]
  cases hf : ((l.drop (l.idxOf y + 1)).reverse).find? (fun j => !hid S j) with
  | some z => rfl
  | none =>
    rw [Option.none_or, List.singleton_append, List.find?_cons, hv]
    rfl
theorem los_l (x : RD B h m S) {p : Nat} (hp : th S p) (c5 : Int32) : ∀ (d k b : Nat), k + d = (sK S p).length + 1 → ∀ fu, d + 2 ≤ fu → itr (fL_loses_B88 (some (B + 90)) (some (B + 91)) (nI p) c5 h) fu (nI b, rI (kidL S p k 0)) = some (nI ((fnd S ((sK S p).drop k).reverse).getD b)) := by
  have l10 := x.m10
  obtain ⟨k1, k2, k3⟩ := x.t.kids hp
  intro d
  induction d using Nat.strongRecOn with
  | _ d ih =>
    intro k b hk fu hfu
    obtain ⟨f1, rfl⟩ : ∃ f1, fu = f1 + 1 := ⟨fu - 1, by omega⟩
    rw [kidL_fnd]
    cases hf : fnd S ((sK S p).drop k) with
    | none =>
      have e : fL_loses_B88 (some (B + 90)) (some (B + 91)) (nI p) c5 h (nI b, rI none) = some (.inr (nI b)) := by
        unfold fL_loses_B88
        dsimp only
        rw [if_pos (show rI none < 0 by decide)]
      rw [itr_end e]
      have : fnd S ((sK S p).drop k).reverse = none := by
        unfold fnd at hf ⊢
        rw [List.find?_eq_none] at hf ⊢
        exact fun y hy => hf y (List.mem_reverse.mp hy)
      rw [this]; rfl
    | some y =>
      have hm := List.mem_of_find?_eq_some hf
      have hv : hid S y = false := by
        have := List.find?_some hf
        simpa using this
      have hm2 := List.mem_of_mem_drop hm
      obtain ⟨t1, t2, t3⟩ := k3 y hm2
      have ep := plc_of t3
      have hge := idx_ge k1 hm
      have hlt := List.idxOf_lt_length_of_mem hm2
      have yl := t1.lt
      have e : fL_loses_B88 (some (B + 90)) (some (B + 91)) (nI p) c5 h (nI b, rI (some y)) = some (.inl (nI y, rI (kidL S p ((sK S p).idxOf y + 1) 0))) := by
        unfold fL_loses_B88
        dsimp only
        rw [show rI (some y) = nI y from rfl, if_neg (nI_pos (by omega)), x.pl t2 t1, sb, nI_1, r_kid x hp (by omega), sb, ep]
      rw [itr_step e, ih ((sK S p).length + 1 - ((sK S p).idxOf y + 1)) (by omega) _ y (by omega) f1 (by omega), fnd_rev hm2 hge hv b]
theorem WB.w (hb : WB S) {k i : Nat} {v : Int32} (hv : v = 0 ∨ v = 1) : WB (wSI S k i v) := fun k' hk' i' => by
  rw [sI_I]
  split
  · exact hv
  · exact hb k' hk' i'
theorem WT.sdI {S' : SS} {ki kl kq : List Nat} (hW : WT S) (hs : Sd ki kl kq S S') (h1 : dsj [0, 1, 2, 3, 12] ki = true) : WT S' := hW.cg (hs.i 0 (dsj_of h1 (by decide))) (hs.i 1 (dsj_of h1 (by decide))) (hs.i 2 (dsj_of h1 (by decide))) (hs.i 3 (dsj_of h1 (by decide))) (hs.i 12 (dsj_of h1 (by decide))) hs.2.2.2
theorem WB.sdI {S' : SS} {ki kl kq : List Nat} (hb : WB S) (hs : Sd ki kl kq S S') (h1 : dsj [1, 10, 12, 22, 23, 24] ki = true) : WB S' := hb.cg (fun k hk => hs.i k (dsj_of h1 hk))
theorem fnd_c12 {S' : SS} (h : sI S' 12 = sI S 12) (l : List Nat) : fnd S' l = fnd S l := by
  have : (fun j => !hid S' j) = fun j => !hid S j := funext fun j => by unfold hid; rw [h]
  unfold fnd
  rw [this]
/-- what the law takes for the element at which the cursor goes on -/
def rfL (S : SS) (p pl : Nat) : Nat := ((fnd S ((sK S p).drop pl)).orElse (fun _ => fnd S (sK S p).reverse)).getD p
theorem q_los (t : LT6 B h) (x : RD B (lw B h m) m S) {p pl c : Nat} (hp : th S p) (hpl : pl < 2 ^ 31) (hc : sI S 20 0 = nI c) (hcl : c < made S) (hf : sI S 21 0 = -1 ∨ ∃ f, f < made S ∧ sI S 21 0 = nI f) : ∃ m', fL_loses (some (B + 90)) (some (B + 91)) (nI p) (nI pl) (lw B h m) = some ((), lw B h m') ∧ LB (los S (rfL S p pl)) m' := by
  have l10 := x.m10
  have e2 : (Option.bind (α := Int32)
    (if m.1 0 2 ≤ 0 then
    (some (0 : Int32))
    else
    (oIL (some (B + 90)) (2 : Int32) (lw B h m)).bind fun x4 =>
    (fL_isShown (some (B + 91)) (x4 - (1 : Int32)) (lw B h m)).bind fun x5 =>
    if x5 = 0 then
    (some (1 : Int32))
    else
    some (0 : Int32)) some) = some (bI (gonA S (sI S 21 0))) := by
    rw [x.l.2.2.1]
    rcases hf with hf | ⟨f, f1, f2⟩
    · rw [hf, if_pos (show (-1 : Int32) + 1 ≤ 0 by decide), gon_m1]; rfl
    · rw [f2, nI_1, if_neg (nI_nle (by omega) (by omega)), x.q.n2, x.l.2.2.1, f2, nI_1, sb, nI_pred, r_gon x f1, sb]
      cases gonA S (nI f) <;> rfl
  have hs1 : Sd [21, 22] [] [] S (los1 S) := sd_los1 S
  have m1e : ∃ m1, ((oIS (some (B + 90)) (4 : Int32) (if bI (gonA S (sI S 21 0)) = 0 then m.1 0 4 else 0) (lw B h m)).bind fun h9 => oIS (some (B + 90)) (2 : Int32) (if bI (gonA S (sI S 21 0)) = 0 then m.1 0 2 else 0) h9) = some (lw B h m1) ∧ LB (los1 S) m1 := by
    refine ⟨lu (lu m 0 4 (if bI (gonA S (sI S 21 0)) = 0 then m.1 0 4 else 0)) 0 2 (if bI (gonA S (sI S 21 0)) = 0 then m.1 0 2 else 0), by rw [t.pn4, sb, t.pn2], ?_⟩
    refine x.l.gl (by omega) (hs1.mono rfl) (fun j k hj => by rw [lu_f (by omega), lu_f (by omega)]) rfl (by rw [lu_f (by omega), lu_f (by omega)]) ?_ ?_ ?_ ?_ (fun z => ?_)
    · rw [lu_f (by omega), lu_f (by omega), hs1.i 20 rfl]; exact x.l.2.1
    · rw [lu_s]
      unfold los1
      cases gonA S (sI S 21 0)
      · exact x.l.2.2.1
      · rw [if_neg (show ¬ bI true = 0 by decide), if_pos (show true = true from rfl), sI_N (by decide), sI_I, if_pos ⟨rfl, rfl⟩]; rfl
    · rw [lu_f (by omega), lu_f (by omega), hs1.i 25 rfl]; exact x.l.2.2.2.1
    · rw [lu_f (by omega), lu_s]
      unfold los1
      cases gonA S (sI S 21 0)
      · exact x.l.2.2.2.2.1
      · rw [if_neg (show ¬ bI true = 0 by decide), if_pos (show true = true from rfl), sI_I, if_pos ⟨rfl, rfl⟩]
    · rw [lu_f (by omega), lu_f (by omega), lu_f (by omega), lu_f (by omega), hs1.i 23 rfl, hs1.i 24 rfl]
      refine x.l.2.2.2.2.2.1 (fun w => z ?_)
      unfold los1
      split
      · rw [sI_I, if_pos ⟨rfl, rfl⟩]
      · exact w
  obtain ⟨m1, a1, a2⟩ := m1e
  have hb1 : WB (los1 S) := by
    unfold los1
    split
    · refine fun k hk i => ?_
      rw [sI_I]
      split
      · exact Or.inl rfl
      · rw [sI_N (fun z => by subst z; revert hk; decide)]; exact x.b k hk i
    · exact x.b
  have x1 : RD B (lw B h m1) m1 (los1 S) := ⟨t.lq m1, a2, x.t.sdI hs1 rfl, hb1, x.k.sd hs1 rfl⟩
  have hK : sK (los1 S) = sK S := hs1.2.2.2
  have hp1 : th (los1 S) p := (th_cg (hs1.i 0 rfl) (hs1.i 1 rfl) p).mpr hp
  have hm1 := made_cg (hs1.i 0 rfl)
  have hc1 : sI (los1 S) 20 0 = nI c := by rw [hs1.i 20 rfl]; exact hc
  have eR : rfL (los1 S) p pl = rfL S p pl := by unfold rfL; rw [hK, fnd_c12 (hs1.i 12 rfl), fnd_c12 (hs1.i 12 rfl)]
  -- the rest, behind the focus
  have rest : ∃ m', ((oIL (some (B + 90)) (1 : Int32) (lw B h m1)).bind fun x14 =>
    (fL_isShown (some (B + 91)) x14 (lw B h m1)).bind fun x15 =>
    if x15 = 0 then
    ((fL_kid (some (B + 90)) (some (B + 91)) (nI p) (nI pl) (0 : Int32) (lw B h m1)).bind fun x16 =>
    (fL_kid (some (B + 90)) (some (B + 91)) (nI p) (0 : Int32) (0 : Int32) (lw B h m1)).bind fun x17 =>
    Option.bind (α := Int32)
    (itr (fL_loses_B88 (some (B + 90)) (some (B + 91)) (nI p) x16 (lw B h m1)) FU (nI p, x17))
    fun q18 =>
    if 0 ≤ x16 then
    ((oIS (some (B + 90)) (1 : Int32) x16 (lw B h m1)).bind fun h19 =>
    (oIS (some (B + 90)) (3 : Int32) (0 : Int32) h19).bind fun h20 =>
    some (((), h20)))
    else
    (oIS (some (B + 90)) (1 : Int32) q18 (lw B h m1)).bind fun h21 =>
    (oIS (some (B + 90)) (3 : Int32) (0 : Int32) h21).bind fun h22 =>
    some (((), h22)))
    else
    some (((), (lw B h m1)))) = some ((), lw B h m') ∧ LB (los3 (los1 S) (rfL (los1 S) p pl)) m' := by
    have cl1 : c < made (los1 S) := by rw [hm1]; exact hcl
    rw [x1.q.n1, a2.2.1, hc1, sb, r_gon x1 cl1, sb]
    unfold los3
    rw [hc1]
    cases hg : gonA (los1 S) (nI c)
    · rw [if_neg (show ¬ bI (!false) = 0 by decide), if_neg (show ¬ false = true by decide)]
      exact ⟨m1, rfl, a2⟩
    · have k10 := (x1.t.kids hp1).2.1
      have rk := r_kid x1 (n := 0) (a := 0) hp1 (by decide)
      rw [show nI 0 = 0 from rfl] at rk
      rw [if_pos (show bI (!true) = 0 by decide), if_pos (show true = true from rfl), r_kid x1 hp1 hpl, sb, rk, sb, los_l x1 hp1 _ ((sK (los1 S) p).length + 1) 0 p (by omega) FU (by unfold FU; omega), sb, List.drop_zero, kidL_fnd]
      have fin : ∀ v, v = nI (rfL (los1 S) p pl) → ∃ m', ((oIS (some (B + 90)) (1 : Int32) v (lw B h m1)).bind fun h19 => (oIS (some (B + 90)) (3 : Int32) (0 : Int32) h19).bind fun h20 => some (((), h20))) = some ((), lw B h m') ∧ LB (cAl (los2 (los1 S) (rfL (los1 S) p pl)) (wd (los2 (los1 S) (rfL (los1 S) p pl)) (rfL (los1 S) p pl) [108, 111, 115, 116])) m' := by
        intro v hv
        subst hv
        rw [t.pn1, sb, t.pn3, sb]
        refine ⟨_, rfl, LB.sd (S := los2 (los1 S) (rfL (los1 S) p pl)) ?_ (sd_cAl _ _) rfl⟩
        have hs2 := sd_los2 (los1 S) (rfL (los1 S) p pl)
        refine a2.gl (by omega) (hs2.mono rfl) (fun j k hj => by rw [lu_f (by omega), lu_f (by omega)]) rfl (by rw [lu_f (by omega), lu_f (by omega)]) ?_ ?_ ?_ ?_ (fun z => ?_)
        · unfold los2
          rw [lu_f (by omega), lu_s, sI_N (by decide), sI_I, if_pos ⟨rfl, rfl⟩]
        · rw [lu_f (by omega), lu_f (by omega), hs2.i 21 rfl]; exact a2.2.2.1
        · unfold los2
          rw [lu_s, sI_I, if_pos ⟨rfl, rfl⟩]
        · rw [lu_f (by omega), lu_f (by omega), hs2.i 22 rfl]; exact a2.2.2.2.2.1
        · rw [hs2.i 22 rfl] at z
          rw [lu_f (by omega), lu_f (by omega), lu_f (by omega), lu_f (by omega), hs2.i 23 rfl, hs2.i 24 rfl]
          exact a2.2.2.2.2.2.1 z
      cases hk : fnd (los1 S) ((sK (los1 S) p).drop pl) with
      | none =>
        rw [if_neg (show ¬ (0 : Int32) ≤ rI none by decide)]
        exact fin _ (by unfold rfL; rw [hk]; rfl)
      | some y =>
        have := ((x1.t.kids hp1).2.2 y (List.mem_of_mem_drop (List.mem_of_find?_eq_some hk))).1.lt
        rw [if_pos (show (0 : Int32) ≤ rI (some y) from nI_pos' (by omega))]
        exact fin _ (by unfold rfL; rw [hk]; rfl)
  obtain ⟨m', b1, b2⟩ := rest
  rw [eR] at b2
  refine ⟨m', ?_, b2⟩
  unfold fL_loses
  rw [x.q.n2, sb]
  have e2' : (if m.1 0 2 ≤ 0 then
    (some (0 : Int32))
    else
    (oIL (some (B + 90)) (2 : Int32) (lw B h m)).bind fun x4 =>
    (fL_isShown (some (B + 91)) (x4 - (1 : Int32)) (lw B h m)).bind fun x5 =>
    if x5 = 0 then
    (some (1 : Int32))
    else
    some (0 : Int32)) = some (bI (gonA S (sI S 21 0))) := by
    generalize ho : (if m.1 0 2 ≤ 0 then
    (some (0 : Int32))
    else
    (oIL (some (B + 90)) (2 : Int32) (lw B h m)).bind fun x4 =>
    (fL_isShown (some (B + 91)) (x4 - (1 : Int32)) (lw B h m)).bind fun x5 =>
    if x5 = 0 then
    (some (1 : Int32))
    else
    some (0 : Int32)) = o at e2
    cases o with
    | none => cases e2
    | some v => exact e2
  rw [x.q.n2] at e2'
  rw [e2', sb]
  have f4 : (if bI (gonA S (sI S 21 0)) = 0 then ((oIL (some (B + 90)) (4 : Int32) (lw B h m)).bind fun x8 => some x8) else some (0 : Int32)) = some (if bI (gonA S (sI S 21 0)) = 0 then m.1 0 4 else 0) := by
    split
    · rw [x.q.n4]; rfl
    · rfl
  rw [f4, sb]
  have f2 : ∀ h9, oIS (some (B + 90)) (4 : Int32) (if bI (gonA S (sI S 21 0)) = 0 then m.1 0 4 else 0) (lw B h m) = some h9 → (if bI (gonA S (sI S 21 0)) = 0 then ((oIL (some (B + 90)) (2 : Int32) h9).bind fun x12 => some x12) else some (0 : Int32)) = some (if bI (gonA S (sI S 21 0)) = 0 then m.1 0 2 else 0) := by
    intro h9 e
    rw [t.pn4] at e
    cases e
    split
    · rw [(t.lq _).n2, lu_f (by omega)]; rfl
    · rfl
  cases hw : oIS (some (B + 90)) (4 : Int32) (if bI (gonA S (sI S 21 0)) = 0 then m.1 0 4 else 0) (lw B h m) with
  | none => rw [hw] at a1; cases a1
  | some h9 =>
    rw [hw, sb] at a1
    rw [sb, f2 h9 hw, sb, a1, sb]
    exact b1
end LOS

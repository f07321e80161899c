/-! ===== the law changes one element, or makes one ===== -/
theorem fd_cg {p q : Nat → Bool} : ∀ {l : List Nat}, (∀ j ∈ l, p j = q j) → l.find? p = l.find? q
  | [], _ => rfl
  | a :: l, h => by
    rw [List.find?_cons, List.find?_cons, h a List.mem_cons_self, fd_cg (fun j hj => h j (List.mem_cons_of_mem _ hj))]
section CHG
variable {B : Nat} {h : hp} {m : LY} {S : SS}
/-- one element's flags -/
theorem LB.fl {S' : SS} {c : Nat} (x : LB S m) (cl : c < made S) (hs : Sd [10, 12] [] [] S S') (s10 : ∀ j, j ≠ c → sI S' 10 j = sI S 10 j) (s12 : ∀ j, j ≠ c → sI S' 12 j = sI S 12 j) {v : Int32} (hv : v = nI (fl3 S' c)) : LB S' (lu m 1 (6 * c + 3) v) := by
  have hm := made_cg (hs.i 0 rfl)
  refine ⟨by rw [lu_f (by omega), hm]; exact x.1, by rw [lu_f (by omega), hs.i 20 rfl]; exact x.2.1, by rw [lu_f (by omega), hs.i 21 rfl]; exact x.2.2.1, by rw [lu_f (by omega), hs.i 25 rfl]; exact x.2.2.2.1, by rw [lu_f (by omega), hs.i 22 rfl]; exact x.2.2.2.2.1, fun z => ?_, fun j hj => ?_, fun j hj hj2 => ?_⟩
  · rw [hs.i 22 rfl] at z
    rw [lu_f (by omega), lu_f (by omega), hs.i 23 rfl, hs.i 24 rfl]
    exact x.2.2.2.2.2.1 z
  · rw [hm] at hj
    obtain ⟨b0, b1, b2, b3, b4, b5, b6, b7, b8, b9⟩ := x.e hj
    have ep : plc S' j = plc S j := by unfold plc dpar; rw [hs.i 3 rfl, hs.2.2.2]
    refine ⟨?_, ?_, fun z t => ?_, ?_, ?_, ?_, ?_, ?_, ?_, ?_⟩
    · rw [lu_f (by omega), hs.i 2 rfl]; exact b0
    · rw [lu_f (by omega), hs.i 3 rfl]; exact b1
    · rw [lu_f (by omega), ep]; exact b2 z ((th_cg (hs.i 0 rfl) (hs.i 1 rfl) j).mp t)
    · by_cases q : j = c
      · subst q
        rw [lu_s]; exact hv
      · have ef : fl3 S' j = fl3 S j := by unfold fl3; rw [hs.i 1 rfl, s10 j q, s12 j q]
        rw [lu_f (by omega), ef]; exact b3
    · rw [lu_f (by omega), hs.i 13 rfl]; exact b4
    · rw [lu_f (by omega), hs.i 11 rfl]; exact b5
    · rw [hs.l 6 rfl]; exact b6
    · rw [hs.l 8 rfl]; exact b7
    · rw [hs.l 8 rfl]; exact b8
    · rw [lu_f (by omega), hs.l 8 rfl]; exact b9
  · rw [hm] at hj
    obtain ⟨b0, b1, b2, b3, b4⟩ := x.2.2.2.2.2.2.2 j hj hj2
    exact ⟨by rw [lu_f (by omega)]; exact b0, by rw [lu_f (by omega)]; exact b1, by rw [lu_f (by omega)]; exact b2, b3, b4⟩
/-- one element's rule -/
theorem LB.rl {c : Nat} (x : LB S m) (v : Int32) : LB (wSI S 13 c v) (lu m 1 (6 * c + 4) (v + 1)) ∨ made S ≤ c := by
  by_cases cl : c < made S
  · have hs : Sd [13] [] [] S (wSI S 13 c v) := Sd.I (by decide)
    refine Or.inl ⟨by rw [lu_f (by omega)]; exact x.1, by rw [lu_f (by omega)]; exact x.2.1, by rw [lu_f (by omega)]; exact x.2.2.1, by rw [lu_f (by omega)]; exact x.2.2.2.1, by rw [lu_f (by omega)]; exact x.2.2.2.2.1, fun z => ?_, fun j hj => ?_, fun j hj hj2 => ?_⟩
    · rw [lu_f (by omega), lu_f (by omega)]
      exact x.2.2.2.2.2.1 z
    · obtain ⟨b0, b1, b2, b3, b4, b5, b6, b7, b8, b9⟩ := x.e (show j < made S from hj)
      refine ⟨?_, ?_, fun z t => ?_, ?_, ?_, ?_, b6, b7, b8, ?_⟩
      · rw [lu_f (by omega)]; exact b0
      · rw [lu_f (by omega)]; exact b1
      · rw [lu_f (by omega)]; exact b2 z t
      · rw [lu_f (by omega)]; exact b3
      · by_cases q : j = c
        · subst q
          rw [lu_s, sI_I, if_pos ⟨rfl, rfl⟩]
        · rw [lu_f (by omega), sI_I, if_neg (fun z => q z.2)]; exact b4
      · rw [lu_f (by omega)]; exact b5
      · rw [lu_f (by omega)]; exact b9
    · have hj3 : made S ≤ j := hj
      obtain ⟨b0, b1, b2, b3, b4⟩ := x.2.2.2.2.2.2.2 j hj3 hj2
      exact ⟨by rw [lu_f (by omega)]; exact b0, by rw [lu_f (by omega)]; exact b1, by rw [lu_f (by omega)]; exact b2, b3, b4⟩
  · exact Or.inr (by omega)
/-- one element's name -/
theorem LB.nm {S' : SS} {c : Nat} (x : LB S m) (hs : Sd [] [6, 18] [] S S') (s6 : ∀ j, j ≠ c → sL S' 6 j = sL S 6 j) : LB S' (lv m 2 c (lN (pkF 20 (sL S' 6 c)))) := by
  have hm := made_cg (hs.i 0 rfl)
  refine ⟨by rw [hm]; exact x.1, by rw [hs.i 20 rfl]; exact x.2.1, by rw [hs.i 21 rfl]; exact x.2.2.1, by rw [hs.i 25 rfl]; exact x.2.2.2.1, by rw [hs.i 22 rfl]; exact x.2.2.2.2.1, by rw [hs.i 22 rfl, hs.i 23 rfl, hs.i 24 rfl]; exact x.2.2.2.2.2.1, fun j hj => ?_, fun j hj hj2 => ?_⟩
  · rw [hm] at hj
    obtain ⟨b0, b1, b2, b3, b4, b5, b6, b7, b8, b9⟩ := x.e hj
    have ep : plc S' j = plc S j := by unfold plc dpar; rw [hs.i 3 rfl, hs.2.2.2]
    have ef : fl3 S' j = fl3 S j := by unfold fl3; rw [hs.i 1 rfl, hs.i 10 rfl, hs.i 12 rfl]
    refine ⟨by rw [hs.i 2 rfl]; exact b0, by rw [hs.i 3 rfl]; exact b1, fun z t => by rw [ep]; exact b2 z ((th_cg (hs.i 0 rfl) (hs.i 1 rfl) j).mp t), by rw [ef]; exact b3, by rw [hs.i 13 rfl]; exact b4, by rw [hs.i 11 rfl]; exact b5, ?_, ?_, ?_, by rw [hs.l 8 rfl]; exact b9⟩
    · by_cases q : j = c
      · subst q
        rw [lv_s]
      · rw [lv_f (by omega), s6 j q]; exact b6
    · rw [lv_f (by omega), hs.l 8 rfl]; exact b7
    · rw [lv_f (by omega), hs.l 8 rfl]; exact b8
  · rw [hm] at hj
    obtain ⟨b0, b1, b2, b3, b4⟩ := x.2.2.2.2.2.2.2 j hj hj2
    exact ⟨b0, b1, b2, by rw [lv_f (by omega)]; exact b3, by rw [lv_f (by omega)]; exact b4⟩
/-! bits of the flags -/
theorem fl_and2 {S' : SS} {c : Nat} (a : sI S 1 c ≠ 0) (h1 : sI S' 1 = sI S 1) (h10 : sI S' 10 c = sI S 10 c) (h12 : sI S' 12 c = 0) : nI (fl3 S c) &&& (-3 : Int32) = nI (fl3 S' c) := by
  unfold fl3
  rw [h1, h12, h10, if_neg a, if_neg a, if_pos (show (0 : Int32) = 0 from rfl)]
  by_cases b : sI S 12 c = 0 <;> by_cases d : sI S 10 c = 0
  · rw [if_pos b, if_pos d]; decide
  · rw [if_pos b, if_neg d]; decide
  · rw [if_neg b, if_pos d]; decide
  · rw [if_neg b, if_neg d]; decide
theorem fl_or2 {S' : SS} {c : Nat} (a : sI S 1 c ≠ 0) (h1 : sI S' 1 = sI S 1) (h10 : sI S' 10 c = sI S 10 c) (h12 : sI S' 12 c = 1) : nI (fl3 S c) ||| (2 : Int32) = nI (fl3 S' c) := by
  unfold fl3
  rw [h1, h12, h10, if_neg a, if_neg a, if_neg (show ¬ (1 : Int32) = 0 by decide)]
  by_cases b : sI S 12 c = 0 <;> by_cases d : sI S 10 c = 0
  · rw [if_pos b, if_pos d]; decide
  · rw [if_pos b, if_neg d]; decide
  · rw [if_neg b, if_pos d]; decide
  · rw [if_neg b, if_neg d]; decide
theorem fl_and4 {S' : SS} {c : Nat} (a : sI S 1 c ≠ 0) (h1 : sI S' 1 = sI S 1) (h12 : sI S' 12 c = sI S 12 c) (h10 : sI S' 10 c = 0) : nI (fl3 S c) &&& (-5 : Int32) = nI (fl3 S' c) := by
  unfold fl3
  rw [h1, h12, h10, if_neg a, if_neg a, if_pos (show (0 : Int32) = 0 from rfl)]
  by_cases b : sI S 12 c = 0 <;> by_cases d : sI S 10 c = 0
  · rw [if_pos b, if_pos d]; decide
  · rw [if_pos b, if_neg d]; decide
  · rw [if_neg b, if_pos d]; decide
  · rw [if_neg b, if_neg d]; decide
theorem fl_or4 {S' : SS} {c : Nat} (a : sI S 1 c ≠ 0) (h1 : sI S' 1 = sI S 1) (h12 : sI S' 12 c = sI S 12 c) (h10 : sI S' 10 c = 1) : nI (fl3 S c) ||| (4 : Int32) = nI (fl3 S' c) := by
  unfold fl3
  rw [h1, h12, h10, if_neg a, if_neg a, if_neg (show ¬ (1 : Int32) = 0 by decide)]
  by_cases b : sI S 12 c = 0 <;> by_cases d : sI S 10 c = 0
  · rw [if_pos b, if_pos d]; decide
  · rw [if_pos b, if_neg d]; decide
  · rw [if_neg b, if_pos d]; decide
  · rw [if_neg b, if_neg d]; decide
theorem fl_on {c : Nat} (hb : WB S) (a : sI S 1 c ≠ 0) : (nI (fl3 S c) &&& (4 : Int32)) / (4 : Int32) = sI S 10 c := by
  rw [fl_4 S a]
  rcases hb 10 (by decide) c with z | z
  · rw [if_pos z, z]; decide
  · rw [z, if_neg (show ¬ (1 : Int32) = 0 by decide)]; decide
/-! no region: nothing is told -/
theorem rgn_none (hk : VK S) (hP : PW S) {i : Nat} (hi : i < made S) : rgn S i = none := by
  unfold rgn
  exact find_7 hk _ (fun j hj => Nat.lt_of_le_of_lt (an_mem hP hi j (List.mem_of_mem_tail hj)) hi)
theorem tel_none (t : List Int32) : tel S none t = S := rfl
theorem telW_id (hk : VK S) (hP : PW S) {i : Nat} (hi : i < made S) : telW S i = S := by
  unfold telW
  rw [rgn_none hk hP hi]
  split <;> rfl
theorem rgS_none (hk : VK S) (hP : PW S) {i : Nat} (hi : i < made S) : rgS S i = none := by
  unfold rgS
  rw [rgn_none hk hP hi]
  split <;> rfl
theorem gon_f {f : Nat} (hl : f < 2 ^ 31) (h1 : sI S 1 f ≠ 0) (hs : shn S f = true) : gonA S (nI f) = false := by
  unfold gonA
  rw [nth_nI hl, decide_eq_false h1, hs, Bool.false_or, Bool.not_true, Bool.and_false]
theorem los_id (hc : sI S 20 0 = nI (cur S)) (h40 : made S ≤ 40) (hct : th S (cur S)) (hs : shn S (cur S) = true) (hf : WXf S) (r : Nat) : los S r = S := by
  have e1 : los1 S = S := by
    unfold los1
    have : gonA S (sI S 21 0) = false := by
      rcases hf with z | ⟨f, f1, f2, f3, -⟩
      · rw [z]; exact gon_m1 S
      · rw [f1]; exact gon_f (by have := f2.lt; omega) f2.2 f3
    rw [this, if_neg (by decide)]
  unfold los
  rw [e1]
  unfold los3
  rw [hc, gon_f (by have := hct.lt; omega) hct.2 hs, if_neg (by decide)]
/-- HIDE: flags, then what is lost -/
def hdS (S : SS) (y : Nat) (v : Int32) : SS := wSI S 12 y v
theorem rfL_hide (hW : WT S) {y : Nat} (hy : th S y) (h0 : 0 < y) : rfL (wSI S 12 y 1) (dpar S y) (plc S y + 1) = rfgO S y := by
  obtain ⟨u1, u2⟩ := hW.up h0 hy
  have hpl := plc_lt hW u1 u2
  have hN := (hW.kids u1).1
  have hk : sK (wSI S 12 y 1) = sK S := rfl
  have e : sK S (dpar S y) = (sK S (dpar S y)).take (plc S y) ++ y :: (sK S (dpar S y)).drop (plc S y + 1) := by
    conv => lhs; rw [← List.take_append_drop (plc S y) (sK S (dpar S y))]
    congr 1
    rw [List.drop_eq_getElem_cons hpl]
    congr 1
    exact List.getElem_idxOf hpl
  have hid_o : ∀ j, j ≠ y → hid (wSI S 12 y 1) j = hid S j := fun j hj => by
    unfold hid
    rw [sI_I, if_neg (fun z => hj z.2)]
  have hid_y : hid (wSI S 12 y 1) y = true := by
    unfold hid
    rw [sI_I, if_pos ⟨rfl, rfl⟩]; decide
  have n1 : ∀ j ∈ (sK S (dpar S y)).drop (plc S y + 1), j ≠ y := fun j hj w => by
    have := idx_ge hN hj
    rw [w] at this
    have e2 : (sK S (dpar S y)).idxOf y = plc S y := rfl
    omega
  have n2 : ∀ j ∈ (sK S (dpar S y)).take (plc S y), j ≠ y := fun j hj w => by
    have hn := hN
    rw [e] at hn
    exact (List.nodup_append.mp hn).2.2 j hj y (by simp) w
  have f1 : fnd (wSI S 12 y 1) ((sK S (dpar S y)).drop (plc S y + 1)) = fnd S ((sK S (dpar S y)).drop (plc S y + 1)) := by
    unfold fnd
    exact fd_cg (fun j hj => by rw [hid_o j (n1 j hj)])
  have f2 : fnd (wSI S 12 y 1) ((sK S (dpar S y)).take (plc S y)).reverse = fnd S ((sK S (dpar S y)).take (plc S y)).reverse := by
    unfold fnd
    exact fd_cg (fun j hj => by rw [hid_o j (n2 j (List.mem_reverse.mp hj))])
  unfold rfL rfgO rfg
  rw [hk, f1]
  cases hf : fnd S ((sK S (dpar S y)).drop (plc S y + 1)) with
  | some z => rfl
  | none =>
    have h3 : fnd (wSI S 12 y 1) ((sK S (dpar S y)).drop (plc S y + 1)).reverse = none := by
      rw [← f1] at hf
      unfold fnd at hf ⊢
      rw [List.find?_eq_none] at hf ⊢
      exact fun y hy => hf y (List.mem_reverse.mp hy)
    have h4 : fnd (wSI S 12 y 1) (sK S (dpar S y)).reverse = fnd S ((sK S (dpar S y)).take (plc S y)).reverse := by
      conv => lhs; rw [e]
      rw [← f2]
      unfold fnd at h3 ⊢
      rw [List.reverse_append, List.reverse_cons, List.append_assoc, List.find?_append, h3, Option.none_or, List.singleton_append, List.find?_cons, hid_y]
      rfl
    show (fnd (wSI S 12 y 1) (sK S (dpar S y)).reverse).getD _ = (fnd S ((sK S (dpar S y)).take (plc S y)).reverse).getD _
    rw [h4]
theorem q_hide (t : LT6 B h) (x : RD B (lw B h m) m S) (hC : Core S) {y : Nat} (hy : th S y) (h0 : 0 < y) (v : Bool) : ∃ m', ((oIS (some (B + 91)) (((6 : Int32) * nI y) + (3 : Int32)) (if v = true then nI (fl3 S y) ||| (2 : Int32) else nI (fl3 S y) &&& (-3 : Int32)) (lw B h m)).bind fun h56 =>
  (oIL (some (B + 91)) (((6 : Int32) * nI y) + (1 : Int32)) h56).bind fun x57 =>
  (oIL (some (B + 91)) (((6 : Int32) * nI y) + (2 : Int32)) h56).bind fun x58 =>
  fL_loses (some (B + 90)) (some (B + 91)) x57 (x58 + (1 : Int32)) h56) = some ((), lw B h m') ∧ LB (hd3 S y (bI v)) m' := by
  have l10 := x.m10
  have yl := hy.lt
  obtain ⟨u1, u2⟩ := x.t.up h0 hy
  have p10 := plc_10 x.t h0 hy
  have pp := x.pp h0 yl
  have hs : ∀ w, Sd [12] [] [] S (wSI S 12 y w) := fun w => Sd.I (by decide)
  have bv : bI v = 0 ∨ bI v = 1 := bI_01 v
  have lb1 : LB (wSI S 12 y (bI v)) (lu m 1 (6 * y + 3) (if v = true then nI (fl3 S y) ||| (2 : Int32) else nI (fl3 S y) &&& (-3 : Int32))) := by
    refine x.l.fl yl ((hs _).mono rfl) (fun j hj => rfl) (fun j hj => by rw [sI_I, if_neg (fun z => hj z.2)]) ?_
    cases v
    · rw [if_neg (by decide)]
      exact fl_and2 hy.2 rfl rfl (by rw [sI_I, if_pos ⟨rfl, rfl⟩]; rfl)
    · rw [if_pos rfl]
      exact fl_or2 hy.2 rfl rfl (by rw [sI_I, if_pos ⟨rfl, rfl⟩]; rfl)
  have w1 : WT (wSI S 12 y (bI v)) := by
    obtain ⟨a1, a2, a3, a4, a5, a6⟩ := x.t
    have hP : PW (wSI S 12 y (bI v)) := a1
    refine ⟨hP, a2, a3, ?_, a5, a6⟩
    rw [sI_I, if_neg (fun z => by have := z.2; omega)]; exact a4
  have x1 : RD B (lw B h (lu m 1 (6 * y + 3) (if v = true then nI (fl3 S y) ||| (2 : Int32) else nI (fl3 S y) &&& (-3 : Int32)))) (lu m 1 (6 * y + 3) (if v = true then nI (fl3 S y) ||| (2 : Int32) else nI (fl3 S y) &&& (-3 : Int32))) (wSI S 12 y (bI v)) := ⟨t.lq _, lb1, w1, x.b.w bv, x.k.sd (hs _) rfl⟩
  obtain ⟨m', e1, e2⟩ := q_los t x1 (p := dpar S y) (pl := plc S y + 1) (c := cur S) u1 (by omega) hC.c.1 hC.c.2.lt (by
    rcases hC.xf with w | ⟨f, w1, w2, -⟩
    · exact Or.inl w
    · exact Or.inr ⟨f, w2.lt, w1⟩)
  have e3 : los (wSI S 12 y (bI v)) (rfL (wSI S 12 y (bI v)) (dpar S y) (plc S y + 1)) = hd3 S y (bI v) ∨ (sI S 12 y = bI v ∧ los (wSI S 12 y (bI v)) (rfL (wSI S 12 y (bI v)) (dpar S y) (plc S y + 1)) = wSI S 12 y (bI v) ∧ hd3 S y (bI v) = S) := by
    have hself : sI S 12 y = bI v → wSI S 12 y (bI v) = S := fun w => by
      refine Prod.ext (funext fun k => funext fun i => ?_) rfl
      show up2 S.1 12 y (bI v) k i = S.1 k i
      rw [up2_g]
      by_cases q : k = 12 ∧ i = y
      · rw [if_pos q, q.1, q.2, ← w]; rfl
      · rw [if_neg q]
    have lid := los_id hC.c.1 x.t.m40 hC.c.2 hC.xs hC.xf
    rcases x.b 12 (by decide) y with z | z
    · cases v
      · refine Or.inr ⟨z, ?_, ?_⟩
        · rw [hself z]; exact lid _
        · unfold hd3
          rw [if_neg (fun w => w.1 rfl), if_neg (fun w => w.1 z)]
      · refine Or.inl ?_
        show los (wSI S 12 y 1) (rfL (wSI S 12 y 1) (dpar S y) (plc S y + 1)) = _
        rw [rfL_hide x.t hy h0]
        unfold hd3
        rw [if_pos ⟨by decide, z⟩, rgS_none x.k x.t.pw yl]; rfl
    · cases v
      · refine Or.inl ?_
        show los (wSI S 12 y 0) _ = _
        have sh : ∀ f, shn S f = true → shn (wSI S 12 y 0) f = true := fun f hf => by
          unfold shn at hf ⊢
          rw [an_cg (S' := wSI S 12 y 0) (S := S) rfl]
          rw [List.all_eq_true] at hf ⊢
          intro j hj
          have := hf j hj
          unfold hid at this ⊢
          rw [sI_I]
          split
          · decide
          · exact this
        have hf2 : WXf (wSI S 12 y 0) := by
          rcases hC.xf with w | ⟨f, w1, w2, w3, w4⟩
          · exact Or.inl w
          · exact Or.inr ⟨f, w1, w2, sh f w3, w4⟩
        rw [los_id (S := wSI S 12 y 0) hC.c.1 x.t.m40 hC.c.2 (sh _ hC.xs) hf2]
        unfold hd3
        rw [if_neg (fun w => w.1 rfl), if_pos ⟨by rw [z]; decide, rfl⟩]
        exact (telW_id (S := wSI S 12 y 0) (x.k.sd (hs 0) rfl) w1.pw yl).symm
      · refine Or.inr ⟨z, ?_, ?_⟩
        · rw [hself z]; exact lid _
        · unfold hd3
          rw [if_neg (fun w => by have := w.2; rw [z] at this; exact absurd this (by decide)), if_neg (fun w => absurd w.2 (by decide))]
  refine ⟨m', ?_, ?_⟩
  · rw [t.pe3 (by omega), sb, x1.pr (show y < made (wSI S 12 y (bI v)) from yl), show sI (wSI S 12 y (bI v)) 3 y = sI S 3 y from rfl, pp.1, sb, x1.pl h0 (show th (wSI S 12 y (bI v)) y from hy), sb, show plc (wSI S 12 y (bI v)) y = plc S y from rfl, nI_1]
    exact e1
  · rcases e3 with z | ⟨z1, z2, z3⟩
    · rw [← z]; exact e2
    · rw [z2] at e2
      rw [z3]
      have hself : wSI S 12 y (bI v) = S := by
        refine Prod.ext (funext fun k => funext fun i => ?_) rfl
        show up2 S.1 12 y (bI v) k i = S.1 k i
        rw [up2_g]
        by_cases q : k = 12 ∧ i = y
        · rw [if_pos q, q.1, q.2, ← z1]; rfl
        · rw [if_neg q]
      rw [hself] at e2
      exact e2
end CHG

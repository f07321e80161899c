/-! ===== the law does a command ===== -/
def lki : List Nat := [0, 1, 2, 3, 10, 11, 12, 13, 20, 21, 22, 23, 24, 25]
def lkl : List Nat := [6, 8]
theorem LE.cg {S S' : SS} {m m' : LY} {j : Nat} (x : LE S m j) (h0 : sI S' 0 = sI S 0) (h1 : sI S' 1 = sI S 1) (h2 : sI S' 2 = sI S 2) (h3 : sI S' 3 = sI S 3) (h10 : sI S' 10 j = sI S 10 j) (h11 : sI S' 11 j = sI S 11 j) (h12 : sI S' 12 j = sI S 12 j) (h13 : sI S' 13 j = sI S 13 j) (h6 : sL S' 6 j = sL S 6 j) (h8 : sL S' 8 j = sL S 8 j) (hK : sK S' = sK S) (a0 : ∀ k, m'.1 1 (6 * j + k) = m.1 1 (6 * j + k)) (a1 : m'.2 2 j = m.2 2 j) (a2 : m'.2 3 (2 * j) = m.2 3 (2 * j)) (a3 : m'.2 3 (2 * j + 1) = m.2 3 (2 * j + 1)) (a4 : m'.1 4 j = m.1 4 j) : LE S' m' j := by
  obtain ⟨b0, b1, b2, b3, b4, b5, b6, b7, b8, b9⟩ := x
  have ef : fl3 S' j = fl3 S j := by unfold fl3; rw [h1, h10, h12]
  have ep : plc S' j = plc S j := by unfold plc dpar; rw [h3, hK]
  have a00 := a0 0
  rw [Nat.add_zero] at a00
  refine ⟨?_, ?_, fun z t => ?_, ?_, ?_, ?_, ?_, ?_, ?_, ?_⟩
  · rw [a00, h2]; exact b0
  · rw [a0 1, h3]; exact b1
  · rw [a0 2, ep]; exact b2 z ((th_cg h0 h1 j).mp t)
  · rw [a0 3, ef]; exact b3
  · rw [a0 4, h13]; exact b4
  · rw [a0 5, h11]; exact b5
  · rw [a1, h6]; exact b6
  · rw [a2, h8]; exact b7
  · rw [a3, h8]; exact b8
  · rw [a4, h8]; exact b9
theorem LZ.cg {m m' : LY} {j : Nat} (x : LZ m j) (a0 : ∀ k, m'.1 1 (6 * j + k) = m.1 1 (6 * j + k)) (a2 : m'.2 3 (2 * j) = m.2 3 (2 * j)) (a3 : m'.2 3 (2 * j + 1) = m.2 3 (2 * j + 1)) (a4 : m'.1 4 j = m.1 4 j) : LZ m' j := by
  obtain ⟨b0, b1, b2, b3, b4⟩ := x
  exact ⟨by rw [a0 4]; exact b0, by rw [a0 5]; exact b1, by rw [a4]; exact b2, by rw [a2]; exact b3, by rw [a3]; exact b4⟩
theorem LB.sd {S S' : SS} {m : LY} {ki kl kq : List Nat} (x : LB S m) (hs : Sd ki kl kq S S') (h1 : (dsj lki ki && dsj lkl kl) = true) : LB S' m := by
  rw [Bool.and_eq_true] at h1
  have e : ∀ k, decide (k ∈ lki) = true → sI S' k = sI S k := fun k hk => hs.i k (dsj_of h1.1 (of_decide_eq_true hk))
  have el : ∀ k, decide (k ∈ lkl) = true → sL S' k = sL S k := fun k hk => hs.l k (dsj_of h1.2 (of_decide_eq_true hk))
  obtain ⟨a1, a2, a3, a4, a5, a6, a7, a8⟩ := x
  have hm := made_cg (e 0 rfl)
  refine ⟨by rw [hm]; exact a1, by rw [e 20 rfl]; exact a2, by rw [e 21 rfl]; exact a3, by rw [e 25 rfl]; exact a4, by rw [e 22 rfl]; exact a5, by rw [e 22 rfl, e 23 rfl, e 24 rfl]; exact a6, fun j hj => ?_, fun j hj => a8 j (by rw [← hm]; exact hj)⟩
  exact (a7 j (by rw [← hm]; exact hj)).cg (e 0 rfl) (e 1 rfl) (e 2 rfl) (e 3 rfl) (by rw [e 10 rfl]) (by rw [e 11 rfl]) (by rw [e 12 rfl]) (by rw [e 13 rfl]) (by rw [el 6 rfl]) (by rw [el 8 rfl]) hs.2.2.2 (fun _ => rfl) rfl rfl rfl rfl
/-- numbers of the whole, and flags and presses of one element -/
theorem LB.up {S S' : SS} {m m' : LY} {c : Nat} (x : LB S m) (hs : Sd [10, 11, 20, 21, 22, 23, 24, 25] [] [] S S') (s10 : ∀ j, j ≠ c → sI S' 10 j = sI S 10 j) (s11 : ∀ j, j ≠ c → sI S' 11 j = sI S 11 j) (cl : c < made S) (h1 : ∀ j k, j ≠ 0 → ¬ (j = 1 ∧ (k = 6 * c + 3 ∨ k = 6 * c + 5)) → m'.1 j k = m.1 j k) (h2 : m'.2 = m.2) (v3 : m'.1 1 (6 * c + 3) = nI (fl3 S' c)) (v5 : m'.1 1 (6 * c + 5) = sI S' 11 c) (g0 : m'.1 0 0 = m.1 0 0) (g1 : m'.1 0 1 = sI S' 20 0) (g2 : m'.1 0 2 = sI S' 21 0 + 1) (g3 : m'.1 0 3 = sI S' 25 0) (g4 : m'.1 0 4 = sI S' 22 0) (g5 : sI S' 22 0 ≠ 0 → m'.1 0 5 = sI S' 23 0 ∧ m'.1 0 6 = sI S' 24 0) : LB S' m' := by
  have hm := made_cg (hs.i 0 rfl)
  refine ⟨by rw [hm, g0]; exact x.1, g1, g2, g3, g4, g5, fun j hj => ?_, fun j hj hj2 => ?_⟩
  · rw [hm] at hj
    have xe := x.e hj
    by_cases q : j = c
    · subst q
      obtain ⟨b0, b1, b2, b3, b4, b5, b6, b7, b8, b9⟩ := xe
      have ep : plc S' j = plc S j := by unfold plc dpar; rw [hs.i 3 rfl, hs.2.2.2]
      refine ⟨?_, ?_, fun z t => ?_, v3, ?_, v5, ?_, ?_, ?_, ?_⟩
      · rw [h1 1 _ (by decide) (by omega), hs.i 2 rfl]; exact b0
      · rw [h1 1 _ (by decide) (by omega), hs.i 3 rfl]; exact b1
      · rw [h1 1 _ (by decide) (by omega), ep]; exact b2 z ((th_cg (hs.i 0 rfl) (hs.i 1 rfl) j).mp t)
      · rw [h1 1 _ (by decide) (by omega), hs.i 13 rfl]; exact b4
      · rw [h2, hs.l 6 rfl]; exact b6
      · rw [h2, hs.l 8 rfl]; exact b7
      · rw [h2, hs.l 8 rfl]; exact b8
      · rw [h1 4 _ (by decide) (by omega), hs.l 8 rfl]; exact b9
    · by_cases e0 : ∀ k, k < 6 → m'.1 1 (6 * j + k) = m.1 1 (6 * j + k)
      · obtain ⟨b0, b1, b2, b3, b4, b5, b6, b7, b8, b9⟩ := xe
        have ef : fl3 S' j = fl3 S j := by unfold fl3; rw [hs.i 1 rfl, s10 j q, hs.i 12 rfl]
        have ep : plc S' j = plc S j := by unfold plc dpar; rw [hs.i 3 rfl, hs.2.2.2]
        have a00 := e0 0 (by decide)
        rw [Nat.add_zero] at a00
        refine ⟨?_, ?_, fun z t => ?_, ?_, ?_, ?_, ?_, ?_, ?_, ?_⟩
        · rw [a00, hs.i 2 rfl]; exact b0
        · rw [e0 1 (by decide), hs.i 3 rfl]; exact b1
        · rw [e0 2 (by decide), ep]; exact b2 z ((th_cg (hs.i 0 rfl) (hs.i 1 rfl) j).mp t)
        · rw [e0 3 (by decide), ef]; exact b3
        · rw [e0 4 (by decide), hs.i 13 rfl]; exact b4
        · rw [e0 5 (by decide), s11 j q]; exact b5
        · rw [h2, hs.l 6 rfl]; exact b6
        · rw [h2, hs.l 8 rfl]; exact b7
        · rw [h2, hs.l 8 rfl]; exact b8
        · rw [h1 4 _ (by decide) (by omega), hs.l 8 rfl]; exact b9
      · exact absurd (fun k hk => h1 1 _ (by decide) (by omega)) e0
  · rw [hm] at hj
    obtain ⟨b0, b1, b2, b3, b4⟩ := x.2.2.2.2.2.2.2 j hj hj2
    exact ⟨by rw [h1 1 _ (by decide) (by omega)]; exact b0, by rw [h1 1 _ (by decide) (by omega)]; exact b1, by rw [h1 4 _ (by decide) (by omega)]; exact b2, by rw [h2]; exact b3, by rw [h2]; exact b4⟩
theorem LB.gl {S S' : SS} {m m' : LY} (x : LB S m) (h0 : 0 < made S) (hs : Sd [20, 21, 22, 23, 24, 25] [] [] S S') (h1 : ∀ j k, j ≠ 0 → m'.1 j k = m.1 j k) (h2 : m'.2 = m.2) (g0 : m'.1 0 0 = m.1 0 0) (g1 : m'.1 0 1 = sI S' 20 0) (g2 : m'.1 0 2 = sI S' 21 0 + 1) (g3 : m'.1 0 3 = sI S' 25 0) (g4 : m'.1 0 4 = sI S' 22 0) (g5 : sI S' 22 0 ≠ 0 → m'.1 0 5 = sI S' 23 0 ∧ m'.1 0 6 = sI S' 24 0) : LB S' m' := by
  have ef : fl3 S' 0 = fl3 S 0 := by unfold fl3; rw [hs.i 1 rfl, hs.i 10 rfl, hs.i 12 rfl]
  exact x.up (c := 0) (hs.mono rfl) (fun j _ => by rw [hs.i 10 rfl]) (fun j _ => by rw [hs.i 11 rfl]) h0 (fun j k hj _ => h1 j k hj) h2 (by rw [h1 1 _ (by decide), ef]; exact (x.e h0).2.2.2.1) (by rw [h1 1 _ (by decide), hs.i 11 rfl]; exact (x.e h0).2.2.2.2.2.1) g0 g1 g2 g3 g4 g5
section CMD
variable {B : Nat} {h : hp} {m : LY} {S : SS}
theorem lu_f {j k : Nat} {v : Int32} {a b : Nat} (hn : ¬ (a = j ∧ b = k)) : (lu m j k v).1 a b = m.1 a b := by rw [lu_1, if_neg hn]
theorem lu_s {j k : Nat} {v : Int32} : (lu m j k v).1 j k = v := by rw [lu_1, if_pos ⟨rfl, rfl⟩]
/-- to an element, or nothing -/
theorem r_goes (t : LT6 B h) (x : LB S m) (h0 : 0 < made S) (hc : sI S 20 0 = nI (cur S)) (hc2 : cur S < 2 ^ 31) {o : Option Nat} (ho : ∀ y, o = some y → y < 2 ^ 31) (w : List Int32) : ∃ m', fL_goes (some (B + 90)) (rI o) (lw B h m) = some ((), lw B h m') ∧ LB (goO S o w) m' := by
  cases o with
  | none =>
    refine ⟨m, ?_, x.sd (sd_cAns S w) rfl⟩
    unfold fL_goes
    rw [if_pos (show rI none < 0 by decide)]
  | some y =>
    have hy := ho y rfl
    have hs : ∀ v, Sd [20, 21, 22, 23, 24, 25] [] [] S (wSI (wSI (wSI S 22 0 0) 25 0 v) 20 0 (nI y)) := fun v => ((Sd.I (by decide)).tr (Sd.I (by decide))).tr (Sd.I (by decide))
    refine ⟨lu (lu (lu m 0 4 0) 0 3 (if y = cur S then sI S 25 0 else 0)) 0 1 (nI y), ?_, ?_⟩
    · unfold fL_goes
      rw [show rI (some y) = nI y from rfl, if_neg (nI_pos hy), t.pn4, sb, (t.lq _).n1, lu_f (by decide), x.2.1, hc, sb]
      by_cases q : y = cur S
      · rw [if_pos (show nI y = nI (cur S) by rw [q]), if_pos q, (t.lq _).n3, lu_f (by decide), x.2.2.2.1, sb, t.pn3, sb, t.pn1, sb]
      · rw [if_neg (show ¬ nI y = nI (cur S) from fun z => q ((nI_eq hy hc2).mp z)), if_neg q, t.pn3, sb, t.pn1, sb]
    · refine LB.sd (S := wSI (wSI (wSI S 22 0 0) 25 0 (if y = cur S then sI S 25 0 else 0)) 20 0 (nI y)) ?_ (sd_cAns _ _) rfl
      refine x.gl h0 (hs _) (fun j k hj => ?_) rfl ?_ ?_ ?_ ?_ ?_ (fun z => ?_)
      · rw [lu_f (by omega), lu_f (by omega), lu_f (by omega)]
      · rw [lu_f (by omega), lu_f (by omega), lu_f (by omega)]
      · rw [lu_s, sI_I, if_pos ⟨rfl, rfl⟩]
      · rw [lu_f (by omega), lu_f (by omega), lu_f (by omega), x.2.2.1]; rfl
      · rw [lu_f (by omega), lu_s]; rfl
      · rw [lu_f (by omega), lu_f (by omega), lu_s]; rfl
      · exact absurd rfl z
theorem LB.cAns (x : LB S m) (w : List Int32) : LB (cAns S w) m := x.sd (sd_cAns S w) rfl
end CMD

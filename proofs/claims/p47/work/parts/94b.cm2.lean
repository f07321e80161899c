/-! ===== the law's commands ===== -/
section CM2
variable {B : Nat} {h : hp} {m : LY} {S : SS}
theorem lu_self (m : LY) (j k : Nat) : lu m j k (m.1 j k) = m := by
  refine Prod.ext (funext fun a => funext fun b => ?_) rfl
  rw [lu_1]
  by_cases q : a = j ∧ b = k
  · rw [if_pos q, q.1, q.2]
  · rw [if_neg q]
theorem q_goes (t : LT6 B h) (x : RD B (lw B h m) m S) (hC : Core S) {o : Option Nat} (ho : ∀ y, o = some y → th S y) (w : List Int32) : ∃ m', (o2 (fL_goes (some (B + 90)) (rI o) (lw B h m)) fun _ h6 => some ((), h6)) = some ((), lw B h m') ∧ LB (goO S o w) m' := by
  have l10 := x.m10
  have lc := hC.c.2.lt
  obtain ⟨m', e1, e2⟩ := r_goes t x.l (by omega) hC.c.1 (by omega) (o := o) (fun y hy => by have := (ho y hy).lt; omega) w
  exact ⟨m', by rw [e1]; rfl, e2⟩
theorem LB.act (x : LB S m) {c : Nat} (hc : cur S = c) (lc : c < made S) (h1 : sI S 20 0 = nI c) {S1 : SS} {V3 V5 q : Int32} (hs : Sd [10, 11, 20, 21, 22, 23, 24, 25] [] [] S S1) (s10 : ∀ j, j ≠ c → sI S1 10 j = sI S 10 j) (s11 : ∀ j, j ≠ c → sI S1 11 j = sI S 11 j) (v3 : V3 = nI (fl3 S1 c)) (v5 : V5 = sI S1 11 c) (g1 : sI S1 20 0 = sI S 20 0) (g2 : sI S1 21 0 = sI S 20 0) (g3 : sI S1 25 0 = sI S 25 0) (g4 : sI S1 22 0 = q) (g5 : q ≠ 0 → sI S1 23 0 = 0 ∧ sI S1 24 0 = 0) : LB S1 (lu (lu (lu (lu (lu (lu m 0 2 (nI c + 1)) 1 (6 * c + 5) V5) 1 (6 * c + 3) V3) 0 4 q) 0 5 0) 0 6 0) := by
  refine x.up (c := c) hs s10 s11 lc (fun j k hj hk => ?_) rfl ?_ ?_ ?_ ?_ ?_ ?_ ?_ (fun z => ?_)
  · rw [lu_f (by omega), lu_f (by omega), lu_f (by omega), lu_f (by omega), lu_f (by omega), lu_f (by omega)]
  · rw [lu_f (by omega), lu_f (by omega), lu_f (by omega), lu_s]; exact v3
  · rw [lu_f (by omega), lu_f (by omega), lu_f (by omega), lu_f (by omega), lu_s]; exact v5
  · rw [lu_f (by omega), lu_f (by omega), lu_f (by omega), lu_f (by omega), lu_f (by omega), lu_f (by omega)]
  · rw [lu_f (by omega), lu_f (by omega), lu_f (by omega), lu_f (by omega), lu_f (by omega), lu_f (by omega), g1]; exact x.2.1
  · rw [lu_f (by omega), lu_f (by omega), lu_f (by omega), lu_f (by omega), lu_f (by omega), lu_s, g2, h1]
  · rw [lu_f (by omega), lu_f (by omega), lu_f (by omega), lu_f (by omega), lu_f (by omega), lu_f (by omega), g3]; exact x.2.2.2.1
  · rw [lu_f (by omega), lu_f (by omega), lu_s, g4]
  · rw [g4] at z
    obtain ⟨z1, z2⟩ := g5 z
    exact ⟨by rw [lu_f (by omega), lu_s, z1], by rw [lu_s, z2]⟩
theorem xor_0 (x : Int32) : x ^^^ 0 = x := Int32.xor_zero
theorem fl_x4 {S S1 : SS} {j : Nat} (a : sI S 1 j ≠ 0) (h1 : sI S1 1 = sI S 1) (h12 : sI S1 12 = sI S 12) (h10 : sI S1 10 j = if sI S 10 j = 0 then 1 else 0) : nI (fl3 S j) ^^^ (4 : Int32) = nI (fl3 S1 j) := by
  unfold fl3
  rw [h1, h12, h10, if_neg a, if_neg a]
  by_cases b : sI S 12 j = 0 <;> by_cases c : sI S 10 j = 0
  · rw [if_pos b, if_pos c, if_pos c]; decide
  · rw [if_pos b, if_neg c, if_neg c]; decide
  · rw [if_neg b, if_pos c, if_pos c]; decide
  · rw [if_neg b, if_neg c, if_neg c]; decide
/-- ACT at an element that takes the focus -/
theorem q_act (t : LT6 B h) (x : RD B (lw B h m) m S) (hC : Core S) (hf : canF (sI S 2 (cur S)) = true) : ∃ m', ((oIS (some (B + 90)) (2 : Int32) (nI (cur S) + (1 : Int32)) (lw B h m)).bind fun h24 =>
  (oIL (some (B + 91)) (((6 : Int32) * nI (cur S)) + (5 : Int32)) h24).bind fun x25 =>
  (oIL (some (B + 91)) ((6 : Int32) * nI (cur S)) h24).bind fun x26 =>
  Option.bind (α := Int32)
  (if x26 = (2 : Int32) then
  (some (1 : Int32))
  else
  some (0 : Int32))
  fun q27 =>
  (oIS (some (B + 91)) (((6 : Int32) * nI (cur S)) + (5 : Int32)) (x25 + q27) h24).bind fun h29 =>
  (oIL (some (B + 91)) (((6 : Int32) * nI (cur S)) + (3 : Int32)) h29).bind fun x30 =>
  (oIL (some (B + 91)) ((6 : Int32) * nI (cur S)) h29).bind fun x31 =>
  Option.bind (α := Int32)
  (if x31 = (3 : Int32) then
  (some (4 : Int32))
  else
  some (0 : Int32))
  fun q32 =>
  (oIS (some (B + 91)) (((6 : Int32) * nI (cur S)) + (3 : Int32)) (x30 ^^^ q32) h29).bind fun h34 =>
  (oIL (some (B + 91)) ((6 : Int32) * nI (cur S)) h34).bind fun x35 =>
  Option.bind (α := Int32)
  (if x35 = (4 : Int32) then
  (some (1 : Int32))
  else
  some (0 : Int32))
  fun q36 =>
  (oIS (some (B + 90)) (4 : Int32) q36 h34).bind fun h38 =>
  (oIS (some (B + 90)) (5 : Int32) (0 : Int32) h38).bind fun h39 =>
  (oIS (some (B + 90)) (6 : Int32) (0 : Int32) h39).bind fun h40 =>
  some (((), h40))) = some ((), lw B h m') ∧ LB (act S) m' := by
  have l10 := x.m10
  have tc := hC.c.2
  have lc := tc.lt
  have c10 : cur S < 10 := by omega
  have xe := x.l.e lc
  have hk : sI S 2 (cur S) = 2 ∨ sI S 2 (cur S) = 3 ∨ sI S 2 (cur S) = 4 := by
    obtain ⟨k, k1, k2⟩ := (x.k.2 _ lc).1
    rw [k2] at hf ⊢
    rcases (show k = 0 ∨ k = 1 ∨ k = 2 ∨ k = 3 ∨ k = 4 ∨ k = 5 ∨ k = 6 by omega) with rfl | rfl | rfl | rfl | rfl | rfl | rfl
    · exact absurd hf (by decide)
    · exact absurd hf (by decide)
    · exact Or.inl rfl
    · exact Or.inr (Or.inl rfl)
    · exact Or.inr (Or.inr rfl)
    · exact absurd hf (by decide)
    · exact absurd hf (by decide)
  have h22 : sI S 2 (cur S) ≠ 4 → sI S 22 0 = 0 := fun z => by
    rcases hC.xt with w | w
    · exact w
    · exact absurd w.1 z
  rw [t.pn2, sb, (t.lq _).e5 c10, sb, (t.lq _).e0 c10, sb, lu_f (by omega), lu_f (by omega), xe.1, xe.2.2.2.2.2.1]
  unfold act
  rw [if_pos hf]
  rcases hk with k | k | k
  · rw [k, if_pos (show (2 : Int32) = 2 from rfl), if_pos (show (2 : Int32) = 2 from rfl), sb, t.pe5 c10, sb, (t.lq _).e3 c10, sb, (t.lq _).e0 c10, sb, lu_f (by omega), lu_f (by omega), lu_f (by omega), lu_f (by omega), xe.1, xe.2.2.2.1, k, if_neg (show ¬ (2 : Int32) = 3 by decide), sb, t.pe3 c10, sb, (t.lq _).e0 c10, sb, lu_f (by omega), lu_f (by omega), lu_f (by omega), xe.1, k, if_neg (show ¬ (2 : Int32) = 4 by decide), sb, t.pn4, sb, t.pn5, sb, t.pn6, sb]
    refine ⟨_, rfl, LB.cAns ?_ _⟩
    refine x.l.act rfl lc hC.c.1 (S1 := wSI (act2 S) 11 (cur S) (sI S 11 (cur S) + 1)) ((Sd.I (by decide)).tr (Sd.I (by decide))) (fun j hj => by rw [sI_N (by decide)]; rfl) (fun j hj => by rw [sI_I, if_neg (fun z => hj z.2)]; rfl) ?_ ?_ rfl ?_ rfl ?_ (fun z => absurd rfl z)
    · rw [xor_0]; rfl
    · rw [sI_I, if_pos ⟨rfl, rfl⟩]
    · rw [sI_N (by decide)]; unfold act2; rw [sI_I, if_pos ⟨rfl, rfl⟩]
    · exact h22 (by rw [k]; decide)
  · rw [k, if_neg (show ¬ (3 : Int32) = 2 by decide), sb, t.pe5 c10, sb, (t.lq _).e3 c10, sb, (t.lq _).e0 c10, sb, lu_f (by omega), lu_f (by omega), lu_f (by omega), lu_f (by omega), xe.1, xe.2.2.2.1, k, if_pos (show (3 : Int32) = 3 from rfl), sb, t.pe3 c10, sb, (t.lq _).e0 c10, sb, lu_f (by omega), lu_f (by omega), lu_f (by omega), xe.1, k, if_neg (show ¬ (3 : Int32) = 4 by decide), sb, t.pn4, sb, t.pn5, sb, t.pn6, sb, if_neg (show ¬ (3 : Int32) = 2 by decide), if_pos (show (3 : Int32) = 3 from rfl)]
    refine ⟨_, rfl, LB.cAns ?_ _⟩
    refine x.l.act rfl lc hC.c.1 (S1 := wSI (act2 S) 10 (cur S) (if sI S 10 (cur S) = 0 then 1 else 0)) ((Sd.I (by decide)).tr (Sd.I (by decide))) (fun j hj => by rw [sI_I, if_neg (fun z => hj z.2)]; rfl) (fun j hj => by rw [sI_N (by decide)]; rfl) ?_ ?_ rfl ?_ rfl ?_ (fun z => absurd rfl z)
    · exact fl_x4 tc.2 rfl rfl (by rw [sI_I, if_pos ⟨rfl, rfl⟩])
    · rw [Int32.add_zero]; rfl
    · rw [sI_N (by decide)]; unfold act2; rw [sI_I, if_pos ⟨rfl, rfl⟩]
    · exact h22 (by rw [k]; decide)
  · rw [k, if_neg (show ¬ (4 : Int32) = 2 by decide), sb, t.pe5 c10, sb, (t.lq _).e3 c10, sb, (t.lq _).e0 c10, sb, lu_f (by omega), lu_f (by omega), lu_f (by omega), lu_f (by omega), xe.1, xe.2.2.2.1, k, if_neg (show ¬ (4 : Int32) = 3 by decide), sb, t.pe3 c10, sb, (t.lq _).e0 c10, sb, lu_f (by omega), lu_f (by omega), lu_f (by omega), xe.1, k, if_pos (show (4 : Int32) = 4 from rfl), sb, t.pn4, sb, t.pn5, sb, t.pn6, sb, if_neg (show ¬ (4 : Int32) = 2 by decide), if_neg (show ¬ (4 : Int32) = 3 by decide)]
    refine ⟨_, rfl, LB.cAns ?_ _⟩
    refine x.l.act rfl lc hC.c.1 (S1 := wSI (wSI (wSI (act2 S) 22 0 1) 23 0 0) 24 0 0) ((((Sd.I (by decide)).tr (Sd.I (by decide))).tr (Sd.I (by decide))).tr (Sd.I (by decide))) (fun j hj => rfl) (fun j hj => rfl) ?_ ?_ rfl ?_ rfl ?_ (fun z => ?_)
    · rw [xor_0]; rfl
    · rw [Int32.add_zero]; rfl
    · rw [sI_N (by decide), sI_N (by decide), sI_N (by decide)]; unfold act2; rw [sI_I, if_pos ⟨rfl, rfl⟩]
    · rw [sI_N (by decide), sI_N (by decide), sI_I, if_pos ⟨rfl, rfl⟩]
    · exact ⟨by rw [sI_N (by decide), sI_I, if_pos ⟨rfl, rfl⟩], by rw [sI_I, if_pos ⟨rfl, rfl⟩]⟩
theorem fnd_th (hW : WT S) {i y : Nat} (hi : th S i) {l : List Nat} (hl : ∀ j ∈ l, j ∈ sK S i) (h : fnd S l = some y) : th S y := ((hW.kids hi).2.2 y (hl y (List.mem_of_find?_eq_some h))).1
/-- COMMANDS -/
theorem q_cmd (t : LT6 B h) (x : RD B (lw B h m) m S) (hC : Core S) (p : Int32) : ∃ m', fL_commands (some (B + 90)) (some (B + 91)) (nI (ln S).length) p (lw B h m) = some ((), lw B h m') ∧ LB (cmd S p) m' := by
  have l10 := x.m10
  have tc := hC.c.2
  have lc := tc.lt
  have o40 := ord_len x.t
  have lnl := ln_len hC.l
  obtain ⟨c1, c2⟩ := cur_at hC
  unfold fL_commands cmd
  rw [x.q.n1, x.l.2.1, hC.c.1, sb]
  by_cases p1 : p = 1
  · rw [if_pos p1, if_pos p1, r_before x hC, sb]
    exact q_goes t x hC (fun y hy => by
      by_cases z : cpl S = 0
      · rw [if_pos z] at hy; cases hy
      · rw [if_neg z] at hy; cases hy
        exact (ord_at x.t (by omega)).1) wEnd
  rw [if_neg p1, if_neg p1]
  by_cases p2 : p = 8
  · have rn := r_next x c1
    rw [c2] at rn
    have e : oIx S (cpl S + 1) = rI (if cpl S + 1 < (ord S).length then some (gn (ord S) (cpl S + 1)) else none) := by
      unfold oIx
      split <;> rfl
    rw [if_pos p2, if_pos p2, rn, sb, e]
    exact q_goes t x hC (fun y hy => by
      by_cases z : cpl S + 1 < (ord S).length
      · rw [if_pos z] at hy; cases hy
        exact (ord_at x.t z).1
      · rw [if_neg z] at hy; cases hy) wEnd
  rw [if_neg p2, if_neg p2]
  by_cases p3 : p = 4
  · have e : sI S 3 (cur S) = rI (if cur S = 0 then none else some (dpar S (cur S))) := by
      rcases Nat.eq_zero_or_pos (cur S) with z | z
      · rw [if_pos z, z, x.p0]; rfl
      · rw [if_neg (by omega), (x.pp z lc).1]; rfl
    rw [if_pos p3, if_pos p3, x.pr lc, sb, e]
    exact q_goes t x hC (fun y hy => by
      by_cases z : cur S = 0
      · rw [if_pos z] at hy; cases hy
      · rw [if_neg z] at hy; cases hy
        exact (x.t.up (by omega) tc).1) wNone
  rw [if_neg p3, if_neg p3]
  by_cases p4 : p = 32
  · have rk := r_kid x (n := 0) (a := 0) tc (by decide)
    rw [show nI 0 = 0 from rfl, kidL_fnd, List.drop_zero] at rk
    rw [if_pos p4, if_pos p4, rk, sb]
    exact q_goes t x hC (fun y hy => fnd_th x.t tc (fun j hj => hj) hy) wNone
  rw [if_neg p4, if_neg p4]
  have rwt : inRow S = true → th S (dpar S (dpar S (cur S))) := fun hr => by
    have hr2 := of_decide_eq_true hr
    have u := x.t.up (show 0 < cur S by omega) tc
    have r0 : 0 < dpar S (cur S) := by
      rcases Nat.eq_zero_or_pos (dpar S (cur S)) with y | y
      · have := hr2.2
        rw [y, x.t.2.2.1] at this
        exact absurd this (by decide)
      · exact y
    exact (x.t.up r0 u.1).1
  by_cases p5 : p = 2
  · have rr := r_rows x hC false
    rw [if_neg (show ¬ false = true by decide), if_neg (show ¬ false = true by decide)] at rr
    rw [if_pos p5, if_pos p5, if_pos p5, sb, rr, sb]
    unfold gUp
    by_cases hr : inRow S = true
    · rw [if_pos hr, if_pos hr]
      exact q_goes t x hC (fun y hy => rwF_th x.t (rwt hr) (fun j hj => List.mem_of_mem_take (List.mem_reverse.mp hj)) y hy) wEnd
    · rw [if_neg hr, if_neg hr]
      exact q_goes t x hC (o := none) (fun y hy => by cases hy) wNone
  rw [if_neg p5, if_neg p5, if_neg p5]
  by_cases p6 : p = 16
  · have rr := r_rows x hC true
    rw [if_pos (show true = true from rfl), if_pos (show true = true from rfl)] at rr
    rw [if_pos p6, if_pos p6, sb, rr, sb]
    unfold gDown
    by_cases hr : inRow S = true
    · rw [if_pos hr, if_pos hr]
      exact q_goes t x hC (fun y hy => rwF_th x.t (rwt hr) (fun j hj => List.mem_of_mem_drop hj) y hy) wEnd
    · rw [if_neg hr, if_neg hr]
      exact q_goes t x hC (o := none) (fun y hy => by cases hy) wNone
  rw [if_neg p6, if_neg p6]
  by_cases p7 : p = 30
  · rw [if_pos p7, if_pos p7, r_tab x hC, sb]
    unfold gTab
    cases hf : tbF S with
    | none =>
      rw [if_neg (show ¬ (0 : Int32) ≤ rI none by decide), x.q.n2, sb, sb, t.pn2, sb, lu_self]
      exact q_goes t x hC (o := none) (fun y hy => by cases hy) wNone
    | some y =>
      have ty : th S y := by
        have hm := List.mem_of_find?_eq_some hf
        rcases List.mem_append.mp hm with q | q
        · exact (ord_in x.t (List.mem_of_mem_drop q)).1
        · exact (ord_in x.t (List.mem_of_mem_take q)).1
      have yl := ty.lt
      rw [if_pos (show (0 : Int32) ≤ rI (some y) from nI_pos' (by omega)), sb, t.pn2, sb]
      have hs : Sd [20, 21, 22, 23, 24, 25] [] [] S (wSI S 21 0 (nI y)) := Sd.I (by decide)
      have xl : LB (wSI S 21 0 (nI y)) (lu m 0 2 (rI (some y) + 1)) := by
        refine x.l.gl (by omega) hs (fun j k hj => lu_f (by omega)) rfl (lu_f (by omega)) ?_ ?_ ?_ ?_ (fun z => ?_)
        · rw [lu_f (by omega)]; exact x.l.2.1
        · rw [lu_s, sI_I, if_pos ⟨rfl, rfl⟩]; rfl
        · rw [lu_f (by omega)]; exact x.l.2.2.2.1
        · rw [lu_f (by omega)]; exact x.l.2.2.2.2.1
        · rw [lu_f (by omega), lu_f (by omega)]; exact x.l.2.2.2.2.2.1 z
      obtain ⟨m', g1, g2⟩ := r_goes t xl (by show 0 < made S; omega) hC.c.1 (show cur S < 2 ^ 31 by omega) (o := some y) (fun z hz => by cases hz; omega) []
      exact ⟨m', by rw [g1]; rfl, g2⟩
  rw [if_neg p7, if_neg p7]
  by_cases p8 : p = 128
  · rw [if_pos p8, if_pos p8, r_canF x lc, sb]
    cases hf : canF (sI S 2 (cur S))
    · rw [if_pos (show bI false = 0 from rfl), if_neg (show ¬ p = 7 by rw [p8]; decide), if_neg (show ¬ p = 56 by rw [p8]; decide)]
      unfold act
      rw [hf, if_neg (show ¬ false = true by decide)]
      exact ⟨m, rfl, x.l.cAns _⟩
    · rw [if_neg (show ¬ bI true = 0 by decide)]
      exact q_act t x hC hf
  rw [if_neg p8, if_neg p8]
  by_cases p9 : p = 64
  · rw [if_pos p9, if_neg (show ¬ p = 7 by rw [p9]; decide), if_neg (show ¬ p = 56 by rw [p9]; decide)]
    exact ⟨m, rfl, x.l.sd (sd_hush S) rfl⟩
  rw [if_neg p9]
  obtain ⟨o, o1, o2⟩ := hC.xo
  have e3 := x.l.2.2.2.1
  by_cases p10 : p = 7
  · rw [if_pos p10, if_pos p10, x.q.n3, sb]
    unfold gLeft
    have hs : ∀ v, Sd [20, 21, 22, 23, 24, 25] [] [] S (wSI S 25 0 v) := fun v => Sd.I (by decide)
    have fin : ∀ v, LB (wSI S 25 0 v) (lu m 0 3 v) := fun v => by
      refine x.l.gl (by omega) (hs v) (fun j k hj => lu_f (by omega)) rfl (lu_f (by omega)) ?_ ?_ ?_ ?_ (fun z => ?_)
      · rw [lu_f (by omega)]; exact x.l.2.1
      · rw [lu_f (by omega)]; exact x.l.2.2.1
      · rw [lu_s, sI_I, if_pos ⟨rfl, rfl⟩]
      · rw [lu_f (by omega)]; exact x.l.2.2.2.2.1
      · rw [lu_f (by omega), lu_f (by omega)]; exact x.l.2.2.2.2.2.1 z
    by_cases z : m.1 0 3 ≤ 0
    · rw [if_pos z, t.pn3, sb, if_pos (show sI S 25 0 ≤ 0 by rw [← e3]; exact z), Int32.sub_zero]
      have e0 : m.1 0 3 = 0 := by
        rw [e3, o2] at z ⊢
        rcases Nat.eq_zero_or_pos (10 * o) with w | w
        · rw [w]; rfl
        · exact absurd z (nI_nle w (by omega))
      refine ⟨_, rfl, ?_⟩
      rw [← e3, e0]
      exact fin _
    · rw [if_neg z, sb, t.pn3, sb, if_neg (show ¬ sI S 25 0 ≤ 0 by rw [← e3]; exact z), e3]
      exact ⟨_, rfl, fin _⟩
  rw [if_neg p10, if_neg p10]
  by_cases p11 : p = 56
  · rw [if_pos p11, if_pos p11, x.q.n3, sb, sb]
    unfold gRight
    have hs : ∀ v, Sd [20, 21, 22, 23, 24, 25] [] [] S (wSI S 25 0 v) := fun v => Sd.I (by decide)
    have fin : ∀ v, LB (wSI S 25 0 v) (lu m 0 3 v) := fun v => by
      refine x.l.gl (by omega) (hs v) (fun j k hj => lu_f (by omega)) rfl (lu_f (by omega)) ?_ ?_ ?_ ?_ (fun z => ?_)
      · rw [lu_f (by omega)]; exact x.l.2.1
      · rw [lu_f (by omega)]; exact x.l.2.2.1
      · rw [lu_s, sI_I, if_pos ⟨rfl, rfl⟩]
      · rw [lu_f (by omega)]; exact x.l.2.2.2.2.1
      · rw [lu_f (by omega), lu_f (by omega)]; exact x.l.2.2.2.2.2.1 z
    rw [e3]
    by_cases z : nI (ln S).length ≤ sI S 25 0 + 10
    · rw [if_pos z, if_pos z, t.pn3, sb]
      exact ⟨_, rfl, fin _⟩
    · rw [if_neg z, if_neg z, t.pn3, sb]
      exact ⟨_, rfl, fin _⟩
  rw [if_neg p11, if_neg p11]
  split
  · exact ⟨m, rfl, x.l.cAns _⟩
  · exact ⟨m, rfl, x.l⟩
end CM2

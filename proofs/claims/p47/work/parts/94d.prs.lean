/-! ===== the law presses ===== -/
section PRS
variable {B : Nat} {h : hp} {m : LY} {S : SS}
theorem tk_gen {l : List Int32} (ol : okC 7 l) (l0 : 0 < l.length) (l6 : l.length ≤ 6) : lN (pkF 7 l) &&& (((127 : Int64) <<< ((nI (7 * (l.length - 1))).toInt64 &&& 63)) ^^^ (-1 : Int64)) = lN (pkF 7 (l.take (l.length - 1))) := by
  have h1 := pkx_lt (b := 7) (by decide) ol
  have e : l = l.take (l.length - 1) ++ [ge l (l.length - 1)] := by
    have := take_succ_ge (l := l) (k := l.length - 1) (by omega)
    rw [show l.length - 1 + 1 = l.length by omega, take_all] at this
    exact this
  have tl : (l.take (l.length - 1)).length = l.length - 1 := by rw [List.length_take]; omega
  rw [show (127 : Int64) = lN 127 from rfl, wb_shl 127 (by omega), clr_bits (by omega) (by rw [show l.length - 1 + 1 = l.length by omega]; exact h1)]
  congr 1
  have pk := pk_take (b := 7) (by decide) (l := l.take (l.length - 1)) (c := ge l (l.length - 1)) (by rw [← e]; exact ol)
  rw [← e, tl] at pk
  exact pk
/-- the last character goes -/
theorem q_tkb (t : LT6 B h) (x : RD B (lw B h m) m S) (hC : Core S) (h0 : 0 < (sL S 8 (cur S)).length) : ∃ m', ((oIL (some (B + 94)) (nI (cur S)) (lw B h m)).bind fun x10 =>
  (oIS (some (B + 94)) (nI (cur S)) (x10 - (1 : Int32)) (lw B h m)).bind fun h11 =>
  (oIL (some (B + 94)) (nI (cur S)) h11).bind fun x12 =>
  (oNz (6 : Int32)).bind fun _ =>
  (oJL (some (B + 93)) (((2 : Int32) * nI (cur S)) + (x12 / (6 : Int32))) h11).bind fun x13 =>
  (oIL (some (B + 94)) (nI (cur S)) h11).bind fun x14 =>
  (oNz (6 : Int32)).bind fun _ =>
  (oJS (some (B + 93)) (((2 : Int32) * nI (cur S)) + (x12 / (6 : Int32))) (x13 &&& (((127 : Int64) <<< (((7 : Int32) * (x14 - x14 / (6 : Int32) * (6 : Int32))).toInt64 &&& 63)) ^^^ (-1 : Int64))) h11).bind fun h15 =>
  some (((), h15))) = some ((), lw B h m') ∧ LB (tkB S) m' := by
  have l10 := x.m10
  have tc := hC.c.2
  have lc := tc.lt
  have ok := x.ok8 lc
  have h12 := (hC.l (cur S)).2.1
  obtain ⟨-, -, -, -, -, -, -, b7, b8, b9⟩ := x.l.e lc
  obtain ⟨d1, d2⟩ := i7 ((sL S 8 (cur S)).length - 1) 0 (by omega)
  rw [d1] at d2
  have k2 : 2 * cur S + ((sL S 8 (cur S)).length - 1) / 6 < 20 := by omega
  have r4 : ∀ m1 : LY, m1.1 4 (cur S) = nI ((sL S 8 (cur S)).length - 1) → oIL (some (B + 94)) (nI (cur S)) (lw B h m1) = some (nI ((sL S 8 (cur S)).length - 1)) := fun m1 e => by
    rw [(t.lq _).mt (by omega), e]
  have key : m.2 3 (2 * cur S + ((sL S 8 (cur S)).length - 1) / 6) &&& (((127 : Int64) <<< ((nI (7 * (((sL S 8 (cur S)).length - 1) % 6))).toInt64 &&& 63)) ^^^ (-1 : Int64)) = lN (pkF 7 (if (sL S 8 (cur S)).length ≤ 6 then (sL S 8 (cur S)).take ((sL S 8 (cur S)).length - 1) else ((sL S 8 (cur S)).drop 6).take ((sL S 8 (cur S)).length - 7))) := by
    by_cases q : (sL S 8 (cur S)).length ≤ 6
    · rw [if_pos q, Nat.div_eq_of_lt (by omega), Nat.mod_eq_of_lt (by omega), Nat.add_zero, b7, List.take_of_length_le q]
      exact tk_gen ok h0 q
    · have e1 : ((sL S 8 (cur S)).length - 1) / 6 = 1 := by omega
      have dl : ((sL S 8 (cur S)).drop 6).length = (sL S 8 (cur S)).length - 6 := by rw [List.length_drop]
      have := tk_gen (okC_drop (n := 6) ok) (by omega) (by omega)
      rw [dl, show (sL S 8 (cur S)).length - 6 - 1 = (sL S 8 (cur S)).length - 7 by omega] at this
      rw [if_neg q, e1, b8, show ((sL S 8 (cur S)).length - 1) % 6 = (sL S 8 (cur S)).length - 7 by omega]
      exact this
  rw [x.ct lc, sb, nI_pr h0, t.pm (by omega), sb, r4 _ lu_s, sb, show oNz (6 : Int32) = some () from rfl, sb, d1, i2j, (t.lq _).t k2, sb, sb, sb, d1, d2]
  rw [show (lu m 4 (cur S) (nI ((sL S 8 (cur S)).length - 1))).2 3 (2 * cur S + ((sL S 8 (cur S)).length - 1) / 6) = m.2 3 (2 * cur S + ((sL S 8 (cur S)).length - 1) / 6) from rfl, key, t.pt k2, sb]
  refine ⟨_, rfl, ?_⟩
  have e8 : ∀ j, sL (tkB S) 8 j = if j = cur S then (sL S 8 (cur S)).take ((sL S 8 (cur S)).length - 1) else sL S 8 j := fun j => by
    unfold tkB
    rw [if_neg (by omega), (sd_sayC _ _).l 8 rfl, sL_L]
    by_cases q : j = cur S
    · rw [if_pos ⟨rfl, q⟩, if_pos q]
    · rw [if_neg (fun z => q z.2), if_neg q]
  have hs : Sd [22, 23, 24, 38, 44] [8, 33] [] S (tkB S) := by
    unfold tkB
    exact Sd.if ((sd_cAns _ _).mono (by decide)) ((Sd.L (by decide)).tr ((sd_sayC _ _).mono (by decide)))
  have hs2 : Sd [38, 44] [8, 33] [] S (tkB S) := by
    unfold tkB
    exact Sd.if ((sd_cAns _ _).mono (by decide)) ((Sd.L (by decide)).tr ((sd_sayC _ _).mono (by decide)))
  have ec := e8 (cur S)
  rw [if_pos rfl] at ec
  generalize hV : lN (pkF 7 (if (sL S 8 (cur S)).length ≤ 6 then (sL S 8 (cur S)).take ((sL S 8 (cur S)).length - 1) else ((sL S 8 (cur S)).drop 6).take ((sL S 8 (cur S)).length - 7))) = V
  refine x.l.tx (c := cur S) hs (fun j hj => by rw [e8, if_neg hj]) lc (fun j k hj hk => ?_) (fun k => ?_) (fun k hk1 hk2 => ?_) ?_ ?_ ?_ (fun k hk => ?_) ?_ (fun z => ?_)
  · show (lu m 4 (cur S) (nI ((sL S 8 (cur S)).length - 1))).1 j k = _
    rw [lu_f (by omega)]
  · rw [lv_f (by omega)]; rfl
  · rw [lv_f (by omega)]; rfl
  · show (lu m 4 (cur S) (nI ((sL S 8 (cur S)).length - 1))).1 4 (cur S) = _
    rw [lu_s, ec, List.length_take, show min ((sL S 8 (cur S)).length - 1) (sL S 8 (cur S)).length = (sL S 8 (cur S)).length - 1 by omega]
  · rw [ec]
    by_cases q : (sL S 8 (cur S)).length ≤ 6
    · rw [Nat.div_eq_of_lt (by omega), Nat.add_zero, lv_s, ← hV, if_pos q, List.take_take, show min 6 ((sL S 8 (cur S)).length - 1) = (sL S 8 (cur S)).length - 1 by omega]
    · rw [lv_f (by omega), List.take_take, show min 6 ((sL S 8 (cur S)).length - 1) = 6 by omega]; exact b7
  · rw [ec, List.drop_take]
    by_cases q : (sL S 8 (cur S)).length ≤ 6
    · rw [lv_f (by omega), List.drop_of_length_le q, List.take_nil]
      rw [List.drop_of_length_le q] at b8
      exact b8
    · rw [show ((sL S 8 (cur S)).length - 1) / 6 = 1 by omega, lv_s, ← hV, if_neg q, show (sL S 8 (cur S)).length - 1 - 6 = (sL S 8 (cur S)).length - 7 by omega]
  · show (lu m 4 (cur S) (nI ((sL S 8 (cur S)).length - 1))).1 0 k = _
    rw [lu_f (by omega)]
  · show (lu m 4 (cur S) (nI ((sL S 8 (cur S)).length - 1))).1 0 4 = _
    rw [lu_f (by omega), hs2.i 22 rfl]; exact x.l.2.2.2.2.1
  · show (lu m 4 (cur S) (nI ((sL S 8 (cur S)).length - 1))).1 0 5 = _ ∧ (lu m 4 (cur S) (nI ((sL S 8 (cur S)).length - 1))).1 0 6 = _
    rw [hs2.i 22 rfl] at z
    rw [lu_f (by omega), lu_f (by omega), hs2.i 23 rfl, hs2.i 24 rfl]
    exact x.l.2.2.2.2.2.1 z
theorem pts_not : ∀ j, j < 26 → ptsN j ≠ 32 ∧ ptsN j ≠ 60 ∧ ptsN j ≠ 48 ∧ ptsN j ≠ 64 ∧ ptsN j ≠ 128 ∧ ptsN j ≠ 256 := by decide +kernel
theorem typ_8 {c : Int32} (hl : (sL S 8 (cur S)).length < 12) (j : Nat) : sL (typ S c) 8 j = if j = cur S then sL S 8 (cur S) ++ [c] else sL S 8 j := by
  unfold typ
  rw [if_neg (by omega), (sd_sayC _ _).l 8 rfl, sL_L]
  by_cases q : j = cur S
  · rw [if_pos ⟨rfl, q⟩, if_pos q]
  · rw [if_neg (fun z => q z.2), if_neg q]
theorem typ_f {c : Int32} (hl : (sL S 8 (cur S)).length = 12) : typ S c = cAns S [102, 117, 108, 108] := by unfold typ; rw [if_pos hl]
theorem ch0_if (p : Int32) : (if p = (50 : Int32) then
  (some (46 : Int32))
  else
  if p = (2 : Int32) then
  (some (44 : Int32))
  else
  if p = (38 : Int32) then
  (some (63 : Int32))
  else
  if p = (36 : Int32) then
  (some (45 : Int32))
  else
  if p = (256 : Int32) then
  (some (32 : Int32))
  else
  some (0 : Int32)) = some (ch0 p) := by
  unfold ch0
  split
  · rfl
  · split
    · rfl
    · split
      · rfl
      · split
        · rfl
        · split <;> rfl
theorem LB.g1 (x : LB S m) (h0 : 0 < made S) {k : Nat} {v : Int32} (hk : k = 22 ∨ k = 23 ∨ k = 24) (hz : k = 22 → v = 0) : LB (wSI S k 0 v) (lu m 0 (k - 18) v) := by
  have hs : Sd [20, 21, 22, 23, 24, 25] [] [] S (wSI S k 0 v) := Sd.I (by rcases hk with rfl | rfl | rfl <;> decide)
  refine x.gl h0 hs (fun j k hj => lu_f (by omega)) rfl (lu_f (by omega)) ?_ ?_ ?_ ?_ (fun z => ?_)
  · rw [lu_f (by omega), sI_N (by omega)]; exact x.2.1
  · rw [lu_f (by omega), sI_N (by omega)]; exact x.2.2.1
  · rw [lu_f (by omega), sI_N (by omega)]; exact x.2.2.2.1
  · rcases hk with rfl | rfl | rfl
    · rw [lu_s, sI_I, if_pos ⟨rfl, rfl⟩]
    · rw [lu_f (by omega), sI_N (by omega)]; exact x.2.2.2.2.1
    · rw [lu_f (by omega), sI_N (by omega)]; exact x.2.2.2.2.1
  · rcases hk with rfl | rfl | rfl
    · rw [sI_I, if_pos ⟨rfl, rfl⟩] at z
      exact absurd (hz rfl) z
    · rw [sI_N (by omega)] at z
      obtain ⟨z1, z2⟩ := x.2.2.2.2.2.1 z
      exact ⟨by rw [lu_s, sI_I, if_pos ⟨rfl, rfl⟩], by rw [lu_f (by omega), sI_N (by omega)]; exact z2⟩
    · rw [sI_N (by omega)] at z
      obtain ⟨z1, z2⟩ := x.2.2.2.2.2.1 z
      exact ⟨by rw [lu_f (by omega), sI_N (by omega)]; exact z1, by rw [lu_s, sI_I, if_pos ⟨rfl, rfl⟩]⟩
theorem q_chr (t : LT6 B h) (x : RD B (lw B h m) m S) (hC : Core S) (h22 : sI S 22 0 ≠ 0) {p : Int32} (hl : lto p = none) {n : Nat} (n0 : 0 < n) (n63 : n ≤ 63) (en : ch0 p = nI n) (w1 : p ≠ 32) (w2 : p ≠ 60) (w3 : p ≠ 48) (w4 : p ≠ 64) (w5 : p ≠ 128) : ∃ m', fL_types (some (B + 90)) (some (B + 93)) (some (B + 94)) p (lw B h m) = some ((), lw B h m') ∧ LB (if p = 256 then (if full S = true then typ S (nI n) else wSI (typ S (nI n)) 24 0 0) else typ S (nI n)) m' := by
  have l10 := x.m10
  have tc := hC.c.2
  have lc := tc.lt
  have h12 := (hC.l (cur S)).2.1
  have ec : chF S p 26 = ch0 p := by unfold chF; rw [hl]
  unfold fL_types
  rw [x.q.n1, x.l.2.1, hC.c.1, sb, ch0_if, sb, ty_loop x.q x.l x.b h22, sb]
  rw [ec, en, if_neg (nI_nle n0 (by omega)), x.ct lc, sb]
  by_cases fl : (sL S 8 (cur S)).length = 12
  · rw [if_pos (show (12 : Int32) ≤ nI (sL S 8 (cur S)).length by rw [fl]; decide), if_neg w1, if_neg w2, if_neg w3, if_neg w4, if_neg w5]
    refine ⟨m, rfl, ?_⟩
    have ef : full S = true := decide_eq_true fl
    rw [typ_f fl, ef, if_pos (show true = true from rfl)]
    split <;> exact x.l.cAns _
  · have hlt : (sL S 8 (cur S)).length < 12 := by omega
    have ef : full S = false := decide_eq_false fl
    rw [if_neg (show ¬ (12 : Int32) ≤ nI (sL S 8 (cur S)).length from nI_ge (b := 12) hlt (by decide)), ef, if_neg (show ¬ false = true by decide)]
    by_cases w6 : p = 256
    · rw [if_pos w6]
      refine q_app t x hC h22 hlt n0 (by omega) p (((sd_typ S _).mono (by decide)).tr (Sd.I (by decide))) (fun k => ?_) ?_ ?_ ?_
      · rw [sL_I]; exact typ_8 hlt k
      · rw [sI_N (by decide)]; exact congrFun ((sd_typ S (nI n)).i 22 rfl) 0
      · rw [if_pos n63, sI_N (by decide)]; exact congrFun ((sd_typ S (nI n)).i 23 rfl) 0
      · rw [if_pos n63, if_pos w6, sI_I, if_pos ⟨rfl, rfl⟩]
    · rw [if_neg w6]
      refine q_app t x hC h22 hlt n0 (by omega) p ((sd_typ S _).mono (by decide)) (fun k => typ_8 hlt k) ((congrFun ((sd_typ S (nI n)).i 22 rfl) 0)) ?_ ?_
      · rw [if_pos n63]; exact congrFun ((sd_typ S (nI n)).i 23 rfl) 0
      · rw [if_pos n63, if_neg w6]; exact congrFun ((sd_typ S (nI n)).i 24 rfl) 0
/-- TYPES -/
theorem q_typ (t : LT6 B h) (x : RD B (lw B h m) m S) (hC : Core S) (h22 : sI S 22 0 ≠ 0) (p : Int32) : ∃ m', fL_types (some (B + 90)) (some (B + 93)) (some (B + 94)) p (lw B h m) = some ((), lw B h m') ∧ LB (typS S p) m' := by
  have l10 := x.m10
  have tc := hC.c.2
  have lc := tc.lt
  have h12 := (hC.l (cur S)).2.1
  have full_eq : full S = decide ((sL S 8 (cur S)).length = 12) := rfl
  cases hl : lto p with
  | some j =>
    obtain ⟨j1, j2⟩ := lto_s hl
    obtain ⟨w1, w2, w3, w4, w5, w6⟩ := pts_not j j1
    rw [j2] at w1 w2 w3 w4 w5 w6
    have ec : chF S p 26 = tcS S j := by unfold chF; rw [hl]; exact if_pos j1
    have eT : typS S p = typL S j := by unfold typS; rw [hl]
    -- the code
    obtain ⟨n, n0, n7, en⟩ : ∃ n, 0 < n ∧ n < 128 ∧ tcS S j = nI n := by
      unfold tcS
      split
      · rename_i q
        split
        · exact ⟨48, by decide, by decide, rfl⟩
        · exact ⟨49 + j, by omega, by omega, rfl⟩
      · split
        · exact ⟨65 + j, by omega, by omega, rfl⟩
        · exact ⟨97 + j, by omega, by omega, rfl⟩
    unfold fL_types
    rw [x.q.n1, x.l.2.1, hC.c.1, sb, ch0_if, sb, ty_loop x.q x.l x.b h22, sb, ec, en, if_neg (nI_nle n0 (by omega)), x.ct lc, sb, eT]
    by_cases fl : (sL S 8 (cur S)).length = 12
    · rw [if_pos (show (12 : Int32) ≤ nI (sL S 8 (cur S)).length by rw [fl]; decide), if_neg w1, if_neg w2, if_neg w3, if_neg w4, if_neg w5]
      refine ⟨m, rfl, ?_⟩
      have ef : full S = true := decide_eq_true fl
      unfold typL
      rw [typ_f fl, ef, if_pos (show true = true from rfl), typ_f fl]
      split <;> exact x.l.cAns _
    · have hlt : (sL S 8 (cur S)).length < 12 := by omega
      have ef : full S = false := decide_eq_false fl
      rw [if_neg (show ¬ (12 : Int32) ≤ nI (sL S 8 (cur S)).length from nI_ge (b := 12) hlt (by decide))]
      have hb24 := x.b 24 (by decide) 0
      have hb23 := x.b 23 (by decide) 0
      by_cases dg : sI S 24 0 = 1 ∧ sI S 23 0 = 0 ∧ j < 10
      · have e1 : typL S j = typ S (nI n) := by
          unfold typL
          rw [if_pos ⟨by rw [dg.1]; decide, dg.2⟩, ← en]
          unfold tcS
          rw [if_pos dg]
        have n63 : n ≤ 63 := by
          unfold tcS at en
          rw [if_pos dg] at en
          split at en
          · have := (nI_eq (a := 48) (by decide) (by omega)).mp en; omega
          · have := (nI_eq (by omega) (by omega)).mp en; omega
        rw [e1]
        refine q_app t x hC h22 hlt n0 n7 p ((sd_typ S _).mono (by decide)) (fun k => typ_8 hlt k) ((congrFun ((sd_typ S (nI n)).i 22 rfl) 0)) ?_ ?_
        · rw [if_pos n63]; exact congrFun ((sd_typ S (nI n)).i 23 rfl) 0
        · rw [if_pos n63, if_neg w6]; exact congrFun ((sd_typ S (nI n)).i 24 rfl) 0
      · have e0 : (if sI S 23 0 = 0 then (97 : Int32) else 65) + nI j = nI n := by
          rw [← en]
          unfold tcS
          rw [if_neg dg]
          rcases hb23 with z | z
          · rw [z, if_pos rfl, if_neg (show ¬ (0 : Int32) = 1 by decide), show (97 : Int32) = nI 97 from rfl, nI_add]
          · rw [z, if_neg (show ¬ (1 : Int32) = 0 by decide), if_pos rfl, show (65 : Int32) = nI 65 from rfl, nI_add]
        have e1 : typL S j = wSI (wSI (typ S (nI n)) 23 0 0) 24 0 0 := by
          unfold typL
          rw [if_neg (show ¬ (sI S 24 0 ≠ 0 ∧ sI S 23 0 = 0 ∧ j < 10) from fun z => dg ⟨hb24.resolve_left z.1, z.2⟩), ef, if_neg (show ¬ false = true by decide), e0]
        have n63 : ¬ n ≤ 63 := by
          unfold tcS at en
          rw [if_neg dg] at en
          split at en
          · have := (nI_eq (by omega) (by omega)).mp en; omega
          · have := (nI_eq (by omega) (by omega)).mp en; omega
        rw [e1]
        refine q_app t x hC h22 hlt n0 n7 p ((((sd_typ S _).mono (by decide)).tr (Sd.I (by decide))).tr (Sd.I (by decide))) (fun k => ?_) ?_ ?_ ?_
        · rw [sL_I, sL_I]; exact typ_8 hlt k
        · rw [sI_N (by decide), sI_N (by decide)]; exact congrFun ((sd_typ S (nI n)).i 22 rfl) 0
        · rw [if_neg n63, sI_N (by decide), sI_I, if_pos ⟨rfl, rfl⟩]
        · rw [if_neg n63, sI_I, if_pos ⟨rfl, rfl⟩]
  | none =>
    have ec : chF S p 26 = ch0 p := by unfold chF; rw [hl]
    unfold typS
    rw [hl]
    dsimp only
    by_cases p1 : p = 32
    · unfold fL_types
      rw [x.q.n1, x.l.2.1, hC.c.1, sb, ch0_if, sb, ty_loop x.q x.l x.b h22, sb, ec, if_pos (show ch0 p ≤ 0 by rw [p1]; decide), if_pos p1, if_pos p1, t.pn5, sb]
      exact ⟨_, rfl, x.l.g1 (by omega) (k := 23) (Or.inr (Or.inl rfl)) (fun z => absurd z (by decide))⟩
    rw [if_neg p1]
    by_cases p2 : p = 60
    · unfold fL_types
      rw [x.q.n1, x.l.2.1, hC.c.1, sb, ch0_if, sb, ty_loop x.q x.l x.b h22, sb, ec, if_pos (show ch0 p ≤ 0 by rw [p2]; decide), if_neg p1, if_pos p2, if_pos p2, if_pos p2, t.pn6, sb]
      exact ⟨_, rfl, x.l.g1 (by omega) (k := 24) (Or.inr (Or.inr rfl)) (fun z => absurd z (by decide))⟩
    rw [if_neg p2]
    by_cases p3 : p = 48
    · unfold fL_types
      rw [x.q.n1, x.l.2.1, hC.c.1, sb, ch0_if, sb, ty_loop x.q x.l x.b h22, sb, ec, if_pos (show ch0 p ≤ 0 by rw [p3]; decide), if_neg p1, if_neg p2, if_pos p3, if_neg p2, if_pos p3, t.pn6, sb]
      exact ⟨_, rfl, x.l.g1 (by omega) (k := 24) (Or.inr (Or.inr rfl)) (fun z => absurd z (by decide))⟩
    rw [if_neg p3]
    by_cases p4 : p = 64
    · unfold fL_types
      rw [x.q.n1, x.l.2.1, hC.c.1, sb, ch0_if, sb, ty_loop x.q x.l x.b h22, sb, ec, if_pos (show ch0 p ≤ 0 by rw [p4]; decide), if_neg p1, if_neg p2, if_neg p3, if_pos p4, x.ct lc, sb, if_neg (show ¬ p = 50 by rw [p4]; decide), if_neg (show ¬ p = 2 by rw [p4]; decide), if_neg (show ¬ p = 38 by rw [p4]; decide), if_neg (show ¬ p = 36 by rw [p4]; decide), if_neg (show ¬ p = 256 by rw [p4]; decide), if_pos p4]
      rcases Nat.eq_zero_or_pos (sL S 8 (cur S)).length with z | z
      · rw [if_pos (show nI (sL S 8 (cur S)).length ≤ 0 by rw [z]; decide), if_neg (show ¬ p = 128 by rw [p4]; decide)]
        refine ⟨m, rfl, ?_⟩
        unfold tkB
        rw [if_pos z]
        exact x.l.cAns _
      · rw [if_neg (nI_nle z (by omega))]
        have := q_tkb t x hC z
        rw [x.ct lc] at this
        exact this
    by_cases p5 : p = 128
    · unfold fL_types
      rw [x.q.n1, x.l.2.1, hC.c.1, sb, ch0_if, sb, ty_loop x.q x.l x.b h22, sb, ec, if_pos (show ch0 p ≤ 0 by rw [p5]; decide), if_neg p1, if_neg p2, if_neg p3, if_neg p4, if_pos p5, if_neg (show ¬ p = 50 by rw [p5]; decide), if_neg (show ¬ p = 2 by rw [p5]; decide), if_neg (show ¬ p = 38 by rw [p5]; decide), if_neg (show ¬ p = 36 by rw [p5]; decide), if_neg (show ¬ p = 256 by rw [p5]; decide), if_neg p4, if_pos p5, t.pn4, sb]
      exact ⟨_, rfl, LB.cAns (x.l.g1 (by omega) (k := 22) (Or.inl rfl) (fun _ => rfl)) _⟩
    by_cases a1 : p = 50
    · have := q_chr t x hC h22 hl (n := 46) (by decide) (by decide) (by unfold ch0; rw [if_pos a1]; rfl) p1 p2 p3 p4 p5
      rw [if_neg (show ¬ p = 256 by rw [a1]; decide)] at this
      rw [if_pos a1]
      exact this
    rw [if_neg a1]
    by_cases a2 : p = 2
    · have := q_chr t x hC h22 hl (n := 44) (by decide) (by decide) (by unfold ch0; rw [if_neg a1, if_pos a2]; rfl) p1 p2 p3 p4 p5
      rw [if_neg (show ¬ p = 256 by rw [a2]; decide)] at this
      rw [if_pos a2]
      exact this
    rw [if_neg a2]
    by_cases a3 : p = 38
    · have := q_chr t x hC h22 hl (n := 63) (by decide) (by decide) (by unfold ch0; rw [if_neg a1, if_neg a2, if_pos a3]; rfl) p1 p2 p3 p4 p5
      rw [if_neg (show ¬ p = 256 by rw [a3]; decide)] at this
      rw [if_pos a3]
      exact this
    rw [if_neg a3]
    by_cases a4 : p = 36
    · have := q_chr t x hC h22 hl (n := 45) (by decide) (by decide) (by unfold ch0; rw [if_neg a1, if_neg a2, if_neg a3, if_pos a4]; rfl) p1 p2 p3 p4 p5
      rw [if_neg (show ¬ p = 256 by rw [a4]; decide)] at this
      rw [if_pos a4]
      exact this
    rw [if_neg a4]
    by_cases a5 : p = 256
    · have := q_chr t x hC h22 hl (n := 32) (by decide) (by decide) (by unfold ch0; rw [if_neg a1, if_neg a2, if_neg a3, if_neg a4, if_pos a5]; rfl) p1 p2 p3 p4 p5
      rw [if_pos a5] at this
      rw [if_pos a5]
      exact this
    rw [if_neg a5, if_neg p4, if_neg p5]
    have e0 : ch0 p = 0 := by unfold ch0; rw [if_neg a1, if_neg a2, if_neg a3, if_neg a4, if_neg a5]
    unfold fL_types
    rw [x.q.n1, x.l.2.1, hC.c.1, sb, ch0_if, sb, ty_loop x.q x.l x.b h22, sb, ec, if_pos (show ch0 p ≤ 0 by rw [e0]; decide), if_neg p1, if_neg p2, if_neg p3, if_neg p4, if_neg p5]
    exact ⟨m, rfl, x.l⟩
end PRS

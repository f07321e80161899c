/-! ===== what the class's constructors make: tree, voice, regions, pins, reader ===== -/
section BM
variable {B : Nat} {L : List cel} {h : hp}
theorem gd_rr {L R : List cel} {i : Nat} : (L ++ R).getD (L.length + i) dc = R.getD i dc := gd_r
/-- a pointer written at any new cell -/
theorem bl_wR2 {R : List cel} {j : Nat} (hj : j < R.length) (k : Nat) (x : rfx) : wR (bl B (L ++ R) h) (B + (L.length + j)) k (vx B x) = bl B (L ++ R.set j ((R.getD j dc).1, (R.getD j dc).2.1, (k, x) :: (R.getD j dc).2.2)) h := by
  have e1 : R = R.take j ++ R.getD j dc :: R.drop (j + 1) := by
    rw [List.getD_eq_getElem?_getD, List.getElem?_eq_getElem hj]
    show R = R.take j ++ R[j] :: R.drop (j + 1)
    rw [← List.drop_eq_getElem_cons hj, List.take_append_drop]
  have e2 : ∀ c, R.set j c = R.take j ++ c :: R.drop (j + 1) := fun c => by
    rw [List.set_eq_take_append_cons_drop, if_pos hj]
  have hl : (L ++ R.take j).length = L.length + j := by rw [List.length_append, List.length_take]; omega
  have hw := bl_wR (B := B) (L := L ++ R.take j) (h := h) (c := R.getD j dc) (r := R.drop (j + 1)) k x
  rw [hl, List.append_assoc, List.append_assoc, ← e1, ← e2] at hw
  exact hw
theorem bl_T2 {R : List cel} {j : Nat} (hj : j < R.length) : hT (bl B (L ++ R) h) (B + (L.length + j)) = (R.getD j dc).1 := by
  rw [bl_T (by rw [List.length_append]; omega), gd_r]
theorem bl_Q {m : Nat} {c : cel} {r : List cel} (hm : m ≤ 21) : fX4_init (hN (bl B (L ++ c :: r) h)) (nI m) (wN (bl B (L ++ c :: r) h) (4, 0)) = some ((), bl B (L ++ c :: (r ++ kQ (L.length + (r.length + 1)) m)) h) := by
  rw [b_Q hm, app_c, len_c]
theorem bl_gRw {ci k : Nat} {c : cel} {r : List cel} {t : Nat × Nat} {x : rfx} (hc : c.1.1 = ci + 1) (hx : lk c.2.2 k = some x) : oGR ci k (some (B + L.length)) (wN (bl B (L ++ c :: r) h) t) = some (vx B x) := by
  rw [bl_wN, app_c, bl_gR hc hx]
def kT (i : Nat) : List cel := ((7, 0), [(5, 1), (3, 1), (2, 1)], [(4, some (.inl (i + 10))), (1, some (.inl (i + 9))), (0, some (.inl (i + 1)))]) :: (kE (i + 1) 0 0 none ++ [((22, 40), [], [(0, some (.inl (i + 1)))]), ((22, 40), [], [(0, some (.inl (i + 1)))])])
theorem b_T : fX7_init (hN (bl B L h)) (wN (bl B L h) (7, 0)) = some ((), bl B (L ++ kT L.length) h) := by
  have hE := b_E (B := B) (L := L ++ [((7, 0), [], [])]) (h := h) 0 0 (by decide) none
  rw [app_c, len_c] at hE
  unfold fX7_init
  rw [bl_wN, bl_N (L := L)]
  show o2 (fX2_init (hN (bl B (L ++ [((7, 0), [], [])]) h)) (nI 0) (nI 0) (vx B none) (wN (bl B (L ++ [((7, 0), [], [])]) h) (2, 0))) _ = _
  rw [hE, o2s, bl_ptr rfl, sb, bl_alloc rfl, sb, bl_gR (x := some (.inl (L.length + 9))) rfl rfl, sb, bl_gR (x := some (.inl (L.length + 1))) rfl rfl, sb]
  have hT1 : ∀ (c : cel) (r : List cel), hT (bl B (L ++ c :: ([] ++ kE (L.length + (0 + 1)) 0 0 none ++ [((22, 40), [], [])] ++ r)) h) (B + (L.length + 9)) = (22, 40) := fun c r => by
    rw [bl_T2 (by simp [kE, kC])]; rfl
  have hT2 : ∀ (c : cel) (r : List cel), (hT (bl B (L ++ c :: ([] ++ kE (L.length + (0 + 1)) 0 0 none ++ [((22, 40), [], [])] ++ r)) h) (B + (L.length + 1))).1 = 2 := fun c r => by
    rw [bl_T2 (by simp [kE, kC])]; rfl
  have hq1 := hT1 ((7, 0), [], [(1, some (.inl (L.length + 9))), (0, some (.inl (L.length + 1)))]) []
  have hq2 := hT2 ((7, 0), [], [(1, some (.inl (L.length + 9))), (0, some (.inl (L.length + 1)))]) []
  rw [List.append_nil] at hq1 hq2
  show (oAS 22 2 (some (B + (L.length + 9))) (nI 0) (some (B + (L.length + 1))) (bl B (L ++ ((7, 0), [], [(1, some (.inl (L.length + 9))), (0, some (.inl (L.length + 1)))]) :: ([] ++ kE (L.length + (0 + 1)) 0 0 none ++ [((22, 40), [], [])])) h)).bind _ = _
  rw [oAS_el hq1 (by decide) (by decide) hq2, sb, show (some (B + (L.length + 1)) : Option Nat) = vx B (some (.inl (L.length + 1))) from rfl, bl_wR2 (by simp [kE, kC])]
  show (oPI 6 2 (some (B + L.length)) (1 : Int32) (bl B (L ++ ((7, 0), [], [(1, some (.inl (L.length + 9))), (0, some (.inl (L.length + 1)))]) :: (kE (L.length + 1) 0 0 none ++ [((22, 40), [], [(0, some (.inl (L.length + 1)))])])) h)).bind _ = _
  rw [bl_pI rfl, sb, bl_pI rfl, sb, bl_alloc rfl, sb, bl_gR (x := some (.inl (L.length + 10))) rfl rfl, sb, bl_gR (x := some (.inl (L.length + 1))) rfl rfl, sb]
  have hq3 : hT (bl B (L ++ ((7, 0), [(3, 1), (2, 1)], [(4, some (.inl (L.length + 10))), (1, some (.inl (L.length + 9))), (0, some (.inl (L.length + 1)))]) :: (kE (L.length + 1) 0 0 none ++ [((22, 40), [], [(0, some (.inl (L.length + 1)))])] ++ [((22, 40), [], [])])) h) (B + (L.length + 10)) = (22, 40) := by
    rw [bl_T2 (by simp [kE, kC])]; rfl
  have hq4 : (hT (bl B (L ++ ((7, 0), [(3, 1), (2, 1)], [(4, some (.inl (L.length + 10))), (1, some (.inl (L.length + 9))), (0, some (.inl (L.length + 1)))]) :: (kE (L.length + 1) 0 0 none ++ [((22, 40), [], [(0, some (.inl (L.length + 1)))])] ++ [((22, 40), [], [])])) h) (B + (L.length + 1))).1 = 2 := by
    rw [bl_T2 (by simp [kE, kC])]; rfl
  show (oAS 22 2 (some (B + (L.length + 10))) (nI 0) (some (B + (L.length + 1))) (bl B (L ++ ((7, 0), [(3, 1), (2, 1)], [(4, some (.inl (L.length + 10))), (1, some (.inl (L.length + 9))), (0, some (.inl (L.length + 1)))]) :: (kE (L.length + 1) 0 0 none ++ [((22, 40), [], [(0, some (.inl (L.length + 1)))])] ++ [((22, 40), [], [])])) h)).bind _ = _
  rw [oAS_el hq3 (by decide) (by decide) hq4, sb, show (some (B + (L.length + 1)) : Option Nat) = vx B (some (.inl (L.length + 1))) from rfl, bl_wR2 (by simp [kE, kC])]
  show (oPI 6 5 (some (B + L.length)) (1 : Int32) (bl B (L ++ ((7, 0), [(3, 1), (2, 1)], [(4, some (.inl (L.length + 10))), (1, some (.inl (L.length + 9))), (0, some (.inl (L.length + 1)))]) :: (kE (L.length + 1) 0 0 none ++ [((22, 40), [], [(0, some (.inl (L.length + 1)))]), ((22, 40), [], [(0, some (.inl (L.length + 1)))])])) h)).bind _ = _
  rw [bl_pI rfl, sb]
  rfl
theorem bl_Tr {c : cel} {r : List cel} : fX7_init (hN (bl B (L ++ c :: r) h)) (wN (bl B (L ++ c :: r) h) (7, 0)) = some ((), bl B (L ++ c :: (r ++ kT (L.length + (r.length + 1)))) h) := by
  rw [b_T, app_c, len_c]
theorem kQ_len (i m : Nat) : (kQ i m).length = 2 + 2 * m := by
  unfold kQ
  rw [List.length_cons, List.length_cons, cq_len]; omega
theorem kC_len (i n : Nat) : (kC i n).length = 2 := rfl
def kV (i : Nat) : List cel := ((9, 0), [(7, -1)], [(8, some (.inl (i + 63))), (5, some (.inl (i + 61))), (2, some (.inl (i + 59))), (1, some (.inl (i + 15))), (0, some (.inl (i + 1)))]) :: (kQ (i + 1) 6 ++ kQ (i + 15) 21 ++ kC (i + 59) 80 ++ kC (i + 61) 80 ++ [((20, 100), [], [])])
theorem b_V : fX9_init (hN (bl B L h)) (wN (bl B L h) (9, 0)) = some ((), bl B (L ++ kV L.length) h) := by
  unfold fX9_init
  rw [bl_wN, bl_N (L := L), show (6 : Int32) = nI 6 from rfl, show (21 : Int32) = nI 21 from rfl, show (80 : Int32) = nI 80 from rfl, bl_Q (by decide), o2s, bl_ptr rfl, sb, bl_Q (by decide), o2s, bl_ptr rfl, sb, bl_C (by decide), o2s, bl_ptr rfl, sb, bl_C (by decide), o2s, bl_ptr rfl, sb, bl_pI rfl, sb, bl_alloc rfl, sb]
  unfold kV
  simp only [List.nil_append, List.length_append, kQ_len, kC_len, List.length_nil, Nat.zero_add, Nat.reduceAdd, Nat.reduceMul]
theorem bl_V {c : cel} {r : List cel} : fX9_init (hN (bl B (L ++ c :: r) h)) (wN (bl B (L ++ c :: r) h) (9, 0)) = some ((), bl B (L ++ c :: (r ++ kV (L.length + (r.length + 1)))) h) := by
  rw [b_V, app_c, len_c]
def kG (i : Nat) (u w : rfx) : List cel := ((6, 0), [], [(2, some (.inl (i + 1))), (1, w), (0, u)]) :: kC (i + 1) 80
theorem b_G (u w : rfx) : fX6_init (hN (bl B L h)) (vx B u) (vx B w) (wN (bl B L h) (6, 0)) = some ((), bl B (L ++ kG L.length u w) h) := by
  unfold fX6_init
  rw [bl_wN, bl_N (L := L), bl_pR u rfl, sb, bl_pR w rfl, sb, show (80 : Int32) = nI 80 from rfl, bl_C (by decide), o2s, bl_ptr rfl, sb]
  rfl
theorem bl_G {c : cel} {r : List cel} (u w : rfx) : fX6_init (hN (bl B (L ++ c :: r) h)) (vx B u) (vx B w) (wN (bl B (L ++ c :: r) h) (6, 0)) = some ((), bl B (L ++ c :: (r ++ kG (L.length + (r.length + 1)) u w)) h) := by
  rw [b_G, app_c, len_c]
def kP (i : Nat) : List cel := ((3, 0), [], [(1, some (.inl (i + 3))), (0, some (.inl (i + 1)))]) :: (kC (i + 1) 64 ++ kC (i + 3) 64)
theorem b_P : fX3_init (hN (bl B L h)) (wN (bl B L h) (3, 0)) = some ((), bl B (L ++ kP L.length) h) := by
  unfold fX3_init
  rw [bl_wN, bl_N (L := L), show (64 : Int32) = nI 64 from rfl, bl_C (by decide), o2s, bl_ptr rfl, sb, bl_C (by decide), o2s, bl_ptr rfl, sb]
  rfl
theorem bl_P {c : cel} {r : List cel} : fX3_init (hN (bl B (L ++ c :: r) h)) (wN (bl B (L ++ c :: r) h) (3, 0)) = some ((), bl B (L ++ c :: (r ++ kP (L.length + (r.length + 1)))) h) := by
  rw [b_P, app_c, len_c]
/-- the reader, until the line is kept -/
def kRd (i : Nat) (u w s : rfx) : List cel := ((5, 0), [], [(5, s), (4, some (.inl (i + 7))), (3, some (.inl (i + 6))), (2, some (.inl (i + 1))), (1, w), (0, u)]) :: (kP (i + 1) ++ [((8, 0), [], [])] ++ kC (i + 7) 80)
theorem b_Rd (ti : Nat) (w s : rfx) (hti : ti < L.length) (h7 : (L.getD ti dc).1.1 = 7) (hs : lk (L.getD ti dc).2.2 0 = some s) : fX5_init (hN (bl B L h)) (vx B (some (.inl ti))) (vx B w) (wN (bl B L h) (5, 0)) = o2 (fX3_keep (B + (L.length + 1)) (vx B s) (0 : Int32) (bl B (L ++ kRd L.length (some (.inl ti)) w s) h)) fun _ h17 => some ((), h17) := by
  have e6 : ∀ R : List cel, oGR 6 0 (vx B (some (.inl ti))) (bl B (L ++ R) h) = some (vx B s) := fun R => by
    refine hgR (a := B + ti) ?_ ?_
    · rw [bl_T (by rw [List.length_append]; omega), gd_l hti]; exact h7
    · rw [bl_R (by rw [List.length_append]; omega), gd_l hti]
      unfold cRv
      rw [hs]; rfl
  unfold fX5_init
  rw [bl_wN, bl_N (L := L), bl_pR (some (.inl ti)) rfl, sb, bl_pR w rfl, sb, bl_P, o2s, bl_ptr rfl, sb]
  unfold fX8_init
  rw [o2s, bl_alloc rfl, sb, show (80 : Int32) = nI 80 from rfl, bl_C (by decide), o2s, bl_ptr rfl, sb, e6, sb, bl_pR s rfl, sb, bl_gR (x := some (.inl (L.length + 1))) rfl rfl, sb, bl_gR (x := s) rfl rfl, sb]
  have hob : oOb 2 (vx B (some (.inl (L.length + 1)))) (bl B (L ++ kRd L.length (some (.inl ti)) w s) h) = some (B + (L.length + 1)) := by
    refine hgO (a := B + (L.length + 1)) ?_
    rw [bl_T2 (by simp [kRd, kP, kC])]; rfl
  have hob' := hob
  show (oOb 2 (vx B (some (.inl (L.length + 1)))) (bl B (L ++ kRd L.length (some (.inl ti)) w s) h)).bind (fun b => o2 (fX3_keep b (vx B s) (0 : Int32) (bl B (L ++ kRd L.length (some (.inl ti)) w s) h)) fun _ h17 => some ((), h17)) = _
  rw [hob, sb]
end BM

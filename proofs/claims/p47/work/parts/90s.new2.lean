/-! ===== what the class's constructors make ===== -/
section BN
variable {B : Nat} {L : List cel} {h : hp}
theorem len_c {L r : List cel} {c : cel} : (L ++ c :: r).length = L.length + (r.length + 1) := by simp
theorem app_c {L r x : List cel} {c : cel} : (L ++ c :: r) ++ x = L ++ c :: (r ++ x) := by simp
theorem bl_hN {c : cel} {r : List cel} : (some (hN (bl B (L ++ c :: r) h)) : Option Nat) = vx B (some (.inl (L.length + (r.length + 1)))) := by
  show some (B + (L ++ c :: r).length) = some (B + (L.length + (r.length + 1)))
  rw [len_c]
theorem bl_ptr {ci k : Nat} {c c0 : cel} {r r0 : List cel} {h0 : hp} (hc : c.1.1 = ci + 1) : oPR ci k (some (B + L.length)) (some (hN (bl B (L ++ c0 :: r0) h0))) (bl B (L ++ c :: r) h) = some (bl B (L ++ (c.1, c.2.1, (k, some (.inl (L.length + (r0.length + 1)))) :: c.2.2) :: r) h) := by
  rw [bl_hN, bl_pR _ hc]
theorem bl_alloc {ci k : Nat} {c c0 : cel} {r r0 : List cel} {h0 : hp} {t : Nat × Nat} (hc : c.1.1 = ci + 1) : oPR ci k (some (B + L.length)) (some (hN (bl B (L ++ c0 :: r0) h0))) (wN (bl B (L ++ c :: r) h) t) = some (bl B (L ++ (c.1, c.2.1, (k, some (.inl (L.length + (r0.length + 1)))) :: c.2.2) :: (r ++ [(t, [], [])])) h) := by
  rw [bl_wN, app_c, bl_ptr hc]
theorem bl_C {n : Nat} {c : cel} {r : List cel} (hn : n ≤ 100) : fX1_init (hN (bl B (L ++ c :: r) h)) (nI n) (wN (bl B (L ++ c :: r) h) (1, 0)) = some ((), bl B (L ++ c :: (r ++ kC (L.length + (r.length + 1)) n)) h) := by
  rw [b_C hn, app_c, len_c]
theorem bl_gR {ci k : Nat} {c : cel} {r : List cel} {x : rfx} (hc : c.1.1 = ci + 1) (hx : lk c.2.2 k = some x) : oGR ci k (some (B + L.length)) (bl B (L ++ c :: r) h) = some (vx B x) := by
  refine hgR (by rw [bl_T (by simp), gd_0]; exact hc) ?_
  rw [bl_R (by simp), gd_0]
  unfold cRv
  rw [hx]; rfl
def kE (i n k : Nat) (u : rfx) : List cel := ((2, 0), [(11, 1), (10, -1), (1, nI k), (0, nI n)], [(12, some (.inl (i + 6))), (6, some (.inl (i + 4))), (5, some (.inl (i + 2))), (3, some (.inl (i + 1))), (2, u)]) :: (([((22, 10), [], [])] ++ kC (i + 2) 12) ++ kC (i + 4) (if k = 4 then 12 else 0)) ++ kC (i + 6) (if k = 7 then 80 else 0)
theorem b_E (n k : Nat) (hk : k ≤ 7) (u : rfx) : fX2_init (hN (bl B L h)) (nI n) (nI k) (vx B u) (wN (bl B L h) (2, 0)) = some ((), bl B (L ++ kE L.length n k u) h) := by
  have e4 : (if nI k = (4 : Int32) then (some (12 : Int32)) else some (0 : Int32)) = some (nI (if k = 4 then 12 else 0)) := by
    by_cases q : k = 4
    · rw [if_pos (show nI k = 4 by rw [q]; rfl), if_pos q]; rfl
    · rw [if_neg (show ¬ nI k = 4 from fun z => q ((nI_eq (b := 4) (by omega) (by decide)).mp z)), if_neg q]; rfl
  have e7 : (if nI k = (7 : Int32) then (some (80 : Int32)) else some (0 : Int32)) = some (nI (if k = 7 then 80 else 0)) := by
    by_cases q : k = 7
    · rw [if_pos (show nI k = 7 by rw [q]; rfl), if_pos q]; rfl
    · rw [if_neg (show ¬ nI k = 7 from fun z => q ((nI_eq (b := 7) (by omega) (by decide)).mp z)), if_neg q]; rfl
  unfold fX2_init
  rw [bl_wN, bl_N, bl_pI rfl, sb, bl_pI rfl, sb, bl_pR u rfl, sb, bl_alloc rfl, sb, show (12 : Int32) = nI 12 from rfl, bl_C (by decide), o2s, bl_ptr rfl, sb, show some (nI 12) = some (12 : Int32) from rfl, e4, sb, bl_C (by split <;> decide), o2s, bl_ptr rfl, sb, bl_pI rfl, sb, bl_pI rfl, sb, e7, sb, bl_C (by split <;> decide), o2s, bl_ptr rfl, sb]
  rfl
def pq (i : Nat) : Nat → List (Nat × rfx)
  | 0 => []
  | j + 1 => (j, some (.inl (i + 2 * j))) :: pq i j
def cq (i : Nat) : Nat → List cel
  | 0 => []
  | j + 1 => cq i j ++ kC (i + 2 * j) 80
theorem cq_len (i : Nat) : ∀ j, (cq i j).length = 2 * j
  | 0 => rfl
  | j + 1 => by
    show (cq i j ++ kC (i + 2 * j) 80).length = _
    rw [List.length_append, cq_len i j]
    show 2 * j + 2 = _
    omega
def kQ (i m : Nat) : List cel := ((4, 0), [], [(0, some (.inl (i + 1)))]) :: ((23, m), [], pq (i + 2) m) :: cq (i + 2) m
theorem b_Q {m : Nat} (hm : m ≤ 21) : fX4_init (hN (bl B L h)) (nI m) (wN (bl B L h) (4, 0)) = some ((), bl B (L ++ kQ L.length m) h) := by
  have e1 : oNm (nI m) = some m := by
    unfold oNm
    rw [if_pos (inb_nI (by omega) (by decide)), nI_clamp (by omega)]
  have key : itr (fX4_init_B22 (B + L.length)) 22 (nI 0, bl B (L ++ ((4, 0), [], [(0, some (.inl (L.length + 1)))]) :: ((23, m), [], pq (L.length + 2) 0) :: cq (L.length + 2) 0) h) = some (bl B (L ++ kQ L.length m) h) := by
    obtain ⟨b, b1, b2⟩ : ∃ b, itr (fX4_init_B22 (B + L.length)) 22 (nI 0, bl B (L ++ ((4, 0), [], [(0, some (.inl (L.length + 1)))]) :: ((23, m), [], pq (L.length + 2) 0) :: cq (L.length + 2) 0) h) = some b ∧ b = bl B (L ++ kQ L.length m) h := by
      refine itr_for (R := fun b => b = bl B (L ++ kQ L.length m) h) (fun j a => a = (nI j, bl B (L ++ ((4, 0), [], [(0, some (.inl (L.length + 1)))]) :: ((23, m), [], pq (L.length + 2) j) :: cq (L.length + 2) j) h)) m (fun j a hj hX => ?_) (fun a hX => ?_) (by omega) rfl
      · subst hX
        refine ⟨_, ?_, rfl⟩
        have hlen : (L ++ ((4, 0), [], [(0, some (.inl (L.length + 1)))]) :: ((23, m), [], pq (L.length + 2) j) :: cq (L.length + 2) j).length = L.length + 2 + 2 * j := by
          rw [len_c, List.length_cons, cq_len]; omega
        have eg : ∀ r : List cel, oGR 3 0 (some (B + L.length)) (bl B (L ++ ((4, 0), [], [(0, some (.inl (L.length + 1)))]) :: r) h) = some (some (B + (L.length + 1))) := fun r => bl_gR (x := some (.inl (L.length + 1))) rfl rfl
        have et : ∀ (p : List (Nat × rfx)) (r : List cel), hT (bl B (L ++ ((4, 0), [], [(0, some (.inl (L.length + 1)))]) :: ((23, m), [], p) :: r) h) (B + (L.length + 1)) = (23, m) := fun p r => by
          rw [bl_T (by rw [len_c, List.length_cons]; omega), gd_r]; rfl
        unfold fX4_init_B22
        show (oGR 3 0 (some (B + L.length)) (bl B _ h)).bind _ = _
        rw [eg, sb]
        show (oLen (some (B + (L.length + 1))) (bl B _ h)).bind _ = _
        rw [hgL (et _ _) (by decide), sb, if_neg (show ¬ nI m ≤ nI j from nI_ge hj (by omega)), sb]
        show o2 (fX1_init (hN (bl B (L ++ ((4, 0), [], [(0, some (.inl (L.length + 1)))]) :: (((23, m), [], pq (L.length + 2) j) :: cq (L.length + 2) j)) h)) (nI 80) (wN (bl B (L ++ ((4, 0), [], [(0, some (.inl (L.length + 1)))]) :: (((23, m), [], pq (L.length + 2) j) :: cq (L.length + 2) j)) h) (1, 0))) _ = _
        rw [b_C (by decide), o2s, hlen]
        have ea : some (hN (bl B (L ++ ((4, 0), [], [(0, some (.inl (L.length + 1)))]) :: (((23, m), [], pq (L.length + 2) j) :: cq (L.length + 2) j)) h)) = vx B (some (.inl (L.length + 2 + 2 * j))) := by
          show some (B + (L ++ ((4, 0), [], [(0, some (.inl (L.length + 1)))]) :: ((23, m), [], pq (L.length + 2) j) :: cq (L.length + 2) j).length) = some (B + (L.length + 2 + 2 * j))
          rw [hlen]
        show (oAS 23 1 (some (B + (L.length + 1))) (nI j) (some (hN (bl B (L ++ ((4, 0), [], [(0, some (.inl (L.length + 1)))]) :: (((23, m), [], pq (L.length + 2) j) :: cq (L.length + 2) j)) h))) _).bind _ = _
        rw [app_c, List.cons_append]
        have hv : (hT (bl B (L ++ ((4, 0), [], [(0, some (.inl (L.length + 1)))]) :: ((23, m), [], pq (L.length + 2) j) :: (cq (L.length + 2) j ++ kC (L.length + 2 + 2 * j) 80)) h) (B + (L.length + 2 + 2 * j))).1 = 1 := by
          rw [bl_T (by rw [len_c, List.length_cons, List.length_append, cq_len]; show _ < L.length + (2 * j + 2 + 1 + 1); omega)]
          rw [show L ++ ((4, 0), [], [(0, some (.inl (L.length + 1)))]) :: ((23, m), [], pq (L.length + 2) j) :: (cq (L.length + 2) j ++ kC (L.length + 2 + 2 * j) 80) = (L ++ ((4, 0), [], [(0, some (.inl (L.length + 1)))]) :: ((23, m), [], pq (L.length + 2) j) :: cq (L.length + 2) j) ++ kC (L.length + 2 + 2 * j) 80 by rw [app_c, List.cons_append]]
          have := gd_r (L := L ++ ((4, 0), [], [(0, some (.inl (L.length + 1)))]) :: ((23, m), [], pq (L.length + 2) j) :: cq (L.length + 2) j) (R := kC (L.length + 2 + 2 * j) 80) (i := 0)
          rw [hlen] at this
          exact (congrArg (fun c : cel => c.1.1) this).trans rfl
        rw [ea, show vx B (some (.inl (L.length + 2 + 2 * j))) = some (B + (L.length + 2 + 2 * j)) from rfl, oAS_ok (et _ _) hj (by omega) hv, sb]
        show some (Sum.inl (nI j + 1, _)) = some (Sum.inl (nI (j + 1), bl B (L ++ ((4, 0), [], [(0, some (.inl (L.length + 1)))]) :: ((23, m), [], (j, some (.inl (L.length + 2 + 2 * j))) :: pq (L.length + 2) j) :: (cq (L.length + 2) j ++ kC (L.length + 2 + 2 * j) 80)) h))
        rw [nI_1]
        have hw := bl_wR (B := B) (L := L ++ [((4, 0), [], [(0, some (.inl (L.length + 1)))])]) (h := h) (c := ((23, m), [], pq (L.length + 2) j)) (r := cq (L.length + 2) j ++ kC (L.length + 2 + 2 * j) 80) j (some (.inl (L.length + 2 + 2 * j)))
        rw [List.length_append, app_c, app_c] at hw
        rw [show (some (B + (L.length + 2 + 2 * j)) : Option Nat) = vx B (some (.inl (L.length + 2 + 2 * j))) from rfl]
        exact congrArg (fun z => some (Sum.inl (nI (j + 1), z))) hw
      · subst hX
        refine ⟨_, ?_, rfl⟩
        have eg : oGR 3 0 (some (B + L.length)) (bl B (L ++ ((4, 0), [], [(0, some (.inl (L.length + 1)))]) :: ((23, m), [], pq (L.length + 2) m) :: cq (L.length + 2) m) h) = some (some (B + (L.length + 1))) := bl_gR (x := some (.inl (L.length + 1))) rfl rfl
        have et : hT (bl B (L ++ ((4, 0), [], [(0, some (.inl (L.length + 1)))]) :: ((23, m), [], pq (L.length + 2) m) :: cq (L.length + 2) m) h) (B + (L.length + 1)) = (23, m) := by
          rw [bl_T (by rw [len_c, List.length_cons]; omega), gd_r]; rfl
        unfold fX4_init_B22
        show (oGR 3 0 (some (B + L.length)) (bl B _ h)).bind _ = _
        rw [eg, sb]
        show (oLen (some (B + (L.length + 1))) (bl B _ h)).bind _ = _
        rw [hgL et (by decide), sb, if_pos (show nI m ≤ nI m from Int32.le_refl _)]
        rfl
    rw [b1, b2]
  unfold fX4_init
  rw [if_pos (show (0 : Int32) ≤ nI m from nI_le (a := 0) (Nat.zero_le m) (by omega)), sb, e1, sb]
  rw [bl_wN, bl_N, bl_alloc rfl, sb]
  show Option.bind (itr (fX4_init_B22 (B + L.length)) 22 (nI 0, bl B (L ++ ((4, 0), [], [(0, some (.inl (L.length + 1)))]) :: ((23, m), [], pq (L.length + 2) 0) :: cq (L.length + 2) 0) h)) _ = _
  rw [key, sb]
end BN

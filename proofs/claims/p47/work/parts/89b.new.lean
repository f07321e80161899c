/-! ===== the reference anew: its cells, its desk ===== -/
def jp (j a0 : Nat) (h : hp) : hp := (a0 + 1 + j, (fun a => if a = a0 then (11, 0) else if a0 < a ∧ a ≤ a0 + j then (mk (mf (a - a0)), ml (mf (a - a0))) else h.2.1 a), (fun a k => if a0 ≤ a ∧ a ≤ a0 + j then 0 else h.2.2.1 a k), (fun a k => if a = a0 then (if ml k ≠ 0 ∧ mo k ≤ j then some (a0 + mo k) else none) else if a0 < a ∧ a ≤ a0 + j then none else h.2.2.2.1 a k), (fun a k => if a0 ≤ a ∧ a ≤ a0 + j then 0 else h.2.2.2.2 a k))
def jg (a0 : Nat) (h : hp) : hp := (a0 + 31, h.2.1, h.2.2.1, h.2.2.2.1, (fun a k => if a0 ≤ a ∧ a ≤ a0 + 30 then 0 else h.2.2.2.2 a k))
theorem jp_0 (h : hp) : wN h (11, 0) = jp 0 (hN h) h := by
  unfold wN jp hN
  refine Prod.ext rfl (Prod.ext ?_ (Prod.ext ?_ (Prod.ext ?_ ?_)))
  · funext a
    show (if a = h.1 then _ else _) = (if a = h.1 then _ else _)
    by_cases q : a = h.1
    · rw [if_pos q, if_pos q]
    · rw [if_neg q, if_neg q, if_neg (by omega)]
  · funext a k
    show (if a = h.1 then _ else _) = (if h.1 ≤ a ∧ a ≤ h.1 + 0 then _ else _)
    by_cases q : a = h.1
    · rw [if_pos q, if_pos (by omega)]
    · rw [if_neg q, if_neg (by omega)]
  · funext a k
    show (if a = h.1 then _ else _) = (if a = h.1 then _ else _)
    by_cases q : a = h.1
    · rw [if_pos q, if_pos q, if_neg]
      rintro ⟨q1, q2⟩
      have := (mo_ok q1).1
      omega
    · rw [if_neg q, if_neg q, if_neg (by omega)]
  · funext a k
    show (if a = h.1 then _ else _) = (if h.1 ≤ a ∧ a ≤ h.1 + 0 then _ else _)
    by_cases q : a = h.1
    · rw [if_pos q, if_pos (by omega)]
    · rw [if_neg q, if_neg (by omega)]
theorem jp_s {j : Nat} (hj : j < 30) (a0 : Nat) (h : hp) : oPR 10 (mf (j + 1)) (some a0) (some (hN (jp j a0 h))) (wN (jp j a0 h) (mk (mf (j + 1)), ml (mf (j + 1)))) = some (jp (j + 1) a0 h) := by
  obtain ⟨f1, f2⟩ := mf_ok (j := j + 1) (by omega) (by omega)
  show (if (hT (wN (jp j a0 h) _) a0).1 = 10 + 1 then some _ else none) = _
  have ht : hT (wN (jp j a0 h) (mk (mf (j + 1)), ml (mf (j + 1)))) a0 = (11, 0) := by
    show (if a0 = a0 + 1 + j then _ else if a0 = a0 then _ else _) = _
    rw [if_neg (by omega), if_pos rfl]
  rw [ht, if_pos rfl]
  congr 1
  refine Prod.ext rfl (Prod.ext ?_ (Prod.ext ?_ (Prod.ext ?_ ?_)))
  · funext a
    show (if a = a0 + 1 + j then _ else if a = a0 then _ else if a0 < a ∧ a ≤ a0 + j then _ else _) = (if a = a0 then _ else if a0 < a ∧ a ≤ a0 + (j + 1) then _ else _)
    by_cases q : a = a0 + 1 + j
    · rw [if_pos q, if_neg (by omega), if_pos (by omega), show a - a0 = j + 1 by omega]
    · rw [if_neg q]
      by_cases q2 : a = a0
      · rw [if_pos q2, if_pos q2]
      · rw [if_neg q2, if_neg q2]
        by_cases q3 : a0 < a ∧ a ≤ a0 + j
        · rw [if_pos q3, if_pos (by omega)]
        · rw [if_neg q3, if_neg (by omega)]
  · funext a k
    show (if a = a0 + 1 + j then _ else if a0 ≤ a ∧ a ≤ a0 + j then _ else _) = (if a0 ≤ a ∧ a ≤ a0 + (j + 1) then _ else _)
    by_cases q : a = a0 + 1 + j
    · rw [if_pos q, if_pos (by omega)]
    · rw [if_neg q]
      by_cases q3 : a0 ≤ a ∧ a ≤ a0 + j
      · rw [if_pos q3, if_pos (by omega)]
      · rw [if_neg q3, if_neg (by omega)]
  · funext a k
    show up2 _ a0 (mf (j + 1)) (some (a0 + 1 + j)) a k = (if a = a0 then (if ml k ≠ 0 ∧ mo k ≤ j + 1 then some (a0 + mo k) else none) else if a0 < a ∧ a ≤ a0 + (j + 1) then none else h.2.2.2.1 a k)
    rw [up2_g]
    by_cases q : a = a0
    · rw [if_pos q]
      by_cases qk : k = mf (j + 1)
      · rw [if_pos ⟨q, qk⟩, if_pos ⟨by rw [qk]; exact f2, by rw [qk, f1]; omega⟩, qk, f1, show a0 + (j + 1) = a0 + 1 + j by omega]
      · rw [if_neg (fun z => qk z.2)]
        show (if a = a0 + 1 + j then none else if a = a0 then (if ml k ≠ 0 ∧ mo k ≤ j then some (a0 + mo k) else none) else _) = _
        rw [if_neg (by omega), if_pos q]
        by_cases q5 : ml k ≠ 0 ∧ mo k ≤ j
        · rw [if_pos q5, if_pos ⟨q5.1, by omega⟩]
        · rw [if_neg q5, if_neg]
          rintro ⟨w1, w2⟩
          have hm := (mo_ok w1).2.2
          have : mo k = j + 1 := by
            by_cases z : mo k ≤ j
            · exact absurd ⟨w1, z⟩ q5
            · omega
          rw [this] at hm
          exact qk hm.symm
    · rw [if_neg (fun z => q z.1), if_neg q]
      show (if a = a0 + 1 + j then none else if a = a0 then _ else if a0 < a ∧ a ≤ a0 + j then none else h.2.2.2.1 a k) = _
      by_cases q1 : a = a0 + 1 + j
      · rw [if_pos q1, if_pos (by omega)]
      · rw [if_neg q1, if_neg q]
        by_cases q3 : a0 < a ∧ a ≤ a0 + j
        · rw [if_pos q3, if_pos (by omega)]
        · rw [if_neg q3, if_neg (by omega)]
  · funext a k
    show (if a = a0 + 1 + j then _ else if a0 ≤ a ∧ a ≤ a0 + j then _ else _) = (if a0 ≤ a ∧ a ≤ a0 + (j + 1) then _ else _)
    by_cases q : a = a0 + 1 + j
    · rw [if_pos q, if_pos (by omega)]
    · rw [if_neg q]
      by_cases q3 : a0 ≤ a ∧ a ≤ a0 + j
      · rw [if_pos q3, if_pos (by omega)]
      · rw [if_neg q3, if_neg (by omega)]
theorem jp_30 (a0 : Nat) (h : hp) : jp 30 a0 h = jn a0 (jg a0 h) (fun _ _ => 0) := by
  unfold jp jn jg
  refine Prod.ext rfl (Prod.ext rfl (Prod.ext ?_ (Prod.ext ?_ rfl)))
  · funext a k
    show (if a0 ≤ a ∧ a ≤ a0 + 30 then (0 : Int32) else _) = (if a = a0 then (if ml k = 0 then 0 else 0) else if a0 < a ∧ a ≤ a0 + 30 then 0 else _)
    by_cases q : a = a0
    · rw [if_pos (by omega), if_pos q]
      split <;> rfl
    · rw [if_neg q]
      by_cases q3 : a0 < a ∧ a ≤ a0 + 30
      · rw [if_pos (by omega), if_pos q3]
      · rw [if_neg (by omega), if_neg q3]
  · funext a k
    show (if a = a0 then (if ml k ≠ 0 ∧ mo k ≤ 30 then some (a0 + mo k) else none) else _) = (if a = a0 then (if ml k = 0 then none else some (a0 + mo k)) else _)
    by_cases q : a = a0
    · rw [if_pos q, if_pos q]
      by_cases z : ml k = 0
      · rw [if_neg (fun w => w.1 z), if_pos z]
      · rw [if_pos ⟨z, (mo_ok z).2.1⟩, if_neg z]
    · rw [if_neg q, if_neg q]
theorem jn_oPI (a0 : Nat) (h : hp) (m : mm) {k : Nat} (x : Int32) (hk : ml k = 0) : oPI 10 k (some a0) x (jn a0 h m) = some (jn a0 h (up2 m k 0 x)) := by
  show (if (hT (jn a0 h m) a0).1 = 10 + 1 then some _ else none) = _
  rw [jn_T0, if_pos rfl, jn_w0 a0 h m x hk]
theorem jn_oGR (a0 : Nat) (h : hp) (m : mm) {k : Nat} (hk : ml k ≠ 0) : oGR 10 k (some a0) (jn a0 h m) = some (some (a0 + mo k)) := by
  show (if (hT (jn a0 h m) a0).1 = 10 + 1 then some _ else none) = _
  rw [jn_T0, if_pos rfl, jn_R0 a0 h m hk]
theorem jn_oIS (a0 : Nat) (h : hp) (m : mm) (k i : Nat) (x : Int32) (hk : ml k ≠ 0) (h20 : mk k = 20) (hi : inb (nI i) (ml k) = true) (h31 : i < 2 ^ 31) : oIS (some (a0 + mo k)) (nI i) x (jn a0 h m) = some (jn a0 h (up2 m k i x)) := by
  show (if (hT (jn a0 h m) (a0 + mo k)).1 = 20 ∧ inb (nI i) (hT (jn a0 h m) (a0 + mo k)).2 = true then some _ else none) = _
  rw [jn_TA a0 h m hk, if_pos ⟨h20, hi⟩, jn_wA a0 h m _ x hk, nI_clamp h31]
def m00 : mm := (up2 (up2 (up2 (up2 (up2 (up2 (up2 (up2 (up2 (up2 (up2 (up2 (up2 (up2 (up2 (up2 (fun _ _ => 0 : mm) 0 0 1) 1 0 1) 3 0 (-1)) 13 0 (-1)) 21 0 (-1)) 38 0 (-1)) 47 0 1) 47 1 3) 47 2 9) 47 3 25) 47 4 17) 47 5 11) 47 6 27) 47 7 19) 47 8 10) 47 9 26)
def S00 : SS := (m00, fun _ _ => [], fun _ => [], fun _ => [])
theorem RM_00 : RM S00 m00 := by
  refine ⟨fun k _ => rfl, fun i _ => ⟨rfl, Sl_nil⟩, fun i _ => ⟨rfl, Sl_nil⟩, fun i _ => ⟨rfl, Sl_nil⟩, ⟨rfl, Sl_nil⟩, ⟨rfl, Sl_nil⟩, ⟨rfl, Sl_nil⟩, ⟨rfl, fun j h => absurd h (Nat.not_lt_zero _)⟩, ⟨rfl, fun j h => absurd h (Nat.not_lt_zero _)⟩, fun i _ => ⟨rfl, fun k h => absurd h (Nat.not_lt_zero _), Nat.zero_le _⟩, by decide +kernel⟩
theorem made_00 : made S00 = 1 := by decide +kernel
theorem cur_00 : cur S00 = 0 := by decide +kernel
theorem th_00 (i : Nat) (h : th S00 i) : i = 0 := by
  have := h.1
  rw [made_00] at this
  omega
theorem PW_00 : PW S00 := ⟨by rw [made_00]; decide, by rw [made_00]; decide, by decide +kernel, by decide +kernel, fun i h0 hi => by rw [made_00] at hi; omega⟩
theorem an_00 : an S00 0 = [0] := an_0 PW_00
theorem shn_00 : shn S00 0 = true := by rw [shn_0 PW_00]; rfl
theorem Inv_00 : Inv S00 0 := by
  have h0 : th S00 0 := ⟨by rw [made_00]; decide, by decide +kernel⟩
  have hWT : WT S00 := ⟨PW_00, h0, by decide +kernel, by decide +kernel, fun i i0 hi => absurd (th_00 i hi) (by omega), fun i hi => ⟨List.nodup_nil, Nat.zero_le _, fun j hj => absurd hj List.not_mem_nil⟩⟩
  have hC : Core S00 := by
    refine ⟨hWT, fun i => ⟨Nat.zero_le _, Nat.zero_le _, Nat.zero_le _⟩, fun i hi => ⟨0, by decide, by rw [th_00 i hi]; decide +kernel⟩, ⟨by rw [cur_00]; decide +kernel, by rw [cur_00]; exact h0⟩, fun k hk i => ?_, by unfold WXs; rw [cur_00]; exact shn_00, Or.inl (by decide +kernel), Or.inl (by decide +kernel), fun i hi => absurd hi (Nat.lt_irrefl 0), fun i hi => absurd hi (Nat.lt_irrefl 0), Nat.zero_le _, ⟨0, by decide, by decide +kernel⟩, ⟨0, 0, by decide, by decide, by decide +kernel, by decide +kernel, fun z => z⟩, fun i hi => ⟨rfl, rfl, rfl, rfl, rfl, rfl⟩⟩
    simp only [List.mem_cons, List.not_mem_nil, or_false] at hk
    rcases hk with e | e | e | e | e | e
    · subst e
      show up2 _ 1 0 1 1 i = 0 ∨ up2 _ 1 0 1 1 i = 1
      rw [up2_at]
      split
      · exact Or.inr rfl
      · exact Or.inl rfl
    all_goals subst e; exact Or.inl rfl
  refine ⟨⟨hC, ⟨Nat.zero_le _, fun t ht => absurd ht List.not_mem_nil, fun t ht => absurd ht List.not_mem_nil, Nat.zero_le _, Nat.zero_le _, Or.inl (by decide +kernel), fun z => absurd (show sI S00 38 0 = -1 by decide +kernel) z⟩, ⟨⟨0, Nat.le_refl _, by decide +kernel⟩, ⟨0, Nat.le_refl _, by decide +kernel⟩, fun i => Or.inr ⟨0, Nat.le_refl _, rfl⟩⟩, Nat.zero_le _⟩, ?_, Nat.zero_le _⟩
  unfold fit
  rw [if_neg]
  intro z
  exact absurd z.1 (by decide +kernel)

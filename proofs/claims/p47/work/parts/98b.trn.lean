/-! ===== one turn of the law ===== -/
section TRN
variable {B c : Nat} {E : Nat → Nat} {S T : SS} {h : hp} {m : LY}
theorem pts_ok : ∀ j, j < 26 → 1 ≤ ptsN j ∧ ptsN j ≤ 511 := by decide +kernel
theorem q5_ok (x : Int32) : ∃ q5, (if x = 0 then
  (some (1 : Int32))
  else
  if (4 : Int32) ≤ x then
  (if x = (4 : Int32) then
  (some (4 : Int32))
  else
  if (7 : Int32) ≤ x then
  (if x = (7 : Int32) then
  (some (2 : Int32))
  else
  if x = (8 : Int32) then
  (some (16 : Int32))
  else
  if (11 : Int32) ≤ x then
  (if (14 : Int32) ≤ x then
  (if x = (14 : Int32) then
  (some (7 : Int32))
  else
  some (56 : Int32))
  else
  some (128 : Int32))
  else
  some (30 : Int32))
  else
  some (32 : Int32))
  else
  some (8 : Int32)) = some q5 ∧ (1 ≤ (256 : Int32) + q5 ∧ (256 : Int32) + q5 ≤ 511) := by
  repeat' (first | exact ⟨_, rfl, by decide, by decide⟩ | split)
theorem r_set (y : RD B h m S) {dd : Nat} (hd : dd < 2 ^ 31) : ∃ p, fL_set (some (B + 90)) (nI dd) h = some p ∧ 1 ≤ p ∧ p ≤ 511 := by
  have rem : ∀ a b, a < 2 ^ 31 → b < 2 ^ 31 → nI a - nI a / nI b * nI b = nI (a % b) := fun a b ha hb => nI_rem ha hb
  have pt : ∀ a : Nat, a < 2 ^ 31 → ∃ p, fL_points (nI a - nI a / (26 : Int32) * (26 : Int32)) = some p ∧ 1 ≤ p ∧ p ≤ 511 := fun a ha => by
    have e := rem a 26 ha (by decide)
    rw [show (26 : Int32) = nI 26 from rfl, e]
    have h26 := Nat.mod_lt a (show 0 < 26 by decide)
    exact ⟨_, r_pts _ h26, pts_ok _ h26⟩
  have d20 : nI dd / (20 : Int32) = nI (dd / 20) := nI_div (b := 20) hd (by decide)
  have d260 : nI dd / (260 : Int32) = nI (dd / 260) := nI_div (b := 260) hd (by decide)
  unfold fL_set
  rw [show oNz (20 : Int32) = some () from rfl, sb, y.q.n4, sb, show oNz (13 : Int32) = some () from rfl, show oNz (260 : Int32) = some () from rfl, show oNz (26 : Int32) = some () from rfl, show oNz (2 : Int32) = some () from rfl, show oNz (511 : Int32) = some () from rfl, d20, d260]
  have tail : ∃ p, (Option.bind (α := Int32)
      (if (nI dd - nI (dd / 20) * (20 : Int32)) = 0 then
      (some (1 : Int32))
      else
      if (4 : Int32) ≤ (nI dd - nI (dd / 20) * (20 : Int32)) then
      (if (nI dd - nI (dd / 20) * (20 : Int32)) = (4 : Int32) then
      (some (4 : Int32))
      else
      if (7 : Int32) ≤ (nI dd - nI (dd / 20) * (20 : Int32)) then
      (if (nI dd - nI (dd / 20) * (20 : Int32)) = (7 : Int32) then
      (some (2 : Int32))
      else
      if (nI dd - nI (dd / 20) * (20 : Int32)) = (8 : Int32) then
      (some (16 : Int32))
      else
      if (11 : Int32) ≤ (nI dd - nI (dd / 20) * (20 : Int32)) then
      (if (14 : Int32) ≤ (nI dd - nI (dd / 20) * (20 : Int32)) then
      (if (nI dd - nI (dd / 20) * (20 : Int32)) = (14 : Int32) then
      (some (7 : Int32))
      else
      some (56 : Int32))
      else
      some (128 : Int32))
      else
      some (30 : Int32))
      else
      some (32 : Int32))
      else
      some (8 : Int32))
      fun q5 =>
      if (16 : Int32) ≤ (nI dd - nI (dd / 20) * (20 : Int32)) then
      (if (18 : Int32) ≤ (nI dd - nI (dd / 20) * (20 : Int32)) then
      ((some ()).bind fun _ =>
      (some ()).bind fun _ =>
      (fL_points (nI (dd / 20) - nI (dd / 20) / (26 : Int32) * (26 : Int32))).bind fun x7 =>
      some (x7))
      else
      (some ()).bind fun _ =>
      (some ()).bind fun _ =>
      some ((1 : Int32) + (nI (dd / 20) - nI (dd / 20) / (511 : Int32) * (511 : Int32))))
      else
      some ((256 : Int32) + q5)) = some p ∧ 1 ≤ p ∧ p ≤ 511 := by
    obtain ⟨q5, e5, h5⟩ := q5_ok (nI dd - nI (dd / 20) * (20 : Int32))
    rw [e5, sb]
    split
    · split
      · obtain ⟨p, p1, p2⟩ := pt (dd / 20) (by omega)
        rw [sb, sb, p1]
        exact ⟨p, rfl, p2⟩
      · have e := rem (dd / 20) 511 (by omega) (by decide)
        have h511 := Nat.mod_lt (dd / 20) (show 0 < 511 by decide)
        refine ⟨_, rfl, ?_⟩
        rw [show (511 : Int32) = nI 511 from rfl, e, show (1 : Int32) = nI 1 from rfl, nI_add]
        exact ⟨nI_le (by omega) (by omega), nI_le (by omega) (by decide)⟩
    · exact ⟨_, rfl, h5⟩
  split
  · split
    · rw [oRr]; exact tail
    · rw [sb, sb]
      split
      · repeat' (first | exact ⟨_, rfl, by decide, by decide⟩ | (rw [sb, sb]) | split)
      · obtain ⟨p, p1, p2⟩ := pt (dd / 260) (by omega)
        rw [sb, sb, p1]
        exact ⟨p, rfl, p2⟩
  · rw [oRr]; exact tail
/-- an element is chosen -/
theorem choose (y : RD B h m S) {G : gG} (c1 c4 c5 c6 c7 : Option Nat) (v9 v11 v12 : Int32) {K : Int32 → Prop} (hK : ∀ z, z < made S → K (nI z)) {z0 : Nat} (hz : z0 < made S) : itrW (fL_law_B161 G c1 (some (B + 90)) (some (B + 91)) c4 c5 c6 c7 v9 v11 v12 h) FU (nI z0, 0) K := by
  have l10 := y.m10
  refine itrW_for (fun j a => ∃ z, z < made S ∧ a = (nI z, nI j)) (made S) (fun j a hj hX P1 hP => ?_) (fun a hX P1 => ?_) (by unfold FU; omega) ⟨z0, hz, rfl⟩
  · obtain ⟨z, z1, rfl⟩ := hX
    unfold fL_law_B161
    dsimp only
    rw [y.n0, wPs, if_neg (show ¬ nI (made S) ≤ nI j from nI_ge hj (by omega)), show oNz (7 : Int32) = some () from rfl, wPs]
    split
    · exact hK z z1
    · rw [r_there y z1, wPs]
      split
      · rw [wPs, oNz_n (by omega) (by omega), wPs, nI_1, nI_1, nI_rem (by omega) (by omega)]
        exact hP _ ⟨(z + 1) % made S, Nat.mod_lt _ (by omega), rfl⟩
      · exact hK z z1
  · obtain ⟨z, z1, rfl⟩ := hX
    unfold fL_law_B161
    dsimp only
    rw [y.n0, wPs, if_pos (nI_le (Nat.le_refl _) (by omega))]
    exact hK z z1
theorem and_n (x : Int32) : ∃ n, n < 2 ^ 31 ∧ x &&& (2147483647 : Int32) = nI n := by
  obtain ⟨n, h1, h2⟩ := nI_of (x := x &&& (2147483647 : Int32)) (fun z => by
    have z1 := Int32.lt_iff_toInt_lt.mp z
    have e : (x &&& (2147483647 : Int32)).toInt = ((x &&& (2147483647 : Int32)).toBitVec.toNat : Int) := by
      show (x &&& (2147483647 : Int32)).toBitVec.toInt = _
      refine BitVec.toInt_eq_toNat_of_msb ?_
      rw [Int32.toBitVec_and, BitVec.msb_and]
      rw [show ((2147483647 : Int32).toBitVec).msb = false by decide, Bool.and_false]
    have t0 : (0 : Int32).toInt = 0 := by decide
    omega)
  exact ⟨n, h1, h2⟩
end TRN

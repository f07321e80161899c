/-! ===== every turn of the law ===== -/
section LAW
variable {B c : Nat} {E : Nat → Nat} {S T : SS} {h : hp} {m : LY}
theorem wP_i {ρ : Type} {o : Option ρ} {x : ρ} {K : ρ → Prop} (h : o = some x) (hK : K x) : wP o K := ⟨x, h, hK⟩
theorem md_rem {a b : Nat} (ha : a < 2 ^ 31) (hb : b < 2 ^ 31) : nI a - nI a / nI b * nI b = nI (a % b) := nI_rem ha hb
/-- what the law does in one turn -/
theorem t_ops (j : JJ B c S h) (hc : c + 200 < 1000000) {i k y dd : Nat} (hi : i < 130) (hk : k < 26) (hk0 : ¬ 6 ≤ i → k = 0) (hy : y < made S) (hd : dd < 2 ^ 31) (h0 : i = 0 → made S = 1) (h1 : i = 1 → made S = 2) (h2 : i = 2 → 2 ≤ made S) {K6 : Int32 × hp → Prop} (hK : ∀ S' h', Md B c S' h' → ((nI k = 4 ∨ nI k = 5) → Dq 50 S') → (¬ (nI k = 4 ∨ nI k = 5) → Qt S') → (i = 0 → made S' = 2) → (i = 1 → 2 ≤ made S') → K6 (1, h')) :
  wM (fun (K6 : (Int32 × hp) → Prop) =>
  if (4 : Int32) ≤ (nI k) then
  (wM (fun (K7 : Unit → Prop) =>
  if (nI k) = (4 : Int32) then
  (wP (oNz (3 : Int32)) fun _ =>
  if (nI dd - (nI dd) / (3 : Int32) * (3 : Int32)) = 0 then
  (wM (fun (K8 : (Int32 × hp) → Prop) =>
  if bI (decide (sI S 1 y ≠ 0)) = 0 then
  (K8 ((-11 : Int32), h))
  else
  if (nI y) = 0 then
  (K8 ((-13 : Int32), h))
  else
  wH (fL_removes (some (B + 90)) (some (B + 91)) (nI y) h) fun x9 h10 =>
  K8 (x9, h10))
  fun q8 =>
  wE (fL_does (some B) (1 : Int32) (nI y) (0 : Int32) (0 : Int32) q8.2) fun x11 h12 =>
  if x11 = q8.1 then
  (K6 ((1 : Int32), h12))
  else
  K6 ((0 : Int32), h12))
  else
  K7 ())
  else
  K7 ())
  fun q7 =>
  if (nI k) = (5 : Int32) then
  (wP (oNz (10 : Int32)) fun _ =>
  wP (oNz (3 : Int32)) fun _ =>
  wM (fun (K49 : Int32 → Prop) =>
  if ((nI dd / (10 : Int32)) - (nI dd / (10 : Int32)) / (3 : Int32) * (3 : Int32)) ≤ 0 then
  (K49 (0 : Int32))
  else
  K49 (1 : Int32))
  fun q49 =>
  wM (fun (K50 : Int32 → Prop) =>
  if bI (decide (sI S 1 y ≠ 0)) = 0 then
  (K50 (-11 : Int32))
  else
  if (nI y) = 0 then
  (K50 (-13 : Int32))
  else
  wP (fL_isHidden (some (B + 91)) (nI y) h) fun x51 =>
  if x51 = 0 then
  (K50 (0 : Int32))
  else
  K50 (1 : Int32))
  fun q50 =>
  wM (fun (K52 : hp → Prop) =>
  if q50 < 0 then
  (K52 h)
  else
  wM (fun (K53 : Int32 → Prop) =>
  if q49 = 0 then
  (wP (oIL (some (B + 91)) (((6 : Int32) * (nI y)) + (3 : Int32)) h) fun x54 =>
  K53 (x54 &&& (-3 : Int32)))
  else
  wP (oIL (some (B + 91)) (((6 : Int32) * (nI y)) + (3 : Int32)) h) fun x55 =>
  K53 (x55 ||| (2 : Int32)))
  fun q53 =>
  wP (oIS (some (B + 91)) (((6 : Int32) * (nI y)) + (3 : Int32)) q53 h) fun h56 =>
  wP (oIL (some (B + 91)) (((6 : Int32) * (nI y)) + (1 : Int32)) h56) fun x57 =>
  wP (oIL (some (B + 91)) (((6 : Int32) * (nI y)) + (2 : Int32)) h56) fun x58 =>
  wH (fL_loses (some (B + 90)) (some (B + 91)) x57 (x58 + (1 : Int32)) h56) fun _ h59 =>
  K52 h59)
  fun q52 =>
  wM (fun (K60 : Int32 → Prop) =>
  if q49 = 0 then
  (K60 (0 : Int32))
  else
  K60 (1 : Int32))
  fun q60 =>
  wE (fL_does (some B) (2 : Int32) (nI y) q60 (0 : Int32) q52) fun x61 h62 =>
  if x61 = q50 then
  (K6 ((1 : Int32), h62))
  else
  K6 ((0 : Int32), h62))
  else
  if (nI k) = (6 : Int32) then
  (wM (fun (K40 : Int32 → Prop) =>
  if bI (decide (sI S 1 y ≠ 0)) = 0 then
  (K40 (-11 : Int32))
  else
  if (nI y) = 0 then
  (K40 (-13 : Int32))
  else
  K40 (0 : Int32))
  fun q40 =>
  wM (fun (K41 : (Int32 × hp) → Prop) =>
  if q40 = 0 then
  (fL_drafts (some B) (nI dd) h fun x42 h43 =>
  wP (oJS (some (B + 92)) (nI y) x42 h43) fun h44 =>
  wP (oJL (some (B + 92)) (nI y) h44) fun x45 =>
  wP (fL_nameMany x45) fun x46 =>
  K41 (x46, h44))
  else
  K41 (q40, h))
  fun q41 =>
  wE (fL_does (some B) (3 : Int32) (nI y) (0 : Int32) (0 : Int32) q41.2) fun x47 h48 =>
  if x47 = q41.1 then
  (K6 ((1 : Int32), h48))
  else
  K6 ((0 : Int32), h48))
  else
  if (nI k) = (7 : Int32) then
  (wP (oNz (10 : Int32)) fun _ =>
  wP (oNz (2 : Int32)) fun _ =>
  wM (fun (K28 : Int32 → Prop) =>
  if ((nI dd / (10 : Int32)) - (nI dd / (10 : Int32)) / (2 : Int32) * (2 : Int32)) = 0 then
  (K28 (1 : Int32))
  else
  K28 (0 : Int32))
  fun q28 =>
  wM (fun (K29 : Int32 → Prop) =>
  if bI (decide (sI S 1 y ≠ 0)) = 0 then
  (K29 (-11 : Int32))
  else
  wP (oIL (some (B + 91)) ((6 : Int32) * (nI y)) h) fun x30 =>
  if x30 = (3 : Int32) then
  (wP (oIL (some (B + 91)) (((6 : Int32) * (nI y)) + (3 : Int32)) h) fun x31 =>
  wP (oNz (4 : Int32)) fun _ =>
  K29 ((x31 &&& (4 : Int32)) / (4 : Int32)))
  else
  K29 (-13 : Int32))
  fun q29 =>
  wM (fun (K32 : Int32 → Prop) =>
  if 0 ≤ q29 then
  (if q28 = 0 then
  (wP (oIL (some (B + 91)) (((6 : Int32) * (nI y)) + (3 : Int32)) h) fun x33 =>
  K32 (x33 &&& (-5 : Int32)))
  else
  wP (oIL (some (B + 91)) (((6 : Int32) * (nI y)) + (3 : Int32)) h) fun x34 =>
  K32 (x34 ||| (4 : Int32)))
  else
  wP (oIL (some (B + 91)) (((6 : Int32) * (nI y)) + (3 : Int32)) h) fun x35 =>
  K32 x35)
  fun q32 =>
  wP (oIS (some (B + 91)) (((6 : Int32) * (nI y)) + (3 : Int32)) q32 h) fun h36 =>
  wM (fun (K37 : Int32 → Prop) =>
  if q28 = 0 then
  (K37 (0 : Int32))
  else
  K37 (1 : Int32))
  fun q37 =>
  wE (fL_does (some B) (4 : Int32) (nI y) q37 (0 : Int32) h36) fun x38 h39 =>
  if x38 = q29 then
  (K6 ((1 : Int32), h39))
  else
  K6 ((0 : Int32), h39))
  else
  if (nI k) = (8 : Int32) then
  (wP (oNz (10 : Int32)) fun _ =>
  wP (oNz (4 : Int32)) fun _ =>
  wE (fL_does (some B) (5 : Int32) (nI y) (((nI dd / (10 : Int32)) - (nI dd / (10 : Int32)) / (4 : Int32) * (4 : Int32)) - (1 : Int32)) (0 : Int32) h) fun x20 h21 =>
  wM (fun (K22 : Int32 → Prop) =>
  if bI (decide (sI S 1 y ≠ 0)) = 0 then
  (K22 (-11 : Int32))
  else
  wP (oIL (some (B + 91)) (((6 : Int32) * (nI y)) + (4 : Int32)) h21) fun x23 =>
  K22 (x23 - (1 : Int32)))
  fun q22 =>
  wM (fun (K24 : Int32 → Prop) =>
  if x20 = q22 then
  (K24 (1 : Int32))
  else
  K24 (0 : Int32))
  fun q24 =>
  if bI (decide (sI S 1 y ≠ 0)) = 0 then
  (wP (oIL (some (B + 91)) (((6 : Int32) * (nI y)) + (4 : Int32)) h21) fun x25 =>
  wP (oIS (some (B + 91)) (((6 : Int32) * (nI y)) + (4 : Int32)) x25 h21) fun h26 =>
  K6 (q24, h26))
  else
  wP (oIS (some (B + 91)) (((6 : Int32) * (nI y)) + (4 : Int32)) ((((nI dd / (10 : Int32)) - (nI dd / (10 : Int32)) / (4 : Int32) * (4 : Int32)) - (1 : Int32)) + (1 : Int32)) h21) fun h27 =>
  K6 (q24, h27))
  else
  wP (fL_set (some (B + 90)) (nI dd) h) fun x13 =>
  wH (fL_line (some (B + 90)) (some (B + 91)) (some (B + 92)) (some (B + 93)) (some (B + 94)) (some (B + 95)) h) fun x14 h15 =>
  wH (fL_presses (some (B + 90)) (some (B + 91)) (some (B + 93)) (some (B + 94)) x14 x13 h15) fun _ h16 =>
  wX ((oOb 9 (some B) h16).bind fun b => fX10_chord b x13 h16) fun x17 h18 =>
  wP (oIL (some (B + 90)) (1 : Int32) h18) fun x19 =>
  if x17 = x19 then
  (K6 ((1 : Int32), h18))
  else
  K6 ((0 : Int32), h18))
  else
  wP (oIL (some (B + 90)) (0 : Int32) h) fun x63 =>
  if (10 : Int32) ≤ x63 then
  (wM (fun (K64 : Unit → Prop) =>
  if (nI k) = (4 : Int32) then
  (wP (oNz (3 : Int32)) fun _ =>
  if (nI dd - (nI dd) / (3 : Int32) * (3 : Int32)) = 0 then
  (wM (fun (K65 : (Int32 × hp) → Prop) =>
  if bI (decide (sI S 1 y ≠ 0)) = 0 then
  (K65 ((-11 : Int32), h))
  else
  if (nI y) = 0 then
  (K65 ((-13 : Int32), h))
  else
  wH (fL_removes (some (B + 90)) (some (B + 91)) (nI y) h) fun x66 h67 =>
  K65 (x66, h67))
  fun q65 =>
  wE (fL_does (some B) (1 : Int32) (nI y) (0 : Int32) (0 : Int32) q65.2) fun x68 h69 =>
  if x68 = q65.1 then
  (K6 ((1 : Int32), h69))
  else
  K6 ((0 : Int32), h69))
  else
  K64 ())
  else
  K64 ())
  fun q64 =>
  if (nI k) = (5 : Int32) then
  (wP (oNz (10 : Int32)) fun _ =>
  wP (oNz (3 : Int32)) fun _ =>
  wM (fun (K106 : Int32 → Prop) =>
  if ((nI dd / (10 : Int32)) - (nI dd / (10 : Int32)) / (3 : Int32) * (3 : Int32)) ≤ 0 then
  (K106 (0 : Int32))
  else
  K106 (1 : Int32))
  fun q106 =>
  wM (fun (K107 : Int32 → Prop) =>
  if bI (decide (sI S 1 y ≠ 0)) = 0 then
  (K107 (-11 : Int32))
  else
  if (nI y) = 0 then
  (K107 (-13 : Int32))
  else
  wP (fL_isHidden (some (B + 91)) (nI y) h) fun x108 =>
  if x108 = 0 then
  (K107 (0 : Int32))
  else
  K107 (1 : Int32))
  fun q107 =>
  wM (fun (K109 : hp → Prop) =>
  if q107 < 0 then
  (K109 h)
  else
  wM (fun (K110 : Int32 → Prop) =>
  if q106 = 0 then
  (wP (oIL (some (B + 91)) (((6 : Int32) * (nI y)) + (3 : Int32)) h) fun x111 =>
  K110 (x111 &&& (-3 : Int32)))
  else
  wP (oIL (some (B + 91)) (((6 : Int32) * (nI y)) + (3 : Int32)) h) fun x112 =>
  K110 (x112 ||| (2 : Int32)))
  fun q110 =>
  wP (oIS (some (B + 91)) (((6 : Int32) * (nI y)) + (3 : Int32)) q110 h) fun h113 =>
  wP (oIL (some (B + 91)) (((6 : Int32) * (nI y)) + (1 : Int32)) h113) fun x114 =>
  wP (oIL (some (B + 91)) (((6 : Int32) * (nI y)) + (2 : Int32)) h113) fun x115 =>
  wH (fL_loses (some (B + 90)) (some (B + 91)) x114 (x115 + (1 : Int32)) h113) fun _ h116 =>
  K109 h116)
  fun q109 =>
  wM (fun (K117 : Int32 → Prop) =>
  if q106 = 0 then
  (K117 (0 : Int32))
  else
  K117 (1 : Int32))
  fun q117 =>
  wE (fL_does (some B) (2 : Int32) (nI y) q117 (0 : Int32) q109) fun x118 h119 =>
  if x118 = q107 then
  (K6 ((1 : Int32), h119))
  else
  K6 ((0 : Int32), h119))
  else
  if (nI k) = (6 : Int32) then
  (wM (fun (K97 : Int32 → Prop) =>
  if bI (decide (sI S 1 y ≠ 0)) = 0 then
  (K97 (-11 : Int32))
  else
  if (nI y) = 0 then
  (K97 (-13 : Int32))
  else
  K97 (0 : Int32))
  fun q97 =>
  wM (fun (K98 : (Int32 × hp) → Prop) =>
  if q97 = 0 then
  (fL_drafts (some B) (nI dd) h fun x99 h100 =>
  wP (oJS (some (B + 92)) (nI y) x99 h100) fun h101 =>
  wP (oJL (some (B + 92)) (nI y) h101) fun x102 =>
  wP (fL_nameMany x102) fun x103 =>
  K98 (x103, h101))
  else
  K98 (q97, h))
  fun q98 =>
  wE (fL_does (some B) (3 : Int32) (nI y) (0 : Int32) (0 : Int32) q98.2) fun x104 h105 =>
  if x104 = q98.1 then
  (K6 ((1 : Int32), h105))
  else
  K6 ((0 : Int32), h105))
  else
  if (nI k) = (7 : Int32) then
  (wP (oNz (10 : Int32)) fun _ =>
  wP (oNz (2 : Int32)) fun _ =>
  wM (fun (K85 : Int32 → Prop) =>
  if ((nI dd / (10 : Int32)) - (nI dd / (10 : Int32)) / (2 : Int32) * (2 : Int32)) = 0 then
  (K85 (1 : Int32))
  else
  K85 (0 : Int32))
  fun q85 =>
  wM (fun (K86 : Int32 → Prop) =>
  if bI (decide (sI S 1 y ≠ 0)) = 0 then
  (K86 (-11 : Int32))
  else
  wP (oIL (some (B + 91)) ((6 : Int32) * (nI y)) h) fun x87 =>
  if x87 = (3 : Int32) then
  (wP (oIL (some (B + 91)) (((6 : Int32) * (nI y)) + (3 : Int32)) h) fun x88 =>
  wP (oNz (4 : Int32)) fun _ =>
  K86 ((x88 &&& (4 : Int32)) / (4 : Int32)))
  else
  K86 (-13 : Int32))
  fun q86 =>
  wM (fun (K89 : Int32 → Prop) =>
  if 0 ≤ q86 then
  (if q85 = 0 then
  (wP (oIL (some (B + 91)) (((6 : Int32) * (nI y)) + (3 : Int32)) h) fun x90 =>
  K89 (x90 &&& (-5 : Int32)))
  else
  wP (oIL (some (B + 91)) (((6 : Int32) * (nI y)) + (3 : Int32)) h) fun x91 =>
  K89 (x91 ||| (4 : Int32)))
  else
  wP (oIL (some (B + 91)) (((6 : Int32) * (nI y)) + (3 : Int32)) h) fun x92 =>
  K89 x92)
  fun q89 =>
  wP (oIS (some (B + 91)) (((6 : Int32) * (nI y)) + (3 : Int32)) q89 h) fun h93 =>
  wM (fun (K94 : Int32 → Prop) =>
  if q85 = 0 then
  (K94 (0 : Int32))
  else
  K94 (1 : Int32))
  fun q94 =>
  wE (fL_does (some B) (4 : Int32) (nI y) q94 (0 : Int32) h93) fun x95 h96 =>
  if x95 = q86 then
  (K6 ((1 : Int32), h96))
  else
  K6 ((0 : Int32), h96))
  else
  if (nI k) = (8 : Int32) then
  (wP (oNz (10 : Int32)) fun _ =>
  wP (oNz (4 : Int32)) fun _ =>
  wE (fL_does (some B) (5 : Int32) (nI y) (((nI dd / (10 : Int32)) - (nI dd / (10 : Int32)) / (4 : Int32) * (4 : Int32)) - (1 : Int32)) (0 : Int32) h) fun x77 h78 =>
  wM (fun (K79 : Int32 → Prop) =>
  if bI (decide (sI S 1 y ≠ 0)) = 0 then
  (K79 (-11 : Int32))
  else
  wP (oIL (some (B + 91)) (((6 : Int32) * (nI y)) + (4 : Int32)) h78) fun x80 =>
  K79 (x80 - (1 : Int32)))
  fun q79 =>
  wM (fun (K81 : Int32 → Prop) =>
  if x77 = q79 then
  (K81 (1 : Int32))
  else
  K81 (0 : Int32))
  fun q81 =>
  if bI (decide (sI S 1 y ≠ 0)) = 0 then
  (wP (oIL (some (B + 91)) (((6 : Int32) * (nI y)) + (4 : Int32)) h78) fun x82 =>
  wP (oIS (some (B + 91)) (((6 : Int32) * (nI y)) + (4 : Int32)) x82 h78) fun h83 =>
  K6 (q81, h83))
  else
  wP (oIS (some (B + 91)) (((6 : Int32) * (nI y)) + (4 : Int32)) ((((nI dd / (10 : Int32)) - (nI dd / (10 : Int32)) / (4 : Int32) * (4 : Int32)) - (1 : Int32)) + (1 : Int32)) h78) fun h84 =>
  K6 (q81, h84))
  else
  wP (fL_set (some (B + 90)) (nI dd) h) fun x70 =>
  wH (fL_line (some (B + 90)) (some (B + 91)) (some (B + 92)) (some (B + 93)) (some (B + 94)) (some (B + 95)) h) fun x71 h72 =>
  wH (fL_presses (some (B + 90)) (some (B + 91)) (some (B + 93)) (some (B + 94)) x71 x70 h72) fun _ h73 =>
  wX ((oOb 9 (some B) h73).bind fun b => fX10_chord b x70 h73) fun x74 h75 =>
  wP (oIL (some (B + 90)) (1 : Int32) h75) fun x76 =>
  if x74 = x76 then
  (K6 ((1 : Int32), h75))
  else
  K6 ((0 : Int32), h75))
  else
  wM (fun (K120 : Int32 → Prop) =>
  if (nI i) = 0 then
  (K120 (0 : Int32))
  else
  if (3 : Int32) ≤ (nI i) then
  (K120 (nI y))
  else
  K120 (1 : Int32))
  fun q120 =>
  wP (oIL (some (B + 91)) ((6 : Int32) * q120) h) fun x121 =>
  wM (fun (K122 : Int32 → Prop) =>
  if (nI i) = 0 then
  (K122 (5 : Int32))
  else
  if (nI i) < (3 : Int32) then
  (K122 (6 : Int32))
  else
  wP (oNz (5 : Int32)) fun _ =>
  wM (fun (K123 : Unit → Prop) =>
  if (nI dd - (nI dd) / (5 : Int32) * (5 : Int32)) ≤ 0 then
  (K123 ())
  else
  if x121 = (5 : Int32) then
  (K122 (6 : Int32))
  else
  K123 ())
  fun q123 =>
  wP (oNz (5 : Int32)) fun _ =>
  if (nI dd - (nI dd) / (5 : Int32) * (5 : Int32)) ≤ 0 then
  (wP (oNz (7 : Int32)) fun _ =>
  wP (oNz (7 : Int32)) fun _ =>
  K122 ((nI dd / (7 : Int32)) - (nI dd / (7 : Int32)) / (7 : Int32) * (7 : Int32)))
  else
  if x121 = (6 : Int32) then
  (wP (oNz (11 : Int32)) fun _ =>
  wP (oNz (4 : Int32)) fun _ =>
  K122 ((1 : Int32) + ((nI dd / (11 : Int32)) - (nI dd / (11 : Int32)) / (4 : Int32) * (4 : Int32))))
  else
  wP (oNz (7 : Int32)) fun _ =>
  wP (oNz (7 : Int32)) fun _ =>
  K122 ((nI dd / (7 : Int32)) - (nI dd / (7 : Int32)) / (7 : Int32) * (7 : Int32)))
  fun q122 =>
  fL_isAdded (some B) (some (B + 90)) (some (B + 91)) (some (B + 92)) q120 q122 (nI dd) h fun x124 h125 =>
  K6 (x124, h125)) K6 := by
  obtain ⟨E, x, rd⟩ := j.rd
  have l10 := rd.m10
  have m1 := rd.t.2.1.lt
  have k31 : k < 2 ^ 31 := by omega
  have d10 : nI dd / (10 : Int32) = nI (dd / 10) := nI_div (b := 10) hd (by decide)
  obtain ⟨p, p1, p2⟩ := r_set rd hd
  rw [wMs]
  by_cases c4 : 4 ≤ k
  · have i6 : 6 ≤ i := Nat.not_lt.mp (fun z => by have := hk0 (by omega); omega)
    rw [if_pos (show (4 : Int32) ≤ nI k from nI_le (a := 4) c4 (by omega)), wMs]
    have k4 : nI k = 4 ↔ k = 4 := nI_eq (b := 4) k31 (by decide)
    have k5 : nI k = 5 ↔ k = 5 := nI_eq (b := 5) k31 (by decide)
    have k6 : nI k = 6 ↔ k = 6 := nI_eq (b := 6) k31 (by decide)
    have k7 : nI k = 7 ↔ k = 7 := nI_eq (b := 7) k31 (by decide)
    have k8 : nI k = 8 ↔ k = 8 := nI_eq (b := 8) k31 (by decide)
    by_cases e4 : k = 4
    · rw [if_pos (k4.mpr e4), show oNz (3 : Int32) = some () from rfl, wPs]
      by_cases w3 : (nI dd - nI dd / (3 : Int32) * (3 : Int32)) = 0
      · rw [if_pos w3]
        exact t_rem j (by omega) hy (fun S' h' md dq => hK S' h' md (fun _ => dq) (fun w => absurd (Or.inl (k4.mpr e4)) w) (fun z => by omega) (fun z => by omega))
      · rw [if_neg w3, if_neg (show ¬ nI k = 5 from fun z => by have := k5.mp z; omega), if_neg (show ¬ nI k = 6 from fun z => by have := k6.mp z; omega), if_neg (show ¬ nI k = 7 from fun z => by have := k7.mp z; omega), if_neg (show ¬ nI k = 8 from fun z => by have := k8.mp z; omega), p1, wPs]
        exact t_chord j p2 (fun S' h' md qt => hK S' h' md (fun _ => Or.inl qt) (fun _ => qt) (fun z => by omega) (fun z => by omega))
    · rw [if_neg (show ¬ nI k = 4 from fun z => e4 (k4.mp z))]
      by_cases e5 : k = 5
      · rw [if_pos (k5.mpr e5), show oNz (10 : Int32) = some () from rfl, wPs, show oNz (3 : Int32) = some () from rfl, wPs, wMs]
        by_cases w3 : (nI dd / (10 : Int32) - nI dd / (10 : Int32) / (3 : Int32) * (3 : Int32)) ≤ 0
        · rw [if_pos w3]
          exact t_hide j (by omega) hy false (fun S' h' md dq => hK S' h' md (fun _ => dq) (fun w => absurd (Or.inr (k5.mpr e5)) w) (fun z => by omega) (fun z => by omega))
        · rw [if_neg w3]
          exact t_hide j (by omega) hy true (fun S' h' md dq => hK S' h' md (fun _ => dq) (fun w => absurd (Or.inr (k5.mpr e5)) w) (fun z => by omega) (fun z => by omega))
      · rw [if_neg (show ¬ nI k = 5 from fun z => e5 (k5.mp z))]
        by_cases e6 : k = 6
        · rw [if_pos (k6.mpr e6)]
          exact t_ren j (by omega) hy hd (fun S' h' md qt => hK S' h' md (fun _ => Or.inl qt) (fun _ => qt) (fun z => by omega) (fun z => by omega))
        · rw [if_neg (show ¬ nI k = 6 from fun z => e6 (k6.mp z))]
          by_cases e7 : k = 7
          · rw [if_pos (k7.mpr e7), show oNz (10 : Int32) = some () from rfl, wPs, show oNz (2 : Int32) = some () from rfl, wPs, wMs]
            by_cases w3 : (nI dd / (10 : Int32) - nI dd / (10 : Int32) / (2 : Int32) * (2 : Int32)) = 0
            · rw [if_pos w3]
              exact t_sets j (by omega) hy true (fun S' h' md qt => hK S' h' md (fun _ => Or.inl qt) (fun _ => qt) (fun z => by omega) (fun z => by omega))
            · rw [if_neg w3]
              exact t_sets j (by omega) hy false (fun S' h' md qt => hK S' h' md (fun _ => Or.inl qt) (fun _ => qt) (fun z => by omega) (fun z => by omega))
          · rw [if_neg (show ¬ nI k = 7 from fun z => e7 (k7.mp z))]
            by_cases e8 : k = 8
            · rw [if_pos (k8.mpr e8), show oNz (10 : Int32) = some () from rfl, wPs, show oNz (4 : Int32) = some () from rfl, wPs, d10, show (4 : Int32) = nI 4 from rfl, md_rem (show dd / 10 < 2 ^ 31 by omega) (by decide)]
              exact t_rule j (by omega) hy (r := dd / 10 % 4) (by have := Nat.mod_lt (dd / 10) (show 0 < 4 by decide); omega) (fun S' h' md qt => hK S' h' md (fun _ => Or.inl qt) (fun _ => qt) (fun z => by omega) (fun z => by omega))
            · rw [if_neg (show ¬ nI k = 8 from fun z => e8 (k8.mp z)), p1, wPs]
              exact t_chord j p2 (fun S' h' md qt => hK S' h' md (fun _ => Or.inl qt) (fun _ => qt) (fun z => by omega) (fun z => by omega))
  · have e4 : ¬ nI k = 4 := fun z => by have := (nI_eq (b := 4) k31 (by decide)).mp z; omega
    have e5 : ¬ nI k = 5 := fun z => by have := (nI_eq (b := 5) k31 (by decide)).mp z; omega
    have e6 : ¬ nI k = 6 := fun z => by have := (nI_eq (b := 6) k31 (by decide)).mp z; omega
    have e7 : ¬ nI k = 7 := fun z => by have := (nI_eq (b := 7) k31 (by decide)).mp z; omega
    have e8 : ¬ nI k = 8 := fun z => by have := (nI_eq (b := 8) k31 (by decide)).mp z; omega
    rw [if_neg (show ¬ (4 : Int32) ≤ nI k from nI_ge (b := 4) (by omega) (by decide)), rd.n0, wPs]
    by_cases m10 : 10 ≤ made S
    · rw [if_pos (show (10 : Int32) ≤ nI (made S) from nI_le (a := 10) m10 (by omega)), wMs, if_neg e4, if_neg e5, if_neg e6, if_neg e7, if_neg e8, p1, wPs]
      exact t_chord j p2 (fun S' h' md qt => hK S' h' md (fun _ => Or.inl qt) (fun _ => qt) (fun z => by have := h0 z; omega) (fun z => by have := h1 z; omega))
    · rw [if_neg (show ¬ (10 : Int32) ≤ nI (made S) from nI_ge (b := 10) (by omega) (by decide))]
      have q3 : ∀ K : Int32 → Prop, (∀ p, p < made S → (i = 0 → p = 0) → K (nI p)) → wM (fun (K120 : Int32 → Prop) =>
          if nI i = 0 then
          (K120 (0 : Int32))
          else
          if (3 : Int32) ≤ nI i then
          (K120 (nI y))
          else
          K120 (1 : Int32)) K := fun K hK => by
        rw [wMs]
        rcases Nat.eq_zero_or_pos i with z | z
        · rw [if_pos (show nI i = 0 by rw [z]; rfl)]
          exact hK 0 m1 (fun _ => rfl)
        · rw [if_neg (nI_ne0 z (by omega))]
          by_cases w : 3 ≤ i
          · rw [if_pos (show (3 : Int32) ≤ nI i from nI_le (a := 3) w (by omega))]
            exact hK y hy (fun u => by omega)
          · rw [if_neg (show ¬ (3 : Int32) ≤ nI i from nI_ge (b := 3) (by omega) (by decide))]
            refine hK 1 ?_ (fun u => by omega)
            rcases (show i = 1 ∨ i = 2 by omega) with u | u
            · have := h1 u; omega
            · have := h2 u; omega
      refine q3 _ (fun pp pl ip => ?_)
      rw [rd.kd pl, wPs]
      have q4 : ∀ K : Int32 → Prop, (∀ kk, kk < 7 → (i = 0 → kk = 5) → K (nI kk)) → wM (fun (K122 : Int32 → Prop) =>
          if nI i = 0 then
          (K122 (5 : Int32))
          else
          if nI i < (3 : Int32) then
          (K122 (6 : Int32))
          else
          wP (oNz (5 : Int32)) fun _ =>
          wM (fun (K123 : Unit → Prop) =>
          if (nI dd - nI dd / (5 : Int32) * (5 : Int32)) ≤ 0 then
          (K123 ())
          else
          if sI S 2 pp = (5 : Int32) then
          (K122 (6 : Int32))
          else
          K123 ())
          fun q123 =>
          wP (oNz (5 : Int32)) fun _ =>
          if (nI dd - nI dd / (5 : Int32) * (5 : Int32)) ≤ 0 then
          (wP (oNz (7 : Int32)) fun _ =>
          wP (oNz (7 : Int32)) fun _ =>
          K122 ((nI dd / (7 : Int32)) - (nI dd / (7 : Int32)) / (7 : Int32) * (7 : Int32)))
          else
          if sI S 2 pp = (6 : Int32) then
          (wP (oNz (11 : Int32)) fun _ =>
          wP (oNz (4 : Int32)) fun _ =>
          K122 ((1 : Int32) + ((nI dd / (11 : Int32)) - (nI dd / (11 : Int32)) / (4 : Int32) * (4 : Int32))))
          else
          wP (oNz (7 : Int32)) fun _ =>
          wP (oNz (7 : Int32)) fun _ =>
          K122 ((nI dd / (7 : Int32)) - (nI dd / (7 : Int32)) / (7 : Int32) * (7 : Int32))) K := fun K hK => by
        rw [wMs]
        rcases Nat.eq_zero_or_pos i with z | z
        · rw [if_pos (show nI i = 0 by rw [z]; rfl)]
          exact hK 5 (by decide) (fun _ => rfl)
        · rw [if_neg (nI_ne0 z (by omega))]
          have k7 : K (nI dd / (7 : Int32) - nI dd / (7 : Int32) / (7 : Int32) * (7 : Int32)) := by
            rw [show (7 : Int32) = nI 7 from rfl, nI_div hd (by decide), md_rem (by omega) (by decide)]
            exact hK _ (Nat.mod_lt _ (by decide)) (fun u => by omega)
          have k11 : K ((1 : Int32) + (nI dd / (11 : Int32) - nI dd / (11 : Int32) / (4 : Int32) * (4 : Int32))) := by
            have m4 := Nat.mod_lt (dd / 11) (show 0 < 4 by decide)
            rw [show (11 : Int32) = nI 11 from rfl, nI_div hd (by decide), show (4 : Int32) = nI 4 from rfl, md_rem (by omega) (by decide), show (1 : Int32) = nI 1 from rfl, nI_add]
            exact hK _ (by omega) (fun u => by omega)
          by_cases w3 : nI i < (3 : Int32)
          · rw [if_pos w3]
            exact hK 6 (by decide) (fun u => by omega)
          · rw [if_neg w3, show oNz (5 : Int32) = some () from rfl, wPs, wMs, show oNz (7 : Int32) = some () from rfl, show oNz (11 : Int32) = some () from rfl, show oNz (4 : Int32) = some () from rfl]
            by_cases d5 : (nI dd - nI dd / (5 : Int32) * (5 : Int32)) ≤ 0
            · rw [if_pos d5, wPs, if_pos d5, wPs, wPs]
              exact k7
            · rw [if_neg d5]
              by_cases s5 : sI S 2 pp = (5 : Int32)
              · rw [if_pos s5]
                exact hK 6 (by decide) (fun u => by omega)
              · rw [if_neg s5, wPs, if_neg d5]
                by_cases s6 : sI S 2 pp = (6 : Int32)
                · rw [if_pos s6, wPs, wPs]
                  exact k11
                · rw [if_neg s6, wPs, wPs]
                  exact k7
      refine q4 _ (fun kk k7 ik => ?_)
      refine t_add j (by omega) (by omega) pl k7 hd (fun S' h' md qt le ex => hK S' h' md (fun _ => Or.inl qt) (fun _ => qt) (fun z => ?_) (fun z => ?_))
      · have mm := h0 z
        have hp0 := ip z
        have hk5 := ik z
        subst hp0 hk5
        have k0 : sK S 0 = [] := by
          rcases hs : sK S 0 with _ | ⟨a, r⟩
          · rfl
          · obtain ⟨u1, u2, -⟩ := (rd.t.kids rd.t.2.1).2.2 a (by rw [hs]; exact List.mem_cons_self)
            have := u1.lt
            omega
        rw [ex ⟨rd.t.2.1, by rw [rd.t.2.2.1]; decide, by rw [k0]; decide⟩, mm]
      · have := h1 z
        omega
theorem t_turn {G : gG} (hG : gxL G < 2 ^ 31) (j : JJ B c S h) (hc : c + 200 < 1000000) {i : Nat} (hi : i < 130) (h0 : i = 0 → made S = 1) (h1 : i = 1 → made S = 2) (h2 : i = 2 → 2 ≤ made S) {KB : Int32 × Int32 × hp → Prop} {KE : Int32 × hp → Prop} (hKB : ∀ S' h', JJ B (c + 100) S' h' → (i = 0 → made S' = 2) → (i = 1 → 2 ≤ made S') → KB (1, nI (i + 1), h')) : fL_law_B72 G (some B) (some (B + 90)) (some (B + 91)) (some (B + 92)) (some (B + 93)) (some (B + 94)) (some (B + 95)) (1, nI i, h) KB KE := by
  obtain ⟨E, x, rd⟩ := j.rd
  have l10 := rd.m10
  have m1 := rd.t.2.1.lt
  unfold fL_law_B72
  dsimp only
  rw [if_neg (show ¬ (130 : Int32) ≤ nI i from nI_ge (b := 130) hi (by decide)), if_neg (show ¬ (1 : Int32) = 0 by decide)]
  have q1 : ∀ K : Int32 → Prop, (∀ n, n < 2 ^ 31 → K (nI n)) → wM (fun (K1 : Int32 → Prop) =>
      if (nI (gxL G)) ≤ nI i then
      (K1 ((((((51031 : Int32) * nI i) * nI i) + ((9001 : Int32) * nI i)) + (43 : Int32)) &&& (2147483647 : Int32)))
      else
      wP (oSc G (nI i)) fun _ =>
      K1 ((gxx G (nI i).toNatClampNeg) &&& (2147483647 : Int32))) K := fun K hK => by
    rw [wMs]
    by_cases w : nI (gxL G) ≤ nI i
    · rw [if_pos w]
      obtain ⟨n, n1, n2⟩ := and_n ((((51031 : Int32) * nI i) * nI i) + ((9001 : Int32) * nI i) + (43 : Int32))
      rw [n2]
      exact hK n n1
    · rw [if_neg w]
      have hs : oSc G (nI i) = some () := by
        unfold oSc
        rw [if_pos]
        exact inb_nI (Nat.not_le.mp (fun z => w (nI_le z (by omega)))) hG
      rw [hs, wPs]
      obtain ⟨n, n1, n2⟩ := and_n (gxx G (nI i).toNatClampNeg)
      rw [n2]
      exact hK n n1
  refine q1 _ (fun n hn => ?_)
  have q2 : ∀ K : Int32 → Prop, (∀ k, k < 26 → (¬ 6 ≤ i → k = 0) → K (nI k)) → wM (fun (K2 : Int32 → Prop) =>
      if (6 : Int32) ≤ nI i then
      (wP (oNz (26 : Int32)) fun _ =>
      K2 (nI n - nI n / (26 : Int32) * (26 : Int32)))
      else
      K2 (0 : Int32)) K := fun K hK => by
    rw [wMs]
    by_cases w : 6 ≤ i
    · rw [if_pos (show (6 : Int32) ≤ nI i from nI_le (a := 6) w (by omega)), show oNz (26 : Int32) = some () from rfl, wPs, show (26 : Int32) = nI 26 from rfl, md_rem hn (by decide)]
      exact hK _ (Nat.mod_lt _ (by decide)) (fun z => absurd w z)
    · rw [if_neg (show ¬ (6 : Int32) ≤ nI i from nI_ge (b := 6) (by omega) (by decide))]
      exact hK 0 (by decide) (fun _ => rfl)
  refine q2 _ (fun k hk hk0 => ?_)
  have edd : nI n / (26 : Int32) = nI (n / 26) := nI_div (b := 26) hn (by decide)
  have hd : n / 26 < 2 ^ 31 := by omega
  rw [edd]
  generalize n / 26 = dd at hd
  rw [show oNz (26 : Int32) = some () from rfl, wPs]
  refine wP_i rd.n0 ?_
  rw [oNz_n (by omega) (by omega), wPs, md_rem hd (by omega)]
  refine choose rd _ _ _ _ _ _ _ _ (fun y hy => ?_) (Nat.mod_lt _ (by omega))
  refine wP_i (r_there rd hy) ?_
  exact t_ops j hc hi hk hk0 hy hd h0 h1 h2 (fun S' h' md a b u v => t_end md hc hi a b hd (fun S2 h3 jj e2 => hKB S2 h3 jj (fun z => by rw [e2]; exact u z) (fun z => by rw [e2]; exact v z)))
end LAW

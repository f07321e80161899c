/-! ===== the law's methods that call the desk, as predicates over how they go on ===== -/
def oSc (G : gG) (i : Int32) : Option Unit := if inb i (gxL G) = true then some () else none
theorem s_sld {G : gG} {M : gM} {d : Nat} {Q : hQ} {pc : Nat} {ls : lc} {st : List sv} {k n : Nat} {h : hp} {i : Int32} {K : Unit → Prop} (hd : decode M.2.1 pc = .ok (.iaload, 1)) (hF : wP (oSc G i) K) (kk : K () → gV G M d Q (pc + 1) ls (si (gxx G i.toNatClampNeg) :: st) k n h) : gV G M d Q pc ls (si i :: sr (some (gxb G)) :: st) k n h := by
  obtain ⟨u, hu, hK⟩ := hF
  unfold oSc at hu
  split at hu
  · rename_i hi
    exact v_sld hd (inb_in hi) (kk hK)
  · cases hu
/-! drafts -/
def fL_drafts_B5 (c0 : (Option Nat)) (c1 : Int32) (a : (Int64 × Int32 × hp)) (KB : (Int64 × Int32 × hp) → Prop) (KE : (Int64 × hp) → Prop) : Prop :=
  wP (oNz (3 : Int32)) fun _ =>
  wP (oNz (4 : Int32)) fun _ =>
  if ((c1 / (3 : Int32)) - (c1 / (3 : Int32)) / (4 : Int32) * (4 : Int32)) ≤ a.2.1 then
  (KE (a.1, a.2.2))
  else
  wP (oNz ((5 : Int32) + ((8 : Int32) * a.2.1))) fun _ =>
  wP (oNz (64 : Int32)) fun _ =>
  wP (fL_code ((c1 / ((5 : Int32) + ((8 : Int32) * a.2.1))) - (c1 / ((5 : Int32) + ((8 : Int32) * a.2.1))) / (64 : Int32) * (64 : Int32))) fun x1 =>
  wX ((oOb 9 c0 a.2.2).bind fun b => fX10_draft b x1 a.2.2) fun x2 h3 =>
  if x2 = (a.2.1 + (1 : Int32)) then
  (KB (a.1 ||| (x1.toInt64 <<< (((20 : Int32) * a.2.1).toInt64 &&& 63)), a.2.1 + (1 : Int32), h3))
  else
  KB (a.1 ||| (-1 : Int64), a.2.1 + (1 : Int32), h3)
def fL_drafts (a0 : (Option Nat)) (a1 : Int32) (h : hp) (K : Int64 → hp → Prop) : Prop :=
  wM (itrW (fL_drafts_B5 a0 a1) 4 ((0 : Int64), (0 : Int32), h))
  fun q1 =>
  K q1.1 q1.2
/-! isDesk -/
def fL_isDesk_B73 (c0 : (Option Nat)) (c1 : (Option Nat)) (c2 : (Option Nat)) (c3 : (Option Nat)) (c4 : (Option Nat)) (c5 : (Option Nat)) (c6 : Int32) (c7 : (Option Nat)) (c8 : Int32) (h : hp) (a : (Int32 × Int32 × Int32)) (KB : (Int32 × Int32 × Int32) → Prop) (KE : (Int32 × Int32) → Prop) : Prop :=
  if a.2.2 < 0 then
  (KE (a.1, a.2.1))
  else
  if a.2.1 = 0 then
  (KE (a.1, a.2.1))
  else
  wC ((oOb 9 c0 h).bind fun b => fX10_readingAt b a.1 h) fun x1 =>
  wM (fun (K2 : Int32 → Prop) =>
  if x1 = a.2.2 then
  (K2 (1 : Int32))
  else
  K2 (0 : Int32))
  fun q2 =>
  wP (fL_next c1 c2 a.2.2 h) fun x3 =>
  KB (a.1 + (1 : Int32), q2, x3)
def fL_isDesk_B119 (c0 : (Option Nat)) (c1 : (Option Nat)) (c2 : (Option Nat)) (c3 : (Option Nat)) (c4 : (Option Nat)) (c5 : (Option Nat)) (c6 : Int32) (c7 : (Option Nat)) (c9 : Int32) (h : hp) (a : (Int32 × Int32 × Int32)) (KB : (Int32 × Int32 × Int32) → Prop) (KE : (Int32 × Int32) → Prop) : Prop :=
  wP (oIL c1 (0 : Int32) h) fun x1 =>
  if x1 ≤ a.2.2 then
  (KE (a.1, a.2.1))
  else
  if a.2.1 = 0 then
  (KE (a.1, a.2.1))
  else
  wP (fL_isThere c2 a.2.2 h) fun x2 =>
  if x2 = 0 then
  (KB (a.1, a.2.1, a.2.2 + (1 : Int32)))
  else
  wP (oNz (11 : Int32)) fun _ =>
  wP (fL_kid c1 c2 a.2.2 (c6 - c6 / (11 : Int32) * (11 : Int32)) (1 : Int32) h) fun x3 =>
  wC ((oOb 9 c0 h).bind fun b => fX10_kind b a.2.2 h) fun x4 =>
  wP (oIL c2 ((6 : Int32) * a.2.2) h) fun x5 =>
  if x4 = x5 then
  (wC ((oOb 9 c0 h).bind fun b => fX10_parent b a.2.2 h) fun x6 =>
  wP (oIL c2 (((6 : Int32) * a.2.2) + (1 : Int32)) h) fun x7 =>
  if x6 = x7 then
  (wC ((oOb 9 c0 h).bind fun b => fX10_children b a.2.2 h) fun x8 =>
  wP (fL_kids c1 c2 a.2.2 h) fun x9 =>
  if x8 = x9 then
  (if x3 < 0 then
  (wC ((oOb 9 c0 h).bind fun b => fX10_nameLength b a.2.2 h) fun x10 =>
  wP (oJL c3 a.2.2 h) fun x11 =>
  wP (fL_nameMany x11) fun x12 =>
  if x10 = x12 then
  (wC ((oOb 9 c0 h).bind fun b => fX10_contentLength b a.2.2 h) fun x13 =>
  wP (oIL c5 a.2.2 h) fun x14 =>
  if x13 = x14 then
  (wC ((oOb 9 c0 h).bind fun b => fX10_isOn b a.2.2 h) fun x15 =>
  wP (oIL c2 (((6 : Int32) * a.2.2) + (3 : Int32)) h) fun x16 =>
  wM (fun (K17 : Int32 → Prop) =>
  if (x16 &&& (4 : Int32)) = (4 : Int32) then
  (K17 (1 : Int32))
  else
  K17 (0 : Int32))
  fun q17 =>
  if x15 = q17 then
  (wC ((oOb 9 c0 h).bind fun b => fX10_presses b a.2.2 h) fun x18 =>
  wP (oIL c2 (((6 : Int32) * a.2.2) + (5 : Int32)) h) fun x19 =>
  if x18 = x19 then
  (wC ((oOb 9 c0 h).bind fun b => fX10_isShown b a.2.2 h) fun x20 =>
  wP (fL_isShown c2 a.2.2 h) fun x21 =>
  if x20 = x21 then
  (wC ((oOb 9 c0 h).bind fun b => fX10_level b a.2.2 h) fun x22 =>
  wP (fL_level c2 a.2.2 h) fun x23 =>
  if x22 = x23 then
  (KB (a.1 + (1 : Int32), (1 : Int32), a.2.2 + (1 : Int32)))
  else
  KB (a.1 + (1 : Int32), (0 : Int32), a.2.2 + (1 : Int32)))
  else
  KB (a.1 + (1 : Int32), (0 : Int32), a.2.2 + (1 : Int32)))
  else
  KB (a.1 + (1 : Int32), (0 : Int32), a.2.2 + (1 : Int32)))
  else
  KB (a.1 + (1 : Int32), (0 : Int32), a.2.2 + (1 : Int32)))
  else
  KB (a.1 + (1 : Int32), (0 : Int32), a.2.2 + (1 : Int32)))
  else
  KB (a.1 + (1 : Int32), (0 : Int32), a.2.2 + (1 : Int32)))
  else
  wP (oIL c2 (((6 : Int32) * x3) + (2 : Int32)) h) fun x24 =>
  if x24 = (c6 - c6 / (11 : Int32) * (11 : Int32)) then
  (wC ((oOb 9 c0 h).bind fun b => fX10_childAt b a.2.2 (c6 - c6 / (11 : Int32) * (11 : Int32)) h) fun x39 =>
  if x39 = x3 then
  (wC ((oOb 9 c0 h).bind fun b => fX10_nameLength b a.2.2 h) fun x40 =>
  wP (oJL c3 a.2.2 h) fun x41 =>
  wP (fL_nameMany x41) fun x42 =>
  if x40 = x42 then
  (wC ((oOb 9 c0 h).bind fun b => fX10_contentLength b a.2.2 h) fun x43 =>
  wP (oIL c5 a.2.2 h) fun x44 =>
  if x43 = x44 then
  (wC ((oOb 9 c0 h).bind fun b => fX10_isOn b a.2.2 h) fun x45 =>
  wP (oIL c2 (((6 : Int32) * a.2.2) + (3 : Int32)) h) fun x46 =>
  wM (fun (K47 : Int32 → Prop) =>
  if (x46 &&& (4 : Int32)) = (4 : Int32) then
  (K47 (1 : Int32))
  else
  K47 (0 : Int32))
  fun q47 =>
  if x45 = q47 then
  (wC ((oOb 9 c0 h).bind fun b => fX10_presses b a.2.2 h) fun x48 =>
  wP (oIL c2 (((6 : Int32) * a.2.2) + (5 : Int32)) h) fun x49 =>
  if x48 = x49 then
  (wC ((oOb 9 c0 h).bind fun b => fX10_isShown b a.2.2 h) fun x50 =>
  wP (fL_isShown c2 a.2.2 h) fun x51 =>
  if x50 = x51 then
  (wC ((oOb 9 c0 h).bind fun b => fX10_level b a.2.2 h) fun x52 =>
  wP (fL_level c2 a.2.2 h) fun x53 =>
  if x52 = x53 then
  (KB (a.1 + (1 : Int32), (1 : Int32), a.2.2 + (1 : Int32)))
  else
  KB (a.1 + (1 : Int32), (0 : Int32), a.2.2 + (1 : Int32)))
  else
  KB (a.1 + (1 : Int32), (0 : Int32), a.2.2 + (1 : Int32)))
  else
  KB (a.1 + (1 : Int32), (0 : Int32), a.2.2 + (1 : Int32)))
  else
  KB (a.1 + (1 : Int32), (0 : Int32), a.2.2 + (1 : Int32)))
  else
  KB (a.1 + (1 : Int32), (0 : Int32), a.2.2 + (1 : Int32)))
  else
  KB (a.1 + (1 : Int32), (0 : Int32), a.2.2 + (1 : Int32)))
  else
  KB (a.1 + (1 : Int32), (0 : Int32), a.2.2 + (1 : Int32)))
  else
  wC ((oOb 9 c0 h).bind fun b => fX10_nameLength b a.2.2 h) fun x25 =>
  wP (oJL c3 a.2.2 h) fun x26 =>
  wP (fL_nameMany x26) fun x27 =>
  if x25 = x27 then
  (wC ((oOb 9 c0 h).bind fun b => fX10_contentLength b a.2.2 h) fun x28 =>
  wP (oIL c5 a.2.2 h) fun x29 =>
  if x28 = x29 then
  (wC ((oOb 9 c0 h).bind fun b => fX10_isOn b a.2.2 h) fun x30 =>
  wP (oIL c2 (((6 : Int32) * a.2.2) + (3 : Int32)) h) fun x31 =>
  wM (fun (K32 : Int32 → Prop) =>
  if (x31 &&& (4 : Int32)) = (4 : Int32) then
  (K32 (1 : Int32))
  else
  K32 (0 : Int32))
  fun q32 =>
  if x30 = q32 then
  (wC ((oOb 9 c0 h).bind fun b => fX10_presses b a.2.2 h) fun x33 =>
  wP (oIL c2 (((6 : Int32) * a.2.2) + (5 : Int32)) h) fun x34 =>
  if x33 = x34 then
  (wC ((oOb 9 c0 h).bind fun b => fX10_isShown b a.2.2 h) fun x35 =>
  wP (fL_isShown c2 a.2.2 h) fun x36 =>
  if x35 = x36 then
  (wC ((oOb 9 c0 h).bind fun b => fX10_level b a.2.2 h) fun x37 =>
  wP (fL_level c2 a.2.2 h) fun x38 =>
  if x37 = x38 then
  (KB (a.1 + (1 : Int32), (1 : Int32), a.2.2 + (1 : Int32)))
  else
  KB (a.1 + (1 : Int32), (0 : Int32), a.2.2 + (1 : Int32)))
  else
  KB (a.1 + (1 : Int32), (0 : Int32), a.2.2 + (1 : Int32)))
  else
  KB (a.1 + (1 : Int32), (0 : Int32), a.2.2 + (1 : Int32)))
  else
  KB (a.1 + (1 : Int32), (0 : Int32), a.2.2 + (1 : Int32)))
  else
  KB (a.1 + (1 : Int32), (0 : Int32), a.2.2 + (1 : Int32)))
  else
  KB (a.1 + (1 : Int32), (0 : Int32), a.2.2 + (1 : Int32)))
  else
  KB (a.1 + (1 : Int32), (0 : Int32), a.2.2 + (1 : Int32)))
  else
  KB (a.1 + (1 : Int32), (0 : Int32), a.2.2 + (1 : Int32)))
  else
  KB (a.1 + (1 : Int32), (0 : Int32), a.2.2 + (1 : Int32))
def fL_isDesk_B478 (c0 : (Option Nat)) (c1 : (Option Nat)) (c2 : (Option Nat)) (c3 : (Option Nat)) (c4 : (Option Nat)) (c5 : (Option Nat)) (c7 : (Option Nat)) (c11 : Int32) (c12 : Int32) (a : (Int32 × Int32 × hp)) (KB : (Int32 × Int32 × hp) → Prop) (KE : (Int32 × hp) → Prop) : Prop :=
  if c12 ≤ a.2.1 then
  (KE (a.1, a.2.2))
  else
  if a.1 = 0 then
  (KE (a.1, a.2.2))
  else
  wX ((oOb 9 c0 a.2.2).bind fun b => fX10_wordsAt b c11 a.2.1 a.2.2) fun x1 h2 =>
  wP (oIL c7 a.2.1 h2) fun x3 =>
  if x1 = x3 then
  (KB ((1 : Int32), a.2.1 + (1 : Int32), h2))
  else
  KB ((0 : Int32), a.2.1 + (1 : Int32), h2)
def fL_isDesk_B557 (c0 : (Option Nat)) (c1 : (Option Nat)) (c7 : (Option Nat)) (c13 : Int32) (a : (Int32 × Int32 × hp)) (KB : (Int32 × Int32 × hp) → Prop) (KE : (Int32 × hp) → Prop) : Prop :=
  if (10 : Int32) ≤ a.2.1 then
  (KE (a.1, a.2.2))
  else
  if a.1 = 0 then
  (KE (a.1, a.2.2))
  else
  wP (oIL c1 (3 : Int32) a.2.2) fun x1 =>
  wM (fun (K2 : Int32 → Prop) =>
  if c13 ≤ (x1 + a.2.1) then
  (K2 (0 : Int32))
  else
  wP (oIL c1 (3 : Int32) a.2.2) fun x3 =>
  wP (oIL c7 (x3 + a.2.1) a.2.2) fun x4 =>
  K2 x4)
  fun q2 =>
  wC ((oOb 9 c0 a.2.2).bind fun b => fX10_pin b a.2.1 a.2.2) fun x5 =>
  if x5 = q2 then
  (wX ((oOb 9 c0 a.2.2).bind fun b => fX10_pinAnew b a.2.1 a.2.2) fun x6 h7 =>
  if x6 = q2 then
  (KB ((1 : Int32), a.2.1 + (1 : Int32), h7))
  else
  KB ((0 : Int32), a.2.1 + (1 : Int32), h7))
  else
  KB ((0 : Int32), a.2.1 + (1 : Int32), a.2.2)
def fL_isDesk (a0 : (Option Nat)) (a1 : (Option Nat)) (a2 : (Option Nat)) (a3 : (Option Nat)) (a4 : (Option Nat)) (a5 : (Option Nat)) (a6 : Int32) (h : hp) (K : Int32 → hp → Prop) : Prop :=
  wP ((oOb 9 a0 (wN h (20, 64))).bind fun b => fX10_cursor b (wN h (20, 64))) fun x1 =>
  wP (oIL a1 (1 : Int32) (wN h (20, 64))) fun x2 =>
  wM (fun (K3 : Int32 → Prop) =>
  if x1 = x2 then
  (wP ((oOb 9 a0 (wN h (20, 64))).bind fun b => fX10_focus b (wN h (20, 64))) fun x4 =>
  wP (oIL a1 (2 : Int32) (wN h (20, 64))) fun x5 =>
  if x4 = (x5 - (1 : Int32)) then
  (wP ((oOb 9 a0 (wN h (20, 64))).bind fun b => fX10_offset b (wN h (20, 64))) fun x6 =>
  wP (oIL a1 (3 : Int32) (wN h (20, 64))) fun x7 =>
  if x6 = x7 then
  (wP ((oOb 9 a0 (wN h (20, 64))).bind fun b => fX10_isTyping b (wN h (20, 64))) fun x8 =>
  wP (oIL a1 (4 : Int32) (wN h (20, 64))) fun x9 =>
  wM (fun (K10 : Int32 → Prop) =>
  if x9 = (1 : Int32) then
  (K10 (1 : Int32))
  else
  K10 (0 : Int32))
  fun q10 =>
  if x8 = q10 then
  (K3 (1 : Int32))
  else
  K3 (0 : Int32))
  else
  K3 (0 : Int32))
  else
  K3 (0 : Int32))
  else
  K3 (0 : Int32))
  fun q3 =>
  wM (itrW (fL_isDesk_B73 a0 a1 a2 a3 a4 a5 a6 (some (hN h)) (0 : Int32) (wN h (20, 64))) 12 ((0 : Int32), q3, (0 : Int32)))
  fun q11 =>
  wM (itrW (fL_isDesk_B119 a0 a1 a2 a3 a4 a5 a6 (some (hN h)) q11.1 (wN h (20, 64))) 12 ((0 : Int32), q11.2, (0 : Int32)))
  fun q12 =>
  wP (oIL a1 (0 : Int32) (wN h (20, 64))) fun x13 =>
  wP (oNz x13) fun _ =>
  wP (fL_isShown a2 (a6 - a6 / x13 * x13) (wN h (20, 64))) fun x14 =>
  wM (fun (K15 : (Int32 × hp) → Prop) =>
  if x14 = 0 then
  (K15 ((0 : Int32), wN h (20, 64)))
  else
  wH (fL_words a1 a2 a3 a4 a5 (a6 - a6 / x13 * x13) (some (hN h)) (wN h (20, 64))) fun x16 h17 =>
  K15 (x16, h17))
  fun q15 =>
  wM (fun (K18 : (Int32 × hp) → Prop) =>
  if q12.2 = 0 then
  (K18 ((0 : Int32), q15.2))
  else
  wP ((oOb 9 a0 q15.2).bind fun b => fX10_elements b q15.2) fun x19 =>
  if x19 = q12.1 then
  (wP ((oOb 9 a0 q15.2).bind fun b => fX10_reading b q15.2) fun x20 =>
  if x20 = q11.1 then
  (wE (fL_does a0 (6 : Int32) (a6 - a6 / x13 * x13) (0 : Int32) (0 : Int32) q15.2) fun x21 h22 =>
  wP (fL_isThere a2 (a6 - a6 / x13 * x13) h22) fun x23 =>
  wM (fun (K24 : Int32 → Prop) =>
  if x23 = 0 then
  (K24 (-11 : Int32))
  else
  wP (fL_isShown a2 (a6 - a6 / x13 * x13) h22) fun x25 =>
  if x25 = 0 then
  (K24 (-13 : Int32))
  else
  K24 q15.1)
  fun q24 =>
  if x21 = q24 then
  (K18 ((1 : Int32), h22))
  else
  K18 ((0 : Int32), h22))
  else
  K18 ((0 : Int32), q15.2))
  else
  K18 ((0 : Int32), q15.2))
  fun q18 =>
  wM (itrW (fL_isDesk_B478 a0 a1 a2 a3 a4 a5 (some (hN h)) (a6 - a6 / x13 * x13) q15.1) 66 (q18.1, (0 : Int32), q18.2))
  fun q26 =>
  wH (fL_line a1 a2 a3 a4 a5 (some (hN h)) q26.2) fun x27 h28 =>
  wM (fun (K29 : Int32 → Prop) =>
  if q26.1 = 0 then
  (K29 (0 : Int32))
  else
  wP ((oOb 9 a0 h28).bind fun b => fX10_lineLength b h28) fun x30 =>
  if x30 = x27 then
  (K29 (1 : Int32))
  else
  K29 (0 : Int32))
  fun q29 =>
  wM (itrW (fL_isDesk_B557 a0 a1 (some (hN h)) x27) 12 (q29, (0 : Int32), h28))
  fun q31 =>
  wP (oBo q31.1) fun _ =>
  K q31.1 q31.2
/-! isAdded -/
def fL_isAdded_B190 (c1 : (Option Nat)) (c2 : (Option Nat)) (c3 : (Option Nat)) (c4 : Int32) (c5 : Int32) (c12 : Int32) (c13 : Int64) (c15 : Int32) (a : (Int32 × hp)) (KB : (Int32 × hp) → Prop) (KE : hp → Prop) : Prop :=
  wP (oIL c1 (0 : Int32) a.2) fun x1 =>
  if x1 ≤ a.1 then
  (KE a.2)
  else
  wP (oIL c2 (((6 : Int32) * a.1) + (2 : Int32)) a.2) fun x2 =>
  wP (oIL c2 (((6 : Int32) * a.1) + (1 : Int32)) a.2) fun x3 =>
  if x3 = c4 then
  (wP (oIL c2 (((6 : Int32) * a.1) + (2 : Int32)) a.2) fun x5 =>
  if x5 < c12 then
  (wP (oIS c2 (((6 : Int32) * a.1) + (2 : Int32)) (x2 + (0 : Int32)) a.2) fun h6 =>
  KB (a.1 + (1 : Int32), h6))
  else
  wP (oIS c2 (((6 : Int32) * a.1) + (2 : Int32)) (x2 + (1 : Int32)) a.2) fun h7 =>
  KB (a.1 + (1 : Int32), h7))
  else
  wP (oIS c2 (((6 : Int32) * a.1) + (2 : Int32)) (x2 + (0 : Int32)) a.2) fun h4 =>
  KB (a.1 + (1 : Int32), h4)
def fL_isAdded (a0 : (Option Nat)) (a1 : (Option Nat)) (a2 : (Option Nat)) (a3 : (Option Nat)) (a4 : Int32) (a5 : Int32) (a6 : Int32) (h : hp) (K : Int32 → hp → Prop) : Prop :=
  wP (oIL a2 ((6 : Int32) * a4) h) fun x1 =>
  wM (fun (K2 : Int32 → Prop) =>
  if x1 = 0 then
  (if a5 = (6 : Int32) then
  (wM (fun (K4 : Unit → Prop) =>
  if x1 = (5 : Int32) then
  (if a5 = (6 : Int32) then
  (K2 (1 : Int32))
  else
  K4 ())
  else
  K4 ())
  fun q4 =>
  if x1 = (6 : Int32) then
  (if a5 ≤ 0 then
  (K2 (0 : Int32))
  else
  if (5 : Int32) ≤ a5 then
  (K2 (0 : Int32))
  else
  K2 (1 : Int32))
  else
  K2 (0 : Int32))
  else
  K2 (1 : Int32))
  else
  wM (fun (K3 : Unit → Prop) =>
  if x1 = (5 : Int32) then
  (if a5 = (6 : Int32) then
  (K2 (1 : Int32))
  else
  K3 ())
  else
  K3 ())
  fun q3 =>
  if x1 = (6 : Int32) then
  (if a5 ≤ 0 then
  (K2 (0 : Int32))
  else
  if (5 : Int32) ≤ a5 then
  (K2 (0 : Int32))
  else
  K2 (1 : Int32))
  else
  K2 (0 : Int32))
  fun q2 =>
  wP (fL_isThere a2 a4 h) fun x5 =>
  wP (fL_kids a1 a2 a4 h) fun x6 =>
  wM (fun (K7 : Int32 → Prop) =>
  if x5 = 0 then
  (K7 (0 : Int32))
  else
  if q2 = 0 then
  (K7 (0 : Int32))
  else
  if (10 : Int32) ≤ x6 then
  (K7 (0 : Int32))
  else
  K7 (1 : Int32))
  fun q7 =>
  wP (oNz (13 : Int32)) fun _ =>
  wP (oNz (x6 + (1 : Int32))) fun _ =>
  wM (fun (K8 : (Int64 × hp) → Prop) =>
  if q7 = 0 then
  (K8 ((0 : Int64), h))
  else
  fL_drafts a0 a6 h fun x9 h10 =>
  K8 (x9, h10))
  fun q8 =>
  wM (fun (K11 : Int32 → Prop) =>
  if x5 = 0 then
  (K11 (0 : Int32))
  else
  K11 ((a6 / (13 : Int32)) - (a6 / (13 : Int32)) / (x6 + (1 : Int32)) * (x6 + (1 : Int32))))
  fun q11 =>
  wE (fL_does a0 (0 : Int32) a4 q11 a5 q8.2) fun x12 h13 =>
  wM (fun (K14 : Int32 → Prop) =>
  if x5 = 0 then
  (K14 (-11 : Int32))
  else
  if q7 = 0 then
  (K14 (-13 : Int32))
  else
  wP (oIL a1 (0 : Int32) h13) fun x15 =>
  K14 x15)
  fun q14 =>
  wM (fun (K16 : Int32 → Prop) =>
  if x12 = q14 then
  (K16 (1 : Int32))
  else
  K16 (0 : Int32))
  fun q16 =>
  if q7 = 0 then
  (wP (oBo q16) fun _ =>
  K q16 h13)
  else
  wM (itrW (fL_isAdded_B190 a1 a2 a3 a4 a5 ((a6 / (13 : Int32)) - (a6 / (13 : Int32)) / (x6 + (1 : Int32)) * (x6 + (1 : Int32))) q8.1 q16) FU ((1 : Int32), h13))
  fun q17 =>
  wP (oIL a1 (0 : Int32) q17) fun x18 =>
  wP (oIS a2 ((6 : Int32) * x18) a5 q17) fun h19 =>
  wP (oIL a1 (0 : Int32) h19) fun x20 =>
  wP (oIS a2 (((6 : Int32) * x20) + (1 : Int32)) a4 h19) fun h21 =>
  wP (oIL a1 (0 : Int32) h21) fun x22 =>
  wP (oIS a2 (((6 : Int32) * x22) + (2 : Int32)) ((a6 / (13 : Int32)) - (a6 / (13 : Int32)) / (x6 + (1 : Int32)) * (x6 + (1 : Int32))) h21) fun h23 =>
  wP (oIL a1 (0 : Int32) h23) fun x24 =>
  wP (oIS a2 (((6 : Int32) * x24) + (3 : Int32)) (1 : Int32) h23) fun h25 =>
  wP (oIL a1 (0 : Int32) h25) fun x26 =>
  wP (oJS a3 x26 q8.1 h25) fun h27 =>
  wP (oIL a1 (0 : Int32) h27) fun x28 =>
  wP (oIS a1 (0 : Int32) (x28 + (1 : Int32)) h27) fun h29 =>
  wP (oBo q16) fun _ =>
  K q16 h29
/-! law -/
def fL_law_B161 (G : gG) (c1 : (Option Nat)) (c2 : (Option Nat)) (c3 : (Option Nat)) (c4 : (Option Nat)) (c5 : (Option Nat)) (c6 : (Option Nat)) (c7 : (Option Nat)) (c9 : Int32) (c11 : Int32) (c12 : Int32) (h : hp) (a : (Int32 × Int32)) (KB : (Int32 × Int32) → Prop) (KE : Int32 → Prop) : Prop :=
  wP (oIL c2 (0 : Int32) h) fun x1 =>
  if x1 ≤ a.2 then
  (KE a.1)
  else
  wP (oNz (7 : Int32)) fun _ =>
  if (c12 - c12 / (7 : Int32) * (7 : Int32)) ≤ 0 then
  (KE a.1)
  else
  wP (fL_isThere c3 a.1 h) fun x2 =>
  if x2 = 0 then
  (wP (oIL c2 (0 : Int32) h) fun x3 =>
  wP (oNz x3) fun _ =>
  KB ((a.1 + (1 : Int32)) - (a.1 + (1 : Int32)) / x3 * x3, a.2 + (1 : Int32)))
  else
  KE a.1
def fL_law_B72 (G : gG) (c1 : (Option Nat)) (c2 : (Option Nat)) (c3 : (Option Nat)) (c4 : (Option Nat)) (c5 : (Option Nat)) (c6 : (Option Nat)) (c7 : (Option Nat)) (a : (Int32 × Int32 × hp)) (KB : (Int32 × Int32 × hp) → Prop) (KE : (Int32 × hp) → Prop) : Prop :=
  if (130 : Int32) ≤ a.2.1 then
  (KE (a.1, a.2.2))
  else
  if a.1 = 0 then
  (KE (a.1, a.2.2))
  else
  wM (fun (K1 : Int32 → Prop) =>
  if (nI (gxL G)) ≤ a.2.1 then
  (K1 ((((((51031 : Int32) * a.2.1) * a.2.1) + ((9001 : Int32) * a.2.1)) + (43 : Int32)) &&& (2147483647 : Int32)))
  else
  wP (oSc G a.2.1) fun _ =>
  K1 ((gxx G (a.2.1).toNatClampNeg) &&& (2147483647 : Int32)))
  fun q1 =>
  wM (fun (K2 : Int32 → Prop) =>
  if (6 : Int32) ≤ a.2.1 then
  (wP (oNz (26 : Int32)) fun _ =>
  K2 (q1 - q1 / (26 : Int32) * (26 : Int32)))
  else
  K2 (0 : Int32))
  fun q2 =>
  wP (oNz (26 : Int32)) fun _ =>
  wP (oIL c2 (0 : Int32) a.2.2) fun x3 =>
  wP (oNz x3) fun _ =>
  wM (itrW (fL_law_B161 G c1 c2 c3 c4 c5 c6 c7 a.2.1 q2 (q1 / (26 : Int32)) a.2.2) FU ((q1 / (26 : Int32)) - (q1 / (26 : Int32)) / x3 * x3, (0 : Int32)))
  fun q4 =>
  wP (fL_isThere c3 q4 a.2.2) fun x5 =>
  wM (fun (K6 : (Int32 × hp) → Prop) =>
  if (4 : Int32) ≤ q2 then
  (wM (fun (K7 : Unit → Prop) =>
  if q2 = (4 : Int32) then
  (wP (oNz (3 : Int32)) fun _ =>
  if ((q1 / (26 : Int32)) - (q1 / (26 : Int32)) / (3 : Int32) * (3 : Int32)) = 0 then
  (wM (fun (K8 : (Int32 × hp) → Prop) =>
  if x5 = 0 then
  (K8 ((-11 : Int32), a.2.2))
  else
  if q4 = 0 then
  (K8 ((-13 : Int32), a.2.2))
  else
  wH (fL_removes c2 c3 q4 a.2.2) fun x9 h10 =>
  K8 (x9, h10))
  fun q8 =>
  wE (fL_does c1 (1 : Int32) q4 (0 : Int32) (0 : Int32) q8.2) fun x11 h12 =>
  if x11 = q8.1 then
  (K6 ((1 : Int32), h12))
  else
  K6 ((0 : Int32), h12))
  else
  K7 ())
  else
  K7 ())
  fun q7 =>
  if q2 = (5 : Int32) then
  (wP (oNz (10 : Int32)) fun _ =>
  wP (oNz (3 : Int32)) fun _ =>
  wM (fun (K49 : Int32 → Prop) =>
  if (((q1 / (26 : Int32)) / (10 : Int32)) - ((q1 / (26 : Int32)) / (10 : Int32)) / (3 : Int32) * (3 : Int32)) ≤ 0 then
  (K49 (0 : Int32))
  else
  K49 (1 : Int32))
  fun q49 =>
  wM (fun (K50 : Int32 → Prop) =>
  if x5 = 0 then
  (K50 (-11 : Int32))
  else
  if q4 = 0 then
  (K50 (-13 : Int32))
  else
  wP (fL_isHidden c3 q4 a.2.2) fun x51 =>
  if x51 = 0 then
  (K50 (0 : Int32))
  else
  K50 (1 : Int32))
  fun q50 =>
  wM (fun (K52 : hp → Prop) =>
  if q50 < 0 then
  (K52 a.2.2)
  else
  wM (fun (K53 : Int32 → Prop) =>
  if q49 = 0 then
  (wP (oIL c3 (((6 : Int32) * q4) + (3 : Int32)) a.2.2) fun x54 =>
  K53 (x54 &&& (-3 : Int32)))
  else
  wP (oIL c3 (((6 : Int32) * q4) + (3 : Int32)) a.2.2) fun x55 =>
  K53 (x55 ||| (2 : Int32)))
  fun q53 =>
  wP (oIS c3 (((6 : Int32) * q4) + (3 : Int32)) q53 a.2.2) fun h56 =>
  wP (oIL c3 (((6 : Int32) * q4) + (1 : Int32)) h56) fun x57 =>
  wP (oIL c3 (((6 : Int32) * q4) + (2 : Int32)) h56) fun x58 =>
  wH (fL_loses c2 c3 x57 (x58 + (1 : Int32)) h56) fun _ h59 =>
  K52 h59)
  fun q52 =>
  wM (fun (K60 : Int32 → Prop) =>
  if q49 = 0 then
  (K60 (0 : Int32))
  else
  K60 (1 : Int32))
  fun q60 =>
  wE (fL_does c1 (2 : Int32) q4 q60 (0 : Int32) q52) fun x61 h62 =>
  if x61 = q50 then
  (K6 ((1 : Int32), h62))
  else
  K6 ((0 : Int32), h62))
  else
  if q2 = (6 : Int32) then
  (wM (fun (K40 : Int32 → Prop) =>
  if x5 = 0 then
  (K40 (-11 : Int32))
  else
  if q4 = 0 then
  (K40 (-13 : Int32))
  else
  K40 (0 : Int32))
  fun q40 =>
  wM (fun (K41 : (Int32 × hp) → Prop) =>
  if q40 = 0 then
  (fL_drafts c1 (q1 / (26 : Int32)) a.2.2 fun x42 h43 =>
  wP (oJS c4 q4 x42 h43) fun h44 =>
  wP (oJL c4 q4 h44) fun x45 =>
  wP (fL_nameMany x45) fun x46 =>
  K41 (x46, h44))
  else
  K41 (q40, a.2.2))
  fun q41 =>
  wE (fL_does c1 (3 : Int32) q4 (0 : Int32) (0 : Int32) q41.2) fun x47 h48 =>
  if x47 = q41.1 then
  (K6 ((1 : Int32), h48))
  else
  K6 ((0 : Int32), h48))
  else
  if q2 = (7 : Int32) then
  (wP (oNz (10 : Int32)) fun _ =>
  wP (oNz (2 : Int32)) fun _ =>
  wM (fun (K28 : Int32 → Prop) =>
  if (((q1 / (26 : Int32)) / (10 : Int32)) - ((q1 / (26 : Int32)) / (10 : Int32)) / (2 : Int32) * (2 : Int32)) = 0 then
  (K28 (1 : Int32))
  else
  K28 (0 : Int32))
  fun q28 =>
  wM (fun (K29 : Int32 → Prop) =>
  if x5 = 0 then
  (K29 (-11 : Int32))
  else
  wP (oIL c3 ((6 : Int32) * q4) a.2.2) fun x30 =>
  if x30 = (3 : Int32) then
  (wP (oIL c3 (((6 : Int32) * q4) + (3 : Int32)) a.2.2) fun x31 =>
  wP (oNz (4 : Int32)) fun _ =>
  K29 ((x31 &&& (4 : Int32)) / (4 : Int32)))
  else
  K29 (-13 : Int32))
  fun q29 =>
  wM (fun (K32 : Int32 → Prop) =>
  if 0 ≤ q29 then
  (if q28 = 0 then
  (wP (oIL c3 (((6 : Int32) * q4) + (3 : Int32)) a.2.2) fun x33 =>
  K32 (x33 &&& (-5 : Int32)))
  else
  wP (oIL c3 (((6 : Int32) * q4) + (3 : Int32)) a.2.2) fun x34 =>
  K32 (x34 ||| (4 : Int32)))
  else
  wP (oIL c3 (((6 : Int32) * q4) + (3 : Int32)) a.2.2) fun x35 =>
  K32 x35)
  fun q32 =>
  wP (oIS c3 (((6 : Int32) * q4) + (3 : Int32)) q32 a.2.2) fun h36 =>
  wM (fun (K37 : Int32 → Prop) =>
  if q28 = 0 then
  (K37 (0 : Int32))
  else
  K37 (1 : Int32))
  fun q37 =>
  wE (fL_does c1 (4 : Int32) q4 q37 (0 : Int32) h36) fun x38 h39 =>
  if x38 = q29 then
  (K6 ((1 : Int32), h39))
  else
  K6 ((0 : Int32), h39))
  else
  if q2 = (8 : Int32) then
  (wP (oNz (10 : Int32)) fun _ =>
  wP (oNz (4 : Int32)) fun _ =>
  wE (fL_does c1 (5 : Int32) q4 ((((q1 / (26 : Int32)) / (10 : Int32)) - ((q1 / (26 : Int32)) / (10 : Int32)) / (4 : Int32) * (4 : Int32)) - (1 : Int32)) (0 : Int32) a.2.2) fun x20 h21 =>
  wM (fun (K22 : Int32 → Prop) =>
  if x5 = 0 then
  (K22 (-11 : Int32))
  else
  wP (oIL c3 (((6 : Int32) * q4) + (4 : Int32)) h21) fun x23 =>
  K22 (x23 - (1 : Int32)))
  fun q22 =>
  wM (fun (K24 : Int32 → Prop) =>
  if x20 = q22 then
  (K24 (1 : Int32))
  else
  K24 (0 : Int32))
  fun q24 =>
  if x5 = 0 then
  (wP (oIL c3 (((6 : Int32) * q4) + (4 : Int32)) h21) fun x25 =>
  wP (oIS c3 (((6 : Int32) * q4) + (4 : Int32)) x25 h21) fun h26 =>
  K6 (q24, h26))
  else
  wP (oIS c3 (((6 : Int32) * q4) + (4 : Int32)) (((((q1 / (26 : Int32)) / (10 : Int32)) - ((q1 / (26 : Int32)) / (10 : Int32)) / (4 : Int32) * (4 : Int32)) - (1 : Int32)) + (1 : Int32)) h21) fun h27 =>
  K6 (q24, h27))
  else
  wP (fL_set c2 (q1 / (26 : Int32)) a.2.2) fun x13 =>
  wH (fL_line c2 c3 c4 c5 c6 c7 a.2.2) fun x14 h15 =>
  wH (fL_presses c2 c3 c5 c6 x14 x13 h15) fun _ h16 =>
  wX ((oOb 9 c1 h16).bind fun b => fX10_chord b x13 h16) fun x17 h18 =>
  wP (oIL c2 (1 : Int32) h18) fun x19 =>
  if x17 = x19 then
  (K6 ((1 : Int32), h18))
  else
  K6 ((0 : Int32), h18))
  else
  wP (oIL c2 (0 : Int32) a.2.2) fun x63 =>
  if (10 : Int32) ≤ x63 then
  (wM (fun (K64 : Unit → Prop) =>
  if q2 = (4 : Int32) then
  (wP (oNz (3 : Int32)) fun _ =>
  if ((q1 / (26 : Int32)) - (q1 / (26 : Int32)) / (3 : Int32) * (3 : Int32)) = 0 then
  (wM (fun (K65 : (Int32 × hp) → Prop) =>
  if x5 = 0 then
  (K65 ((-11 : Int32), a.2.2))
  else
  if q4 = 0 then
  (K65 ((-13 : Int32), a.2.2))
  else
  wH (fL_removes c2 c3 q4 a.2.2) fun x66 h67 =>
  K65 (x66, h67))
  fun q65 =>
  wE (fL_does c1 (1 : Int32) q4 (0 : Int32) (0 : Int32) q65.2) fun x68 h69 =>
  if x68 = q65.1 then
  (K6 ((1 : Int32), h69))
  else
  K6 ((0 : Int32), h69))
  else
  K64 ())
  else
  K64 ())
  fun q64 =>
  if q2 = (5 : Int32) then
  (wP (oNz (10 : Int32)) fun _ =>
  wP (oNz (3 : Int32)) fun _ =>
  wM (fun (K106 : Int32 → Prop) =>
  if (((q1 / (26 : Int32)) / (10 : Int32)) - ((q1 / (26 : Int32)) / (10 : Int32)) / (3 : Int32) * (3 : Int32)) ≤ 0 then
  (K106 (0 : Int32))
  else
  K106 (1 : Int32))
  fun q106 =>
  wM (fun (K107 : Int32 → Prop) =>
  if x5 = 0 then
  (K107 (-11 : Int32))
  else
  if q4 = 0 then
  (K107 (-13 : Int32))
  else
  wP (fL_isHidden c3 q4 a.2.2) fun x108 =>
  if x108 = 0 then
  (K107 (0 : Int32))
  else
  K107 (1 : Int32))
  fun q107 =>
  wM (fun (K109 : hp → Prop) =>
  if q107 < 0 then
  (K109 a.2.2)
  else
  wM (fun (K110 : Int32 → Prop) =>
  if q106 = 0 then
  (wP (oIL c3 (((6 : Int32) * q4) + (3 : Int32)) a.2.2) fun x111 =>
  K110 (x111 &&& (-3 : Int32)))
  else
  wP (oIL c3 (((6 : Int32) * q4) + (3 : Int32)) a.2.2) fun x112 =>
  K110 (x112 ||| (2 : Int32)))
  fun q110 =>
  wP (oIS c3 (((6 : Int32) * q4) + (3 : Int32)) q110 a.2.2) fun h113 =>
  wP (oIL c3 (((6 : Int32) * q4) + (1 : Int32)) h113) fun x114 =>
  wP (oIL c3 (((6 : Int32) * q4) + (2 : Int32)) h113) fun x115 =>
  wH (fL_loses c2 c3 x114 (x115 + (1 : Int32)) h113) fun _ h116 =>
  K109 h116)
  fun q109 =>
  wM (fun (K117 : Int32 → Prop) =>
  if q106 = 0 then
  (K117 (0 : Int32))
  else
  K117 (1 : Int32))
  fun q117 =>
  wE (fL_does c1 (2 : Int32) q4 q117 (0 : Int32) q109) fun x118 h119 =>
  if x118 = q107 then
  (K6 ((1 : Int32), h119))
  else
  K6 ((0 : Int32), h119))
  else
  if q2 = (6 : Int32) then
  (wM (fun (K97 : Int32 → Prop) =>
  if x5 = 0 then
  (K97 (-11 : Int32))
  else
  if q4 = 0 then
  (K97 (-13 : Int32))
  else
  K97 (0 : Int32))
  fun q97 =>
  wM (fun (K98 : (Int32 × hp) → Prop) =>
  if q97 = 0 then
  (fL_drafts c1 (q1 / (26 : Int32)) a.2.2 fun x99 h100 =>
  wP (oJS c4 q4 x99 h100) fun h101 =>
  wP (oJL c4 q4 h101) fun x102 =>
  wP (fL_nameMany x102) fun x103 =>
  K98 (x103, h101))
  else
  K98 (q97, a.2.2))
  fun q98 =>
  wE (fL_does c1 (3 : Int32) q4 (0 : Int32) (0 : Int32) q98.2) fun x104 h105 =>
  if x104 = q98.1 then
  (K6 ((1 : Int32), h105))
  else
  K6 ((0 : Int32), h105))
  else
  if q2 = (7 : Int32) then
  (wP (oNz (10 : Int32)) fun _ =>
  wP (oNz (2 : Int32)) fun _ =>
  wM (fun (K85 : Int32 → Prop) =>
  if (((q1 / (26 : Int32)) / (10 : Int32)) - ((q1 / (26 : Int32)) / (10 : Int32)) / (2 : Int32) * (2 : Int32)) = 0 then
  (K85 (1 : Int32))
  else
  K85 (0 : Int32))
  fun q85 =>
  wM (fun (K86 : Int32 → Prop) =>
  if x5 = 0 then
  (K86 (-11 : Int32))
  else
  wP (oIL c3 ((6 : Int32) * q4) a.2.2) fun x87 =>
  if x87 = (3 : Int32) then
  (wP (oIL c3 (((6 : Int32) * q4) + (3 : Int32)) a.2.2) fun x88 =>
  wP (oNz (4 : Int32)) fun _ =>
  K86 ((x88 &&& (4 : Int32)) / (4 : Int32)))
  else
  K86 (-13 : Int32))
  fun q86 =>
  wM (fun (K89 : Int32 → Prop) =>
  if 0 ≤ q86 then
  (if q85 = 0 then
  (wP (oIL c3 (((6 : Int32) * q4) + (3 : Int32)) a.2.2) fun x90 =>
  K89 (x90 &&& (-5 : Int32)))
  else
  wP (oIL c3 (((6 : Int32) * q4) + (3 : Int32)) a.2.2) fun x91 =>
  K89 (x91 ||| (4 : Int32)))
  else
  wP (oIL c3 (((6 : Int32) * q4) + (3 : Int32)) a.2.2) fun x92 =>
  K89 x92)
  fun q89 =>
  wP (oIS c3 (((6 : Int32) * q4) + (3 : Int32)) q89 a.2.2) fun h93 =>
  wM (fun (K94 : Int32 → Prop) =>
  if q85 = 0 then
  (K94 (0 : Int32))
  else
  K94 (1 : Int32))
  fun q94 =>
  wE (fL_does c1 (4 : Int32) q4 q94 (0 : Int32) h93) fun x95 h96 =>
  if x95 = q86 then
  (K6 ((1 : Int32), h96))
  else
  K6 ((0 : Int32), h96))
  else
  if q2 = (8 : Int32) then
  (wP (oNz (10 : Int32)) fun _ =>
  wP (oNz (4 : Int32)) fun _ =>
  wE (fL_does c1 (5 : Int32) q4 ((((q1 / (26 : Int32)) / (10 : Int32)) - ((q1 / (26 : Int32)) / (10 : Int32)) / (4 : Int32) * (4 : Int32)) - (1 : Int32)) (0 : Int32) a.2.2) fun x77 h78 =>
  wM (fun (K79 : Int32 → Prop) =>
  if x5 = 0 then
  (K79 (-11 : Int32))
  else
  wP (oIL c3 (((6 : Int32) * q4) + (4 : Int32)) h78) fun x80 =>
  K79 (x80 - (1 : Int32)))
  fun q79 =>
  wM (fun (K81 : Int32 → Prop) =>
  if x77 = q79 then
  (K81 (1 : Int32))
  else
  K81 (0 : Int32))
  fun q81 =>
  if x5 = 0 then
  (wP (oIL c3 (((6 : Int32) * q4) + (4 : Int32)) h78) fun x82 =>
  wP (oIS c3 (((6 : Int32) * q4) + (4 : Int32)) x82 h78) fun h83 =>
  K6 (q81, h83))
  else
  wP (oIS c3 (((6 : Int32) * q4) + (4 : Int32)) (((((q1 / (26 : Int32)) / (10 : Int32)) - ((q1 / (26 : Int32)) / (10 : Int32)) / (4 : Int32) * (4 : Int32)) - (1 : Int32)) + (1 : Int32)) h78) fun h84 =>
  K6 (q81, h84))
  else
  wP (fL_set c2 (q1 / (26 : Int32)) a.2.2) fun x70 =>
  wH (fL_line c2 c3 c4 c5 c6 c7 a.2.2) fun x71 h72 =>
  wH (fL_presses c2 c3 c5 c6 x71 x70 h72) fun _ h73 =>
  wX ((oOb 9 c1 h73).bind fun b => fX10_chord b x70 h73) fun x74 h75 =>
  wP (oIL c2 (1 : Int32) h75) fun x76 =>
  if x74 = x76 then
  (K6 ((1 : Int32), h75))
  else
  K6 ((0 : Int32), h75))
  else
  wM (fun (K120 : Int32 → Prop) =>
  if a.2.1 = 0 then
  (K120 (0 : Int32))
  else
  if (3 : Int32) ≤ a.2.1 then
  (K120 q4)
  else
  K120 (1 : Int32))
  fun q120 =>
  wP (oIL c3 ((6 : Int32) * q120) a.2.2) fun x121 =>
  wM (fun (K122 : Int32 → Prop) =>
  if a.2.1 = 0 then
  (K122 (5 : Int32))
  else
  if a.2.1 < (3 : Int32) then
  (K122 (6 : Int32))
  else
  wP (oNz (5 : Int32)) fun _ =>
  wM (fun (K123 : Unit → Prop) =>
  if ((q1 / (26 : Int32)) - (q1 / (26 : Int32)) / (5 : Int32) * (5 : Int32)) ≤ 0 then
  (K123 ())
  else
  if x121 = (5 : Int32) then
  (K122 (6 : Int32))
  else
  K123 ())
  fun q123 =>
  wP (oNz (5 : Int32)) fun _ =>
  if ((q1 / (26 : Int32)) - (q1 / (26 : Int32)) / (5 : Int32) * (5 : Int32)) ≤ 0 then
  (wP (oNz (7 : Int32)) fun _ =>
  wP (oNz (7 : Int32)) fun _ =>
  K122 (((q1 / (26 : Int32)) / (7 : Int32)) - ((q1 / (26 : Int32)) / (7 : Int32)) / (7 : Int32) * (7 : Int32)))
  else
  if x121 = (6 : Int32) then
  (wP (oNz (11 : Int32)) fun _ =>
  wP (oNz (4 : Int32)) fun _ =>
  K122 ((1 : Int32) + (((q1 / (26 : Int32)) / (11 : Int32)) - ((q1 / (26 : Int32)) / (11 : Int32)) / (4 : Int32) * (4 : Int32))))
  else
  wP (oNz (7 : Int32)) fun _ =>
  wP (oNz (7 : Int32)) fun _ =>
  K122 (((q1 / (26 : Int32)) / (7 : Int32)) - ((q1 / (26 : Int32)) / (7 : Int32)) / (7 : Int32) * (7 : Int32)))
  fun q122 =>
  fL_isAdded c1 c2 c3 c4 q120 q122 (q1 / (26 : Int32)) a.2.2 fun x124 h125 =>
  K6 (x124, h125))
  fun q6 =>
  wH (fL_line c2 c3 c4 c5 c6 c7 q6.2) fun x126 h127 =>
  wP (oIL c2 (3 : Int32) h127) fun x128 =>
  wM (fun (K129 : Int32 → Prop) =>
  if x128 ≤ 0 then
  (wP (oIL c2 (3 : Int32) h127) fun x130 =>
  K129 x130)
  else
  wP (oIL c2 (3 : Int32) h127) fun x131 =>
  if x131 < x126 then
  (wP (oIL c2 (3 : Int32) h127) fun x132 =>
  K129 x132)
  else
  if x126 = 0 then
  (K129 (0 : Int32))
  else
  wP (oNz (10 : Int32)) fun _ =>
  K129 (((x126 - (1 : Int32)) / (10 : Int32)) * (10 : Int32)))
  fun q129 =>
  wP (oIS c2 (3 : Int32) q129 h127) fun h133 =>
  wM (fun (K134 : (Int32 × hp) → Prop) =>
  if q6.1 = 0 then
  (K134 ((0 : Int32), h133))
  else
  wM (fun (K135 : Unit → Prop) =>
  if q2 = (4 : Int32) then
  (K135 ())
  else
  if q2 = (5 : Int32) then
  (K135 ())
  else
  wC ((oOb 9 c1 h133).bind fun b => fX10_waiting b (1 : Int32) h133) fun x136 =>
  if (2 : Int32) ≤ x136 then
  (K134 ((0 : Int32), h133))
  else
  wC ((oOb 9 c1 h133).bind fun b => fX10_waiting b (0 : Int32) h133) fun x137 =>
  if x137 = 0 then
  (K134 ((1 : Int32), h133))
  else
  K134 ((0 : Int32), h133))
  fun q135 =>
  wX ((oOb 9 c1 h133).bind fun b => fX10_tick b (50 : Int32) h133) fun x138 h139 =>
  if x138 < 0 then
  (K134 ((0 : Int32), h139))
  else
  wC ((oOb 9 c1 h139).bind fun b => fX10_waiting b (2 : Int32) h139) fun x140 =>
  if x140 = 0 then
  (wC ((oOb 9 c1 h139).bind fun b => fX10_waiting b (1 : Int32) h139) fun x141 =>
  if (2 : Int32) ≤ x141 then
  (K134 ((0 : Int32), h139))
  else
  wC ((oOb 9 c1 h139).bind fun b => fX10_waiting b (0 : Int32) h139) fun x142 =>
  if x142 = 0 then
  (K134 ((1 : Int32), h139))
  else
  K134 ((0 : Int32), h139))
  else
  K134 ((0 : Int32), h139))
  fun q134 =>
  if q134.1 = 0 then
  (KB ((0 : Int32), a.2.1 + (1 : Int32), q134.2))
  else
  wP (oNz (4 : Int32)) fun _ =>
  if (a.2.1 - a.2.1 / (4 : Int32) * (4 : Int32)) < (3 : Int32) then
  (KB ((1 : Int32), a.2.1 + (1 : Int32), q134.2))
  else
  fL_isDesk c1 c2 c3 c4 c5 c6 (q1 / (26 : Int32)) q134.2 fun x143 h144 =>
  if x143 = 0 then
  (KB ((0 : Int32), a.2.1 + (1 : Int32), h144))
  else
  KB ((1 : Int32), a.2.1 + (1 : Int32), h144)
def fL_law (G : gG) (h : hp) (K : Int32 → hp → Prop) : Prop :=
  wH (fX10_init (hN h) (wN h (10, 0))) fun _ h1 =>
  wP (oIS (some (hN h1)) (0 : Int32) (1 : Int32) (wN (wN (wN (wN (wN (wN h1 (20, 7)) (20, 60)) (24, 10)) (24, 20)) (20, 10)) (20, 64))) fun h2 =>
  wP (oIS (some (hN (wN h1 (20, 7)))) (1 : Int32) (-1 : Int32) h2) fun h3 =>
  wP (oIS (some (hN (wN h1 (20, 7)))) (3 : Int32) (1 : Int32) h3) fun h4 =>
  fL_isDesk (some (hN h)) (some (hN h1)) (some (hN (wN h1 (20, 7)))) (some (hN (wN (wN h1 (20, 7)) (20, 60)))) (some (hN (wN (wN (wN h1 (20, 7)) (20, 60)) (24, 10)))) (some (hN (wN (wN (wN (wN h1 (20, 7)) (20, 60)) (24, 10)) (24, 20)))) (0 : Int32) h4 fun x5 h6 =>
  wM (itrW (fL_law_B72 G (some (hN h)) (some (hN h1)) (some (hN (wN h1 (20, 7)))) (some (hN (wN (wN h1 (20, 7)) (20, 60)))) (some (hN (wN (wN (wN h1 (20, 7)) (20, 60)) (24, 10)))) (some (hN (wN (wN (wN (wN h1 (20, 7)) (20, 60)) (24, 10)) (24, 20)))) (some (hN (wN (wN (wN (wN (wN h1 (20, 7)) (20, 60)) (24, 10)) (24, 20)) (20, 10))))) 132 (x5, (0 : Int32), h6))
  fun q7 =>
  if q7.1 = 0 then
  (K (0 : Int32) q7.2)
  else
  fL_isDesk (some (hN h)) (some (hN h1)) (some (hN (wN h1 (20, 7)))) (some (hN (wN (wN h1 (20, 7)) (20, 60)))) (some (hN (wN (wN (wN h1 (20, 7)) (20, 60)) (24, 10)))) (some (hN (wN (wN (wN (wN h1 (20, 7)) (20, 60)) (24, 10)) (24, 20)))) (5 : Int32) q7.2 fun x8 h9 =>
  if x8 = 0 then
  (K (0 : Int32) h9)
  else
  K (1 : Int32) h9

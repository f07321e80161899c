/-! ===== methods as functions over the abstract heap ===== -/
/-! BrailleDesk.wordsAt -/
def fX10_wordsAt (a0 : Nat) (a1 : Int32) (a2 : Int32) (h : hp) : Option ((Int32 ⊕ String) × hp) :=
  (oOb 9 (some a0) h).bind fun b =>
  oC (fX10_existing b a1 h) (fun E => (.inr E, h)) fun x1 =>
  (oOb 9 (some a0) h).bind fun b =>
  oX (fX10_wordsOf b x1 h) (fun E hE => (.inr E, hE)) fun x2 h3 =>
  oC (fX10_codeAt x2 a2 h3) (fun E => (.inr E, h3)) fun x4 =>
  some ((.inl x4, h3))
/-! BrailleDesk.tick -/
def fX10_tick_B32 (c0 : Nat) (c1 : Int32) (c2 : Int32) (a : (Int32 × hp)) : Option ((Int32 × hp) ⊕ hp) :=
  if c1 ≤ a.1 then
  (some (.inr a.2))
  else
  (oGR 9 2 (some c0) a.2).bind fun x1 =>
  (oOb 5 x1 a.2).bind fun b =>
  o2 (fX6_passTick b a.2) fun _ h3 =>
  (oGR 9 1 (some c0) h3).bind fun x4 =>
  (oOb 8 x4 h3).bind fun b =>
  o2 (fX9_speak b h3) fun _ h6 =>
  some (.inl (a.1 + (1 : Int32), h6))
def fX10_tick (a0 : Nat) (a1 : Int32) (h : hp) : Option ((Int32 ⊕ String) × hp) :=
  if a1 < (1 : Int32) then
  (some ((.inr "java/lang/IllegalArgumentException", h)))
  else
  if a1 ≤ (50 : Int32) then
  ((oGR 9 1 (some a0) h).bind fun x1 =>
  (oGI 8 9 x1 h).bind fun x2 =>
  Option.bind (α := hp)
  (itr (fX10_tick_B32 a0 a1 x2) FU ((0 : Int32), h))
  fun q3 =>
  (oGR 9 1 (some a0) q3).bind fun x4 =>
  (oGI 8 9 x4 q3).bind fun x5 =>
  some ((.inl (x5 - x2), q3)))
  else
  some ((.inr "java/lang/IllegalArgumentException", h))
/-! BrailleDesk.time -/
def fX10_time (a0 : Nat) (h : hp) : Option Int32 :=
  (oGR 9 2 (some a0) h).bind fun x1 =>
  (oGI 5 3 x1 h).bind fun x2 =>
  some (x2)
/-! BrailleDesk.speaking -/
def fX10_speaking (a0 : Nat) (h : hp) : Option Int32 :=
  (oGR 9 1 (some a0) h).bind fun x1 =>
  (oGI 8 7 x1 h).bind fun x2 =>
  some (x2)
/-! BrailleDesk.left -/
def fX10_left (a0 : Nat) (h : hp) : Option Int32 :=
  (oGR 9 1 (some a0) h).bind fun x1 =>
  (oOb 8 x1 h).bind fun b =>
  (fX9_unspoken b h).bind fun x2 =>
  some (x2)
/-! BrailleDesk.waiting -/
def fX10_waiting (a0 : Nat) (a1 : Int32) (h : hp) : Option (Int32 ⊕ String) :=
  if a1 < 0 then
  (some (.inr "java/lang/IllegalArgumentException"))
  else
  if a1 ≤ (2 : Int32) then
  ((oGR 9 1 (some a0) h).bind fun x1 =>
  (oOb 8 x1 h).bind fun b =>
  (fX9_countWaiting b a1 h).bind fun x2 =>
  some (.inl x2))
  else
  some (.inr "java/lang/IllegalArgumentException")
/-! BrailleDesk.heard -/
def fX10_heard (a0 : Nat) (h : hp) : Option Int32 :=
  (oGR 9 1 (some a0) h).bind fun x1 =>
  (oGI 8 9 x1 h).bind fun x2 =>
  some (x2)
/-! BrailleDesk.heardAt -/
def fX10_heardAt (a0 : Nat) (a1 : Int32) (h : hp) : Option (Int32 ⊕ String) :=
  if a1 < 0 then
  (some (.inr "java/lang/IndexOutOfBoundsException"))
  else
  if (100 : Int32) ≤ a1 then
  (some (.inr "java/lang/IndexOutOfBoundsException"))
  else
  (oGR 9 1 (some a0) h).bind fun x1 =>
  (oGI 8 9 x1 h).bind fun x2 =>
  if a1 < x2 then
  ((oGR 9 1 (some a0) h).bind fun x3 =>
  (oOb 8 x3 h).bind fun b =>
  (fX9_spokenAgo b a1 h).bind fun x4 =>
  some (.inl x4))
  else
  some (.inr "java/lang/IndexOutOfBoundsException")
/-! BrailleDesk.dropped -/
def fX10_dropped (a0 : Nat) (h : hp) : Option Int32 :=
  (oGR 9 1 (some a0) h).bind fun x1 =>
  (oGI 8 10 x1 h).bind fun x2 =>
  some (x2)
/-! BrailleDesk.swallowed -/
def fX10_swallowed (a0 : Nat) (h : hp) : Option Int32 :=
  (oGR 9 2 (some a0) h).bind fun x1 =>
  (oGI 5 4 x1 h).bind fun x2 =>
  some (x2)
/-! BrailleDeskModel.<init> -/
def fX11_init (a0 : Nat) (h : hp) : Option (Unit × hp) :=
  (oPR 10 1 (some a0) (some (hN h)) (wN h (21, 40))).bind fun h1 =>
  (oPR 10 2 (some a0) (some (hN h1)) (wN h1 (20, 40))).bind fun h2 =>
  (oPR 10 3 (some a0) (some (hN h2)) (wN h2 (20, 40))).bind fun h3 =>
  (oPR 10 4 (some a0) (some (hN h3)) (wN h3 (20, 400))).bind fun h4 =>
  (oPR 10 5 (some a0) (some (hN h4)) (wN h4 (20, 40))).bind fun h5 =>
  (oPR 10 6 (some a0) (some (hN h5)) (wN h5 (20, 480))).bind fun h6 =>
  (oPR 10 7 (some a0) (some (hN h6)) (wN h6 (20, 40))).bind fun h7 =>
  (oPR 10 8 (some a0) (some (hN h7)) (wN h7 (20, 480))).bind fun h8 =>
  (oPR 10 9 (some a0) (some (hN h8)) (wN h8 (20, 40))).bind fun h9 =>
  (oPR 10 10 (some a0) (some (hN h9)) (wN h9 (21, 40))).bind fun h10 =>
  (oPR 10 11 (some a0) (some (hN h10)) (wN h10 (20, 40))).bind fun h11 =>
  (oPR 10 12 (some a0) (some (hN h11)) (wN h11 (21, 40))).bind fun h12 =>
  (oPR 10 13 (some a0) (some (hN h12)) (wN h12 (20, 40))).bind fun h13 =>
  (oPR 10 14 (some a0) (some (hN h13)) (wN h13 (20, 40))).bind fun h14 =>
  (oPR 10 15 (some a0) (some (hN h14)) (wN h14 (20, 40))).bind fun h15 =>
  (oPR 10 16 (some a0) (some (hN h15)) (wN h15 (20, 40))).bind fun h16 =>
  (oPR 10 17 (some a0) (some (hN h16)) (wN h16 (20, 4000))).bind fun h17 =>
  (oPR 10 18 (some a0) (some (hN h17)) (wN h17 (20, 12))).bind fun h18 =>
  (oPR 10 28 (some a0) (some (hN h18)) (wN h18 (20, 100))).bind fun h19 =>
  (oPR 10 30 (some a0) (some (hN h19)) (wN h19 (20, 700))).bind fun h20 =>
  (oPR 10 31 (some a0) (some (hN h20)) (wN h20 (20, 7))).bind fun h21 =>
  (oPR 10 33 (some a0) (some (hN h21)) (wN h21 (20, 100))).bind fun h22 =>
  (oPR 10 35 (some a0) (some (hN h22)) (wN h22 (20, 2400))).bind fun h23 =>
  (oPR 10 36 (some a0) (some (hN h23)) (wN h23 (20, 24))).bind fun h24 =>
  (oPR 10 39 (some a0) (some (hN h24)) (wN h24 (20, 100))).bind fun h25 =>
  (oPR 10 42 (some a0) (some (hN h25)) (wN h25 (20, 100))).bind fun h26 =>
  (oPR 10 47 (some a0) (some (hN h26)) (wN h26 (20, 10))).bind fun h27 =>
  (oPR 10 49 (some a0) (some (hN h27)) (wN h27 (20, 40))).bind fun h28 =>
  (oPR 10 51 (some a0) (some (hN h28)) (wN h28 (20, 40))).bind fun h29 =>
  (oPR 10 52 (some a0) (some (hN h29)) (wN h29 (20, 100))).bind fun h30 =>
  (oPI 10 0 (some a0) (1 : Int32) h30).bind fun h31 =>
  (oGR 10 1 (some a0) h31).bind fun x32 =>
  (oZS x32 (0 : Int32) (1 : Int32) h31).bind fun h33 =>
  (oGR 10 3 (some a0) h33).bind fun x34 =>
  (oIS x34 (0 : Int32) (-1 : Int32) h33).bind fun h35 =>
  (oGR 10 13 (some a0) h35).bind fun x36 =>
  (oIS x36 (0 : Int32) (-1 : Int32) h35).bind fun h37 =>
  (oPI 10 21 (some a0) (-1 : Int32) h37).bind fun h38 =>
  (oPI 10 38 (some a0) (-1 : Int32) h38).bind fun h39 =>
  (oGR 10 47 (some a0) h39).bind fun x40 =>
  (oIS x40 (0 : Int32) (1 : Int32) h39).bind fun h41 =>
  (oGR 10 47 (some a0) h41).bind fun x42 =>
  (oIS x42 (1 : Int32) (3 : Int32) h41).bind fun h43 =>
  (oGR 10 47 (some a0) h43).bind fun x44 =>
  (oIS x44 (2 : Int32) (9 : Int32) h43).bind fun h45 =>
  (oGR 10 47 (some a0) h45).bind fun x46 =>
  (oIS x46 (3 : Int32) (25 : Int32) h45).bind fun h47 =>
  (oGR 10 47 (some a0) h47).bind fun x48 =>
  (oIS x48 (4 : Int32) (17 : Int32) h47).bind fun h49 =>
  (oGR 10 47 (some a0) h49).bind fun x50 =>
  (oIS x50 (5 : Int32) (11 : Int32) h49).bind fun h51 =>
  (oGR 10 47 (some a0) h51).bind fun x52 =>
  (oIS x52 (6 : Int32) (27 : Int32) h51).bind fun h53 =>
  (oGR 10 47 (some a0) h53).bind fun x54 =>
  (oIS x54 (7 : Int32) (19 : Int32) h53).bind fun h55 =>
  (oGR 10 47 (some a0) h55).bind fun x56 =>
  (oIS x56 (8 : Int32) (10 : Int32) h55).bind fun h57 =>
  (oGR 10 47 (some a0) h57).bind fun x58 =>
  (oIS x58 (9 : Int32) (26 : Int32) h57).bind fun h59 =>
  some (((), h59))
/-! BrailleDeskModel.thrown -/
def fX11_thrown (a0 : Nat) (h : hp) : Option Int32 :=
  (oGI 10 48 (some a0) h).bind fun x1 =>
  some (x1)
/-! BrailleDeskModel.in -/
def fX11_in (a0 : Int32) (a1 : Int32) (a2 : Int32) : Option Int32 :=
  if a0 < a1 then
  (some ((0 : Int32)))
  else
  if a2 < a0 then
  (some ((0 : Int32)))
  else
  some ((1 : Int32))
/-! BrailleDeskModel.isElement -/
def fX11_isElement (a0 : Nat) (a1 : Int32) (h : hp) : Option Int32 :=
  (oGI 10 0 (some a0) h).bind fun x1 =>
  (fX11_in a1 (0 : Int32) (x1 - (1 : Int32))).bind fun x2 =>
  if x2 = 0 then
  (some ((0 : Int32)))
  else
  (oGR 10 1 (some a0) h).bind fun x3 =>
  (oZL x3 a1 h).bind fun x4 =>
  if x4 = 0 then
  (some ((0 : Int32)))
  else
  some ((1 : Int32))
/-! BrailleDeskModel.asksFor -/
def fX11_asksFor (a0 : Nat) (a1 : Int32) (h : hp) : Option (Int32 × hp) :=
  (oOb 10 (some a0) h).bind fun b =>
  (fX11_isElement b a1 h).bind fun x1 =>
  Option.bind (α := Int32)
  (if x1 = 0 then
  (some (1 : Int32))
  else
  some (0 : Int32))
  fun q2 =>
  (oPI 10 48 (some a0) q2 h).bind fun h4 =>
  (oGI 10 48 (some a0) h4).bind fun x5 =>
  if x5 = 0 then
  (some (((1 : Int32), h4)))
  else
  some (((0 : Int32), h4))
/-! BrailleDeskModel.shows -/
def fX11_shows_B4 (c0 : Nat) (h : hp) (a : (Int32 × Int32)) : Option ((Int32 × Int32) ⊕ Int32) :=
  if a.2 = (-1 : Int32) then
  (some (.inr a.1))
  else
  Option.bind (α := Int32)
  (if a.1 = 0 then
  (some (0 : Int32))
  else
  (oGR 10 12 (some c0) h).bind fun x3 =>
  (oZL x3 a.2 h).bind fun x4 =>
  if x4 = 0 then
  (some (1 : Int32))
  else
  some (0 : Int32))
  fun q1 =>
  (oGR 10 3 (some c0) h).bind fun x5 =>
  (oIL x5 a.2 h).bind fun x6 =>
  some (.inl (q1, x6))
def fX11_shows (a0 : Nat) (a1 : Int32) (h : hp) : Option Int32 :=
  Option.bind (α := Int32)
  (itr (fX11_shows_B4 a0 h) FU ((1 : Int32), a1))
  fun q1 =>
  (oBo q1).bind fun _ =>
  some (q1)
/-! BrailleDeskModel.levelOf -/
def fX11_levelOf_B2 (c0 : Nat) (h : hp) (a : Int32) : Option (Int32 ⊕ Int32) :=
  if a = (-1 : Int32) then
  (some (.inr a))
  else
  (oGR 10 13 (some c0) h).bind fun x1 =>
  (oIL x1 a h).bind fun x2 =>
  if x2 = (-1 : Int32) then
  ((oGR 10 3 (some c0) h).bind fun x3 =>
  (oIL x3 a h).bind fun x4 =>
  some (.inl x4))
  else
  some (.inr a)
def fX11_levelOf (a0 : Nat) (a1 : Int32) (h : hp) : Option Int32 :=
  Option.bind (α := Int32)
  (itr (fX11_levelOf_B2 a0 h) FU a1)
  fun q1 =>
  if q1 = (-1 : Int32) then
  (some ((1 : Int32)))
  else
  (oGR 10 13 (some a0) h).bind fun x2 =>
  (oIL x2 q1 h).bind fun x3 =>
  some (x3)
/-! BrailleDeskModel.regionOf -/
def fX11_regionOf_B7 (c0 : Nat) (h : hp) (a : Int32) : Option (Int32 ⊕ Int32) :=
  if a = (-1 : Int32) then
  (some (.inr a))
  else
  (oGR 10 2 (some c0) h).bind fun x1 =>
  (oIL x1 a h).bind fun x2 =>
  if x2 = (7 : Int32) then
  (some (.inr a))
  else
  (oGR 10 3 (some c0) h).bind fun x3 =>
  (oIL x3 a h).bind fun x4 =>
  some (.inl x4)
def fX11_regionOf (a0 : Nat) (a1 : Int32) (h : hp) : Option Int32 :=
  (oGR 10 3 (some a0) h).bind fun x1 =>
  (oIL x1 a1 h).bind fun x2 =>
  Option.bind (α := Int32)
  (itr (fX11_regionOf_B7 a0 h) FU x2)
  fun q3 =>
  some (q3)
/-! BrailleDeskModel.placeOf -/
def fX11_placeOf_B2 (c0 : Nat) (c1 : Int32) (h : hp) (a : Int32) : Option (Int32 ⊕ Int32) :=
  (oGR 10 4 (some c0) h).bind fun x1 =>
  (oGR 10 3 (some c0) h).bind fun x2 =>
  (oIL x2 c1 h).bind fun x3 =>
  (oIL x1 (((10 : Int32) * x3) + a) h).bind fun x4 =>
  if x4 = c1 then
  (some (.inr a))
  else
  some (.inl (a + (1 : Int32)))
def fX11_placeOf (a0 : Nat) (a1 : Int32) (h : hp) : Option Int32 :=
  Option.bind (α := Int32)
  (itr (fX11_placeOf_B2 a0 a1 h) FU (0 : Int32))
  fun q1 =>
  some (q1)
/-! BrailleDeskModel.layOrder -/
def fX11_layOrder_B66 (c0 : Nat) (c2 : Int32) (a : (Int32 × Int32 × hp)) : Option ((Int32 × Int32 × hp) ⊕ (Int32 × hp)) :=
  if a.2.1 < 0 then
  (some (.inr (a.1, a.2.2)))
  else
  (oGR 10 51 (some c0) a.2.2).bind fun x1 =>
  (oGR 10 4 (some c0) a.2.2).bind fun x2 =>
  (oIL x2 (((10 : Int32) * c2) + a.2.1) a.2.2).bind fun x3 =>
  (oIS x1 a.1 x3 a.2.2).bind fun h4 =>
  some (.inl (a.1 + (1 : Int32), a.2.1 + (-1 : Int32), h4))
def fX11_layOrder_B14 (c0 : Nat) (a : (Int32 × hp)) : Option ((Int32 × hp) ⊕ hp) :=
  if a.1 ≤ 0 then
  (some (.inr a.2))
  else
  (oGR 10 51 (some c0) a.2).bind fun x1 =>
  (oIL x1 (a.1 + (-1 : Int32)) a.2).bind fun x2 =>
  (oGR 10 12 (some c0) a.2).bind fun x3 =>
  (oZL x3 x2 a.2).bind fun x4 =>
  if x4 = 0 then
  ((oGR 10 49 (some c0) a.2).bind fun x5 =>
  (oGI 10 50 (some c0) a.2).bind fun x6 =>
  (oIS x5 x6 x2 a.2).bind fun h7 =>
  (oGI 10 50 (some c0) h7).bind fun x8 =>
  (oPI 10 50 (some c0) (x8 + (1 : Int32)) h7).bind fun h9 =>
  (oGR 10 5 (some c0) h9).bind fun x10 =>
  (oIL x10 x2 h9).bind fun x11 =>
  Option.bind (α := (Int32 × hp))
  (itr (fX11_layOrder_B66 c0 x2) FU (a.1 + (-1 : Int32), x11 - (1 : Int32), h9))
  fun q12 =>
  some (.inl (q12.1, q12.2)))
  else
  some (.inl (a.1 + (-1 : Int32), a.2))
def fX11_layOrder (a0 : Nat) (h : hp) : Option (Unit × hp) :=
  (oGR 10 51 (some a0) h).bind fun x1 =>
  (oIS x1 (0 : Int32) (0 : Int32) h).bind fun h2 =>
  (oPI 10 50 (some a0) (0 : Int32) h2).bind fun h3 =>
  Option.bind (α := hp)
  (itr (fX11_layOrder_B14 a0) FU ((1 : Int32), h3))
  fun q4 =>
  some (((), q4))
/-! BrailleDeskModel.layCursor -/
def fX11_layCursor_B6 (c0 : Nat) (h : hp) (a : Int32) : Option (Int32 ⊕ Int32) :=
  (oGR 10 49 (some c0) h).bind fun x1 =>
  (oIL x1 a h).bind fun x2 =>
  (oGI 10 20 (some c0) h).bind fun x3 =>
  if x2 = x3 then
  (some (.inr a))
  else
  some (.inl (a + (1 : Int32)))
def fX11_layCursor (a0 : Nat) (h : hp) : Option (Int32 × hp) :=
  (oOb 10 (some a0) h).bind fun b =>
  o2 (fX11_layOrder b h) fun _ h2 =>
  Option.bind (α := Int32)
  (itr (fX11_layCursor_B6 a0 h2) FU (0 : Int32))
  fun q3 =>
  some ((q3, h2))
/-! BrailleDeskModel.word -/
def fX11_word (a0 : Int32) (a1 : Int32) (a2 : Int32) (a3 : Int32) (a4 : Int32) (a5 : Int32) (a6 : Int32) : Option Int64 :=
  some ((((((((((((a0.toInt64 * (128 : Int64)) + a1.toInt64) * (128 : Int64)) + a2.toInt64) * (128 : Int64)) + a3.toInt64) * (128 : Int64)) + a4.toInt64) * (128 : Int64)) + a5.toInt64) * (128 : Int64)) + a6.toInt64)
/-! BrailleDeskModel.kindWord -/
def fX11_kindWord (a0 : Int32) : Option Int64 :=
  if a0 = 0 then
  ((fX11_word (0 : Int32) (0 : Int32) (103 : Int32) (114 : Int32) (111 : Int32) (117 : Int32) (112 : Int32)).bind fun x7 =>
  some (x7))
  else
  if a0 = (2 : Int32) then
  ((fX11_word (0 : Int32) (98 : Int32) (117 : Int32) (116 : Int32) (116 : Int32) (111 : Int32) (110 : Int32)).bind fun x6 =>
  some (x6))
  else
  if a0 = (3 : Int32) then
  ((fX11_word (0 : Int32) (0 : Int32) (99 : Int32) (104 : Int32) (101 : Int32) (99 : Int32) (107 : Int32)).bind fun x5 =>
  some (x5))
  else
  if a0 = (4 : Int32) then
  ((fX11_word (0 : Int32) (0 : Int32) (0 : Int32) (101 : Int32) (100 : Int32) (105 : Int32) (116 : Int32)).bind fun x4 =>
  some (x4))
  else
  if a0 = (5 : Int32) then
  ((fX11_word (0 : Int32) (0 : Int32) (116 : Int32) (97 : Int32) (98 : Int32) (108 : Int32) (101 : Int32)).bind fun x3 =>
  some (x3))
  else
  if a0 = (6 : Int32) then
  ((fX11_word (0 : Int32) (0 : Int32) (0 : Int32) (0 : Int32) (114 : Int32) (111 : Int32) (119 : Int32)).bind fun x2 =>
  some (x2))
  else
  if a0 = (7 : Int32) then
  ((fX11_word (0 : Int32) (0 : Int32) (0 : Int32) (108 : Int32) (105 : Int32) (118 : Int32) (101 : Int32)).bind fun x1 =>
  some (x1))
  else
  some ((0 : Int64))
/-! BrailleDeskModel.kindLetter -/
def fX11_kindLetter_B5  (a : Int64) : Option (Int64 ⊕ Int64) :=
  if (lg_cmp a (127 : Int64)) ≤ 0 then
  (some (.inr a))
  else
  some (.inl (a >>> ((7 : Int32).toInt64 &&& 63)))
def fX11_kindLetter (a0 : Int32) : Option Int32 :=
  (fX11_kindWord a0).bind fun x1 =>
  Option.bind (α := Int64)
  (itr (fX11_kindLetter_B5) FU x1)
  fun q2 =>
  if (lg_cmp q2 (0 : Int64)) = 0 then
  (some ((-1 : Int32)))
  else
  some (q2.toInt32 - (97 : Int32))
/-! BrailleDeskModel.put -/
def fX11_put (a0 : Nat) (a1 : Int32) (h : hp) : Option (Unit × hp) :=
  (oGR 10 28 (some a0) h).bind fun x1 =>
  (oGI 10 29 (some a0) h).bind fun x2 =>
  (oIS x1 x2 a1 h).bind fun h3 =>
  (oGI 10 29 (some a0) h3).bind fun x4 =>
  (oPI 10 29 (some a0) (x4 + (1 : Int32)) h3).bind fun h5 =>
  some (((), h5))
/-! BrailleDeskModel.gap -/
def fX11_gap (a0 : Nat) (h : hp) : Option (Unit × hp) :=
  (oGI 10 29 (some a0) h).bind fun x1 =>
  if x1 ≤ 0 then
  (some (((), h)))
  else
  (oOb 10 (some a0) h).bind fun b =>
  o2 (fX11_put b (32 : Int32) h) fun _ h3 =>
  some (((), h3))
/-! BrailleDeskModel.partWord -/
def fX11_partWord_B13 (c0 : Nat) (c1 : Int64) (a : (Int32 × hp)) : Option ((Int32 × hp) ⊕ hp) :=
  if a.1 < 0 then
  (some (.inr a.2))
  else
  if (lg_cmp ((c1 >>> (a.1.toInt64 &&& 63)) &&& (127 : Int64)) (0 : Int64)) ≤ 0 then
  (some (.inl (a.1 + (-7 : Int32), a.2)))
  else
  (oOb 10 (some c0) a.2).bind fun b =>
  o2 (fX11_put b (((c1 >>> (a.1.toInt64 &&& 63)) &&& (127 : Int64)).toInt32) a.2) fun _ h2 =>
  some (.inl (a.1 + (-7 : Int32), h2))
def fX11_partWord (a0 : Nat) (a1 : Int64) (h : hp) : Option (Unit × hp) :=
  Option.bind (α := hp)
  (if (lg_cmp a1 (0 : Int64)) ≤ 0 then
  (some h)
  else
  (oOb 10 (some a0) h).bind fun b =>
  o2 (fX11_gap b h) fun _ h4 =>
  some h4)
  fun q1 =>
  Option.bind (α := hp)
  (itr (fX11_partWord_B13 a0 a1) FU ((42 : Int32), q1))
  fun q5 =>
  some (((), q5))
/-! BrailleDeskModel.part -/
def fX11_part_B11 (c0 : Nat) (c1 : (Option Nat)) (c2 : Int32) (c3 : Int32) (a : (Int32 × hp)) : Option ((Int32 × hp) ⊕ hp) :=
  if c3 ≤ a.1 then
  (some (.inr a.2))
  else
  (oIL c1 (c2 + a.1) a.2).bind fun x1 =>
  (oOb 10 (some c0) a.2).bind fun b =>
  o2 (fX11_put b x1 a.2) fun _ h3 =>
  some (.inl (a.1 + (1 : Int32), h3))
def fX11_part (a0 : Nat) (a1 : (Option Nat)) (a2 : Int32) (a3 : Int32) (h : hp) : Option (Unit × hp) :=
  Option.bind (α := hp)
  (if a3 ≤ 0 then
  (some h)
  else
  (oOb 10 (some a0) h).bind fun b =>
  o2 (fX11_gap b h) fun _ h4 =>
  some h4)
  fun q1 =>
  Option.bind (α := hp)
  (itr (fX11_part_B11 a0 a1 a2 a3) FU ((0 : Int32), q1))
  fun q5 =>
  some (((), q5))
/-! BrailleDeskModel.partName -/
def fX11_partName (a0 : Nat) (a1 : Int32) (h : hp) : Option (Unit × hp) :=
  (oGR 10 6 (some a0) h).bind fun x1 =>
  (oGR 10 7 (some a0) h).bind fun x2 =>
  (oIL x2 a1 h).bind fun x3 =>
  (oOb 10 (some a0) h).bind fun b =>
  o2 (fX11_part b x1 ((12 : Int32) * a1) x3 h) fun _ h5 =>
  some (((), h5))
/-! BrailleDeskModel.addNumber -/
def fX11_addNumber (a0 : Nat) (a1 : Int32) (h : hp) : Option (Unit × hp) :=
  Option.bind (α := hp)
  (if a1 ≤ (9 : Int32) then
  (some h)
  else
  (oNz (10 : Int32)).bind fun _ =>
  (oOb 10 (some a0) h).bind fun b =>
  o2 (fX11_put b ((48 : Int32) + (a1 / (10 : Int32))) h) fun _ h4 =>
  some h4)
  fun q1 =>
  (oNz (10 : Int32)).bind fun _ =>
  (oOb 10 (some a0) q1).bind fun b =>
  o2 (fX11_put b ((48 : Int32) + (a1 - a1 / (10 : Int32) * (10 : Int32))) q1) fun _ h6 =>
  some (((), h6))
/-! BrailleDeskModel.partPlace -/
def fX11_partPlace_B15 (c0 : Nat) (c1 : Int32) (c2 : Int32) (h : hp) (a : (Int32 × Int32 × Int32)) : Option ((Int32 × Int32 × Int32) ⊕ (Int32 × Int32)) :=
  (oGR 10 5 (some c0) h).bind fun x1 =>
  (oIL x1 c2 h).bind fun x2 =>
  if x2 ≤ a.2.2 then
  (some (.inr (a.1, a.2.1)))
  else
  (oGR 10 4 (some c0) h).bind fun x3 =>
  (oIL x3 (((10 : Int32) * c2) + a.2.2) h).bind fun x4 =>
  (oGR 10 12 (some c0) h).bind fun x5 =>
  (oZL x5 x4 h).bind fun x6 =>
  Option.bind (α := Int32)
  (if x6 = 0 then
  (some (1 : Int32))
  else
  some (0 : Int32))
  fun q7 =>
  if x4 = c1 then
  (some (.inl (a.2.1 + q7, a.2.1 + q7, a.2.2 + (1 : Int32))))
  else
  some (.inl (a.1, a.2.1 + q7, a.2.2 + (1 : Int32)))
def fX11_partPlace (a0 : Nat) (a1 : Int32) (h : hp) : Option (Unit × hp) :=
  (oGR 10 3 (some a0) h).bind fun x1 =>
  (oIL x1 a1 h).bind fun x2 =>
  Option.bind (α := (Int32 × Int32))
  (itr (fX11_partPlace_B15 a0 a1 x2 h) FU ((0 : Int32), (0 : Int32), (0 : Int32)))
  fun q3 =>
  (oOb 10 (some a0) h).bind fun b =>
  o2 (fX11_gap b h) fun _ h5 =>
  (oOb 10 (some a0) h5).bind fun b =>
  o2 (fX11_addNumber b q3.1 h5) fun _ h7 =>
  (fX11_word (0 : Int32) (0 : Int32) (0 : Int32) (0 : Int32) (0 : Int32) (111 : Int32) (102 : Int32)).bind fun x8 =>
  (oOb 10 (some a0) h7).bind fun b =>
  o2 (fX11_partWord b x8 h7) fun _ h10 =>
  (oOb 10 (some a0) h10).bind fun b =>
  o2 (fX11_gap b h10) fun _ h12 =>
  (oOb 10 (some a0) h12).bind fun b =>
  o2 (fX11_addNumber b q3.2 h12) fun _ h14 =>
  some (((), h14))
/-! BrailleDeskModel.partOn -/
def fX11_partOn (a0 : Nat) (a1 : Int32) (h : hp) : Option (Unit × hp) :=
  if a1 = 0 then
  ((fX11_word (0 : Int32) (0 : Int32) (0 : Int32) (0 : Int32) (111 : Int32) (102 : Int32) (102 : Int32)).bind fun x1 =>
  (oOb 10 (some a0) h).bind fun b =>
  o2 (fX11_partWord b x1 h) fun _ h3 =>
  some (((), h3)))
  else
  (fX11_word (0 : Int32) (0 : Int32) (0 : Int32) (0 : Int32) (0 : Int32) (111 : Int32) (110 : Int32)).bind fun x4 =>
  (oOb 10 (some a0) h).bind fun b =>
  o2 (fX11_partWord b x4 h) fun _ h6 =>
  some (((), h6))
/-! BrailleDeskModel.partWords -/
def fX11_partWords (a0 : Nat) (a1 : Int32) (h : hp) : Option (Unit × hp) :=
  (oOb 10 (some a0) h).bind fun b =>
  (fX11_levelOf b a1 h).bind fun x1 =>
  (oOb 10 (some a0) h).bind fun b =>
  o2 (fX11_partName b a1 h) fun _ h3 =>
  Option.bind (α := hp)
  (if x1 = 0 then
  ((oGR 10 7 (some a0) h3).bind fun x11 =>
  (oIL x11 a1 h3).bind fun x12 =>
  if x12 = 0 then
  ((oGR 10 2 (some a0) h3).bind fun x13 =>
  (oIL x13 a1 h3).bind fun x14 =>
  (fX11_kindWord x14).bind fun x15 =>
  (oOb 10 (some a0) h3).bind fun b =>
  o2 (fX11_partWord b x15 h3) fun _ h17 =>
  some h17)
  else
  some h3)
  else
  (oGR 10 2 (some a0) h3).bind fun x6 =>
  (oIL x6 a1 h3).bind fun x7 =>
  (fX11_kindWord x7).bind fun x8 =>
  (oOb 10 (some a0) h3).bind fun b =>
  o2 (fX11_partWord b x8 h3) fun _ h10 =>
  some h10)
  fun q4 =>
  (oGR 10 2 (some a0) q4).bind fun x18 =>
  (oIL x18 a1 q4).bind fun x19 =>
  Option.bind (α := hp)
  (if x19 = (3 : Int32) then
  ((oGR 10 10 (some a0) q4).bind fun x22 =>
  (oZL x22 a1 q4).bind fun x23 =>
  (oOb 10 (some a0) q4).bind fun b =>
  o2 (fX11_partOn b x23 q4) fun _ h25 =>
  some h25)
  else
  some q4)
  fun q20 =>
  (oGR 10 8 (some a0) q20).bind fun x26 =>
  (oGR 10 9 (some a0) q20).bind fun x27 =>
  (oIL x27 a1 q20).bind fun x28 =>
  (oOb 10 (some a0) q20).bind fun b =>
  o2 (fX11_part b x26 ((12 : Int32) * a1) x28 q20) fun _ h30 =>
  if x1 = (2 : Int32) then
  (if a1 ≤ 0 then
  (some (((), h30)))
  else
  (oOb 10 (some a0) h30).bind fun b =>
  o2 (fX11_partPlace b a1 h30) fun _ h32 =>
  some (((), h32)))
  else
  some (((), h30))
/-! BrailleDeskModel.copy -/
def fX11_copy_B3 (c0 : (Option Nat)) (c1 : Int32) (c2 : (Option Nat)) (c3 : Int32) (c4 : Int32) (a : (Int32 × hp)) : Option ((Int32 × hp) ⊕ hp) :=
  if c4 ≤ a.1 then
  (some (.inr a.2))
  else
  (oIL c0 (c1 + a.1) a.2).bind fun x1 =>
  (oIS c2 (c3 + a.1) x1 a.2).bind fun h2 =>
  some (.inl (a.1 + (1 : Int32), h2))
def fX11_copy (a0 : (Option Nat)) (a1 : Int32) (a2 : (Option Nat)) (a3 : Int32) (a4 : Int32) (h : hp) : Option (Unit × hp) :=
  Option.bind (α := hp)
  (itr (fX11_copy_B3 a0 a1 a2 a3 a4) FU ((0 : Int32), h))
  fun q1 =>
  some (((), q1))
/-! BrailleDeskModel.takeNews -/
def fX11_takeNews_B12 (c0 : Nat) (a : (Int32 × hp)) : Option ((Int32 × hp) ⊕ hp) :=
  (oGI 10 32 (some c0) a.2).bind fun x1 =>
  if x1 ≤ a.1 then
  (some (.inr a.2))
  else
  (oGR 10 31 (some c0) a.2).bind fun x2 =>
  (oGR 10 31 (some c0) a.2).bind fun x3 =>
  (oIL x3 (a.1 + (1 : Int32)) a.2).bind fun x4 =>
  (oIS x2 a.1 x4 a.2).bind fun h5 =>
  (oGR 10 30 (some c0) h5).bind fun x6 =>
  (oGR 10 30 (some c0) h5).bind fun x7 =>
  (oGR 10 31 (some c0) h5).bind fun x8 =>
  (oIL x8 a.1 h5).bind fun x9 =>
  o2 (fX11_copy x6 ((100 : Int32) * (a.1 + (1 : Int32))) x7 ((100 : Int32) * a.1) x9 h5) fun _ h11 =>
  some (.inl (a.1 + (1 : Int32), h11))
def fX11_takeNews (a0 : Nat) (h : hp) : Option (Unit × hp) :=
  (oGI 10 32 (some a0) h).bind fun x1 =>
  (oPI 10 32 (some a0) (x1 - (1 : Int32)) h).bind fun h2 =>
  Option.bind (α := hp)
  (itr (fX11_takeNews_B12 a0) FU ((0 : Int32), h2))
  fun q3 =>
  some (((), q3))
/-! BrailleDeskModel.comeNews -/
def fX11_comeNews (a0 : Nat) (h : hp) : Option (Unit × hp) :=
  (oGR 10 28 (some a0) h).bind fun x1 =>
  (oGR 10 30 (some a0) h).bind fun x2 =>
  (oGI 10 32 (some a0) h).bind fun x3 =>
  (oGI 10 29 (some a0) h).bind fun x4 =>
  o2 (fX11_copy x1 (0 : Int32) x2 ((100 : Int32) * x3) x4 h) fun _ h6 =>
  (oGR 10 31 (some a0) h6).bind fun x7 =>
  (oGI 10 32 (some a0) h6).bind fun x8 =>
  (oGI 10 29 (some a0) h6).bind fun x9 =>
  (oIS x7 x8 x9 h6).bind fun h10 =>
  (oGI 10 32 (some a0) h10).bind fun x11 =>
  (oPI 10 32 (some a0) (x11 + (1 : Int32)) h10).bind fun h12 =>
  (oGI 10 32 (some a0) h12).bind fun x13 =>
  if x13 = (6 : Int32) then
  ((oOb 10 (some a0) h12).bind fun b =>
  o2 (fX11_takeNews b h12) fun _ h15 =>
  (oGI 10 44 (some a0) h15).bind fun x16 =>
  (oPI 10 44 (some a0) (x16 + (1 : Int32)) h15).bind fun h17 =>
  some (((), h17)))
  else
  some (((), h12))
/-! BrailleDeskModel.takeAlert -/
def fX11_takeAlert_B12 (c0 : Nat) (a : (Int32 × hp)) : Option ((Int32 × hp) ⊕ hp) :=
  (oGI 10 37 (some c0) a.2).bind fun x1 =>
  if x1 ≤ a.1 then
  (some (.inr a.2))
  else
  (oGR 10 36 (some c0) a.2).bind fun x2 =>
  (oGR 10 36 (some c0) a.2).bind fun x3 =>
  (oIL x3 (a.1 + (1 : Int32)) a.2).bind fun x4 =>
  (oIS x2 a.1 x4 a.2).bind fun h5 =>
  (oGR 10 35 (some c0) h5).bind fun x6 =>
  (oGR 10 35 (some c0) h5).bind fun x7 =>
  (oGR 10 36 (some c0) h5).bind fun x8 =>
  (oIL x8 a.1 h5).bind fun x9 =>
  o2 (fX11_copy x6 ((100 : Int32) * (a.1 + (1 : Int32))) x7 ((100 : Int32) * a.1) x9 h5) fun _ h11 =>
  some (.inl (a.1 + (1 : Int32), h11))
def fX11_takeAlert (a0 : Nat) (h : hp) : Option (Unit × hp) :=
  (oGI 10 37 (some a0) h).bind fun x1 =>
  (oPI 10 37 (some a0) (x1 - (1 : Int32)) h).bind fun h2 =>
  Option.bind (α := hp)
  (itr (fX11_takeAlert_B12 a0) FU ((0 : Int32), h2))
  fun q3 =>
  some (((), q3))
/-! BrailleDeskModel.comeAnswer -/
def fX11_comeAnswer (a0 : Nat) (h : hp) : Option (Unit × hp) :=
  (oGI 10 29 (some a0) h).bind fun x1 =>
  if x1 = 0 then
  (some (((), h)))
  else
  (oGI 10 44 (some a0) h).bind fun x2 =>
  (oGI 10 34 (some a0) h).bind fun x3 =>
  Option.bind (α := Int32)
  (if x3 ≤ 0 then
  (some (0 : Int32))
  else
  some (1 : Int32))
  fun q4 =>
  (oPI 10 44 (some a0) (x2 + q4) h).bind fun h6 =>
  (oGI 10 38 (some a0) h6).bind fun x7 =>
  Option.bind (α := hp)
  (if x7 = (1 : Int32) then
  ((oPI 10 38 (some a0) (-1 : Int32) h6).bind fun h10 =>
  (oGI 10 44 (some a0) h10).bind fun x11 =>
  (oPI 10 44 (some a0) (x11 + (1 : Int32)) h10).bind fun h12 =>
  some h12)
  else
  (oGI 10 38 (some a0) h6).bind fun x13 =>
  if x13 = 0 then
  ((oPI 10 38 (some a0) (-1 : Int32) h6).bind fun h14 =>
  (oGI 10 44 (some a0) h14).bind fun x15 =>
  (oPI 10 44 (some a0) (x15 + (1 : Int32)) h14).bind fun h16 =>
  some h16)
  else
  some h6)
  fun q8 =>
  (oGR 10 28 (some a0) q8).bind fun x17 =>
  (oGR 10 33 (some a0) q8).bind fun x18 =>
  (oGI 10 29 (some a0) q8).bind fun x19 =>
  o2 (fX11_copy x17 (0 : Int32) x18 (0 : Int32) x19 q8) fun _ h21 =>
  (oGI 10 29 (some a0) h21).bind fun x22 =>
  (oPI 10 34 (some a0) x22 h21).bind fun h23 =>
  some (((), h23))
/-! BrailleDeskModel.comeAlert -/
def fX11_comeAlert_B84 (c0 : Nat) (h : hp) (a : Int32) : Option (Int32 ⊕ Int32) :=
  (oGR 10 39 (some c0) h).bind fun x1 =>
  (oGI 10 41 (some c0) h).bind fun x2 =>
  (oIL x1 x2 h).bind fun x3 =>
  if x3 = (32 : Int32) then
  (some (.inr a))
  else
  if a ≤ 0 then
  (some (.inr a))
  else
  (oGR 10 39 (some c0) h).bind fun x4 =>
  (oIL x4 (a - (1 : Int32)) h).bind fun x5 =>
  if x5 = (32 : Int32) then
  (some (.inr a))
  else
  some (.inl (a + (-1 : Int32)))
def fX11_comeAlert (a0 : Nat) (h : hp) : Option (Unit × hp) :=
  (oGR 10 28 (some a0) h).bind fun x1 =>
  (oGR 10 35 (some a0) h).bind fun x2 =>
  (oGI 10 37 (some a0) h).bind fun x3 =>
  (oGI 10 29 (some a0) h).bind fun x4 =>
  o2 (fX11_copy x1 (0 : Int32) x2 ((100 : Int32) * x3) x4 h) fun _ h6 =>
  (oGR 10 36 (some a0) h6).bind fun x7 =>
  (oGI 10 37 (some a0) h6).bind fun x8 =>
  (oGI 10 29 (some a0) h6).bind fun x9 =>
  (oIS x7 x8 x9 h6).bind fun h10 =>
  (oGI 10 37 (some a0) h10).bind fun x11 =>
  (oPI 10 37 (some a0) (x11 + (1 : Int32)) h10).bind fun h12 =>
  (oGI 10 38 (some a0) h12).bind fun x13 =>
  if x13 = 0 then
  ((oPI 10 38 (some a0) (-1 : Int32) h12).bind fun h26 =>
  (oGI 10 44 (some a0) h26).bind fun x27 =>
  (oPI 10 44 (some a0) (x27 + (1 : Int32)) h26).bind fun h28 =>
  some (((), h28)))
  else
  (oGI 10 38 (some a0) h12).bind fun x14 =>
  if x14 = (1 : Int32) then
  ((oGI 10 41 (some a0) h12).bind fun x15 =>
  Option.bind (α := Int32)
  (itr (fX11_comeAlert_B84 a0 h12) FU x15)
  fun q16 =>
  (oGI 10 40 (some a0) h12).bind fun x17 =>
  (oPI 10 34 (some a0) (x17 - q16) h12).bind fun h18 =>
  (oGR 10 39 (some a0) h18).bind fun x19 =>
  (oGR 10 33 (some a0) h18).bind fun x20 =>
  (oGI 10 34 (some a0) h18).bind fun x21 =>
  o2 (fX11_copy x19 q16 x20 (0 : Int32) x21 h18) fun _ h23 =>
  (oPI 10 38 (some a0) (-1 : Int32) h23).bind fun h24 =>
  some (((), h24)))
  else
  some (((), h12))
/-! BrailleDeskModel.hush -/
def fX11_hush (a0 : Nat) (h : hp) : Option (Unit × hp) :=
  (oGI 10 44 (some a0) h).bind fun x1 =>
  (oGI 10 32 (some a0) h).bind fun x2 =>
  (oGI 10 34 (some a0) h).bind fun x3 =>
  Option.bind (α := Int32)
  (if x3 ≤ 0 then
  (some (0 : Int32))
  else
  some (1 : Int32))
  fun q4 =>
  (oGI 10 38 (some a0) h).bind fun x6 =>
  Option.bind (α := Int32)
  (if x6 = 0 then
  (some (1 : Int32))
  else
  (oGI 10 38 (some a0) h).bind fun x9 =>
  if x9 = (1 : Int32) then
  (some (1 : Int32))
  else
  some (0 : Int32))
  fun q7 =>
  (oPI 10 44 (some a0) (x1 + ((x2 + q4) + q7)) h).bind fun h10 =>
  (oPI 10 32 (some a0) (0 : Int32) h10).bind fun h11 =>
  (oPI 10 34 (some a0) (0 : Int32) h11).bind fun h12 =>
  (oGI 10 38 (some a0) h12).bind fun x13 =>
  if x13 = (2 : Int32) then
  ((oPI 10 38 (some a0) (2 : Int32) h12).bind fun h15 =>
  some (((), h15)))
  else
  (oPI 10 38 (some a0) (-1 : Int32) h12).bind fun h14 =>
  some (((), h14))
/-! BrailleDeskModel.say -/
def fX11_say (a0 : Nat) (a1 : Int64) (h : hp) : Option (Unit × hp) :=
  (oPI 10 29 (some a0) (0 : Int32) h).bind fun h1 =>
  (oOb 10 (some a0) h1).bind fun b =>
  o2 (fX11_partWord b a1 h1) fun _ h3 =>
  (oOb 10 (some a0) h3).bind fun b =>
  o2 (fX11_comeAnswer b h3) fun _ h5 =>
  some (((), h5))
/-! BrailleDeskModel.canNews -/
def fX11_canNews (a0 : Nat) (a1 : Int32) (h : hp) : Option Int32 :=
  (oGR 10 15 (some a0) h).bind fun x1 =>
  (oIL x1 a1 h).bind fun x2 =>
  if x2 = (-1 : Int32) then
  (some ((1 : Int32)))
  else
  (oGI 10 46 (some a0) h).bind fun x3 =>
  (oGR 10 15 (some a0) h).bind fun x4 =>
  (oIL x4 a1 h).bind fun x5 =>
  if (x3 - x5) < (5 : Int32) then
  (some ((0 : Int32)))
  else
  some ((1 : Int32))
/-! BrailleDeskModel.swallow -/
def fX11_swallow (a0 : Nat) (a1 : Int32) (h : hp) : Option (Unit × hp) :=
  (oGI 10 45 (some a0) h).bind fun x1 =>
  (oGR 10 16 (some a0) h).bind fun x2 =>
  (oIL x2 a1 h).bind fun x3 =>
  Option.bind (α := Int32)
  (if x3 ≤ 0 then
  (some (0 : Int32))
  else
  some (1 : Int32))
  fun q4 =>
  (oPI 10 45 (some a0) (x1 + q4) h).bind fun h6 =>
  (oGR 10 16 (some a0) h6).bind fun x7 =>
  (oIS x7 a1 (0 : Int32) h6).bind fun h8 =>
  some (((), h8))
/-! BrailleDeskModel.tell -/
def fX11_tell (a0 : Nat) (a1 : Int32) (h : hp) : Option (Unit × hp) :=
  if a1 = (-1 : Int32) then
  (some (((), h)))
  else
  (oGI 10 29 (some a0) h).bind fun x1 =>
  if x1 = 0 then
  (some (((), h)))
  else
  (oGR 10 14 (some a0) h).bind fun x2 =>
  (oIL x2 a1 h).bind fun x3 =>
  if x3 = 0 then
  (some (((), h)))
  else
  (oGR 10 14 (some a0) h).bind fun x4 =>
  (oIL x4 a1 h).bind fun x5 =>
  if x5 = (2 : Int32) then
  ((oOb 10 (some a0) h).bind fun b =>
  o2 (fX11_comeAlert b h) fun _ h23 =>
  some (((), h23)))
  else
  (oOb 10 (some a0) h).bind fun b =>
  (fX11_canNews b a1 h).bind fun x6 =>
  if x6 = 0 then
  ((oOb 10 (some a0) h).bind fun b =>
  o2 (fX11_swallow b a1 h) fun _ h8 =>
  (oGR 10 16 (some a0) h8).bind fun x9 =>
  (oGI 10 29 (some a0) h8).bind fun x10 =>
  (oIS x9 a1 x10 h8).bind fun h11 =>
  (oGR 10 28 (some a0) h11).bind fun x12 =>
  (oGR 10 17 (some a0) h11).bind fun x13 =>
  (oGI 10 29 (some a0) h11).bind fun x14 =>
  o2 (fX11_copy x12 (0 : Int32) x13 ((100 : Int32) * a1) x14 h11) fun _ h16 =>
  some (((), h16)))
  else
  (oGR 10 15 (some a0) h).bind fun x17 =>
  (oGI 10 46 (some a0) h).bind fun x18 =>
  (oIS x17 a1 x18 h).bind fun h19 =>
  (oOb 10 (some a0) h19).bind fun b =>
  o2 (fX11_comeNews b h19) fun _ h21 =>
  some (((), h21))
/-! BrailleDeskModel.tellWords -/
def fX11_tellWords (a0 : Nat) (a1 : Int32) (h : hp) : Option (Unit × hp) :=
  (oOb 10 (some a0) h).bind fun b =>
  (fX11_shows b a1 h).bind fun x1 =>
  if x1 = 0 then
  (some (((), h)))
  else
  (oPI 10 29 (some a0) (0 : Int32) h).bind fun h2 =>
  (oOb 10 (some a0) h2).bind fun b =>
  o2 (fX11_partWords b a1 h2) fun _ h4 =>
  (oOb 10 (some a0) h4).bind fun b =>
  (fX11_regionOf b a1 h4).bind fun x5 =>
  (oOb 10 (some a0) h4).bind fun b =>
  o2 (fX11_tell b x5 h4) fun _ h7 =>
  some (((), h7))
/-! BrailleDeskModel.makeGone -/
def fX11_makeGone (a0 : Nat) (a1 : Int32) (h : hp) : Option (Unit × hp) :=
  (oPI 10 29 (some a0) (0 : Int32) h).bind fun h1 =>
  (fX11_word (0 : Int32) (0 : Int32) (0 : Int32) (103 : Int32) (111 : Int32) (110 : Int32) (101 : Int32)).bind fun x2 =>
  (oOb 10 (some a0) h1).bind fun b =>
  o2 (fX11_partWord b x2 h1) fun _ h4 =>
  (oOb 10 (some a0) h4).bind fun b =>
  o2 (fX11_partName b a1 h4) fun _ h6 =>
  (oGR 10 7 (some a0) h6).bind fun x7 =>
  (oIL x7 a1 h6).bind fun x8 =>
  if x8 = 0 then
  ((oGR 10 2 (some a0) h6).bind fun x9 =>
  (oIL x9 a1 h6).bind fun x10 =>
  (fX11_kindWord x10).bind fun x11 =>
  (oOb 10 (some a0) h6).bind fun b =>
  o2 (fX11_partWord b x11 h6) fun _ h13 =>
  some (((), h13)))
  else
  some (((), h6))
/-! BrailleDeskModel.cell -/
def fX11_cell (a0 : Nat) (a1 : Int32) (h : hp) : Option (Unit × hp) :=
  (oGR 10 52 (some a0) h).bind fun x1 =>
  (oGI 10 53 (some a0) h).bind fun x2 =>
  (oIS x1 x2 a1 h).bind fun h3 =>
  (oGI 10 53 (some a0) h3).bind fun x4 =>
  (oPI 10 53 (some a0) (x4 + (1 : Int32)) h3).bind fun h5 =>
  some (((), h5))
/-! BrailleDeskModel.points -/
def fX11_points (a0 : Nat) (a1 : Int32) (h : hp) : Option Int32 :=
  Option.bind (α := Int32)
  (if (10 : Int32) ≤ a1 then
  (if (20 : Int32) ≤ a1 then
  (if (22 : Int32) ≤ a1 then
  ((oGR 10 47 (some a0) h).bind fun x3 =>
  if a1 ≤ (22 : Int32) then
  ((oIL x3 (0 : Int32) h).bind fun x4 =>
  some (x4 + (36 : Int32)))
  else
  (oIL x3 (a1 - (21 : Int32)) h).bind fun x5 =>
  some (x5 + (36 : Int32)))
  else
  (oGR 10 47 (some a0) h).bind fun x6 =>
  (oIL x6 (a1 - (20 : Int32)) h).bind fun x7 =>
  some (x7 + (36 : Int32)))
  else
  (oGR 10 47 (some a0) h).bind fun x8 =>
  (oIL x8 (a1 - (10 : Int32)) h).bind fun x9 =>
  some (x9 + (4 : Int32)))
  else
  (oGR 10 47 (some a0) h).bind fun x10 =>
  (oIL x10 a1 h).bind fun x11 =>
  some x11)
  fun q1 =>
  if a1 = (22 : Int32) then
  (some ((58 : Int32)))
  else
  some (q1)
/-! BrailleDeskModel.isDigit -/
def fX11_isDigit (a0 : Int32) : Option Int32 :=
  (fX11_in a0 (48 : Int32) (57 : Int32)).bind fun x1 =>
  (oBo x1).bind fun _ =>
  some (x1)
/-! BrailleDeskModel.isSmall -/
def fX11_isSmall (a0 : Int32) : Option Int32 :=
  (fX11_in a0 (97 : Int32) (122 : Int32)).bind fun x1 =>
  (oBo x1).bind fun _ =>
  some (x1)
/-! BrailleDeskModel.isGreat -/
def fX11_isGreat (a0 : Int32) : Option Int32 :=
  (fX11_in a0 (65 : Int32) (90 : Int32)).bind fun x1 =>
  (oBo x1).bind fun _ =>
  some (x1)
/-! BrailleDeskModel.sign -/
def fX11_sign (a0 : Int32) : Option Int32 :=
  if a0 = (32 : Int32) then
  (some ((0 : Int32)))
  else
  if a0 = (46 : Int32) then
  (some ((50 : Int32)))
  else
  if a0 = (44 : Int32) then
  (some ((2 : Int32)))
  else
  if a0 = (63 : Int32) then
  (some ((38 : Int32)))
  else
  if a0 = (45 : Int32) then
  (some ((36 : Int32)))
  else
  some ((63 : Int32))
/-! BrailleDeskModel.writeGreat -/
def fX11_writeGreat_B8 (c0 : Nat) (c1 : (Option Nat)) (c2 : Int32) (c3 : Int32) (c4 : Int32) (h : hp) (a : Int32) : Option (Int32 ⊕ Int32) :=
  if a ≤ 0 then
  (some (.inr a))
  else
  (oIL c1 ((c2 + a) - (1 : Int32)) h).bind fun x1 =>
  (fX11_isSmall x1).bind fun x2 =>
  if x2 = 0 then
  ((oIL c1 ((c2 + a) - (1 : Int32)) h).bind fun x3 =>
  (fX11_isGreat x3).bind fun x4 =>
  if x4 = 0 then
  (some (.inr a))
  else
  some (.inl (a + (-1 : Int32))))
  else
  some (.inl (a + (-1 : Int32)))
def fX11_writeGreat_B54 (c0 : Nat) (c1 : (Option Nat)) (c2 : Int32) (c3 : Int32) (c4 : Int32) (c5 : Int32) (h : hp) (a : (Int32 × Int32)) : Option ((Int32 × Int32) ⊕ (Int32 × Int32)) :=
  if c3 ≤ a.1 then
  (some (.inr (a.1, a.2)))
  else
  (oIL c1 (c2 + a.1) h).bind fun x1 =>
  (fX11_isSmall x1).bind fun x2 =>
  Option.bind (α := Unit)
  (if x2 = 0 then
  ((oIL c1 (c2 + a.1) h).bind fun x5 =>
  (fX11_isGreat x5).bind fun x6 =>
  if x6 = 0 then
  (some (.inr (a.1, a.2)))
  else
  some ())
  else
  some ())
  fun q3 =>
  if a.2 = 0 then
  (some (.inl (a.1 + (1 : Int32), (0 : Int32))))
  else
  (oIL c1 (c2 + a.1) h).bind fun x7 =>
  (fX11_isGreat x7).bind fun x8 =>
  if x8 = 0 then
  (some (.inl (a.1 + (1 : Int32), (0 : Int32))))
  else
  some (.inl (a.1 + (1 : Int32), (1 : Int32)))
def fX11_writeGreat (a0 : Nat) (a1 : (Option Nat)) (a2 : Int32) (a3 : Int32) (a4 : Int32) (h : hp) : Option (Unit × hp) :=
  Option.bind (α := Int32)
  (itr (fX11_writeGreat_B8 a0 a1 a2 a3 a4 h) FU a4)
  fun q1 =>
  Option.bind (α := (Int32 × Int32))
  (itr (fX11_writeGreat_B54 a0 a1 a2 a3 a4 q1 h) FU (q1, (1 : Int32)))
  fun q2 =>
  Option.bind (α := Int32)
  (if q2.2 = 0 then
  (some (0 : Int32))
  else
  if (q2.1 - q1) ≤ (1 : Int32) then
  (some (0 : Int32))
  else
  some (1 : Int32))
  fun q3 =>
  Option.bind (α := hp)
  (if q3 = 0 then
  ((oOb 10 (some a0) h).bind fun b =>
  o2 (fX11_cell b (32 : Int32) h) fun _ h8 =>
  some h8)
  else
  if a4 = q1 then
  ((oOb 10 (some a0) h).bind fun b =>
  o2 (fX11_cell b (32 : Int32) h) fun _ h10 =>
  some h10)
  else
  some h)
  fun q5 =>
  Option.bind (α := hp)
  (if q3 = 0 then
  (some q5)
  else
  if a4 = q1 then
  ((oOb 10 (some a0) q5).bind fun b =>
  o2 (fX11_cell b (32 : Int32) q5) fun _ h14 =>
  some h14)
  else
  some q5)
  fun q11 =>
  (oIL a1 (a2 + a4) q11).bind fun x15 =>
  (oOb 10 (some a0) q11).bind fun b =>
  (fX11_points b (x15 - (65 : Int32)) q11).bind fun x16 =>
  (oOb 10 (some a0) q11).bind fun b =>
  o2 (fX11_cell b x16 q11) fun _ h18 =>
  some (((), h18))
/-! BrailleDeskModel.write -/
def fX11_write_B3 (c0 : Nat) (c1 : (Option Nat)) (c2 : Int32) (c3 : Int32) (a : (Int32 × hp)) : Option ((Int32 × hp) ⊕ hp) :=
  if c3 ≤ a.1 then
  (some (.inr a.2))
  else
  (oIL c1 (c2 + a.1) a.2).bind fun x1 =>
  Option.bind (α := Int32)
  (if a.1 ≤ 0 then
  (some (0 : Int32))
  else
  (oIL c1 ((c2 + a.1) - (1 : Int32)) a.2).bind fun x4 =>
  (fX11_isDigit x4).bind fun x5 =>
  if x5 = 0 then
  (some (0 : Int32))
  else
  some (1 : Int32))
  fun q2 =>
  (fX11_isGreat x1).bind fun x6 =>
  if x6 = 0 then
  ((fX11_isSmall x1).bind fun x7 =>
  if x7 = 0 then
  ((fX11_isDigit x1).bind fun x8 =>
  if x8 = 0 then
  ((fX11_sign x1).bind fun x9 =>
  (oOb 10 (some c0) a.2).bind fun b =>
  o2 (fX11_cell b x9 a.2) fun _ h11 =>
  some (.inl (a.1 + (1 : Int32), h11)))
  else
  Option.bind (α := hp)
  (if q2 = 0 then
  ((oOb 10 (some c0) a.2).bind fun b =>
  o2 (fX11_cell b (60 : Int32) a.2) fun _ h15 =>
  some h15)
  else
  some a.2)
  fun q12 =>
  (oGR 10 47 (some c0) q12).bind fun x16 =>
  Option.bind (α := Int32)
  (if x1 = (48 : Int32) then
  (some (9 : Int32))
  else
  some (x1 - (49 : Int32)))
  fun q17 =>
  (oIL x16 q17 q12).bind fun x19 =>
  (oOb 10 (some c0) q12).bind fun b =>
  o2 (fX11_cell b x19 q12) fun _ h21 =>
  some (.inl (a.1 + (1 : Int32), h21)))
  else
  Option.bind (α := hp)
  (if q2 = 0 then
  (some a.2)
  else
  if (106 : Int32) < x1 then
  (some a.2)
  else
  (oOb 10 (some c0) a.2).bind fun b =>
  o2 (fX11_cell b (48 : Int32) a.2) fun _ h25 =>
  some h25)
  fun q22 =>
  (oOb 10 (some c0) q22).bind fun b =>
  (fX11_points b (x1 - (97 : Int32)) q22).bind fun x26 =>
  (oOb 10 (some c0) q22).bind fun b =>
  o2 (fX11_cell b x26 q22) fun _ h28 =>
  some (.inl (a.1 + (1 : Int32), h28)))
  else
  (oOb 10 (some c0) a.2).bind fun b =>
  o2 (fX11_writeGreat b c1 c2 c3 a.1 a.2) fun _ h30 =>
  some (.inl (a.1 + (1 : Int32), h30))
def fX11_write (a0 : Nat) (a1 : (Option Nat)) (a2 : Int32) (a3 : Int32) (h : hp) : Option (Unit × hp) :=
  Option.bind (α := hp)
  (itr (fX11_write_B3 a0 a1 a2 a3) FU ((0 : Int32), h))
  fun q1 =>
  some (((), q1))
/-! BrailleDeskModel.layLine -/
def fX11_layLine (a0 : Nat) (h : hp) : Option (Unit × hp) :=
  (oGR 10 2 (some a0) h).bind fun x1 =>
  (oGI 10 20 (some a0) h).bind fun x2 =>
  (oIL x1 x2 h).bind fun x3 =>
  (oPI 10 53 (some a0) (0 : Int32) h).bind fun h4 =>
  (oGI 10 20 (some a0) h4).bind fun x5 =>
  (oOb 10 (some a0) h4).bind fun b =>
  (fX11_levelOf b x5 h4).bind fun x6 =>
  Option.bind (α := hp)
  (if x6 = 0 then
  (some h4)
  else
  if x3 = (1 : Int32) then
  (some h4)
  else
  (fX11_kindLetter x3).bind fun x9 =>
  (oOb 10 (some a0) h4).bind fun b =>
  (fX11_points b x9 h4).bind fun x10 =>
  (oOb 10 (some a0) h4).bind fun b =>
  o2 (fX11_cell b (x10 + (192 : Int32)) h4) fun _ h12 =>
  some h12)
  fun q7 =>
  (oGR 10 6 (some a0) q7).bind fun x13 =>
  (oGI 10 20 (some a0) q7).bind fun x14 =>
  (oGR 10 7 (some a0) q7).bind fun x15 =>
  (oGI 10 20 (some a0) q7).bind fun x16 =>
  (oIL x15 x16 q7).bind fun x17 =>
  (oOb 10 (some a0) q7).bind fun b =>
  o2 (fX11_write b x13 ((12 : Int32) * x14) x17 q7) fun _ h19 =>
  Option.bind (α := hp)
  (if x3 = (3 : Int32) then
  ((oOb 10 (some a0) h19).bind fun b =>
  o2 (fX11_cell b (0 : Int32) h19) fun _ h23 =>
  (oGR 10 10 (some a0) h23).bind fun x24 =>
  (oGI 10 20 (some a0) h23).bind fun x25 =>
  (oZL x24 x25 h23).bind fun x26 =>
  if x26 = 0 then
  ((oOb 10 (some a0) h23).bind fun b =>
  o2 (fX11_cell b (36 : Int32) h23) fun _ h28 =>
  some h28)
  else
  (oOb 10 (some a0) h23).bind fun b =>
  o2 (fX11_cell b (63 : Int32) h23) fun _ h30 =>
  some h30)
  else
  some h19)
  fun q20 =>
  (oGR 10 9 (some a0) q20).bind fun x31 =>
  (oGI 10 20 (some a0) q20).bind fun x32 =>
  (oIL x31 x32 q20).bind fun x33 =>
  Option.bind (α := hp)
  (if x33 ≤ 0 then
  (some q20)
  else
  (oOb 10 (some a0) q20).bind fun b =>
  o2 (fX11_cell b (0 : Int32) q20) fun _ h37 =>
  (oGR 10 8 (some a0) h37).bind fun x38 =>
  (oGI 10 20 (some a0) h37).bind fun x39 =>
  (oGR 10 9 (some a0) h37).bind fun x40 =>
  (oGI 10 20 (some a0) h37).bind fun x41 =>
  (oIL x40 x41 h37).bind fun x42 =>
  (oOb 10 (some a0) h37).bind fun b =>
  o2 (fX11_write b x38 ((12 : Int32) * x39) x42 h37) fun _ h44 =>
  some h44)
  fun q34 =>
  (oGI 10 22 (some a0) q34).bind fun x45 =>
  if x45 = 0 then
  (some (((), q34)))
  else
  (oOb 10 (some a0) q34).bind fun b =>
  o2 (fX11_cell b (192 : Int32) q34) fun _ h47 =>
  some (((), h47))
/-! BrailleDeskModel.fitOffset -/
def fX11_fitOffset (a0 : Nat) (h : hp) : Option (Unit × hp) :=
  (oOb 10 (some a0) h).bind fun b =>
  o2 (fX11_layLine b h) fun _ h2 =>
  (oGI 10 25 (some a0) h2).bind fun x3 =>
  if x3 ≤ 0 then
  (some (((), h2)))
  else
  (oGI 10 25 (some a0) h2).bind fun x4 =>
  (oGI 10 53 (some a0) h2).bind fun x5 =>
  if x4 < x5 then
  (some (((), h2)))
  else
  (oGI 10 53 (some a0) h2).bind fun x6 =>
  if x6 = 0 then
  ((oPI 10 25 (some a0) (0 : Int32) h2).bind fun h9 =>
  some (((), h9)))
  else
  (oGI 10 53 (some a0) h2).bind fun x7 =>
  (oNz (10 : Int32)).bind fun _ =>
  (oPI 10 25 (some a0) (((x7 - (1 : Int32)) / (10 : Int32)) * (10 : Int32)) h2).bind fun h8 =>
  some (((), h8))
/-! BrailleDeskModel.isCharacter -/
def fX11_isCharacter (a0 : Int32) : Option Int32 :=
  (fX11_in a0 (32 : Int32) (126 : Int32)).bind fun x1 =>
  if x1 = 0 then
  ((fX11_in a0 (119040 : Int32) (119295 : Int32)).bind fun x2 =>
  if x2 = 0 then
  (some ((0 : Int32)))
  else
  some ((1 : Int32)))
  else
  some ((1 : Int32))
/-! BrailleDeskModel.draft -/
def fX11_draft (a0 : Nat) (a1 : Int32) (h : hp) : Option (Int32 × hp) :=
  (fX11_isCharacter a1).bind fun x1 =>
  Option.bind (α := Int32)
  (if x1 = 0 then
  (some (1 : Int32))
  else
  (oGI 10 19 (some a0) h).bind fun x4 =>
  if x4 = (12 : Int32) then
  (some (2 : Int32))
  else
  some (0 : Int32))
  fun q2 =>
  (oPI 10 48 (some a0) q2 h).bind fun h5 =>
  (oGI 10 48 (some a0) h5).bind fun x6 =>
  if x6 ≤ 0 then
  ((oGR 10 18 (some a0) h5).bind fun x7 =>
  (oGI 10 19 (some a0) h5).bind fun x8 =>
  (oIS x7 x8 a1 h5).bind fun h9 =>
  (oGI 10 19 (some a0) h9).bind fun x10 =>
  (oPI 10 19 (some a0) (x10 + (1 : Int32)) h9).bind fun h11 =>
  (oGI 10 19 (some a0) h11).bind fun x12 =>
  some ((x12, h11)))
  else
  some (((0 : Int32), h5))
/-! BrailleDeskModel.canHave -/
def fX11_canHave (a0 : Int32) (a1 : Int32) : Option Int32 :=
  oR (τ := Int32) (σ := Unit)
  (if a0 = 0 then
  (some (.inr ()))
  else
  if a0 = (7 : Int32) then
  (some (.inr ()))
  else
  if a0 = (5 : Int32) then
  (if a1 = (6 : Int32) then
  (some (.inl ((1 : Int32))))
  else
  some (.inl ((0 : Int32))))
  else
  if a0 = (6 : Int32) then
  ((fX11_in a1 (1 : Int32) (4 : Int32)).bind fun x3 =>
  if x3 = 0 then
  (some (.inl ((0 : Int32))))
  else
  some (.inl ((1 : Int32))))
  else
  some (.inl ((0 : Int32))))
  fun q1 =>
  if a1 = (6 : Int32) then
  (some ((0 : Int32)))
  else
  some ((1 : Int32))
/-! BrailleDeskModel.takeDraft -/
def fX11_takeDraft (a0 : Nat) (a1 : Int32) (h : hp) : Option (Unit × hp) :=
  (oGR 10 18 (some a0) h).bind fun x1 =>
  (oGR 10 6 (some a0) h).bind fun x2 =>
  (oGI 10 19 (some a0) h).bind fun x3 =>
  o2 (fX11_copy x1 (0 : Int32) x2 ((12 : Int32) * a1) x3 h) fun _ h5 =>
  (oGR 10 7 (some a0) h5).bind fun x6 =>
  (oGI 10 19 (some a0) h5).bind fun x7 =>
  (oIS x6 a1 x7 h5).bind fun h8 =>
  (oPI 10 19 (some a0) (0 : Int32) h8).bind fun h9 =>
  some (((), h9))
/-! BrailleDeskModel.add -/
def fX11_add_B190 (c0 : Nat) (c1 : Int32) (c2 : Int32) (c4 : Int32) (a : (Int32 × hp)) : Option ((Int32 × hp) ⊕ hp) :=
  if a.1 ≤ c2 then
  (some (.inr a.2))
  else
  (oGR 10 4 (some c0) a.2).bind fun x1 =>
  (oGR 10 4 (some c0) a.2).bind fun x2 =>
  (oIL x2 ((((10 : Int32) * c1) + a.1) - (1 : Int32)) a.2).bind fun x3 =>
  (oIS x1 (((10 : Int32) * c1) + a.1) x3 a.2).bind fun h4 =>
  some (.inl (a.1 + (-1 : Int32), h4))
def fX11_add (a0 : Nat) (a1 : Int32) (a2 : Int32) (a3 : Int32) (h : hp) : Option (Int32 × hp) :=
  (oOb 10 (some a0) h).bind fun b =>
  (fX11_isElement b a1 h).bind fun x1 =>
  Option.bind (α := Int32)
  (if x1 = 0 then
  (some (1 : Int32))
  else
  (oGR 10 5 (some a0) h).bind fun x4 =>
  (oIL x4 a1 h).bind fun x5 =>
  (fX11_in a2 (0 : Int32) x5).bind fun x6 =>
  if x6 = 0 then
  (some (2 : Int32))
  else
  (fX11_in a3 (0 : Int32) (7 : Int32)).bind fun x7 =>
  if x7 = 0 then
  (some (2 : Int32))
  else
  some (0 : Int32))
  fun q2 =>
  (oPI 10 48 (some a0) q2 h).bind fun h8 =>
  (oGI 10 48 (some a0) h8).bind fun x9 =>
  Option.bind (α := hp)
  (if x9 = 0 then
  ((oGI 10 0 (some a0) h8).bind fun x12 =>
  if x12 = (40 : Int32) then
  ((oPI 10 48 (some a0) (3 : Int32) h8).bind fun h13 =>
  some h13)
  else
  (oGR 10 5 (some a0) h8).bind fun x14 =>
  (oIL x14 a1 h8).bind fun x15 =>
  if x15 = (10 : Int32) then
  ((oPI 10 48 (some a0) (3 : Int32) h8).bind fun h16 =>
  some h16)
  else
  (oGR 10 2 (some a0) h8).bind fun x17 =>
  (oIL x17 a1 h8).bind fun x18 =>
  (fX11_canHave x18 a3).bind fun x19 =>
  if x19 = 0 then
  ((oPI 10 48 (some a0) (3 : Int32) h8).bind fun h20 =>
  some h20)
  else
  (oGI 10 37 (some a0) h8).bind fun x21 =>
  if x21 < (20 : Int32) then
  ((oPI 10 48 (some a0) (0 : Int32) h8).bind fun h22 =>
  some h22)
  else
  (oPI 10 48 (some a0) (3 : Int32) h8).bind fun h23 =>
  some h23)
  else
  some h8)
  fun q10 =>
  (oGI 10 48 (some a0) q10).bind fun x24 =>
  if x24 ≤ 0 then
  ((oGI 10 0 (some a0) q10).bind fun x25 =>
  (oGI 10 0 (some a0) q10).bind fun x26 =>
  (oPI 10 0 (some a0) (x26 + (1 : Int32)) q10).bind fun h27 =>
  (oGR 10 1 (some a0) h27).bind fun x28 =>
  (oZS x28 x25 (1 : Int32) h27).bind fun h29 =>
  (oGR 10 2 (some a0) h29).bind fun x30 =>
  (oIS x30 x25 a3 h29).bind fun h31 =>
  (oGR 10 3 (some a0) h31).bind fun x32 =>
  (oIS x32 x25 a1 h31).bind fun h33 =>
  (oGR 10 13 (some a0) h33).bind fun x34 =>
  (oIS x34 x25 (-1 : Int32) h33).bind fun h35 =>
  (oGR 10 14 (some a0) h35).bind fun x36 =>
  (oIS x36 x25 (1 : Int32) h35).bind fun h37 =>
  (oGR 10 15 (some a0) h37).bind fun x38 =>
  (oIS x38 x25 (-1 : Int32) h37).bind fun h39 =>
  (oOb 10 (some a0) h39).bind fun b =>
  o2 (fX11_takeDraft b x25 h39) fun _ h41 =>
  (oGR 10 5 (some a0) h41).bind fun x42 =>
  (oIL x42 a1 h41).bind fun x43 =>
  Option.bind (α := hp)
  (itr (fX11_add_B190 a0 a1 a2 x25) FU (x43, h41))
  fun q44 =>
  (oGR 10 4 (some a0) q44).bind fun x45 =>
  (oIS x45 (((10 : Int32) * a1) + a2) x25 q44).bind fun h46 =>
  (oGR 10 5 (some a0) h46).bind fun x47 =>
  (oIL x47 a1 h46).bind fun x48 =>
  (oIS x47 a1 (x48 + (1 : Int32)) h46).bind fun h49 =>
  (oOb 10 (some a0) h49).bind fun b =>
  o2 (fX11_tellWords b x25 h49) fun _ h51 =>
  (oOb 10 (some a0) h51).bind fun b =>
  o2 (fX11_fitOffset b h51) fun _ h53 =>
  some ((x25, h53)))
  else
  some (((0 : Int32), q10))
/-! BrailleDeskModel.refuge -/
def fX11_refuge_B3 (c0 : Nat) (c1 : Int32) (c3 : Int32) (h : hp) (a : Int32) : Option (Int32 ⊕ (Int32 ⊕ Unit)) :=
  (oGR 10 5 (some c0) h).bind fun x1 =>
  (oIL x1 c1 h).bind fun x2 =>
  if x2 ≤ a then
  (some (.inr (.inr ())))
  else
  (oGR 10 12 (some c0) h).bind fun x3 =>
  (oGR 10 4 (some c0) h).bind fun x4 =>
  (oIL x4 (((10 : Int32) * c1) + a) h).bind fun x5 =>
  (oZL x3 x5 h).bind fun x6 =>
  if x6 = 0 then
  ((oGR 10 4 (some c0) h).bind fun x7 =>
  (oIL x7 (((10 : Int32) * c1) + a) h).bind fun x8 =>
  some (.inr (.inl (x8))))
  else
  some (.inl (a + (1 : Int32)))
def fX11_refuge_B56 (c0 : Nat) (c1 : Int32) (h : hp) (a : Int32) : Option (Int32 ⊕ (Int32 ⊕ Unit)) :=
  if a < 0 then
  (some (.inr (.inr ())))
  else
  (oGR 10 12 (some c0) h).bind fun x1 =>
  (oGR 10 4 (some c0) h).bind fun x2 =>
  (oIL x2 (((10 : Int32) * c1) + a) h).bind fun x3 =>
  (oZL x1 x3 h).bind fun x4 =>
  if x4 = 0 then
  ((oGR 10 4 (some c0) h).bind fun x5 =>
  (oIL x5 (((10 : Int32) * c1) + a) h).bind fun x6 =>
  some (.inr (.inl (x6))))
  else
  some (.inl (a + (-1 : Int32)))
def fX11_refuge (a0 : Nat) (a1 : Int32) (a2 : Int32) (a3 : Int32) (h : hp) : Option Int32 :=
  oR (τ := Int32) (σ := Unit)
  (itr (fX11_refuge_B3 a0 a1 a3 h) FU a2)
  fun q1 =>
  oR (τ := Int32) (σ := Unit)
  (itr (fX11_refuge_B56 a0 a1 h) FU a3)
  fun q2 =>
  some (a1)
/-! BrailleDeskModel.lose -/
def fX11_lose (a0 : Nat) (a1 : Int32) (a2 : Int32) (a3 : Int32) (h : hp) : Option (Unit × hp) :=
  (oGI 10 21 (some a0) h).bind fun x1 =>
  Option.bind (α := hp)
  (if x1 = (-1 : Int32) then
  (some h)
  else
  (oGR 10 1 (some a0) h).bind fun x4 =>
  (oGI 10 21 (some a0) h).bind fun x5 =>
  (oZL x4 x5 h).bind fun x6 =>
  Option.bind (α := Unit)
  (if x6 = 0 then
  (some ())
  else
  (oGI 10 21 (some a0) h).bind fun x9 =>
  (oOb 10 (some a0) h).bind fun b =>
  (fX11_shows b x9 h).bind fun x10 =>
  if x10 = 0 then
  (some ())
  else
  some h)
  fun q7 =>
  (oPI 10 21 (some a0) (-1 : Int32) h).bind fun h11 =>
  (oPZ 10 22 (some a0) (0 : Int32) h11).bind fun h12 =>
  some h12)
  fun q2 =>
  (oGR 10 1 (some a0) q2).bind fun x13 =>
  (oGI 10 20 (some a0) q2).bind fun x14 =>
  (oZL x13 x14 q2).bind fun x15 =>
  if x15 = 0 then
  ((oOb 10 (some a0) q2).bind fun b =>
  (fX11_refuge b a1 a2 a3 q2).bind fun x16 =>
  (oPI 10 20 (some a0) x16 q2).bind fun h17 =>
  (oPI 10 25 (some a0) (0 : Int32) h17).bind fun h18 =>
  (oPI 10 29 (some a0) (0 : Int32) h18).bind fun h19 =>
  (fX11_word (0 : Int32) (0 : Int32) (0 : Int32) (108 : Int32) (111 : Int32) (115 : Int32) (116 : Int32)).bind fun x20 =>
  (oOb 10 (some a0) h19).bind fun b =>
  o2 (fX11_partWord b x20 h19) fun _ h22 =>
  (oGI 10 20 (some a0) h22).bind fun x23 =>
  (oOb 10 (some a0) h22).bind fun b =>
  o2 (fX11_partWords b x23 h22) fun _ h25 =>
  (oOb 10 (some a0) h25).bind fun b =>
  o2 (fX11_comeAlert b h25) fun _ h27 =>
  some (((), h27)))
  else
  (oGI 10 20 (some a0) q2).bind fun x28 =>
  (oOb 10 (some a0) q2).bind fun b =>
  (fX11_shows b x28 q2).bind fun x29 =>
  if x29 = 0 then
  ((oOb 10 (some a0) q2).bind fun b =>
  (fX11_refuge b a1 a2 a3 q2).bind fun x30 =>
  (oPI 10 20 (some a0) x30 q2).bind fun h31 =>
  (oPI 10 25 (some a0) (0 : Int32) h31).bind fun h32 =>
  (oPI 10 29 (some a0) (0 : Int32) h32).bind fun h33 =>
  (fX11_word (0 : Int32) (0 : Int32) (0 : Int32) (108 : Int32) (111 : Int32) (115 : Int32) (116 : Int32)).bind fun x34 =>
  (oOb 10 (some a0) h33).bind fun b =>
  o2 (fX11_partWord b x34 h33) fun _ h36 =>
  (oGI 10 20 (some a0) h36).bind fun x37 =>
  (oOb 10 (some a0) h36).bind fun b =>
  o2 (fX11_partWords b x37 h36) fun _ h39 =>
  (oOb 10 (some a0) h39).bind fun b =>
  o2 (fX11_comeAlert b h39) fun _ h41 =>
  some (((), h41)))
  else
  some (((), q2))
/-! BrailleDeskModel.isBelow -/
def fX11_isBelow_B2 (c0 : Nat) (c2 : Int32) (h : hp) (a : Int32) : Option (Int32 ⊕ Int32) :=
  if a = (-1 : Int32) then
  (some (.inr a))
  else
  if a = c2 then
  (some (.inr a))
  else
  (oGR 10 3 (some c0) h).bind fun x1 =>
  (oIL x1 a h).bind fun x2 =>
  some (.inl x2)
def fX11_isBelow (a0 : Nat) (a1 : Int32) (a2 : Int32) (h : hp) : Option Int32 :=
  Option.bind (α := Int32)
  (itr (fX11_isBelow_B2 a0 a2 h) FU a1)
  fun q1 =>
  if q1 = a2 then
  (some ((1 : Int32)))
  else
  some ((0 : Int32))
/-! BrailleDeskModel.remove -/
def fX11_remove_B86 (c0 : Nat) (c1 : Int32) (c2 : Int32) (c3 : Int32) (c4 : Int32) (a : (Int32 × Int32 × hp)) : Option ((Int32 × Int32 × hp) ⊕ (Int32 × hp)) :=
  (oGI 10 0 (some c0) a.2.2).bind fun x1 =>
  if x1 ≤ a.2.1 then
  (some (.inr (a.1, a.2.2)))
  else
  (oGR 10 1 (some c0) a.2.2).bind fun x2 =>
  (oZL x2 a.2.1 a.2.2).bind fun x3 =>
  if x3 = 0 then
  (some (.inl (a.1, a.2.1 + (1 : Int32), a.2.2)))
  else
  (oOb 10 (some c0) a.2.2).bind fun b =>
  (fX11_isBelow b a.2.1 c1 a.2.2).bind fun x4 =>
  if x4 = 0 then
  (some (.inl (a.1, a.2.1 + (1 : Int32), a.2.2)))
  else
  (oGR 10 1 (some c0) a.2.2).bind fun x5 =>
  (oZS x5 a.2.1 (0 : Int32) a.2.2).bind fun h6 =>
  (oOb 10 (some c0) h6).bind fun b =>
  o2 (fX11_swallow b a.2.1 h6) fun _ h8 =>
  some (.inl (a.1 + (1 : Int32), a.2.1 + (1 : Int32), h8))
def fX11_remove_B151 (c0 : Nat) (c2 : Int32) (c3 : Int32) (c4 : Int32) (c5 : Int32) (a : (Int32 × hp)) : Option ((Int32 × hp) ⊕ hp) :=
  (oGR 10 5 (some c0) a.2).bind fun x1 =>
  (oIL x1 c2 a.2).bind fun x2 =>
  if x2 ≤ a.1 then
  (some (.inr a.2))
  else
  (oGR 10 4 (some c0) a.2).bind fun x3 =>
  (oGR 10 4 (some c0) a.2).bind fun x4 =>
  (oIL x4 ((((10 : Int32) * c2) + a.1) + (1 : Int32)) a.2).bind fun x5 =>
  (oIS x3 (((10 : Int32) * c2) + a.1) x5 a.2).bind fun h6 =>
  some (.inl (a.1 + (1 : Int32), h6))
def fX11_remove (a0 : Nat) (a1 : Int32) (h : hp) : Option (Int32 × hp) :=
  (oOb 10 (some a0) h).bind fun b =>
  (fX11_isElement b a1 h).bind fun x1 =>
  Option.bind (α := Int32)
  (if x1 = 0 then
  (some (1 : Int32))
  else
  if a1 = 0 then
  (some (2 : Int32))
  else
  (oGI 10 37 (some a0) h).bind fun x4 =>
  if x4 < (20 : Int32) then
  (some (0 : Int32))
  else
  some (2 : Int32))
  fun q2 =>
  (oPI 10 48 (some a0) q2 h).bind fun h5 =>
  (oGI 10 48 (some a0) h5).bind fun x6 =>
  if x6 ≤ 0 then
  ((oGR 10 3 (some a0) h5).bind fun x7 =>
  (oIL x7 a1 h5).bind fun x8 =>
  (oOb 10 (some a0) h5).bind fun b =>
  (fX11_placeOf b a1 h5).bind fun x9 =>
  (oOb 10 (some a0) h5).bind fun b =>
  (fX11_shows b a1 h5).bind fun x10 =>
  Option.bind (α := Int32)
  (if x10 = 0 then
  (some (-1 : Int32))
  else
  (oOb 10 (some a0) h5).bind fun b =>
  (fX11_regionOf b a1 h5).bind fun x13 =>
  some x13)
  fun q11 =>
  (oOb 10 (some a0) h5).bind fun b =>
  o2 (fX11_makeGone b a1 h5) fun _ h15 =>
  Option.bind (α := (Int32 × hp))
  (itr (fX11_remove_B86 a0 a1 x8 x9 q11) FU ((0 : Int32), (0 : Int32), h15))
  fun q16 =>
  (oGR 10 5 (some a0) q16.2).bind fun x17 =>
  (oIL x17 x8 q16.2).bind fun x18 =>
  (oIS x17 x8 (x18 - (1 : Int32)) q16.2).bind fun h19 =>
  Option.bind (α := hp)
  (itr (fX11_remove_B151 a0 x8 x9 q11 q16.1) FU (x9, h19))
  fun q20 =>
  (oOb 10 (some a0) q20).bind fun b =>
  o2 (fX11_tell b q11 q20) fun _ h22 =>
  (oOb 10 (some a0) h22).bind fun b =>
  o2 (fX11_lose b x8 x9 (x9 - (1 : Int32)) h22) fun _ h24 =>
  (oOb 10 (some a0) h24).bind fun b =>
  o2 (fX11_fitOffset b h24) fun _ h26 =>
  some ((q16.1, h26)))
  else
  some (((0 : Int32), h5))
/-! BrailleDeskModel.hide -/
def fX11_hide (a0 : Nat) (a1 : Int32) (a2 : Int32) (h : hp) : Option (Int32 × hp) :=
  (oOb 10 (some a0) h).bind fun b =>
  (fX11_isElement b a1 h).bind fun x1 =>
  Option.bind (α := Int32)
  (if x1 = 0 then
  (some (1 : Int32))
  else
  if a1 = 0 then
  (some (2 : Int32))
  else
  (oGI 10 37 (some a0) h).bind fun x4 =>
  if x4 < (20 : Int32) then
  (some (0 : Int32))
  else
  some (2 : Int32))
  fun q2 =>
  (oPI 10 48 (some a0) q2 h).bind fun h5 =>
  (oGI 10 48 (some a0) h5).bind fun x6 =>
  if x6 ≤ 0 then
  ((oGR 10 12 (some a0) h5).bind fun x7 =>
  (oZL x7 a1 h5).bind fun x8 =>
  Option.bind (α := hp)
  (if a2 = 0 then
  (if x8 = 0 then
  (some h5)
  else
  if a2 = 0 then
  ((oGR 10 12 (some a0) h5).bind fun x11 =>
  (oZS x11 a1 (0 : Int32) h5).bind fun h12 =>
  (oOb 10 (some a0) h12).bind fun b =>
  o2 (fX11_tellWords b a1 h12) fun _ h14 =>
  some h14)
  else
  some h5)
  else
  if x8 = 0 then
  ((oOb 10 (some a0) h5).bind fun b =>
  (fX11_shows b a1 h5).bind fun x19 =>
  Option.bind (α := Int32)
  (if x19 = 0 then
  (some (-1 : Int32))
  else
  (oOb 10 (some a0) h5).bind fun b =>
  (fX11_regionOf b a1 h5).bind fun x22 =>
  some x22)
  fun q20 =>
  (oGR 10 12 (some a0) h5).bind fun x23 =>
  (oZS x23 a1 (1 : Int32) h5).bind fun h24 =>
  (oOb 10 (some a0) h24).bind fun b =>
  o2 (fX11_makeGone b a1 h24) fun _ h26 =>
  (oOb 10 (some a0) h26).bind fun b =>
  o2 (fX11_tell b q20 h26) fun _ h28 =>
  (oGR 10 3 (some a0) h28).bind fun x29 =>
  (oIL x29 a1 h28).bind fun x30 =>
  (oOb 10 (some a0) h28).bind fun b =>
  (fX11_placeOf b a1 h28).bind fun x31 =>
  (oOb 10 (some a0) h28).bind fun b =>
  (fX11_placeOf b a1 h28).bind fun x32 =>
  (oOb 10 (some a0) h28).bind fun b =>
  o2 (fX11_lose b x30 (x31 + (1 : Int32)) (x32 - (1 : Int32)) h28) fun _ h34 =>
  some h34)
  else
  if x8 = 0 then
  (some h5)
  else
  if a2 = 0 then
  ((oGR 10 12 (some a0) h5).bind fun x15 =>
  (oZS x15 a1 (0 : Int32) h5).bind fun h16 =>
  (oOb 10 (some a0) h16).bind fun b =>
  o2 (fX11_tellWords b a1 h16) fun _ h18 =>
  some h18)
  else
  some h5)
  fun q9 =>
  (oOb 10 (some a0) q9).bind fun b =>
  o2 (fX11_fitOffset b q9) fun _ h36 =>
  (oBo x8).bind fun _ =>
  some ((x8, h36)))
  else
  some (((0 : Int32), h5))
/-! BrailleDeskModel.rename -/
def fX11_rename_B64 (c0 : Nat) (c1 : Int32) (h : hp) (a : (Int32 × Int32)) : Option ((Int32 × Int32) ⊕ Int32) :=
  (oGI 10 19 (some c0) h).bind fun x1 =>
  if x1 ≤ a.2 then
  (some (.inr a.1))
  else
  if a.1 = 0 then
  (some (.inr a.1))
  else
  (oGR 10 6 (some c0) h).bind fun x2 =>
  (oIL x2 (((12 : Int32) * c1) + a.2) h).bind fun x3 =>
  (oGR 10 18 (some c0) h).bind fun x4 =>
  (oIL x4 a.2 h).bind fun x5 =>
  if x3 = x5 then
  (some (.inl ((1 : Int32), a.2 + (1 : Int32))))
  else
  some (.inl ((0 : Int32), a.2 + (1 : Int32)))
def fX11_rename (a0 : Nat) (a1 : Int32) (h : hp) : Option (Int32 × hp) :=
  (oOb 10 (some a0) h).bind fun b =>
  (fX11_isElement b a1 h).bind fun x1 =>
  Option.bind (α := Int32)
  (if x1 = 0 then
  (some (1 : Int32))
  else
  if a1 = 0 then
  (some (2 : Int32))
  else
  (oGI 10 37 (some a0) h).bind fun x4 =>
  if x4 < (20 : Int32) then
  (some (0 : Int32))
  else
  some (2 : Int32))
  fun q2 =>
  (oPI 10 48 (some a0) q2 h).bind fun h5 =>
  (oGI 10 48 (some a0) h5).bind fun x6 =>
  if x6 ≤ 0 then
  ((oGR 10 7 (some a0) h5).bind fun x7 =>
  (oIL x7 a1 h5).bind fun x8 =>
  (oGI 10 19 (some a0) h5).bind fun x9 =>
  Option.bind (α := Int32)
  (if x8 = x9 then
  (some (1 : Int32))
  else
  some (0 : Int32))
  fun q10 =>
  Option.bind (α := Int32)
  (itr (fX11_rename_B64 a0 a1 h5) FU (q10, (0 : Int32)))
  fun q12 =>
  (oOb 10 (some a0) h5).bind fun b =>
  o2 (fX11_takeDraft b a1 h5) fun _ h14 =>
  Option.bind (α := hp)
  (if q12 = 0 then
  ((oOb 10 (some a0) h14).bind fun b =>
  o2 (fX11_tellWords b a1 h14) fun _ h18 =>
  some h18)
  else
  some h14)
  fun q15 =>
  (oOb 10 (some a0) q15).bind fun b =>
  o2 (fX11_fitOffset b q15) fun _ h20 =>
  (oGR 10 7 (some a0) h20).bind fun x21 =>
  (oIL x21 a1 h20).bind fun x22 =>
  some ((x22, h20)))
  else
  some (((0 : Int32), h5))
/-! BrailleDeskModel.set -/
def fX11_set (a0 : Nat) (a1 : Int32) (a2 : Int32) (h : hp) : Option (Int32 × hp) :=
  (oOb 10 (some a0) h).bind fun b =>
  (fX11_isElement b a1 h).bind fun x1 =>
  Option.bind (α := Int32)
  (if x1 = 0 then
  (some (1 : Int32))
  else
  (oGR 10 2 (some a0) h).bind fun x4 =>
  (oIL x4 a1 h).bind fun x5 =>
  if x5 = (3 : Int32) then
  ((oGI 10 37 (some a0) h).bind fun x6 =>
  if x6 < (20 : Int32) then
  (some (0 : Int32))
  else
  some (2 : Int32))
  else
  some (2 : Int32))
  fun q2 =>
  (oPI 10 48 (some a0) q2 h).bind fun h7 =>
  (oGI 10 48 (some a0) h7).bind fun x8 =>
  if x8 ≤ 0 then
  ((oGR 10 10 (some a0) h7).bind fun x9 =>
  (oZL x9 a1 h7).bind fun x10 =>
  (oGR 10 10 (some a0) h7).bind fun x11 =>
  (oZS x11 a1 a2 h7).bind fun h12 =>
  Option.bind (α := hp)
  (if x10 = a2 then
  (some h12)
  else
  (oOb 10 (some a0) h12).bind fun b =>
  o2 (fX11_tellWords b a1 h12) fun _ h16 =>
  some h16)
  fun q13 =>
  (oOb 10 (some a0) q13).bind fun b =>
  o2 (fX11_fitOffset b q13) fun _ h18 =>
  (oBo x10).bind fun _ =>
  some ((x10, h18)))
  else
  some (((0 : Int32), h7))
/-! BrailleDeskModel.setRule -/
def fX11_setRule (a0 : Nat) (a1 : Int32) (a2 : Int32) (h : hp) : Option (Int32 × hp) :=
  (oOb 10 (some a0) h).bind fun b =>
  (fX11_isElement b a1 h).bind fun x1 =>
  Option.bind (α := Int32)
  (if x1 = 0 then
  (some (1 : Int32))
  else
  (fX11_in a2 (-1 : Int32) (2 : Int32)).bind fun x4 =>
  if x4 = 0 then
  (some (2 : Int32))
  else
  some (0 : Int32))
  fun q2 =>
  (oPI 10 48 (some a0) q2 h).bind fun h5 =>
  (oGI 10 48 (some a0) h5).bind fun x6 =>
  if x6 ≤ 0 then
  ((oGR 10 13 (some a0) h5).bind fun x7 =>
  (oIL x7 a1 h5).bind fun x8 =>
  (oGR 10 13 (some a0) h5).bind fun x9 =>
  (oIS x9 a1 a2 h5).bind fun h10 =>
  (oOb 10 (some a0) h10).bind fun b =>
  o2 (fX11_fitOffset b h10) fun _ h12 =>
  some ((x8, h12)))
  else
  some (((0 : Int32), h5))
/-! BrailleDeskModel.setManner -/
def fX11_setManner (a0 : Nat) (a1 : Int32) (a2 : Int32) (h : hp) : Option (Int32 × hp) :=
  (oOb 10 (some a0) h).bind fun b =>
  (fX11_isElement b a1 h).bind fun x1 =>
  Option.bind (α := Int32)
  (if x1 = 0 then
  (some (1 : Int32))
  else
  (fX11_in a2 (0 : Int32) (2 : Int32)).bind fun x4 =>
  if x4 = 0 then
  (some (2 : Int32))
  else
  (oGR 10 2 (some a0) h).bind fun x5 =>
  (oIL x5 a1 h).bind fun x6 =>
  if x6 = (7 : Int32) then
  (some (0 : Int32))
  else
  some (3 : Int32))
  fun q2 =>
  (oPI 10 48 (some a0) q2 h).bind fun h7 =>
  (oGI 10 48 (some a0) h7).bind fun x8 =>
  if x8 ≤ 0 then
  ((oGR 10 14 (some a0) h7).bind fun x9 =>
  (oIL x9 a1 h7).bind fun x10 =>
  (oGR 10 14 (some a0) h7).bind fun x11 =>
  (oIS x11 a1 a2 h7).bind fun h12 =>
  (oOb 10 (some a0) h12).bind fun b =>
  o2 (fX11_swallow b a1 h12) fun _ h14 =>
  some ((x10, h14)))
  else
  some (((0 : Int32), h7))
/-! BrailleDeskModel.elements -/
def fX11_elements_B9 (c0 : Nat) (h : hp) (a : (Int32 × Int32)) : Option ((Int32 × Int32) ⊕ Int32) :=
  (oGI 10 0 (some c0) h).bind fun x1 =>
  if x1 ≤ a.2 then
  (some (.inr a.1))
  else
  (oGR 10 1 (some c0) h).bind fun x2 =>
  (oZL x2 a.2 h).bind fun x3 =>
  if x3 = 0 then
  (some (.inl (a.1 + (0 : Int32), a.2 + (1 : Int32))))
  else
  some (.inl (a.1 + (1 : Int32), a.2 + (1 : Int32)))
def fX11_elements (a0 : Nat) (h : hp) : Option (Int32 × hp) :=
  (oPI 10 48 (some a0) (0 : Int32) h).bind fun h1 =>
  Option.bind (α := Int32)
  (itr (fX11_elements_B9 a0 h1) FU ((0 : Int32), (0 : Int32)))
  fun q2 =>
  some ((q2, h1))
/-! BrailleDeskModel.kind -/
def fX11_kind (a0 : Nat) (a1 : Int32) (h : hp) : Option (Int32 × hp) :=
  (oOb 10 (some a0) h).bind fun b =>
  o2 (fX11_asksFor b a1 h) fun x1 h2 =>
  if x1 = 0 then
  (some (((0 : Int32), h2)))
  else
  (oGR 10 2 (some a0) h2).bind fun x3 =>
  (oIL x3 a1 h2).bind fun x4 =>
  some ((x4, h2))
/-! BrailleDeskModel.parent -/
def fX11_parent (a0 : Nat) (a1 : Int32) (h : hp) : Option (Int32 × hp) :=
  (oOb 10 (some a0) h).bind fun b =>
  o2 (fX11_asksFor b a1 h) fun x1 h2 =>
  if x1 = 0 then
  (some (((0 : Int32), h2)))
  else
  (oGR 10 3 (some a0) h2).bind fun x3 =>
  (oIL x3 a1 h2).bind fun x4 =>
  some ((x4, h2))
/-! BrailleDeskModel.children -/
def fX11_children (a0 : Nat) (a1 : Int32) (h : hp) : Option (Int32 × hp) :=
  (oOb 10 (some a0) h).bind fun b =>
  o2 (fX11_asksFor b a1 h) fun x1 h2 =>
  if x1 = 0 then
  (some (((0 : Int32), h2)))
  else
  (oGR 10 5 (some a0) h2).bind fun x3 =>
  (oIL x3 a1 h2).bind fun x4 =>
  some ((x4, h2))
/-! BrailleDeskModel.childAt -/
def fX11_childAt (a0 : Nat) (a1 : Int32) (a2 : Int32) (h : hp) : Option (Int32 × hp) :=
  (oOb 10 (some a0) h).bind fun b =>
  (fX11_isElement b a1 h).bind fun x1 =>
  Option.bind (α := Int32)
  (if x1 = 0 then
  (some (1 : Int32))
  else
  (oGR 10 5 (some a0) h).bind fun x4 =>
  (oIL x4 a1 h).bind fun x5 =>
  (fX11_in a2 (0 : Int32) (x5 - (1 : Int32))).bind fun x6 =>
  if x6 = 0 then
  (some (1 : Int32))
  else
  some (0 : Int32))
  fun q2 =>
  (oPI 10 48 (some a0) q2 h).bind fun h7 =>
  (oGI 10 48 (some a0) h7).bind fun x8 =>
  if x8 = 0 then
  ((oGR 10 4 (some a0) h7).bind fun x9 =>
  (oIL x9 (((10 : Int32) * a1) + a2) h7).bind fun x10 =>
  some ((x10, h7)))
  else
  some (((0 : Int32), h7))
/-! BrailleDeskModel.nameLength -/
def fX11_nameLength (a0 : Nat) (a1 : Int32) (h : hp) : Option (Int32 × hp) :=
  (oOb 10 (some a0) h).bind fun b =>
  o2 (fX11_asksFor b a1 h) fun x1 h2 =>
  if x1 = 0 then
  (some (((0 : Int32), h2)))
  else
  (oGR 10 7 (some a0) h2).bind fun x3 =>
  (oIL x3 a1 h2).bind fun x4 =>
  some ((x4, h2))
/-! BrailleDeskModel.nameAt -/
def fX11_nameAt (a0 : Nat) (a1 : Int32) (a2 : Int32) (h : hp) : Option (Int32 × hp) :=
  (oOb 10 (some a0) h).bind fun b =>
  (fX11_isElement b a1 h).bind fun x1 =>
  Option.bind (α := Int32)
  (if x1 = 0 then
  (some (1 : Int32))
  else
  (oGR 10 7 (some a0) h).bind fun x4 =>
  (oIL x4 a1 h).bind fun x5 =>
  (fX11_in a2 (0 : Int32) (x5 - (1 : Int32))).bind fun x6 =>
  if x6 = 0 then
  (some (1 : Int32))
  else
  some (0 : Int32))
  fun q2 =>
  (oPI 10 48 (some a0) q2 h).bind fun h7 =>
  (oGI 10 48 (some a0) h7).bind fun x8 =>
  if x8 = 0 then
  ((oGR 10 6 (some a0) h7).bind fun x9 =>
  (oIL x9 (((12 : Int32) * a1) + a2) h7).bind fun x10 =>
  some ((x10, h7)))
  else
  some (((0 : Int32), h7))
/-! BrailleDeskModel.contentLength -/
def fX11_contentLength (a0 : Nat) (a1 : Int32) (h : hp) : Option (Int32 × hp) :=
  (oOb 10 (some a0) h).bind fun b =>
  o2 (fX11_asksFor b a1 h) fun x1 h2 =>
  if x1 = 0 then
  (some (((0 : Int32), h2)))
  else
  (oGR 10 9 (some a0) h2).bind fun x3 =>
  (oIL x3 a1 h2).bind fun x4 =>
  some ((x4, h2))
/-! BrailleDeskModel.contentAt -/
def fX11_contentAt (a0 : Nat) (a1 : Int32) (a2 : Int32) (h : hp) : Option (Int32 × hp) :=
  (oOb 10 (some a0) h).bind fun b =>
  (fX11_isElement b a1 h).bind fun x1 =>
  Option.bind (α := Int32)
  (if x1 = 0 then
  (some (1 : Int32))
  else
  (oGR 10 9 (some a0) h).bind fun x4 =>
  (oIL x4 a1 h).bind fun x5 =>
  (fX11_in a2 (0 : Int32) (x5 - (1 : Int32))).bind fun x6 =>
  if x6 = 0 then
  (some (1 : Int32))
  else
  some (0 : Int32))
  fun q2 =>
  (oPI 10 48 (some a0) q2 h).bind fun h7 =>
  (oGI 10 48 (some a0) h7).bind fun x8 =>
  if x8 = 0 then
  ((oGR 10 8 (some a0) h7).bind fun x9 =>
  (oIL x9 (((12 : Int32) * a1) + a2) h7).bind fun x10 =>
  some ((x10, h7)))
  else
  some (((0 : Int32), h7))
/-! BrailleDeskModel.isOn -/
def fX11_isOn (a0 : Nat) (a1 : Int32) (h : hp) : Option (Int32 × hp) :=
  (oOb 10 (some a0) h).bind fun b =>
  o2 (fX11_asksFor b a1 h) fun x1 h2 =>
  if x1 = 0 then
  (some (((0 : Int32), h2)))
  else
  (oGR 10 10 (some a0) h2).bind fun x3 =>
  (oZL x3 a1 h2).bind fun x4 =>
  if x4 = 0 then
  (some (((0 : Int32), h2)))
  else
  some (((1 : Int32), h2))
/-! BrailleDeskModel.presses -/
def fX11_presses (a0 : Nat) (a1 : Int32) (h : hp) : Option (Int32 × hp) :=
  (oOb 10 (some a0) h).bind fun b =>
  o2 (fX11_asksFor b a1 h) fun x1 h2 =>
  if x1 = 0 then
  (some (((0 : Int32), h2)))
  else
  (oGR 10 11 (some a0) h2).bind fun x3 =>
  (oIL x3 a1 h2).bind fun x4 =>
  some ((x4, h2))
/-! BrailleDeskModel.isShown -/
def fX11_isShown (a0 : Nat) (a1 : Int32) (h : hp) : Option (Int32 × hp) :=
  (oOb 10 (some a0) h).bind fun b =>
  o2 (fX11_asksFor b a1 h) fun x1 h2 =>
  if x1 = 0 then
  (some (((0 : Int32), h2)))
  else
  (oOb 10 (some a0) h2).bind fun b =>
  (fX11_shows b a1 h2).bind fun x3 =>
  if x3 = 0 then
  (some (((0 : Int32), h2)))
  else
  some (((1 : Int32), h2))
/-! BrailleDeskModel.level -/
def fX11_level (a0 : Nat) (a1 : Int32) (h : hp) : Option (Int32 × hp) :=
  (oOb 10 (some a0) h).bind fun b =>
  o2 (fX11_asksFor b a1 h) fun x1 h2 =>
  if x1 = 0 then
  (some (((0 : Int32), h2)))
  else
  (oOb 10 (some a0) h2).bind fun b =>
  (fX11_levelOf b a1 h2).bind fun x3 =>
  some ((x3, h2))
/-! BrailleDeskModel.reading -/
def fX11_reading (a0 : Nat) (h : hp) : Option (Int32 × hp) :=
  (oPI 10 48 (some a0) (0 : Int32) h).bind fun h1 =>
  (oOb 10 (some a0) h1).bind fun b =>
  o2 (fX11_layOrder b h1) fun _ h3 =>
  (oGI 10 50 (some a0) h3).bind fun x4 =>
  some ((x4, h3))
/-! BrailleDeskModel.readingAt -/
def fX11_readingAt (a0 : Nat) (a1 : Int32) (h : hp) : Option (Int32 × hp) :=
  (oOb 10 (some a0) h).bind fun b =>
  o2 (fX11_layOrder b h) fun _ h2 =>
  (oGI 10 50 (some a0) h2).bind fun x3 =>
  (fX11_in a1 (0 : Int32) (x3 - (1 : Int32))).bind fun x4 =>
  Option.bind (α := Int32)
  (if x4 = 0 then
  (some (1 : Int32))
  else
  some (0 : Int32))
  fun q5 =>
  (oPI 10 48 (some a0) q5 h2).bind fun h7 =>
  (oGI 10 48 (some a0) h7).bind fun x8 =>
  if x8 = 0 then
  ((oGR 10 49 (some a0) h7).bind fun x9 =>
  (oIL x9 a1 h7).bind fun x10 =>
  some ((x10, h7)))
  else
  some (((0 : Int32), h7))
/-! BrailleDeskModel.partHeads -/
def fX11_partHeads (a0 : Nat) (a1 : Int32) (a2 : Int32) (h : hp) : Option (Unit × hp) :=
  (oGR 10 3 (some a0) h).bind fun x1 =>
  (oIL x1 a2 h).bind fun x2 =>
  (oGR 10 3 (some a0) h).bind fun x3 =>
  (oIL x3 a1 h).bind fun x4 =>
  Option.bind (α := Int32)
  (if a1 = a2 then
  (some (0 : Int32))
  else
  if x2 = (-1 : Int32) then
  (some (0 : Int32))
  else
  if x4 = (-1 : Int32) then
  (some (0 : Int32))
  else
  (oGR 10 2 (some a0) h).bind fun x7 =>
  (oIL x7 x2 h).bind fun x8 =>
  if x8 = (6 : Int32) then
  ((oGR 10 2 (some a0) h).bind fun x9 =>
  (oIL x9 x4 h).bind fun x10 =>
  if x10 = (6 : Int32) then
  ((oGR 10 3 (some a0) h).bind fun x11 =>
  (oIL x11 x2 h).bind fun x12 =>
  (oGR 10 3 (some a0) h).bind fun x13 =>
  (oIL x13 x4 h).bind fun x14 =>
  if x12 = x14 then
  (some (1 : Int32))
  else
  some (0 : Int32))
  else
  some (0 : Int32))
  else
  some (0 : Int32))
  fun q5 =>
  if q5 = 0 then
  (some (((), h)))
  else
  (oOb 10 (some a0) h).bind fun b =>
  (fX11_levelOf b a2 h).bind fun x15 =>
  if x15 = 0 then
  (some (((), h)))
  else
  Option.bind (α := hp)
  (if x2 = x4 then
  (some h)
  else
  (oGR 10 4 (some a0) h).bind fun x18 =>
  (oIL x18 ((10 : Int32) * x2) h).bind fun x19 =>
  if x19 = a2 then
  (some h)
  else
  (oGR 10 4 (some a0) h).bind fun x20 =>
  (oIL x20 ((10 : Int32) * x2) h).bind fun x21 =>
  (oOb 10 (some a0) h).bind fun b =>
  o2 (fX11_partName b x21 h) fun _ h23 =>
  some h23)
  fun q16 =>
  (oGR 10 4 (some a0) q16).bind fun x24 =>
  (oGR 10 3 (some a0) q16).bind fun x25 =>
  (oIL x25 x2 q16).bind fun x26 =>
  (oIL x24 ((10 : Int32) * x26) q16).bind fun x27 =>
  (oOb 10 (some a0) q16).bind fun b =>
  (fX11_placeOf b a2 q16).bind fun x28 =>
  (oOb 10 (some a0) q16).bind fun b =>
  (fX11_placeOf b a1 q16).bind fun x29 =>
  if x28 = x29 then
  (some (((), q16)))
  else
  (oGR 10 5 (some a0) q16).bind fun x30 =>
  (oIL x30 x27 q16).bind fun x31 =>
  if x31 ≤ x28 then
  (some (((), q16)))
  else
  (oGR 10 4 (some a0) q16).bind fun x32 =>
  (oIL x32 (((10 : Int32) * x27) + x28) q16).bind fun x33 =>
  if x33 = a2 then
  (some (((), q16)))
  else
  (oGR 10 4 (some a0) q16).bind fun x34 =>
  (oIL x34 (((10 : Int32) * x27) + x28) q16).bind fun x35 =>
  (oOb 10 (some a0) q16).bind fun b =>
  o2 (fX11_partName b x35 q16) fun _ h37 =>
  some (((), h37))
/-! BrailleDeskModel.go -/
def fX11_go (a0 : Nat) (a1 : Int32) (h : hp) : Option (Unit × hp) :=
  (oPZ 10 22 (some a0) (0 : Int32) h).bind fun h1 =>
  (oPI 10 29 (some a0) (0 : Int32) h1).bind fun h2 =>
  (oGI 10 20 (some a0) h2).bind fun x3 =>
  (oOb 10 (some a0) h2).bind fun b =>
  o2 (fX11_partHeads b x3 a1 h2) fun _ h5 =>
  (oGI 10 20 (some a0) h5).bind fun x6 =>
  Option.bind (α := Int32)
  (if a1 = x6 then
  ((oGI 10 25 (some a0) h5).bind fun x9 =>
  some x9)
  else
  some (0 : Int32))
  fun q7 =>
  (oPI 10 25 (some a0) q7 h5).bind fun h10 =>
  (oPI 10 20 (some a0) a1 h10).bind fun h11 =>
  (oOb 10 (some a0) h11).bind fun b =>
  o2 (fX11_partWords b a1 h11) fun _ h13 =>
  (oOb 10 (some a0) h13).bind fun b =>
  o2 (fX11_comeAnswer b h13) fun _ h15 =>
  some (((), h15))
/-! BrailleDeskModel.goOr -/
def fX11_goOr (a0 : Nat) (a1 : Int32) (a2 : Int64) (h : hp) : Option (Unit × hp) :=
  if a1 = (-1 : Int32) then
  ((oOb 10 (some a0) h).bind fun b =>
  o2 (fX11_say b a2 h) fun _ h4 =>
  some (((), h4)))
  else
  (oOb 10 (some a0) h).bind fun b =>
  o2 (fX11_go b a1 h) fun _ h2 =>
  some (((), h2))
/-! BrailleDeskModel.none -/
def fX11_none  : Option Int64 :=
  (fX11_word (0 : Int32) (0 : Int32) (0 : Int32) (110 : Int32) (111 : Int32) (110 : Int32) (101 : Int32)).bind fun x1 =>
  some (x1)
/-! BrailleDeskModel.end -/
def fX11_end  : Option Int64 :=
  (fX11_word (0 : Int32) (0 : Int32) (0 : Int32) (0 : Int32) (101 : Int32) (110 : Int32) (100 : Int32)).bind fun x1 =>
  some (x1)
/-! BrailleDeskModel.step -/
def fX11_step (a0 : Nat) (a1 : Int32) (h : hp) : Option (Unit × hp) :=
  (oOb 10 (some a0) h).bind fun b =>
  o2 (fX11_layCursor b h) fun x1 h2 =>
  (oGI 10 50 (some a0) h2).bind fun x3 =>
  (fX11_in (x1 + a1) (0 : Int32) (x3 - (1 : Int32))).bind fun x4 =>
  Option.bind (α := Int32)
  (if x4 = 0 then
  (some (-1 : Int32))
  else
  (oGR 10 49 (some a0) h2).bind fun x7 =>
  (oIL x7 (x1 + a1) h2).bind fun x8 =>
  some x8)
  fun q5 =>
  (fX11_end).bind fun x9 =>
  (oOb 10 (some a0) h2).bind fun b =>
  o2 (fX11_goOr b q5 x9 h2) fun _ h11 =>
  some (((), h11))
/-! BrailleDeskModel.goIn -/
def fX11_goIn_B14 (c0 : Nat) (h : hp) (a : (Int32 × Int32)) : Option ((Int32 × Int32) ⊕ Int32) :=
  if a.2 < 0 then
  (some (.inr a.1))
  else
  (oGR 10 12 (some c0) h).bind fun x1 =>
  (oGR 10 4 (some c0) h).bind fun x2 =>
  (oGI 10 20 (some c0) h).bind fun x3 =>
  (oIL x2 (((10 : Int32) * x3) + a.2) h).bind fun x4 =>
  (oZL x1 x4 h).bind fun x5 =>
  if x5 = 0 then
  ((oGR 10 4 (some c0) h).bind fun x6 =>
  (oGI 10 20 (some c0) h).bind fun x7 =>
  (oIL x6 (((10 : Int32) * x7) + a.2) h).bind fun x8 =>
  some (.inl (x8, a.2 + (-1 : Int32))))
  else
  some (.inl (a.1, a.2 + (-1 : Int32)))
def fX11_goIn (a0 : Nat) (h : hp) : Option (Unit × hp) :=
  (oGR 10 5 (some a0) h).bind fun x1 =>
  (oGI 10 20 (some a0) h).bind fun x2 =>
  (oIL x1 x2 h).bind fun x3 =>
  Option.bind (α := Int32)
  (itr (fX11_goIn_B14 a0 h) FU ((-1 : Int32), x3 - (1 : Int32)))
  fun q4 =>
  (fX11_none).bind fun x5 =>
  (oOb 10 (some a0) h).bind fun b =>
  o2 (fX11_goOr b q4 x5 h) fun _ h7 =>
  some (((), h7))
/-! BrailleDeskModel.goRows -/
def fX11_goRows_B63 (c0 : Nat) (c1 : Int32) (c3 : Int32) (c4 : Int32) (h : hp) (a : (Int32 × Int32)) : Option ((Int32 × Int32) ⊕ Int32) :=
  (oGR 10 5 (some c0) h).bind fun x1 =>
  (oIL x1 c3 h).bind fun x2 =>
  (fX11_in a.2 (0 : Int32) (x2 - (1 : Int32))).bind fun x3 =>
  if x3 = 0 then
  (some (.inr a.1))
  else
  if a.1 = (-1 : Int32) then
  ((oGR 10 4 (some c0) h).bind fun x4 =>
  (oIL x4 (((10 : Int32) * c3) + a.2) h).bind fun x5 =>
  (oGR 10 12 (some c0) h).bind fun x6 =>
  (oZL x6 x5 h).bind fun x7 =>
  Option.bind (α := Int32)
  (if x7 = 0 then
  ((oGR 10 5 (some c0) h).bind fun x10 =>
  (oIL x10 x5 h).bind fun x11 =>
  if x11 ≤ c4 then
  (some (0 : Int32))
  else
  (oGR 10 12 (some c0) h).bind fun x12 =>
  (oGR 10 4 (some c0) h).bind fun x13 =>
  (oIL x13 (((10 : Int32) * x5) + c4) h).bind fun x14 =>
  (oZL x12 x14 h).bind fun x15 =>
  if x15 = 0 then
  (some (1 : Int32))
  else
  some (0 : Int32))
  else
  some (0 : Int32))
  fun q8 =>
  if q8 = 0 then
  (some (.inl ((-1 : Int32), a.2 + c1)))
  else
  (oGR 10 4 (some c0) h).bind fun x16 =>
  (oIL x16 (((10 : Int32) * x5) + c4) h).bind fun x17 =>
  some (.inl (x17, a.2 + c1)))
  else
  some (.inr a.1)
def fX11_goRows (a0 : Nat) (a1 : Int32) (h : hp) : Option (Unit × hp) :=
  (oGR 10 3 (some a0) h).bind fun x1 =>
  (oGI 10 20 (some a0) h).bind fun x2 =>
  (oIL x1 x2 h).bind fun x3 =>
  oR (τ := (Unit × hp)) (σ := Unit)
  (if x3 = (-1 : Int32) then
  (some (.inr ()))
  else
  (oGR 10 2 (some a0) h).bind fun x6 =>
  (oIL x6 x3 h).bind fun x7 =>
  if x7 = (6 : Int32) then
  ((oGR 10 3 (some a0) h).bind fun x8 =>
  (oIL x8 x3 h).bind fun x9 =>
  (oGI 10 20 (some a0) h).bind fun x10 =>
  (oOb 10 (some a0) h).bind fun b =>
  (fX11_placeOf b x10 h).bind fun x11 =>
  (oOb 10 (some a0) h).bind fun b =>
  (fX11_placeOf b x3 h).bind fun x12 =>
  Option.bind (α := Int32)
  (itr (fX11_goRows_B63 a0 a1 x9 x11 h) FU ((-1 : Int32), x12 + a1))
  fun q13 =>
  (fX11_end).bind fun x14 =>
  (oOb 10 (some a0) h).bind fun b =>
  o2 (fX11_goOr b q13 x14 h) fun _ h16 =>
  some (.inl (((), h16))))
  else
  some (.inr ()))
  fun q4 =>
  (fX11_none).bind fun x18 =>
  (oOb 10 (some a0) h).bind fun b =>
  o2 (fX11_say b x18 h) fun _ h20 =>
  some (((), h20))
/-! BrailleDeskModel.canFocus -/
def fX11_canFocus (a0 : Int32) : Option Int32 :=
  (fX11_in a0 (2 : Int32) (4 : Int32)).bind fun x1 =>
  (oBo x1).bind fun _ =>
  some (x1)
/-! BrailleDeskModel.goTab -/
def fX11_goTab_B9 (c0 : Nat) (c1 : Int32) (h : hp) (a : (Int32 × Int32)) : Option ((Int32 × Int32) ⊕ Int32) :=
  (oGI 10 50 (some c0) h).bind fun x1 =>
  if x1 < a.2 then
  (some (.inr a.1))
  else
  if a.1 = (-1 : Int32) then
  ((oGR 10 49 (some c0) h).bind fun x2 =>
  (oGI 10 50 (some c0) h).bind fun x3 =>
  (oNz x3).bind fun _ =>
  (oIL x2 ((c1 + a.2) - (c1 + a.2) / x3 * x3) h).bind fun x4 =>
  (oGR 10 2 (some c0) h).bind fun x5 =>
  (oIL x5 x4 h).bind fun x6 =>
  (fX11_canFocus x6).bind fun x7 =>
  if x7 = 0 then
  (some (.inl ((-1 : Int32), a.2 + (1 : Int32))))
  else
  some (.inl (x4, a.2 + (1 : Int32))))
  else
  some (.inr a.1)
def fX11_goTab (a0 : Nat) (h : hp) : Option (Unit × hp) :=
  (oOb 10 (some a0) h).bind fun b =>
  o2 (fX11_layCursor b h) fun x1 h2 =>
  Option.bind (α := Int32)
  (itr (fX11_goTab_B9 a0 x1 h2) FU ((-1 : Int32), (1 : Int32)))
  fun q3 =>
  Option.bind (α := Int32)
  (if q3 = (-1 : Int32) then
  ((oGI 10 21 (some a0) h2).bind fun x6 =>
  some x6)
  else
  some q3)
  fun q4 =>
  (oPI 10 21 (some a0) q4 h2).bind fun h7 =>
  (fX11_none).bind fun x8 =>
  (oOb 10 (some a0) h7).bind fun b =>
  o2 (fX11_goOr b q3 x8 h7) fun _ h10 =>
  some (((), h10))
/-! BrailleDeskModel.act -/
def fX11_act (a0 : Nat) (h : hp) : Option (Unit × hp) :=
  (oGR 10 2 (some a0) h).bind fun x1 =>
  (oGI 10 20 (some a0) h).bind fun x2 =>
  (oIL x1 x2 h).bind fun x3 =>
  (fX11_canFocus x3).bind fun x4 =>
  if x4 = 0 then
  ((fX11_none).bind fun x38 =>
  (oOb 10 (some a0) h).bind fun b =>
  o2 (fX11_say b x38 h) fun _ h40 =>
  some (((), h40)))
  else
  (oGI 10 20 (some a0) h).bind fun x5 =>
  (oPI 10 21 (some a0) x5 h).bind fun h6 =>
  (oPI 10 29 (some a0) (0 : Int32) h6).bind fun h7 =>
  Option.bind (α := hp)
  (if x3 = (2 : Int32) then
  ((oGR 10 11 (some a0) h7).bind fun x29 =>
  (oGI 10 20 (some a0) h7).bind fun x30 =>
  (oIL x29 x30 h7).bind fun x31 =>
  (oIS x29 x30 (x31 + (1 : Int32)) h7).bind fun h32 =>
  (fX11_word (112 : Int32) (114 : Int32) (101 : Int32) (115 : Int32) (115 : Int32) (101 : Int32) (100 : Int32)).bind fun x33 =>
  (oOb 10 (some a0) h32).bind fun b =>
  o2 (fX11_partWord b x33 h32) fun _ h35 =>
  some h35)
  else
  if x3 = (3 : Int32) then
  ((oGR 10 10 (some a0) h7).bind fun x16 =>
  (oGI 10 20 (some a0) h7).bind fun x17 =>
  (oGR 10 10 (some a0) h7).bind fun x18 =>
  (oGI 10 20 (some a0) h7).bind fun x19 =>
  (oZL x18 x19 h7).bind fun x20 =>
  Option.bind (α := Int32)
  (if x20 = 0 then
  (some (1 : Int32))
  else
  some (0 : Int32))
  fun q21 =>
  (oZS x16 x17 q21 h7).bind fun h23 =>
  (oGR 10 10 (some a0) h23).bind fun x24 =>
  (oGI 10 20 (some a0) h23).bind fun x25 =>
  (oZL x24 x25 h23).bind fun x26 =>
  (oOb 10 (some a0) h23).bind fun b =>
  o2 (fX11_partOn b x26 h23) fun _ h28 =>
  some h28)
  else
  (oPZ 10 22 (some a0) (1 : Int32) h7).bind fun h10 =>
  (oPZ 10 23 (some a0) (0 : Int32) h10).bind fun h11 =>
  (oPZ 10 24 (some a0) (0 : Int32) h11).bind fun h12 =>
  (fX11_word (0 : Int32) (0 : Int32) (0 : Int32) (116 : Int32) (121 : Int32) (112 : Int32) (101 : Int32)).bind fun x13 =>
  (oOb 10 (some a0) h12).bind fun b =>
  o2 (fX11_partWord b x13 h12) fun _ h15 =>
  some h15)
  fun q8 =>
  (oOb 10 (some a0) q8).bind fun b =>
  o2 (fX11_comeAnswer b q8) fun _ h37 =>
  some (((), h37))
/-! BrailleDeskModel.command -/
def fX11_command (a0 : Nat) (a1 : Int32) (h : hp) : Option (Unit × hp) :=
  if a1 = (1 : Int32) then
  (Option.bind (α := Int32)
  (if a1 = (1 : Int32) then
  (some (-1 : Int32))
  else
  some (1 : Int32))
  fun q1 =>
  (oOb 10 (some a0) h).bind fun b =>
  o2 (fX11_step b q1 h) fun _ h4 =>
  some (((), h4)))
  else
  if a1 = (8 : Int32) then
  (Option.bind (α := Int32)
  (if a1 = (1 : Int32) then
  (some (-1 : Int32))
  else
  some (1 : Int32))
  fun q46 =>
  (oOb 10 (some a0) h).bind fun b =>
  o2 (fX11_step b q46 h) fun _ h49 =>
  some (((), h49)))
  else
  if a1 = (4 : Int32) then
  ((oGR 10 3 (some a0) h).bind fun x40 =>
  (oGI 10 20 (some a0) h).bind fun x41 =>
  (oIL x40 x41 h).bind fun x42 =>
  (fX11_none).bind fun x43 =>
  (oOb 10 (some a0) h).bind fun b =>
  o2 (fX11_goOr b x42 x43 h) fun _ h45 =>
  some (((), h45)))
  else
  if a1 = (32 : Int32) then
  ((oOb 10 (some a0) h).bind fun b =>
  o2 (fX11_goIn b h) fun _ h39 =>
  some (((), h39)))
  else
  if a1 = (2 : Int32) then
  (Option.bind (α := Int32)
  (if a1 = (2 : Int32) then
  (some (-1 : Int32))
  else
  some (1 : Int32))
  fun q5 =>
  (oOb 10 (some a0) h).bind fun b =>
  o2 (fX11_goRows b q5 h) fun _ h8 =>
  some (((), h8)))
  else
  if a1 = (16 : Int32) then
  (Option.bind (α := Int32)
  (if a1 = (2 : Int32) then
  (some (-1 : Int32))
  else
  some (1 : Int32))
  fun q34 =>
  (oOb 10 (some a0) h).bind fun b =>
  o2 (fX11_goRows b q34 h) fun _ h37 =>
  some (((), h37)))
  else
  if a1 = (30 : Int32) then
  ((oOb 10 (some a0) h).bind fun b =>
  o2 (fX11_goTab b h) fun _ h33 =>
  some (((), h33)))
  else
  if a1 = (128 : Int32) then
  ((oOb 10 (some a0) h).bind fun b =>
  o2 (fX11_act b h) fun _ h31 =>
  some (((), h31)))
  else
  if a1 = (64 : Int32) then
  ((oOb 10 (some a0) h).bind fun b =>
  o2 (fX11_hush b h) fun _ h29 =>
  some (((), h29)))
  else
  if a1 = (7 : Int32) then
  ((oGI 10 25 (some a0) h).bind fun x23 =>
  (oGI 10 25 (some a0) h).bind fun x24 =>
  Option.bind (α := Int32)
  (if x24 ≤ 0 then
  (some (0 : Int32))
  else
  some (10 : Int32))
  fun q25 =>
  (oPI 10 25 (some a0) (x23 - q25) h).bind fun h27 =>
  some (((), h27)))
  else
  if a1 = (56 : Int32) then
  ((oOb 10 (some a0) h).bind fun b =>
  o2 (fX11_layLine b h) fun _ h16 =>
  (oGI 10 25 (some a0) h16).bind fun x17 =>
  (oGI 10 25 (some a0) h16).bind fun x18 =>
  (oGI 10 53 (some a0) h16).bind fun x19 =>
  Option.bind (α := Int32)
  (if x19 ≤ (x18 + (10 : Int32)) then
  (some (0 : Int32))
  else
  some (10 : Int32))
  fun q20 =>
  (oPI 10 25 (some a0) (x17 + q20) h16).bind fun h22 =>
  some (((), h22)))
  else
  if a1 = (23 : Int32) then
  ((oPI 10 29 (some a0) (0 : Int32) h).bind fun h9 =>
  (oGI 10 20 (some a0) h9).bind fun x10 =>
  (oOb 10 (some a0) h9).bind fun b =>
  o2 (fX11_partWords b x10 h9) fun _ h12 =>
  (oOb 10 (some a0) h12).bind fun b =>
  o2 (fX11_comeAnswer b h12) fun _ h14 =>
  some (((), h14)))
  else
  some (((), h))
/-! BrailleDeskModel.goLetter -/
def fX11_goLetter_B4 (c0 : Nat) (c1 : Int32) (h : hp) (a : (Int32 × Int32)) : Option ((Int32 × Int32) ⊕ Int32) :=
  if (7 : Int32) < a.2 then
  (some (.inr a.1))
  else
  (fX11_kindLetter a.2).bind fun x1 =>
  if x1 = (-1 : Int32) then
  (some (.inl (a.1, a.2 + (1 : Int32))))
  else
  (fX11_kindLetter a.2).bind fun x2 =>
  (oOb 10 (some c0) h).bind fun b =>
  (fX11_points b x2 h).bind fun x3 =>
  if x3 = c1 then
  (some (.inl (a.2, a.2 + (1 : Int32))))
  else
  some (.inl (a.1, a.2 + (1 : Int32)))
def fX11_goLetter_B58 (c0 : Nat) (c2 : Int32) (h : hp) (a : (Int32 × Int32)) : Option ((Int32 × Int32) ⊕ Int32) :=
  (oGI 10 50 (some c0) h).bind fun x1 =>
  if x1 ≤ a.2 then
  (some (.inr a.1))
  else
  if a.1 = (-1 : Int32) then
  ((oGR 10 2 (some c0) h).bind fun x2 =>
  (oGR 10 49 (some c0) h).bind fun x3 =>
  (oIL x3 a.2 h).bind fun x4 =>
  (oIL x2 x4 h).bind fun x5 =>
  if x5 = c2 then
  ((oGR 10 49 (some c0) h).bind fun x6 =>
  (oIL x6 a.2 h).bind fun x7 =>
  some (.inl (x7, a.2 + (1 : Int32))))
  else
  some (.inl ((-1 : Int32), a.2 + (1 : Int32))))
  else
  some (.inr a.1)
def fX11_goLetter (a0 : Nat) (a1 : Int32) (h : hp) : Option (Unit × hp) :=
  Option.bind (α := Int32)
  (itr (fX11_goLetter_B4 a0 a1 h) FU ((-1 : Int32), (0 : Int32)))
  fun q1 =>
  if q1 = (-1 : Int32) then
  (some (((), h)))
  else
  (oOb 10 (some a0) h).bind fun b =>
  o2 (fX11_layCursor b h) fun x2 h3 =>
  Option.bind (α := Int32)
  (itr (fX11_goLetter_B58 a0 q1 h3) FU ((-1 : Int32), x2 + (1 : Int32)))
  fun q4 =>
  (fX11_none).bind fun x5 =>
  (oOb 10 (some a0) h3).bind fun b =>
  o2 (fX11_goOr b q4 x5 h3) fun _ h7 =>
  some (((), h7))
/-! BrailleDeskModel.sayCode -/
def fX11_sayCode (a0 : Nat) (a1 : Int32) (h : hp) : Option (Unit × hp) :=
  (oPI 10 29 (some a0) (0 : Int32) h).bind fun h1 =>
  Option.bind (α := hp)
  (if a1 = (32 : Int32) then
  ((fX11_word (0 : Int32) (0 : Int32) (115 : Int32) (112 : Int32) (97 : Int32) (99 : Int32) (101 : Int32)).bind fun x6 =>
  (oOb 10 (some a0) h1).bind fun b =>
  o2 (fX11_partWord b x6 h1) fun _ h8 =>
  some h8)
  else
  (oOb 10 (some a0) h1).bind fun b =>
  o2 (fX11_put b a1 h1) fun _ h5 =>
  some h5)
  fun q2 =>
  (oOb 10 (some a0) q2).bind fun b =>
  o2 (fX11_comeAnswer b q2) fun _ h10 =>
  some (((), h10))
/-! BrailleDeskModel.type -/
def fX11_type (a0 : Nat) (a1 : Int32) (h : hp) : Option (Int32 × hp) :=
  (oGR 10 9 (some a0) h).bind fun x1 =>
  (oGI 10 20 (some a0) h).bind fun x2 =>
  (oIL x1 x2 h).bind fun x3 =>
  if x3 = (12 : Int32) then
  ((fX11_word (0 : Int32) (0 : Int32) (0 : Int32) (102 : Int32) (117 : Int32) (108 : Int32) (108 : Int32)).bind fun x16 =>
  (oOb 10 (some a0) h).bind fun b =>
  o2 (fX11_say b x16 h) fun _ h18 =>
  some (((0 : Int32), h18)))
  else
  (oGR 10 8 (some a0) h).bind fun x4 =>
  (oGI 10 20 (some a0) h).bind fun x5 =>
  (oGR 10 9 (some a0) h).bind fun x6 =>
  (oGI 10 20 (some a0) h).bind fun x7 =>
  (oIL x6 x7 h).bind fun x8 =>
  (oIS x4 (((12 : Int32) * x5) + x8) a1 h).bind fun h9 =>
  (oGR 10 9 (some a0) h9).bind fun x10 =>
  (oGI 10 20 (some a0) h9).bind fun x11 =>
  (oIL x10 x11 h9).bind fun x12 =>
  (oIS x10 x11 (x12 + (1 : Int32)) h9).bind fun h13 =>
  (oOb 10 (some a0) h13).bind fun b =>
  o2 (fX11_sayCode b a1 h13) fun _ h15 =>
  some (((1 : Int32), h15))
/-! BrailleDeskModel.letterOf -/
def fX11_letterOf_B4 (c0 : Nat) (c1 : Int32) (h : hp) (a : (Int32 × Int32)) : Option ((Int32 × Int32) ⊕ Int32) :=
  if (26 : Int32) ≤ a.2 then
  (some (.inr a.1))
  else
  (oOb 10 (some c0) h).bind fun b =>
  (fX11_points b a.2 h).bind fun x1 =>
  if x1 = c1 then
  (some (.inl (a.2, a.2 + (1 : Int32))))
  else
  some (.inl (a.1, a.2 + (1 : Int32)))
def fX11_letterOf (a0 : Nat) (a1 : Int32) (h : hp) : Option Int32 :=
  Option.bind (α := Int32)
  (itr (fX11_letterOf_B4 a0 a1 h) FU ((-1 : Int32), (0 : Int32)))
  fun q1 =>
  some (q1)
/-! BrailleDeskModel.typeLetter -/
def fX11_typeLetter (a0 : Nat) (a1 : Int32) (h : hp) : Option (Unit × hp) :=
  (oGI 10 24 (some a0) h).bind fun x1 =>
  if x1 = 0 then
  ((oGI 10 23 (some a0) h).bind fun x2 =>
  Option.bind (α := Int32)
  (if x2 = 0 then
  (some (97 : Int32))
  else
  some (65 : Int32))
  fun q3 =>
  (oOb 10 (some a0) h).bind fun b =>
  o2 (fX11_type b (q3 + a1) h) fun x5 h6 =>
  if x5 = 0 then
  (some (((), h6)))
  else
  (oPZ 10 23 (some a0) (0 : Int32) h6).bind fun h7 =>
  (oPZ 10 24 (some a0) (0 : Int32) h7).bind fun h8 =>
  some (((), h8)))
  else
  (oGI 10 23 (some a0) h).bind fun x9 =>
  if x9 = 0 then
  (if (10 : Int32) ≤ a1 then
  ((oGI 10 23 (some a0) h).bind fun x17 =>
  Option.bind (α := Int32)
  (if x17 = 0 then
  (some (97 : Int32))
  else
  some (65 : Int32))
  fun q18 =>
  (oOb 10 (some a0) h).bind fun b =>
  o2 (fX11_type b (q18 + a1) h) fun x20 h21 =>
  if x20 = 0 then
  (some (((), h21)))
  else
  (oPZ 10 23 (some a0) (0 : Int32) h21).bind fun h22 =>
  (oPZ 10 24 (some a0) (0 : Int32) h22).bind fun h23 =>
  some (((), h23)))
  else
  Option.bind (α := Int32)
  (if a1 = (9 : Int32) then
  (some (48 : Int32))
  else
  some ((49 : Int32) + a1))
  fun q24 =>
  (oOb 10 (some a0) h).bind fun b =>
  o2 (fX11_type b q24 h) fun x26 h27 =>
  some (((), h27)))
  else
  (oGI 10 23 (some a0) h).bind fun x10 =>
  Option.bind (α := Int32)
  (if x10 = 0 then
  (some (97 : Int32))
  else
  some (65 : Int32))
  fun q11 =>
  (oOb 10 (some a0) h).bind fun b =>
  o2 (fX11_type b (q11 + a1) h) fun x13 h14 =>
  if x13 = 0 then
  (some (((), h14)))
  else
  (oPZ 10 23 (some a0) (0 : Int32) h14).bind fun h15 =>
  (oPZ 10 24 (some a0) (0 : Int32) h15).bind fun h16 =>
  some (((), h16))
/-! BrailleDeskModel.takeLast -/
def fX11_takeLast (a0 : Nat) (h : hp) : Option (Unit × hp) :=
  (oGR 10 9 (some a0) h).bind fun x1 =>
  (oGI 10 20 (some a0) h).bind fun x2 =>
  (oIL x1 x2 h).bind fun x3 =>
  if x3 = 0 then
  ((fX11_none).bind fun x16 =>
  (oOb 10 (some a0) h).bind fun b =>
  o2 (fX11_say b x16 h) fun _ h18 =>
  some (((), h18)))
  else
  (oGR 10 9 (some a0) h).bind fun x4 =>
  (oGI 10 20 (some a0) h).bind fun x5 =>
  (oIL x4 x5 h).bind fun x6 =>
  (oIS x4 x5 (x6 - (1 : Int32)) h).bind fun h7 =>
  (oGR 10 8 (some a0) h7).bind fun x8 =>
  (oGI 10 20 (some a0) h7).bind fun x9 =>
  (oGR 10 9 (some a0) h7).bind fun x10 =>
  (oGI 10 20 (some a0) h7).bind fun x11 =>
  (oIL x10 x11 h7).bind fun x12 =>
  (oIL x8 (((12 : Int32) * x9) + x12) h7).bind fun x13 =>
  (oOb 10 (some a0) h7).bind fun b =>
  o2 (fX11_sayCode b x13 h7) fun _ h15 =>
  some (((), h15))
/-! BrailleDeskModel.typeSet -/
def fX11_typeSet (a0 : Nat) (a1 : Int32) (h : hp) : Option (Unit × hp) :=
  (oOb 10 (some a0) h).bind fun b =>
  (fX11_letterOf b a1 h).bind fun x1 =>
  if x1 = (-1 : Int32) then
  (if a1 = (32 : Int32) then
  ((oPZ 10 23 (some a0) (1 : Int32) h).bind fun h39 =>
  some (((), h39)))
  else
  if a1 = (60 : Int32) then
  (Option.bind (α := Int32)
  (if a1 = (60 : Int32) then
  (some (1 : Int32))
  else
  some (0 : Int32))
  fun q2 =>
  (oPZ 10 24 (some a0) q2 h).bind fun h4 =>
  some (((), h4)))
  else
  if a1 = (48 : Int32) then
  (Option.bind (α := Int32)
  (if a1 = (60 : Int32) then
  (some (1 : Int32))
  else
  some (0 : Int32))
  fun q36 =>
  (oPZ 10 24 (some a0) q36 h).bind fun h38 =>
  some (((), h38)))
  else
  if a1 = (50 : Int32) then
  (Option.bind (α := Int32)
  (if a1 = (50 : Int32) then
  (some (46 : Int32))
  else
  if a1 = (2 : Int32) then
  (some (44 : Int32))
  else
  if a1 = (38 : Int32) then
  (some (63 : Int32))
  else
  some (45 : Int32))
  fun q5 =>
  (oOb 10 (some a0) h).bind fun b =>
  o2 (fX11_type b q5 h) fun x7 h8 =>
  some (((), h8)))
  else
  if a1 = (2 : Int32) then
  (Option.bind (α := Int32)
  (if a1 = (50 : Int32) then
  (some (46 : Int32))
  else
  if a1 = (2 : Int32) then
  (some (44 : Int32))
  else
  if a1 = (38 : Int32) then
  (some (63 : Int32))
  else
  some (45 : Int32))
  fun q9 =>
  (oOb 10 (some a0) h).bind fun b =>
  o2 (fX11_type b q9 h) fun x11 h12 =>
  some (((), h12)))
  else
  if a1 = (38 : Int32) then
  (Option.bind (α := Int32)
  (if a1 = (50 : Int32) then
  (some (46 : Int32))
  else
  if a1 = (2 : Int32) then
  (some (44 : Int32))
  else
  if a1 = (38 : Int32) then
  (some (63 : Int32))
  else
  some (45 : Int32))
  fun q13 =>
  (oOb 10 (some a0) h).bind fun b =>
  o2 (fX11_type b q13 h) fun x15 h16 =>
  some (((), h16)))
  else
  if a1 = (36 : Int32) then
  (Option.bind (α := Int32)
  (if a1 = (50 : Int32) then
  (some (46 : Int32))
  else
  if a1 = (2 : Int32) then
  (some (44 : Int32))
  else
  if a1 = (38 : Int32) then
  (some (63 : Int32))
  else
  some (45 : Int32))
  fun q32 =>
  (oOb 10 (some a0) h).bind fun b =>
  o2 (fX11_type b q32 h) fun x34 h35 =>
  some (((), h35)))
  else
  if a1 = (256 : Int32) then
  ((oOb 10 (some a0) h).bind fun b =>
  o2 (fX11_type b (32 : Int32) h) fun x26 h27 =>
  Option.bind (α := Int32)
  (if x26 = 0 then
  ((oGI 10 24 (some a0) h27).bind fun x30 =>
  some x30)
  else
  some (0 : Int32))
  fun q28 =>
  (oPZ 10 24 (some a0) q28 h27).bind fun h31 =>
  some (((), h31)))
  else
  if a1 = (64 : Int32) then
  ((oOb 10 (some a0) h).bind fun b =>
  o2 (fX11_takeLast b h) fun _ h25 =>
  some (((), h25)))
  else
  if a1 = (128 : Int32) then
  ((oPZ 10 22 (some a0) (0 : Int32) h).bind fun h17 =>
  (oPI 10 29 (some a0) (0 : Int32) h17).bind fun h18 =>
  (oGI 10 20 (some a0) h18).bind fun x19 =>
  (oOb 10 (some a0) h18).bind fun b =>
  o2 (fX11_partWords b x19 h18) fun _ h21 =>
  (oOb 10 (some a0) h21).bind fun b =>
  o2 (fX11_comeAnswer b h21) fun _ h23 =>
  some (((), h23)))
  else
  some (((), h)))
  else
  (oOb 10 (some a0) h).bind fun b =>
  o2 (fX11_typeLetter b x1 h) fun _ h41 =>
  some (((), h41))
/-! BrailleDeskModel.doChord -/
def fX11_doChord (a0 : Nat) (a1 : Int32) (h : hp) : Option (Unit × hp) :=
  Option.bind (α := hp)
  (if a1 ≤ (256 : Int32) then
  ((oGI 10 22 (some a0) h).bind fun x3 =>
  if x3 = 0 then
  (if (256 : Int32) ≤ a1 then
  (some h)
  else
  (oOb 10 (some a0) h).bind fun b =>
  o2 (fX11_goLetter b a1 h) fun _ h5 =>
  some h5)
  else
  (oOb 10 (some a0) h).bind fun b =>
  o2 (fX11_typeSet b a1 h) fun _ h7 =>
  some h7)
  else
  (oOb 10 (some a0) h).bind fun b =>
  o2 (fX11_command b (a1 - (256 : Int32)) h) fun _ h9 =>
  some h9)
  fun q1 =>
  (oOb 10 (some a0) q1).bind fun b =>
  o2 (fX11_fitOffset b q1) fun _ h11 =>
  some (((), h11))
/-! BrailleDeskModel.bits -/
def fX11_bits_B4  (a : (Int32 × Int32)) : Option ((Int32 × Int32) ⊕ Int32) :=
  if a.2 ≤ 0 then
  (some (.inr a.1))
  else
  some (.inl (a.1 + (a.2 &&& (1 : Int32)), a.2 >>> ((1 : Int32) &&& 31)))
def fX11_bits (a0 : Int32) : Option Int32 :=
  Option.bind (α := Int32)
  (itr (fX11_bits_B4) FU ((0 : Int32), a0))
  fun q1 =>
  some (q1)
/-! BrailleDeskModel.press -/
def fX11_press (a0 : Nat) (a1 : Int32) (h : hp) : Option (Int32 × hp) :=
  (fX11_in a1 (0 : Int32) (8 : Int32)).bind fun x1 =>
  Option.bind (α := Int32)
  (if x1 = 0 then
  (some (1 : Int32))
  else
  (oGI 10 26 (some a0) h).bind fun x4 =>
  if ((x4 >>> (a1 &&& 31)) &&& (1 : Int32)) = (1 : Int32) then
  (some (2 : Int32))
  else
  some (0 : Int32))
  fun q2 =>
  (oPI 10 48 (some a0) q2 h).bind fun h5 =>
  (oGI 10 48 (some a0) h5).bind fun x6 =>
  if x6 ≤ 0 then
  ((oGI 10 26 (some a0) h5).bind fun x7 =>
  Option.bind (α := Int32)
  (if x7 = 0 then
  (some (0 : Int32))
  else
  (oGI 10 27 (some a0) h5).bind fun x10 =>
  some x10)
  fun q8 =>
  (oPI 10 27 (some a0) q8 h5).bind fun h11 =>
  (oGI 10 27 (some a0) h11).bind fun x12 =>
  (oPI 10 27 (some a0) (x12 ||| ((1 : Int32) <<< (a1 &&& 31))) h11).bind fun h13 =>
  (oGI 10 26 (some a0) h13).bind fun x14 =>
  (oPI 10 26 (some a0) (x14 ||| ((1 : Int32) <<< (a1 &&& 31))) h13).bind fun h15 =>
  (oGI 10 26 (some a0) h15).bind fun x16 =>
  (fX11_bits x16).bind fun x17 =>
  some ((x17, h15)))
  else
  some (((0 : Int32), h5))
/-! BrailleDeskModel.release -/
def fX11_release (a0 : Nat) (a1 : Int32) (h : hp) : Option (Int32 × hp) :=
  (fX11_in a1 (0 : Int32) (8 : Int32)).bind fun x1 =>
  Option.bind (α := Int32)
  (if x1 = 0 then
  (some (1 : Int32))
  else
  (oGI 10 26 (some a0) h).bind fun x4 =>
  if ((x4 >>> (a1 &&& 31)) &&& (1 : Int32)) = 0 then
  (some (2 : Int32))
  else
  some (0 : Int32))
  fun q2 =>
  (oPI 10 48 (some a0) q2 h).bind fun h5 =>
  (oGI 10 48 (some a0) h5).bind fun x6 =>
  if x6 ≤ 0 then
  ((oGI 10 26 (some a0) h5).bind fun x7 =>
  (oPI 10 26 (some a0) (x7 &&& (((1 : Int32) <<< (a1 &&& 31)) ^^^ (-1 : Int32))) h5).bind fun h8 =>
  (oGI 10 26 (some a0) h8).bind fun x9 =>
  Option.bind (α := hp)
  (if x9 = 0 then
  ((oGI 10 27 (some a0) h8).bind fun x12 =>
  (oOb 10 (some a0) h8).bind fun b =>
  o2 (fX11_doChord b x12 h8) fun _ h14 =>
  some h14)
  else
  some h8)
  fun q10 =>
  (oGI 10 26 (some a0) q10).bind fun x15 =>
  (fX11_bits x15).bind fun x16 =>
  some ((x16, q10)))
  else
  some (((0 : Int32), h5))
/-! BrailleDeskModel.chord -/
def fX11_chord (a0 : Nat) (a1 : Int32) (h : hp) : Option (Int32 × hp) :=
  (fX11_in a1 (1 : Int32) (511 : Int32)).bind fun x1 =>
  Option.bind (α := Int32)
  (if x1 = 0 then
  (some (1 : Int32))
  else
  (oGI 10 26 (some a0) h).bind fun x4 =>
  if x4 ≤ 0 then
  (some (0 : Int32))
  else
  some (2 : Int32))
  fun q2 =>
  (oPI 10 48 (some a0) q2 h).bind fun h5 =>
  (oGI 10 48 (some a0) h5).bind fun x6 =>
  if x6 ≤ 0 then
  ((oOb 10 (some a0) h5).bind fun b =>
  o2 (fX11_doChord b a1 h5) fun _ h8 =>
  (oGI 10 20 (some a0) h8).bind fun x9 =>
  some ((x9, h8)))
  else
  some (((0 : Int32), h5))
/-! BrailleDeskModel.cursor -/
def fX11_cursor (a0 : Nat) (h : hp) : Option (Int32 × hp) :=
  (oPI 10 48 (some a0) (0 : Int32) h).bind fun h1 =>
  (oGI 10 20 (some a0) h1).bind fun x2 =>
  some ((x2, h1))
/-! BrailleDeskModel.focus -/
def fX11_focus (a0 : Nat) (h : hp) : Option (Int32 × hp) :=
  (oPI 10 48 (some a0) (0 : Int32) h).bind fun h1 =>
  (oGI 10 21 (some a0) h1).bind fun x2 =>
  some ((x2, h1))
/-! BrailleDeskModel.isTyping -/
def fX11_isTyping (a0 : Nat) (h : hp) : Option (Int32 × hp) :=
  (oPI 10 48 (some a0) (0 : Int32) h).bind fun h1 =>
  (oGI 10 22 (some a0) h1).bind fun x2 =>
  (oBo x2).bind fun _ =>
  some ((x2, h1))
/-! BrailleDeskModel.offset -/
def fX11_offset (a0 : Nat) (h : hp) : Option (Int32 × hp) :=
  (oPI 10 48 (some a0) (0 : Int32) h).bind fun h1 =>
  (oGI 10 25 (some a0) h1).bind fun x2 =>
  some ((x2, h1))
/-! BrailleDeskModel.lineLength -/
def fX11_lineLength (a0 : Nat) (h : hp) : Option (Int32 × hp) :=
  (oPI 10 48 (some a0) (0 : Int32) h).bind fun h1 =>
  (oOb 10 (some a0) h1).bind fun b =>
  o2 (fX11_layLine b h1) fun _ h3 =>
  (oGI 10 53 (some a0) h3).bind fun x4 =>
  some ((x4, h3))
/-! BrailleDeskModel.pin -/
def fX11_pin (a0 : Nat) (a1 : Int32) (h : hp) : Option (Int32 × hp) :=
  (fX11_in a1 (0 : Int32) (9 : Int32)).bind fun x1 =>
  Option.bind (α := Int32)
  (if x1 = 0 then
  (some (1 : Int32))
  else
  some (0 : Int32))
  fun q2 =>
  (oPI 10 48 (some a0) q2 h).bind fun h4 =>
  (oOb 10 (some a0) h4).bind fun b =>
  o2 (fX11_layLine b h4) fun _ h6 =>
  (oGI 10 48 (some a0) h6).bind fun x7 =>
  if x7 = 0 then
  ((oGI 10 25 (some a0) h6).bind fun x8 =>
  (oGI 10 53 (some a0) h6).bind fun x9 =>
  if x9 ≤ (x8 + a1) then
  (some (((0 : Int32), h6)))
  else
  (oGR 10 52 (some a0) h6).bind fun x10 =>
  (oGI 10 25 (some a0) h6).bind fun x11 =>
  (oIL x10 (x11 + a1) h6).bind fun x12 =>
  some ((x12, h6)))
  else
  some (((0 : Int32), h6))
/-! BrailleDeskModel.pinAnew -/
def fX11_pinAnew (a0 : Nat) (a1 : Int32) (h : hp) : Option (Int32 × hp) :=
  (oOb 10 (some a0) h).bind fun b =>
  o2 (fX11_pin b a1 h) fun x1 h2 =>
  some ((x1, h2))
/-! BrailleDeskModel.wordsLength -/
def fX11_wordsLength (a0 : Nat) (a1 : Int32) (h : hp) : Option (Int32 × hp) :=
  (oOb 10 (some a0) h).bind fun b =>
  (fX11_isElement b a1 h).bind fun x1 =>
  Option.bind (α := Int32)
  (if x1 = 0 then
  (some (1 : Int32))
  else
  (oOb 10 (some a0) h).bind fun b =>
  (fX11_shows b a1 h).bind fun x4 =>
  if x4 = 0 then
  (some (2 : Int32))
  else
  some (0 : Int32))
  fun q2 =>
  (oPI 10 48 (some a0) q2 h).bind fun h5 =>
  (oGI 10 48 (some a0) h5).bind fun x6 =>
  if x6 ≤ 0 then
  ((oPI 10 29 (some a0) (0 : Int32) h5).bind fun h7 =>
  (oOb 10 (some a0) h7).bind fun b =>
  o2 (fX11_partWords b a1 h7) fun _ h9 =>
  (oGI 10 29 (some a0) h9).bind fun x10 =>
  some ((x10, h9)))
  else
  some (((0 : Int32), h5))
/-! BrailleDeskModel.wordsAt -/
def fX11_wordsAt (a0 : Nat) (a1 : Int32) (a2 : Int32) (h : hp) : Option (Int32 × hp) :=
  (oOb 10 (some a0) h).bind fun b =>
  (fX11_isElement b a1 h).bind fun x1 =>
  Option.bind (α := Int32)
  (if x1 = 0 then
  (some (2 : Int32))
  else
  (oOb 10 (some a0) h).bind fun b =>
  (fX11_shows b a1 h).bind fun x4 =>
  if x4 = 0 then
  (some (1 : Int32))
  else
  some (0 : Int32))
  fun q2 =>
  (oPI 10 48 (some a0) q2 h).bind fun h5 =>
  (oGI 10 48 (some a0) h5).bind fun x6 =>
  if x6 ≤ 0 then
  ((oPI 10 29 (some a0) (0 : Int32) h5).bind fun h7 =>
  (oOb 10 (some a0) h7).bind fun b =>
  o2 (fX11_partWords b a1 h7) fun _ h9 =>
  (oGI 10 29 (some a0) h9).bind fun x10 =>
  (fX11_in a2 (0 : Int32) (x10 - (1 : Int32))).bind fun x11 =>
  Option.bind (α := Int32)
  (if x11 = 0 then
  (some (2 : Int32))
  else
  some (0 : Int32))
  fun q12 =>
  (oPI 10 48 (some a0) q12 h9).bind fun h14 =>
  (oGI 10 48 (some a0) h14).bind fun x15 =>
  if x15 = 0 then
  ((oGR 10 28 (some a0) h14).bind fun x16 =>
  (oIL x16 a2 h14).bind fun x17 =>
  some ((x17, h14)))
  else
  some (((0 : Int32), h14)))
  else
  some (((0 : Int32), h5))
/-! BrailleDeskModel.beginSpeech -/
def fX11_beginSpeech (a0 : Nat) (h : hp) : Option (Unit × hp) :=
  (oGI 10 37 (some a0) h).bind fun x1 =>
  Option.bind (α := hp)
  (if x1 ≤ 0 then
  ((oGI 10 34 (some a0) h).bind fun x4 =>
  if x4 ≤ 0 then
  ((oGI 10 32 (some a0) h).bind fun x5 =>
  if x5 ≤ 0 then
  (some h)
  else
  (oPI 10 38 (some a0) (0 : Int32) h).bind fun h6 =>
  (oGR 10 31 (some a0) h6).bind fun x7 =>
  (oIL x7 (0 : Int32) h6).bind fun x8 =>
  (oPI 10 40 (some a0) x8 h6).bind fun h9 =>
  (oGR 10 30 (some a0) h9).bind fun x10 =>
  (oGR 10 39 (some a0) h9).bind fun x11 =>
  (oGI 10 40 (some a0) h9).bind fun x12 =>
  o2 (fX11_copy x10 (0 : Int32) x11 (0 : Int32) x12 h9) fun _ h14 =>
  (oOb 10 (some a0) h14).bind fun b =>
  o2 (fX11_takeNews b h14) fun _ h16 =>
  some h16)
  else
  (oPI 10 38 (some a0) (1 : Int32) h).bind fun h17 =>
  (oGI 10 34 (some a0) h17).bind fun x18 =>
  (oPI 10 40 (some a0) x18 h17).bind fun h19 =>
  (oGR 10 33 (some a0) h19).bind fun x20 =>
  (oGR 10 39 (some a0) h19).bind fun x21 =>
  (oGI 10 40 (some a0) h19).bind fun x22 =>
  o2 (fX11_copy x20 (0 : Int32) x21 (0 : Int32) x22 h19) fun _ h24 =>
  (oPI 10 34 (some a0) (0 : Int32) h24).bind fun h25 =>
  some h25)
  else
  (oPI 10 38 (some a0) (2 : Int32) h).bind fun h26 =>
  (oGR 10 36 (some a0) h26).bind fun x27 =>
  (oIL x27 (0 : Int32) h26).bind fun x28 =>
  (oPI 10 40 (some a0) x28 h26).bind fun h29 =>
  (oGR 10 35 (some a0) h29).bind fun x30 =>
  (oGR 10 39 (some a0) h29).bind fun x31 =>
  (oGI 10 40 (some a0) h29).bind fun x32 =>
  o2 (fX11_copy x30 (0 : Int32) x31 (0 : Int32) x32 h29) fun _ h34 =>
  (oOb 10 (some a0) h34).bind fun b =>
  o2 (fX11_takeAlert b h34) fun _ h36 =>
  some h36)
  fun q2 =>
  (oPI 10 41 (some a0) (0 : Int32) q2).bind fun h37 =>
  some (((), h37))
/-! BrailleDeskModel.comeKept -/
def fX11_comeKept_B2 (c0 : Nat) (a : (Int32 × hp)) : Option ((Int32 × hp) ⊕ hp) :=
  (oGI 10 0 (some c0) a.2).bind fun x1 =>
  if x1 ≤ a.1 then
  (some (.inr a.2))
  else
  (oGR 10 16 (some c0) a.2).bind fun x2 =>
  (oIL x2 a.1 a.2).bind fun x3 =>
  if x3 ≤ 0 then
  (some (.inl (a.1 + (1 : Int32), a.2)))
  else
  (oOb 10 (some c0) a.2).bind fun b =>
  (fX11_canNews b a.1 a.2).bind fun x4 =>
  if x4 = 0 then
  (some (.inl (a.1 + (1 : Int32), a.2)))
  else
  (oOb 10 (some c0) a.2).bind fun b =>
  (fX11_shows b a.1 a.2).bind fun x5 =>
  if x5 = 0 then
  ((oOb 10 (some c0) a.2).bind fun b =>
  o2 (fX11_swallow b a.1 a.2) fun _ h7 =>
  some (.inl (a.1 + (1 : Int32), h7)))
  else
  (oGR 10 16 (some c0) a.2).bind fun x8 =>
  (oIL x8 a.1 a.2).bind fun x9 =>
  (oPI 10 29 (some c0) x9 a.2).bind fun h10 =>
  (oGR 10 17 (some c0) h10).bind fun x11 =>
  (oGR 10 28 (some c0) h10).bind fun x12 =>
  (oGI 10 29 (some c0) h10).bind fun x13 =>
  o2 (fX11_copy x11 ((100 : Int32) * a.1) x12 (0 : Int32) x13 h10) fun _ h15 =>
  (oGR 10 16 (some c0) h15).bind fun x16 =>
  (oIS x16 a.1 (0 : Int32) h15).bind fun h17 =>
  (oGR 10 15 (some c0) h17).bind fun x18 =>
  (oGI 10 46 (some c0) h17).bind fun x19 =>
  (oIS x18 a.1 x19 h17).bind fun h20 =>
  (oOb 10 (some c0) h20).bind fun b =>
  o2 (fX11_comeNews b h20) fun _ h22 =>
  some (.inl (a.1 + (1 : Int32), h22))
def fX11_comeKept (a0 : Nat) (h : hp) : Option (Unit × hp) :=
  Option.bind (α := hp)
  (itr (fX11_comeKept_B2 a0) FU ((0 : Int32), h))
  fun q1 =>
  some (((), q1))
/-! BrailleDeskModel.tick -/
def fX11_tick_B23 (c0 : Nat) (c1 : Int32) (a : (Int32 × Int32 × hp)) : Option ((Int32 × Int32 × hp) ⊕ (Int32 × hp)) :=
  if c1 ≤ a.2.1 then
  (some (.inr (a.1, a.2.2)))
  else
  (oGI 10 48 (some c0) a.2.2).bind fun x1 =>
  if x1 = 0 then
  ((oGI 10 46 (some c0) a.2.2).bind fun x2 =>
  (oPI 10 46 (some c0) (x2 + (1 : Int32)) a.2.2).bind fun h3 =>
  (oOb 10 (some c0) h3).bind fun b =>
  o2 (fX11_comeKept b h3) fun _ h5 =>
  (oGI 10 38 (some c0) h5).bind fun x6 =>
  Option.bind (α := hp)
  (if x6 = (-1 : Int32) then
  ((oOb 10 (some c0) h5).bind fun b =>
  o2 (fX11_beginSpeech b h5) fun _ h10 =>
  some h10)
  else
  some h5)
  fun q7 =>
  (oGI 10 38 (some c0) q7).bind fun x11 =>
  if x11 = (-1 : Int32) then
  (some (.inl (a.1, a.2.1 + (1 : Int32), q7)))
  else
  (oGR 10 42 (some c0) q7).bind fun x12 =>
  (oGI 10 43 (some c0) q7).bind fun x13 =>
  (oNz (100 : Int32)).bind fun _ =>
  (oGR 10 39 (some c0) q7).bind fun x14 =>
  (oGI 10 41 (some c0) q7).bind fun x15 =>
  (oIL x14 x15 q7).bind fun x16 =>
  (oIS x12 (x13 - x13 / (100 : Int32) * (100 : Int32)) x16 q7).bind fun h17 =>
  (oGI 10 43 (some c0) h17).bind fun x18 =>
  (oPI 10 43 (some c0) (x18 + (1 : Int32)) h17).bind fun h19 =>
  (oGI 10 41 (some c0) h19).bind fun x20 =>
  (oPI 10 41 (some c0) (x20 + (1 : Int32)) h19).bind fun h21 =>
  (oGI 10 41 (some c0) h21).bind fun x22 =>
  (oGI 10 40 (some c0) h21).bind fun x23 =>
  Option.bind (α := Int32)
  (if x22 = x23 then
  (some (-1 : Int32))
  else
  (oGI 10 38 (some c0) h21).bind fun x26 =>
  some x26)
  fun q24 =>
  (oPI 10 38 (some c0) q24 h21).bind fun h27 =>
  some (.inl (a.1 + (1 : Int32), a.2.1 + (1 : Int32), h27)))
  else
  some (.inr (a.1, a.2.2))
def fX11_tick (a0 : Nat) (a1 : Int32) (h : hp) : Option (Int32 × hp) :=
  (fX11_in a1 (1 : Int32) (50 : Int32)).bind fun x1 =>
  Option.bind (α := Int32)
  (if x1 = 0 then
  (some (1 : Int32))
  else
  some (0 : Int32))
  fun q2 =>
  (oPI 10 48 (some a0) q2 h).bind fun h4 =>
  Option.bind (α := (Int32 × hp))
  (itr (fX11_tick_B23 a0 a1) FU ((0 : Int32), (0 : Int32), h4))
  fun q5 =>
  some ((q5.1, q5.2))
/-! BrailleDeskModel.time -/
def fX11_time (a0 : Nat) (h : hp) : Option (Int32 × hp) :=
  (oPI 10 48 (some a0) (0 : Int32) h).bind fun h1 =>
  (oGI 10 46 (some a0) h1).bind fun x2 =>
  some ((x2, h1))
/-! BrailleDeskModel.speaking -/
def fX11_speaking (a0 : Nat) (h : hp) : Option (Int32 × hp) :=
  (oPI 10 48 (some a0) (0 : Int32) h).bind fun h1 =>
  (oGI 10 38 (some a0) h1).bind fun x2 =>
  some ((x2, h1))
/-! BrailleDeskModel.left -/
def fX11_left (a0 : Nat) (h : hp) : Option (Int32 × hp) :=
  (oPI 10 48 (some a0) (0 : Int32) h).bind fun h1 =>
  (oGI 10 38 (some a0) h1).bind fun x2 =>
  if x2 = (-1 : Int32) then
  (some (((0 : Int32), h1)))
  else
  (oGI 10 40 (some a0) h1).bind fun x3 =>
  (oGI 10 41 (some a0) h1).bind fun x4 =>
  some ((x3 - x4, h1))
/-! BrailleDeskModel.waiting -/
def fX11_waiting (a0 : Nat) (a1 : Int32) (h : hp) : Option (Int32 × hp) :=
  (fX11_in a1 (0 : Int32) (2 : Int32)).bind fun x1 =>
  Option.bind (α := Int32)
  (if x1 = 0 then
  (some (1 : Int32))
  else
  some (0 : Int32))
  fun q2 =>
  (oPI 10 48 (some a0) q2 h).bind fun h4 =>
  (oGI 10 48 (some a0) h4).bind fun x5 =>
  if x5 ≤ 0 then
  (if a1 = 0 then
  ((oGI 10 32 (some a0) h4).bind fun x8 =>
  some ((x8, h4)))
  else
  if a1 = (2 : Int32) then
  ((oGI 10 37 (some a0) h4).bind fun x7 =>
  some ((x7, h4)))
  else
  (oGI 10 34 (some a0) h4).bind fun x6 =>
  if x6 ≤ 0 then
  (some (((0 : Int32), h4)))
  else
  some (((1 : Int32), h4)))
  else
  some (((0 : Int32), h4))
/-! BrailleDeskModel.heard -/
def fX11_heard (a0 : Nat) (h : hp) : Option (Int32 × hp) :=
  (oPI 10 48 (some a0) (0 : Int32) h).bind fun h1 =>
  (oGI 10 43 (some a0) h1).bind fun x2 =>
  some ((x2, h1))
/-! BrailleDeskModel.heardAt -/
def fX11_heardAt (a0 : Nat) (a1 : Int32) (h : hp) : Option (Int32 × hp) :=
  (fX11_in a1 (0 : Int32) (99 : Int32)).bind fun x1 =>
  Option.bind (α := Int32)
  (if x1 = 0 then
  (some (1 : Int32))
  else
  (oGI 10 43 (some a0) h).bind fun x4 =>
  if x4 ≤ a1 then
  (some (1 : Int32))
  else
  some (0 : Int32))
  fun q2 =>
  (oPI 10 48 (some a0) q2 h).bind fun h5 =>
  (oGI 10 48 (some a0) h5).bind fun x6 =>
  if x6 = 0 then
  ((oGR 10 42 (some a0) h5).bind fun x7 =>
  (oGI 10 43 (some a0) h5).bind fun x8 =>
  (oNz (100 : Int32)).bind fun _ =>
  (oIL x7 (((x8 - (1 : Int32)) - a1) - ((x8 - (1 : Int32)) - a1) / (100 : Int32) * (100 : Int32)) h5).bind fun x9 =>
  some ((x9, h5)))
  else
  some (((0 : Int32), h5))
/-! BrailleDeskModel.dropped -/
def fX11_dropped (a0 : Nat) (h : hp) : Option (Int32 × hp) :=
  (oPI 10 48 (some a0) (0 : Int32) h).bind fun h1 =>
  (oGI 10 44 (some a0) h1).bind fun x2 =>
  some ((x2, h1))
/-! BrailleDeskModel.swallowed -/
def fX11_swallowed (a0 : Nat) (h : hp) : Option (Int32 × hp) :=
  (oPI 10 48 (some a0) (0 : Int32) h).bind fun h1 =>
  (oGI 10 45 (some a0) h1).bind fun x2 =>
  some ((x2, h1))

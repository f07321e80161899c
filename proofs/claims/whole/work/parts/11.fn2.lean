/-! ===== methods as functions over the abstract heap ===== -/
/-! BrailleDesk.wordsAt -/
def fX10_wordsAt (a0 : Nat) (a1 : Int32) (a2 : Int32) (h : hp) : Option ((Int32 ⊕ String) × hp) :=
  (oOb 9 (some a0) h).bind fun b =>
  oC (fX10_existing b a1 h) (fun E => (.inr E, h)) fun x1 =>
  (oOb 9 (some a0) h).bind fun b =>
  oX (fX10_wordsOf b x1 h) (fun E hE => (.inr E, hE)) fun x2 h3 =>
  oC (fX10_codeAt x2 a2 h3) (fun E => (.inr E, h3)) fun x4 =>
  some ((.inl x4, h3))
/-! BrailleDesk.tick -/
def fX10_tick_B32 (c0 : Nat) (c1 : Int32) (c2 : Int32) (a : (Int32 × hp)) : Option ((Int32 × hp) ⊕ hp) :=
  if c1 ≤ a.1 then
  (some (.inr a.2))
  else
  (oGR 9 2 (some c0) a.2).bind fun x1 =>
  (oOb 5 x1 a.2).bind fun b =>
  o2 (fX6_passTick b a.2) fun _ h3 =>
  (oGR 9 1 (some c0) h3).bind fun x4 =>
  (oOb 8 x4 h3).bind fun b =>
  o2 (fX9_speak b h3) fun _ h6 =>
  some (.inl (a.1 + (1 : Int32), h6))
def fX10_tick (a0 : Nat) (a1 : Int32) (h : hp) : Option ((Int32 ⊕ String) × hp) :=
  if a1 < (1 : Int32) then
  (some ((.inr "java/lang/IllegalArgumentException", h)))
  else
  if a1 ≤ (50 : Int32) then
  ((oGR 9 1 (some a0) h).bind fun x1 =>
  (oGI 8 9 x1 h).bind fun x2 =>
  Option.bind (α := hp)
  (itr (fX10_tick_B32 a0 a1 x2) FU ((0 : Int32), h))
  fun q3 =>
  (oGR 9 1 (some a0) q3).bind fun x4 =>
  (oGI 8 9 x4 q3).bind fun x5 =>
  some ((.inl (x5 - x2), q3)))
  else
  some ((.inr "java/lang/IllegalArgumentException", h))
/-! BrailleDesk.time -/
def fX10_time (a0 : Nat) (h : hp) : Option Int32 :=
  (oGR 9 2 (some a0) h).bind fun x1 =>
  (oGI 5 3 x1 h).bind fun x2 =>
  some (x2)
/-! BrailleDesk.speaking -/
def fX10_speaking (a0 : Nat) (h : hp) : Option Int32 :=
  (oGR 9 1 (some a0) h).bind fun x1 =>
  (oGI 8 7 x1 h).bind fun x2 =>
  some (x2)
/-! BrailleDesk.left -/
def fX10_left (a0 : Nat) (h : hp) : Option Int32 :=
  (oGR 9 1 (some a0) h).bind fun x1 =>
  (oOb 8 x1 h).bind fun b =>
  (fX9_unspoken b h).bind fun x2 =>
  some (x2)
/-! BrailleDesk.waiting -/
def fX10_waiting (a0 : Nat) (a1 : Int32) (h : hp) : Option (Int32 ⊕ String) :=
  if a1 < 0 then
  (some (.inr "java/lang/IllegalArgumentException"))
  else
  if a1 ≤ (2 : Int32) then
  ((oGR 9 1 (some a0) h).bind fun x1 =>
  (oOb 8 x1 h).bind fun b =>
  (fX9_countWaiting b a1 h).bind fun x2 =>
  some (.inl x2))
  else
  some (.inr "java/lang/IllegalArgumentException")
/-! BrailleDesk.heard -/
def fX10_heard (a0 : Nat) (h : hp) : Option Int32 :=
  (oGR 9 1 (some a0) h).bind fun x1 =>
  (oGI 8 9 x1 h).bind fun x2 =>
  some (x2)
/-! BrailleDesk.heardAt -/
def fX10_heardAt (a0 : Nat) (a1 : Int32) (h : hp) : Option (Int32 ⊕ String) :=
  if a1 < 0 then
  (some (.inr "java/lang/IndexOutOfBoundsException"))
  else
  if (100 : Int32) ≤ a1 then
  (some (.inr "java/lang/IndexOutOfBoundsException"))
  else
  (oGR 9 1 (some a0) h).bind fun x1 =>
  (oGI 8 9 x1 h).bind fun x2 =>
  if a1 < x2 then
  ((oGR 9 1 (some a0) h).bind fun x3 =>
  (oOb 8 x3 h).bind fun b =>
  (fX9_spokenAgo b a1 h).bind fun x4 =>
  some (.inl x4))
  else
  some (.inr "java/lang/IndexOutOfBoundsException")
/-! BrailleDesk.dropped -/
def fX10_dropped (a0 : Nat) (h : hp) : Option Int32 :=
  (oGR 9 1 (some a0) h).bind fun x1 =>
  (oGI 8 10 x1 h).bind fun x2 =>
  some (x2)
/-! BrailleDesk.swallowed -/
def fX10_swallowed (a0 : Nat) (h : hp) : Option Int32 :=
  (oGR 9 2 (some a0) h).bind fun x1 =>
  (oGI 5 4 x1 h).bind fun x2 =>
  some (x2)
/-! BrailleDeskModel.<init> -/
def fX11_init (a0 : Nat) (h : hp) : Option (Unit × hp) :=
  (oPR 10 1 (some a0) (some (hN h)) (wN h (21, 40))).bind fun h1 =>
  (oPR 10 2 (some a0) (some (hN h1)) (wN h1 (20, 40))).bind fun h2 =>
  (oPR 10 3 (some a0) (some (hN h2)) (wN h2 (20, 40))).bind fun h3 =>
  (oPR 10 4 (some a0) (some (hN h3)) (wN h3 (20, 400))).bind fun h4 =>
  (oPR 10 5 (some a0) (some (hN h4)) (wN h4 (20, 40))).bind fun h5 =>
  (oPR 10 6 (some a0) (some (hN h5)) (wN h5 (20, 480))).bind fun h6 =>
  (oPR 10 7 (some a0) (some (hN h6)) (wN h6 (20, 40))).bind fun h7 =>
  (oPR 10 8 (some a0) (some (hN h7)) (wN h7 (20, 480))).bind fun h8 =>
  (oPR 10 9 (some a0) (some (hN h8)) (wN h8 (20, 40))).bind fun h9 =>
  (oPR 10 10 (some a0) (some (hN h9)) (wN h9 (21, 40))).bind fun h10 =>
  (oPR 10 11 (some a0) (some (hN h10)) (wN h10 (20, 40))).bind fun h11 =>
  (oPR 10 12 (some a0) (some (hN h11)) (wN h11 (21, 40))).bind fun h12 =>
  (oPR 10 13 (some a0) (some (hN h12)) (wN h12 (20, 40))).bind fun h13 =>
  (oPR 10 14 (some a0) (some (hN h13)) (wN h13 (20, 40))).bind fun h14 =>
  (oPR 10 15 (some a0) (some (hN h14)) (wN h14 (20, 40))).bind fun h15 =>
  (oPR 10 16 (some a0) (some (hN h15)) (wN h15 (20, 40))).bind fun h16 =>
  (oPR 10 17 (some a0) (some (hN h16)) (wN h16 (20, 4000))).bind fun h17 =>
  (oPR 10 18 (some a0) (some (hN h17)) (wN h17 (20, 12))).bind fun h18 =>
  (oPR 10 28 (some a0) (some (hN h18)) (wN h18 (20, 100))).bind fun h19 =>
  (oPR 10 30 (some a0) (some (hN h19)) (wN h19 (20, 700))).bind fun h20 =>
  (oPR 10 31 (some a0) (some (hN h20)) (wN h20 (20, 7))).bind fun h21 =>
  (oPR 10 33 (some a0) (some (hN h21)) (wN h21 (20, 100))).bind fun h22 =>
  (oPR 10 35 (some a0) (some (hN h22)) (wN h22 (20, 2400))).bind fun h23 =>
  (oPR 10 36 (some a0) (some (hN h23)) (wN h23 (20, 24))).bind fun h24 =>
  (oPR 10 39 (some a0) (some (hN h24)) (wN h24 (20, 100))).bind fun h25 =>
  (oPR 10 42 (some a0) (some (hN h25)) (wN h25 (20, 100))).bind fun h26 =>
  (oPR 10 47 (some a0) (some (hN h26)) (wN h26 (20, 10))).bind fun h27 =>
  (oPR 10 49 (some a0) (some (hN h27)) (wN h27 (20, 40))).bind fun h28 =>
  (oPR 10 51 (some a0) (some (hN h28)) (wN h28 (20, 40))).bind fun h29 =>
  (oPR 10 52 (some a0) (some (hN h29)) (wN h29 (20, 100))).bind fun h30 =>
  (oPI 10 0 (some a0) (1 : Int32) h30).bind fun h31 =>
  (oGR 10 1 (some a0) h31).bind fun x32 =>
  (oZS x32 (0 : Int32) (1 : Int32) h31).bind fun h33 =>
  (oGR 10 3 (some a0) h33).bind fun x34 =>
  (oIS x34 (0 : Int32) (-1 : Int32) h33).bind fun h35 =>
  (oGR 10 13 (some a0) h35).bind fun x36 =>
  (oIS x36 (0 : Int32) (-1 : Int32) h35).bind fun h37 =>
  (oPI 10 21 (some a0) (-1 : Int32) h37).bind fun h38 =>
  (oPI 10 38 (some a0) (-1 : Int32) h38).bind fun h39 =>
  (oGR 10 47 (some a0) h39).bind fun x40 =>
  (oIS x40 (0 : Int32) (1 : Int32) h39).bind fun h41 =>
  (oGR 10 47 (some a0) h41).bind fun x42 =>
  (oIS x42 (1 : Int32) (3 : Int32) h41).bind fun h43 =>
  (oGR 10 47 (some a0) h43).bind fun x44 =>
  (oIS x44 (2 : Int32) (9 : Int32) h43).bind fun h45 =>
  (oGR 10 47 (some a0) h45).bind fun x46 =>
  (oIS x46 (3 : Int32) (25 : Int32) h45).bind fun h47 =>
  (oGR 10 47 (some a0) h47).bind fun x48 =>
  (oIS x48 (4 : Int32) (17 : Int32) h47).bind fun h49 =>
  (oGR 10 47 (some a0) h49).bind fun x50 =>
  (oIS x50 (5 : Int32) (11 : Int32) h49).bind fun h51 =>
  (oGR 10 47 (some a0) h51).bind fun x52 =>
  (oIS x52 (6 : Int32) (27 : Int32) h51).bind fun h53 =>
  (oGR 10 47 (some a0) h53).bind fun x54 =>
  (oIS x54 (7 : Int32) (19 : Int32) h53).bind fun h55 =>
  (oGR 10 47 (some a0) h55).bind fun x56 =>
  (oIS x56 (8 : Int32) (10 : Int32) h55).bind fun h57 =>
  (oGR 10 47 (some a0) h57).bind fun x58 =>
  (oIS x58 (9 : Int32) (26 : Int32) h57).bind fun h59 =>
  some (((), h59))
/-! BrailleDeskModel.thrown -/
def fX11_thrown (m : mm) : Option Int32 :=
  some (m 48 0)
/-! BrailleDeskModel.in -/
def fX11_in (a0 : Int32) (a1 : Int32) (a2 : Int32) : Option Int32 :=
  if a0 < a1 then
  (some ((0 : Int32)))
  else
  if a2 < a0 then
  (some ((0 : Int32)))
  else
  some ((1 : Int32))
/-! BrailleDeskModel.isElement -/
def fX11_isElement (a1 : Int32) (m : mm) : Option Int32 :=
  (fX11_in a1 (0 : Int32) ((m 0 0) - (1 : Int32))).bind fun x1 =>
  if x1 = 0 then
  (some ((0 : Int32)))
  else
  (mLZ 1 a1 m).bind fun x2 =>
  if x2 = 0 then
  (some ((0 : Int32)))
  else
  some ((1 : Int32))
/-! BrailleDeskModel.asksFor -/
def fX11_asksFor (a1 : Int32) (m : mm) : Option (Int32 × mm) :=
  (fX11_isElement a1 m).bind fun x1 =>
  Option.bind (α := Int32)
  (if x1 = 0 then
  (some (1 : Int32))
  else
  some (0 : Int32))
  fun q2 =>
  (mPI 48 q2 m).bind fun m4 =>
  if (m4 48 0) = 0 then
  (some (((1 : Int32), m4)))
  else
  some (((0 : Int32), m4))
/-! BrailleDeskModel.shows -/
def fX11_shows_B4 (m : mm) (a : (Int32 × Int32)) : Option ((Int32 × Int32) ⊕ Int32) :=
  if a.2 = (-1 : Int32) then
  (some (.inr a.1))
  else
  Option.bind (α := Int32)
  (if a.1 = 0 then
  (some (0 : Int32))
  else
  (mLZ 12 a.2 m).bind fun x3 =>
  if x3 = 0 then
  (some (1 : Int32))
  else
  some (0 : Int32))
  fun q1 =>
  (mL 3 a.2 m).bind fun x4 =>
  some (.inl (q1, x4))
def fX11_shows (a1 : Int32) (m : mm) : Option Int32 :=
  Option.bind (α := Int32)
  (itr (fX11_shows_B4 m) FU ((1 : Int32), a1))
  fun q1 =>
  (oBo q1).bind fun _ =>
  some (q1)
/-! BrailleDeskModel.levelOf -/
def fX11_levelOf_B2 (m : mm) (a : Int32) : Option (Int32 ⊕ Int32) :=
  if a = (-1 : Int32) then
  (some (.inr a))
  else
  (mL 13 a m).bind fun x1 =>
  if x1 = (-1 : Int32) then
  ((mL 3 a m).bind fun x2 =>
  some (.inl x2))
  else
  some (.inr a)
def fX11_levelOf (a1 : Int32) (m : mm) : Option Int32 :=
  Option.bind (α := Int32)
  (itr (fX11_levelOf_B2 m) FU a1)
  fun q1 =>
  if q1 = (-1 : Int32) then
  (some ((1 : Int32)))
  else
  (mL 13 q1 m).bind fun x2 =>
  some (x2)
/-! BrailleDeskModel.regionOf -/
def fX11_regionOf_B7 (m : mm) (a : Int32) : Option (Int32 ⊕ Int32) :=
  if a = (-1 : Int32) then
  (some (.inr a))
  else
  (mL 2 a m).bind fun x1 =>
  if x1 = (7 : Int32) then
  (some (.inr a))
  else
  (mL 3 a m).bind fun x2 =>
  some (.inl x2)
def fX11_regionOf (a1 : Int32) (m : mm) : Option Int32 :=
  (mL 3 a1 m).bind fun x1 =>
  Option.bind (α := Int32)
  (itr (fX11_regionOf_B7 m) FU x1)
  fun q2 =>
  some (q2)
/-! BrailleDeskModel.placeOf -/
def fX11_placeOf_B2 (c1 : Int32) (m : mm) (a : Int32) : Option (Int32 ⊕ Int32) :=
  (mL 3 c1 m).bind fun x1 =>
  (mL 4 (((10 : Int32) * x1) + a) m).bind fun x2 =>
  if x2 = c1 then
  (some (.inr a))
  else
  some (.inl (a + (1 : Int32)))
def fX11_placeOf (a1 : Int32) (m : mm) : Option Int32 :=
  Option.bind (α := Int32)
  (itr (fX11_placeOf_B2 a1 m) FU (0 : Int32))
  fun q1 =>
  some (q1)
/-! BrailleDeskModel.layOrder -/
def fX11_layOrder_B66 (c2 : Int32) (a : (Int32 × Int32 × mm)) : Option ((Int32 × Int32 × mm) ⊕ (Int32 × mm)) :=
  if a.2.1 < 0 then
  (some (.inr (a.1, a.2.2)))
  else
  (mL 4 (((10 : Int32) * c2) + a.2.1) a.2.2).bind fun x1 =>
  (mS 51 a.1 x1 a.2.2).bind fun m2 =>
  some (.inl (a.1 + (1 : Int32), a.2.1 + (-1 : Int32), m2))
def fX11_layOrder_B14  (a : (Int32 × mm)) : Option ((Int32 × mm) ⊕ mm) :=
  if a.1 ≤ 0 then
  (some (.inr a.2))
  else
  (mL 51 (a.1 + (-1 : Int32)) a.2).bind fun x1 =>
  (mLZ 12 x1 a.2).bind fun x2 =>
  if x2 = 0 then
  ((mS 49 (a.2 50 0) x1 a.2).bind fun m3 =>
  (mPI 50 ((m3 50 0) + (1 : Int32)) m3).bind fun m4 =>
  (mL 5 x1 m4).bind fun x5 =>
  Option.bind (α := (Int32 × mm))
  (itr (fX11_layOrder_B66 x1) FU (a.1 + (-1 : Int32), x5 - (1 : Int32), m4))
  fun q6 =>
  some (.inl (q6.1, q6.2)))
  else
  some (.inl (a.1 + (-1 : Int32), a.2))
def fX11_layOrder (m : mm) : Option (Unit × mm) :=
  (mS 51 (0 : Int32) (0 : Int32) m).bind fun m1 =>
  (mPI 50 (0 : Int32) m1).bind fun m2 =>
  Option.bind (α := mm)
  (itr (fX11_layOrder_B14) FU ((1 : Int32), m2))
  fun q3 =>
  some (((), q3))
/-! BrailleDeskModel.layCursor -/
def fX11_layCursor_B6 (m : mm) (a : Int32) : Option (Int32 ⊕ Int32) :=
  (mL 49 a m).bind fun x1 =>
  if x1 = (m 20 0) then
  (some (.inr a))
  else
  some (.inl (a + (1 : Int32)))
def fX11_layCursor (m : mm) : Option (Int32 × mm) :=
  oM (fX11_layOrder m) fun _ m2 =>
  Option.bind (α := Int32)
  (itr (fX11_layCursor_B6 m2) FU (0 : Int32))
  fun q3 =>
  some ((q3, m2))
/-! BrailleDeskModel.word -/
def fX11_word (a0 : Int32) (a1 : Int32) (a2 : Int32) (a3 : Int32) (a4 : Int32) (a5 : Int32) (a6 : Int32) : Option Int64 :=
  some ((((((((((((a0.toInt64 * (128 : Int64)) + a1.toInt64) * (128 : Int64)) + a2.toInt64) * (128 : Int64)) + a3.toInt64) * (128 : Int64)) + a4.toInt64) * (128 : Int64)) + a5.toInt64) * (128 : Int64)) + a6.toInt64)
/-! BrailleDeskModel.kindWord -/
def fX11_kindWord (a0 : Int32) : Option Int64 :=
  if a0 = 0 then
  ((fX11_word (0 : Int32) (0 : Int32) (103 : Int32) (114 : Int32) (111 : Int32) (117 : Int32) (112 : Int32)).bind fun x7 =>
  some (x7))
  else
  if a0 = (2 : Int32) then
  ((fX11_word (0 : Int32) (98 : Int32) (117 : Int32) (116 : Int32) (116 : Int32) (111 : Int32) (110 : Int32)).bind fun x6 =>
  some (x6))
  else
  if a0 = (3 : Int32) then
  ((fX11_word (0 : Int32) (0 : Int32) (99 : Int32) (104 : Int32) (101 : Int32) (99 : Int32) (107 : Int32)).bind fun x5 =>
  some (x5))
  else
  if a0 = (4 : Int32) then
  ((fX11_word (0 : Int32) (0 : Int32) (0 : Int32) (101 : Int32) (100 : Int32) (105 : Int32) (116 : Int32)).bind fun x4 =>
  some (x4))
  else
  if a0 = (5 : Int32) then
  ((fX11_word (0 : Int32) (0 : Int32) (116 : Int32) (97 : Int32) (98 : Int32) (108 : Int32) (101 : Int32)).bind fun x3 =>
  some (x3))
  else
  if a0 = (6 : Int32) then
  ((fX11_word (0 : Int32) (0 : Int32) (0 : Int32) (0 : Int32) (114 : Int32) (111 : Int32) (119 : Int32)).bind fun x2 =>
  some (x2))
  else
  if a0 = (7 : Int32) then
  ((fX11_word (0 : Int32) (0 : Int32) (0 : Int32) (108 : Int32) (105 : Int32) (118 : Int32) (101 : Int32)).bind fun x1 =>
  some (x1))
  else
  some ((0 : Int64))
/-! BrailleDeskModel.kindLetter -/
def fX11_kindLetter_B5  (a : Int64) : Option (Int64 ⊕ Int64) :=
  if (lg_cmp a (127 : Int64)) ≤ 0 then
  (some (.inr a))
  else
  some (.inl (a >>> ((7 : Int32).toInt64 &&& 63)))
def fX11_kindLetter (a0 : Int32) : Option Int32 :=
  (fX11_kindWord a0).bind fun x1 =>
  Option.bind (α := Int64)
  (itr (fX11_kindLetter_B5) FU x1)
  fun q2 =>
  if (lg_cmp q2 (0 : Int64)) = 0 then
  (some ((-1 : Int32)))
  else
  some (q2.toInt32 - (97 : Int32))
/-! BrailleDeskModel.put -/
def fX11_put (a1 : Int32) (m : mm) : Option (Unit × mm) :=
  (mS 28 (m 29 0) a1 m).bind fun m1 =>
  (mPI 29 ((m1 29 0) + (1 : Int32)) m1).bind fun m2 =>
  some (((), m2))
/-! BrailleDeskModel.gap -/
def fX11_gap (m : mm) : Option (Unit × mm) :=
  if (m 29 0) ≤ 0 then
  (some (((), m)))
  else
  oM (fX11_put (32 : Int32) m) fun _ m2 =>
  some (((), m2))
/-! BrailleDeskModel.partWord -/
def fX11_partWord_B13 (c1 : Int64) (a : (Int32 × mm)) : Option ((Int32 × mm) ⊕ mm) :=
  if a.1 < 0 then
  (some (.inr a.2))
  else
  if (lg_cmp ((c1 >>> (a.1.toInt64 &&& 63)) &&& (127 : Int64)) (0 : Int64)) ≤ 0 then
  (some (.inl (a.1 + (-7 : Int32), a.2)))
  else
  oM (fX11_put (((c1 >>> (a.1.toInt64 &&& 63)) &&& (127 : Int64)).toInt32) a.2) fun _ m2 =>
  some (.inl (a.1 + (-7 : Int32), m2))
def fX11_partWord (a1 : Int64) (m : mm) : Option (Unit × mm) :=
  Option.bind (α := mm)
  (if (lg_cmp a1 (0 : Int64)) ≤ 0 then
  (some m)
  else
  oM (fX11_gap m) fun _ m4 =>
  some m4)
  fun q1 =>
  Option.bind (α := mm)
  (itr (fX11_partWord_B13 a1) FU ((42 : Int32), q1))
  fun q5 =>
  some (((), q5))
/-! BrailleDeskModel.part -/
def fX11_part_B11 (c1 : Nat) (c2 : Int32) (c3 : Int32) (a : (Int32 × mm)) : Option ((Int32 × mm) ⊕ mm) :=
  if c3 ≤ a.1 then
  (some (.inr a.2))
  else
  (mL c1 (c2 + a.1) a.2).bind fun x1 =>
  oM (fX11_put x1 a.2) fun _ m3 =>
  some (.inl (a.1 + (1 : Int32), m3))
def fX11_part (a1 : Nat) (a2 : Int32) (a3 : Int32) (m : mm) : Option (Unit × mm) :=
  Option.bind (α := mm)
  (if a3 ≤ 0 then
  (some m)
  else
  oM (fX11_gap m) fun _ m4 =>
  some m4)
  fun q1 =>
  Option.bind (α := mm)
  (itr (fX11_part_B11 a1 a2 a3) FU ((0 : Int32), q1))
  fun q5 =>
  some (((), q5))
/-! BrailleDeskModel.partName -/
def fX11_partName (a1 : Int32) (m : mm) : Option (Unit × mm) :=
  (mL 7 a1 m).bind fun x1 =>
  oM (fX11_part 6 ((12 : Int32) * a1) x1 m) fun _ m3 =>
  some (((), m3))
/-! BrailleDeskModel.addNumber -/
def fX11_addNumber (a1 : Int32) (m : mm) : Option (Unit × mm) :=
  Option.bind (α := mm)
  (if a1 ≤ (9 : Int32) then
  (some m)
  else
  (oNz (10 : Int32)).bind fun _ =>
  oM (fX11_put ((48 : Int32) + (a1 / (10 : Int32))) m) fun _ m4 =>
  some m4)
  fun q1 =>
  (oNz (10 : Int32)).bind fun _ =>
  oM (fX11_put ((48 : Int32) + (a1 - a1 / (10 : Int32) * (10 : Int32))) q1) fun _ m6 =>
  some (((), m6))
/-! BrailleDeskModel.partPlace -/
def fX11_partPlace_B15 (c1 : Int32) (c2 : Int32) (m : mm) (a : (Int32 × Int32 × Int32)) : Option ((Int32 × Int32 × Int32) ⊕ (Int32 × Int32)) :=
  (mL 5 c2 m).bind fun x1 =>
  if x1 ≤ a.2.2 then
  (some (.inr (a.1, a.2.1)))
  else
  (mL 4 (((10 : Int32) * c2) + a.2.2) m).bind fun x2 =>
  (mLZ 12 x2 m).bind fun x3 =>
  Option.bind (α := Int32)
  (if x3 = 0 then
  (some (1 : Int32))
  else
  some (0 : Int32))
  fun q4 =>
  if x2 = c1 then
  (some (.inl (a.2.1 + q4, a.2.1 + q4, a.2.2 + (1 : Int32))))
  else
  some (.inl (a.1, a.2.1 + q4, a.2.2 + (1 : Int32)))
def fX11_partPlace (a1 : Int32) (m : mm) : Option (Unit × mm) :=
  (mL 3 a1 m).bind fun x1 =>
  Option.bind (α := (Int32 × Int32))
  (itr (fX11_partPlace_B15 a1 x1 m) FU ((0 : Int32), (0 : Int32), (0 : Int32)))
  fun q2 =>
  oM (fX11_gap m) fun _ m4 =>
  oM (fX11_addNumber q2.1 m4) fun _ m6 =>
  (fX11_word (0 : Int32) (0 : Int32) (0 : Int32) (0 : Int32) (0 : Int32) (111 : Int32) (102 : Int32)).bind fun x7 =>
  oM (fX11_partWord x7 m6) fun _ m9 =>
  oM (fX11_gap m9) fun _ m11 =>
  oM (fX11_addNumber q2.2 m11) fun _ m13 =>
  some (((), m13))
/-! BrailleDeskModel.partOn -/
def fX11_partOn (a1 : Int32) (m : mm) : Option (Unit × mm) :=
  if a1 = 0 then
  ((fX11_word (0 : Int32) (0 : Int32) (0 : Int32) (0 : Int32) (111 : Int32) (102 : Int32) (102 : Int32)).bind fun x1 =>
  oM (fX11_partWord x1 m) fun _ m3 =>
  some (((), m3)))
  else
  (fX11_word (0 : Int32) (0 : Int32) (0 : Int32) (0 : Int32) (0 : Int32) (111 : Int32) (110 : Int32)).bind fun x4 =>
  oM (fX11_partWord x4 m) fun _ m6 =>
  some (((), m6))
/-! BrailleDeskModel.partWords -/
def fX11_partWords (a1 : Int32) (m : mm) : Option (Unit × mm) :=
  (fX11_levelOf a1 m).bind fun x1 =>
  oM (fX11_partName a1 m) fun _ m3 =>
  Option.bind (α := mm)
  (if x1 = 0 then
  ((mL 7 a1 m3).bind fun x10 =>
  if x10 = 0 then
  ((mL 2 a1 m3).bind fun x11 =>
  (fX11_kindWord x11).bind fun x12 =>
  oM (fX11_partWord x12 m3) fun _ m14 =>
  some m14)
  else
  some m3)
  else
  (mL 2 a1 m3).bind fun x6 =>
  (fX11_kindWord x6).bind fun x7 =>
  oM (fX11_partWord x7 m3) fun _ m9 =>
  some m9)
  fun q4 =>
  (mL 2 a1 q4).bind fun x15 =>
  Option.bind (α := mm)
  (if x15 = (3 : Int32) then
  ((mLZ 10 a1 q4).bind fun x18 =>
  oM (fX11_partOn x18 q4) fun _ m20 =>
  some m20)
  else
  some q4)
  fun q16 =>
  (mL 9 a1 q16).bind fun x21 =>
  oM (fX11_part 8 ((12 : Int32) * a1) x21 q16) fun _ m23 =>
  if x1 = (2 : Int32) then
  (if a1 ≤ 0 then
  (some (((), m23)))
  else
  oM (fX11_partPlace a1 m23) fun _ m25 =>
  some (((), m25)))
  else
  some (((), m23))
/-! BrailleDeskModel.copy -/
def fX11_copy_B3 (c0 : Nat) (c1 : Int32) (c2 : Nat) (c3 : Int32) (c4 : Int32) (a : (Int32 × mm)) : Option ((Int32 × mm) ⊕ mm) :=
  if c4 ≤ a.1 then
  (some (.inr a.2))
  else
  (mL c0 (c1 + a.1) a.2).bind fun x1 =>
  (mS c2 (c3 + a.1) x1 a.2).bind fun m2 =>
  some (.inl (a.1 + (1 : Int32), m2))
def fX11_copy (a1 : Nat) (a2 : Int32) (a3 : Nat) (a4 : Int32) (a5 : Int32) (m : mm) : Option (Unit × mm) :=
  Option.bind (α := mm)
  (itr (fX11_copy_B3 a1 a2 a3 a4 a5) FU ((0 : Int32), m))
  fun q1 =>
  some (((), q1))
/-! BrailleDeskModel.takeNews -/
def fX11_takeNews_B12  (a : (Int32 × mm)) : Option ((Int32 × mm) ⊕ mm) :=
  if (a.2 32 0) ≤ a.1 then
  (some (.inr a.2))
  else
  (mL 31 (a.1 + (1 : Int32)) a.2).bind fun x1 =>
  (mS 31 a.1 x1 a.2).bind fun m2 =>
  (mL 31 a.1 m2).bind fun x3 =>
  oM (fX11_copy 30 ((100 : Int32) * (a.1 + (1 : Int32))) 30 ((100 : Int32) * a.1) x3 m2) fun _ m5 =>
  some (.inl (a.1 + (1 : Int32), m5))
def fX11_takeNews (m : mm) : Option (Unit × mm) :=
  (mPI 32 ((m 32 0) - (1 : Int32)) m).bind fun m1 =>
  Option.bind (α := mm)
  (itr (fX11_takeNews_B12) FU ((0 : Int32), m1))
  fun q2 =>
  some (((), q2))
/-! BrailleDeskModel.comeNews -/
def fX11_comeNews (m : mm) : Option (Unit × mm) :=
  oM (fX11_copy 28 (0 : Int32) 30 ((100 : Int32) * (m 32 0)) (m 29 0) m) fun _ m2 =>
  (mS 31 (m2 32 0) (m2 29 0) m2).bind fun m3 =>
  (mPI 32 ((m3 32 0) + (1 : Int32)) m3).bind fun m4 =>
  if (m4 32 0) = (6 : Int32) then
  (oM (fX11_takeNews m4) fun _ m6 =>
  (mPI 44 ((m6 44 0) + (1 : Int32)) m6).bind fun m7 =>
  some (((), m7)))
  else
  some (((), m4))
/-! BrailleDeskModel.takeAlert -/
def fX11_takeAlert_B12  (a : (Int32 × mm)) : Option ((Int32 × mm) ⊕ mm) :=
  if (a.2 37 0) ≤ a.1 then
  (some (.inr a.2))
  else
  (mL 36 (a.1 + (1 : Int32)) a.2).bind fun x1 =>
  (mS 36 a.1 x1 a.2).bind fun m2 =>
  (mL 36 a.1 m2).bind fun x3 =>
  oM (fX11_copy 35 ((100 : Int32) * (a.1 + (1 : Int32))) 35 ((100 : Int32) * a.1) x3 m2) fun _ m5 =>
  some (.inl (a.1 + (1 : Int32), m5))
def fX11_takeAlert (m : mm) : Option (Unit × mm) :=
  (mPI 37 ((m 37 0) - (1 : Int32)) m).bind fun m1 =>
  Option.bind (α := mm)
  (itr (fX11_takeAlert_B12) FU ((0 : Int32), m1))
  fun q2 =>
  some (((), q2))
/-! BrailleDeskModel.comeAnswer -/
def fX11_comeAnswer (m : mm) : Option (Unit × mm) :=
  if (m 29 0) = 0 then
  (some (((), m)))
  else
  Option.bind (α := Int32)
  (if (m 34 0) ≤ 0 then
  (some (0 : Int32))
  else
  some (1 : Int32))
  fun q1 =>
  (mPI 44 ((m 44 0) + q1) m).bind fun m3 =>
  Option.bind (α := mm)
  (if (m3 38 0) = (1 : Int32) then
  ((mPI 38 (-1 : Int32) m3).bind fun m6 =>
  (mPI 44 ((m6 44 0) + (1 : Int32)) m6).bind fun m7 =>
  some m7)
  else
  if (m3 38 0) = 0 then
  ((mPI 38 (-1 : Int32) m3).bind fun m8 =>
  (mPI 44 ((m8 44 0) + (1 : Int32)) m8).bind fun m9 =>
  some m9)
  else
  some m3)
  fun q4 =>
  oM (fX11_copy 28 (0 : Int32) 33 (0 : Int32) (q4 29 0) q4) fun _ m11 =>
  (mPI 34 (m11 29 0) m11).bind fun m12 =>
  some (((), m12))
/-! BrailleDeskModel.comeAlert -/
def fX11_comeAlert_B84 (m : mm) (a : Int32) : Option (Int32 ⊕ Int32) :=
  (mL 39 (m 41 0) m).bind fun x1 =>
  if x1 = (32 : Int32) then
  (some (.inr a))
  else
  if a ≤ 0 then
  (some (.inr a))
  else
  (mL 39 (a - (1 : Int32)) m).bind fun x2 =>
  if x2 = (32 : Int32) then
  (some (.inr a))
  else
  some (.inl (a + (-1 : Int32)))
def fX11_comeAlert (m : mm) : Option (Unit × mm) :=
  oM (fX11_copy 28 (0 : Int32) 35 ((100 : Int32) * (m 37 0)) (m 29 0) m) fun _ m2 =>
  (mS 36 (m2 37 0) (m2 29 0) m2).bind fun m3 =>
  (mPI 37 ((m3 37 0) + (1 : Int32)) m3).bind fun m4 =>
  if (m4 38 0) = 0 then
  ((mPI 38 (-1 : Int32) m4).bind fun m11 =>
  (mPI 44 ((m11 44 0) + (1 : Int32)) m11).bind fun m12 =>
  some (((), m12)))
  else
  if (m4 38 0) = (1 : Int32) then
  (Option.bind (α := Int32)
  (itr (fX11_comeAlert_B84 m4) FU (m4 41 0))
  fun q5 =>
  (mPI 34 ((m4 40 0) - q5) m4).bind fun m6 =>
  oM (fX11_copy 39 q5 33 (0 : Int32) (m6 34 0) m6) fun _ m8 =>
  (mPI 38 (-1 : Int32) m8).bind fun m9 =>
  some (((), m9)))
  else
  some (((), m4))
/-! BrailleDeskModel.hush -/
def fX11_hush (m : mm) : Option (Unit × mm) :=
  Option.bind (α := Int32)
  (if (m 34 0) ≤ 0 then
  (some (0 : Int32))
  else
  some (1 : Int32))
  fun q1 =>
  Option.bind (α := Int32)
  (if (m 38 0) = 0 then
  (some (1 : Int32))
  else
  if (m 38 0) = (1 : Int32) then
  (some (1 : Int32))
  else
  some (0 : Int32))
  fun q3 =>
  (mPI 44 ((m 44 0) + (((m 32 0) + q1) + q3)) m).bind fun m5 =>
  (mPI 32 (0 : Int32) m5).bind fun m6 =>
  (mPI 34 (0 : Int32) m6).bind fun m7 =>
  if (m7 38 0) = (2 : Int32) then
  ((mPI 38 (2 : Int32) m7).bind fun m9 =>
  some (((), m9)))
  else
  (mPI 38 (-1 : Int32) m7).bind fun m8 =>
  some (((), m8))
/-! BrailleDeskModel.say -/
def fX11_say (a1 : Int64) (m : mm) : Option (Unit × mm) :=
  (mPI 29 (0 : Int32) m).bind fun m1 =>
  oM (fX11_partWord a1 m1) fun _ m3 =>
  oM (fX11_comeAnswer m3) fun _ m5 =>
  some (((), m5))
/-! BrailleDeskModel.canNews -/
def fX11_canNews (a1 : Int32) (m : mm) : Option Int32 :=
  (mL 15 a1 m).bind fun x1 =>
  if x1 = (-1 : Int32) then
  (some ((1 : Int32)))
  else
  (mL 15 a1 m).bind fun x2 =>
  if ((m 46 0) - x2) < (5 : Int32) then
  (some ((0 : Int32)))
  else
  some ((1 : Int32))
/-! BrailleDeskModel.swallow -/
def fX11_swallow (a1 : Int32) (m : mm) : Option (Unit × mm) :=
  (mL 16 a1 m).bind fun x1 =>
  Option.bind (α := Int32)
  (if x1 ≤ 0 then
  (some (0 : Int32))
  else
  some (1 : Int32))
  fun q2 =>
  (mPI 45 ((m 45 0) + q2) m).bind fun m4 =>
  (mS 16 a1 (0 : Int32) m4).bind fun m5 =>
  some (((), m5))
/-! BrailleDeskModel.tell -/
def fX11_tell (a1 : Int32) (m : mm) : Option (Unit × mm) :=
  if a1 = (-1 : Int32) then
  (some (((), m)))
  else
  if (m 29 0) = 0 then
  (some (((), m)))
  else
  (mL 14 a1 m).bind fun x1 =>
  if x1 = 0 then
  (some (((), m)))
  else
  (mL 14 a1 m).bind fun x2 =>
  if x2 = (2 : Int32) then
  (oM (fX11_comeAlert m) fun _ m13 =>
  some (((), m13)))
  else
  (fX11_canNews a1 m).bind fun x3 =>
  if x3 = 0 then
  (oM (fX11_swallow a1 m) fun _ m5 =>
  (mS 16 a1 (m5 29 0) m5).bind fun m6 =>
  oM (fX11_copy 28 (0 : Int32) 17 ((100 : Int32) * a1) (m6 29 0) m6) fun _ m8 =>
  some (((), m8)))
  else
  (mS 15 a1 (m 46 0) m).bind fun m9 =>
  oM (fX11_comeNews m9) fun _ m11 =>
  some (((), m11))
/-! BrailleDeskModel.tellWords -/
def fX11_tellWords (a1 : Int32) (m : mm) : Option (Unit × mm) :=
  (fX11_shows a1 m).bind fun x1 =>
  if x1 = 0 then
  (some (((), m)))
  else
  (mPI 29 (0 : Int32) m).bind fun m2 =>
  oM (fX11_partWords a1 m2) fun _ m4 =>
  (fX11_regionOf a1 m4).bind fun x5 =>
  oM (fX11_tell x5 m4) fun _ m7 =>
  some (((), m7))
/-! BrailleDeskModel.makeGone -/
def fX11_makeGone (a1 : Int32) (m : mm) : Option (Unit × mm) :=
  (mPI 29 (0 : Int32) m).bind fun m1 =>
  (fX11_word (0 : Int32) (0 : Int32) (0 : Int32) (103 : Int32) (111 : Int32) (110 : Int32) (101 : Int32)).bind fun x2 =>
  oM (fX11_partWord x2 m1) fun _ m4 =>
  oM (fX11_partName a1 m4) fun _ m6 =>
  (mL 7 a1 m6).bind fun x7 =>
  if x7 = 0 then
  ((mL 2 a1 m6).bind fun x8 =>
  (fX11_kindWord x8).bind fun x9 =>
  oM (fX11_partWord x9 m6) fun _ m11 =>
  some (((), m11)))
  else
  some (((), m6))
/-! BrailleDeskModel.cell -/
def fX11_cell (a1 : Int32) (m : mm) : Option (Unit × mm) :=
  (mS 52 (m 53 0) a1 m).bind fun m1 =>
  (mPI 53 ((m1 53 0) + (1 : Int32)) m1).bind fun m2 =>
  some (((), m2))
/-! BrailleDeskModel.points -/
def fX11_points (a1 : Int32) (m : mm) : Option Int32 :=
  Option.bind (α := Int32)
  (if (10 : Int32) ≤ a1 then
  (if (20 : Int32) ≤ a1 then
  (if (22 : Int32) ≤ a1 then
  (if a1 ≤ (22 : Int32) then
  ((mL 47 (0 : Int32) m).bind fun x3 =>
  some (x3 + (36 : Int32)))
  else
  (mL 47 (a1 - (21 : Int32)) m).bind fun x4 =>
  some (x4 + (36 : Int32)))
  else
  (mL 47 (a1 - (20 : Int32)) m).bind fun x5 =>
  some (x5 + (36 : Int32)))
  else
  (mL 47 (a1 - (10 : Int32)) m).bind fun x6 =>
  some (x6 + (4 : Int32)))
  else
  (mL 47 a1 m).bind fun x7 =>
  some x7)
  fun q1 =>
  if a1 = (22 : Int32) then
  (some ((58 : Int32)))
  else
  some (q1)
/-! BrailleDeskModel.isDigit -/
def fX11_isDigit (a0 : Int32) : Option Int32 :=
  (fX11_in a0 (48 : Int32) (57 : Int32)).bind fun x1 =>
  (oBo x1).bind fun _ =>
  some (x1)
/-! BrailleDeskModel.isSmall -/
def fX11_isSmall (a0 : Int32) : Option Int32 :=
  (fX11_in a0 (97 : Int32) (122 : Int32)).bind fun x1 =>
  (oBo x1).bind fun _ =>
  some (x1)
/-! BrailleDeskModel.isGreat -/
def fX11_isGreat (a0 : Int32) : Option Int32 :=
  (fX11_in a0 (65 : Int32) (90 : Int32)).bind fun x1 =>
  (oBo x1).bind fun _ =>
  some (x1)
/-! BrailleDeskModel.sign -/
def fX11_sign (a0 : Int32) : Option Int32 :=
  if a0 = (32 : Int32) then
  (some ((0 : Int32)))
  else
  if a0 = (46 : Int32) then
  (some ((50 : Int32)))
  else
  if a0 = (44 : Int32) then
  (some ((2 : Int32)))
  else
  if a0 = (63 : Int32) then
  (some ((38 : Int32)))
  else
  if a0 = (45 : Int32) then
  (some ((36 : Int32)))
  else
  some ((63 : Int32))
/-! BrailleDeskModel.writeGreat -/
def fX11_writeGreat_B8 (c1 : Nat) (c2 : Int32) (c3 : Int32) (c4 : Int32) (m : mm) (a : Int32) : Option (Int32 ⊕ Int32) :=
  if a ≤ 0 then
  (some (.inr a))
  else
  (mL c1 ((c2 + a) - (1 : Int32)) m).bind fun x1 =>
  (fX11_isSmall x1).bind fun x2 =>
  if x2 = 0 then
  ((mL c1 ((c2 + a) - (1 : Int32)) m).bind fun x3 =>
  (fX11_isGreat x3).bind fun x4 =>
  if x4 = 0 then
  (some (.inr a))
  else
  some (.inl (a + (-1 : Int32))))
  else
  some (.inl (a + (-1 : Int32)))
def fX11_writeGreat_B54 (c1 : Nat) (c2 : Int32) (c3 : Int32) (c4 : Int32) (c5 : Int32) (m : mm) (a : (Int32 × Int32)) : Option ((Int32 × Int32) ⊕ (Int32 × Int32)) :=
  if c3 ≤ a.1 then
  (some (.inr (a.1, a.2)))
  else
  (mL c1 (c2 + a.1) m).bind fun x1 =>
  (fX11_isSmall x1).bind fun x2 =>
  oR (τ := _) (σ := Unit)
  (if x2 = 0 then
  ((mL c1 (c2 + a.1) m).bind fun x5 =>
  (fX11_isGreat x5).bind fun x6 =>
  if x6 = 0 then
  (some (.inl ((.inr (a.1, a.2)))))
  else
  some (.inr ()))
  else
  some (.inr ()))
  fun q3 =>
  if a.2 = 0 then
  (some (.inl (a.1 + (1 : Int32), (0 : Int32))))
  else
  (mL c1 (c2 + a.1) m).bind fun x7 =>
  (fX11_isGreat x7).bind fun x8 =>
  if x8 = 0 then
  (some (.inl (a.1 + (1 : Int32), (0 : Int32))))
  else
  some (.inl (a.1 + (1 : Int32), (1 : Int32)))
def fX11_writeGreat (a1 : Nat) (a2 : Int32) (a3 : Int32) (a4 : Int32) (m : mm) : Option (Unit × mm) :=
  Option.bind (α := Int32)
  (itr (fX11_writeGreat_B8 a1 a2 a3 a4 m) FU a4)
  fun q1 =>
  Option.bind (α := (Int32 × Int32))
  (itr (fX11_writeGreat_B54 a1 a2 a3 a4 q1 m) FU (q1, (1 : Int32)))
  fun q2 =>
  Option.bind (α := Int32)
  (if q2.2 = 0 then
  (some (0 : Int32))
  else
  if (q2.1 - q1) ≤ (1 : Int32) then
  (some (0 : Int32))
  else
  some (1 : Int32))
  fun q3 =>
  Option.bind (α := mm)
  (if q3 = 0 then
  (oM (fX11_cell (32 : Int32) m) fun _ m8 =>
  some m8)
  else
  if a4 = q1 then
  (oM (fX11_cell (32 : Int32) m) fun _ m10 =>
  some m10)
  else
  some m)
  fun q5 =>
  Option.bind (α := mm)
  (if q3 = 0 then
  (some q5)
  else
  if a4 = q1 then
  (oM (fX11_cell (32 : Int32) q5) fun _ m14 =>
  some m14)
  else
  some q5)
  fun q11 =>
  (mL a1 (a2 + a4) q11).bind fun x15 =>
  (fX11_points (x15 - (65 : Int32)) q11).bind fun x16 =>
  oM (fX11_cell x16 q11) fun _ m18 =>
  some (((), m18))
/-! BrailleDeskModel.write -/
def fX11_write_B3 (c1 : Nat) (c2 : Int32) (c3 : Int32) (a : (Int32 × mm)) : Option ((Int32 × mm) ⊕ mm) :=
  if c3 ≤ a.1 then
  (some (.inr a.2))
  else
  (mL c1 (c2 + a.1) a.2).bind fun x1 =>
  Option.bind (α := Int32)
  (if a.1 ≤ 0 then
  (some (0 : Int32))
  else
  (mL c1 ((c2 + a.1) - (1 : Int32)) a.2).bind fun x4 =>
  (fX11_isDigit x4).bind fun x5 =>
  if x5 = 0 then
  (some (0 : Int32))
  else
  some (1 : Int32))
  fun q2 =>
  (fX11_isGreat x1).bind fun x6 =>
  if x6 = 0 then
  ((fX11_isSmall x1).bind fun x7 =>
  if x7 = 0 then
  ((fX11_isDigit x1).bind fun x8 =>
  if x8 = 0 then
  ((fX11_sign x1).bind fun x9 =>
  oM (fX11_cell x9 a.2) fun _ m11 =>
  some (.inl (a.1 + (1 : Int32), m11)))
  else
  Option.bind (α := mm)
  (if q2 = 0 then
  (oM (fX11_cell (60 : Int32) a.2) fun _ m15 =>
  some m15)
  else
  some a.2)
  fun q12 =>
  Option.bind (α := Int32)
  (if x1 = (48 : Int32) then
  (some (9 : Int32))
  else
  some (x1 - (49 : Int32)))
  fun q16 =>
  (mL 47 q16 q12).bind fun x18 =>
  oM (fX11_cell x18 q12) fun _ m20 =>
  some (.inl (a.1 + (1 : Int32), m20)))
  else
  Option.bind (α := mm)
  (if q2 = 0 then
  (some a.2)
  else
  if (106 : Int32) < x1 then
  (some a.2)
  else
  oM (fX11_cell (48 : Int32) a.2) fun _ m24 =>
  some m24)
  fun q21 =>
  (fX11_points (x1 - (97 : Int32)) q21).bind fun x25 =>
  oM (fX11_cell x25 q21) fun _ m27 =>
  some (.inl (a.1 + (1 : Int32), m27)))
  else
  oM (fX11_writeGreat c1 c2 c3 a.1 a.2) fun _ m29 =>
  some (.inl (a.1 + (1 : Int32), m29))
def fX11_write (a1 : Nat) (a2 : Int32) (a3 : Int32) (m : mm) : Option (Unit × mm) :=
  Option.bind (α := mm)
  (itr (fX11_write_B3 a1 a2 a3) FU ((0 : Int32), m))
  fun q1 =>
  some (((), q1))
/-! BrailleDeskModel.layLine -/
def fX11_layLine (m : mm) : Option (Unit × mm) :=
  (mL 2 (m 20 0) m).bind fun x1 =>
  (mPI 53 (0 : Int32) m).bind fun m2 =>
  (fX11_levelOf (m2 20 0) m2).bind fun x3 =>
  Option.bind (α := mm)
  (if x3 = 0 then
  (some m2)
  else
  if x1 = (1 : Int32) then
  (some m2)
  else
  (fX11_kindLetter x1).bind fun x6 =>
  (fX11_points x6 m2).bind fun x7 =>
  oM (fX11_cell (x7 + (192 : Int32)) m2) fun _ m9 =>
  some m9)
  fun q4 =>
  (mL 7 (q4 20 0) q4).bind fun x10 =>
  oM (fX11_write 6 ((12 : Int32) * (q4 20 0)) x10 q4) fun _ m12 =>
  Option.bind (α := mm)
  (if x1 = (3 : Int32) then
  (oM (fX11_cell (0 : Int32) m12) fun _ m16 =>
  (mLZ 10 (m16 20 0) m16).bind fun x17 =>
  if x17 = 0 then
  (oM (fX11_cell (36 : Int32) m16) fun _ m19 =>
  some m19)
  else
  oM (fX11_cell (63 : Int32) m16) fun _ m21 =>
  some m21)
  else
  some m12)
  fun q13 =>
  (mL 9 (q13 20 0) q13).bind fun x22 =>
  Option.bind (α := mm)
  (if x22 ≤ 0 then
  (some q13)
  else
  oM (fX11_cell (0 : Int32) q13) fun _ m26 =>
  (mL 9 (m26 20 0) m26).bind fun x27 =>
  oM (fX11_write 8 ((12 : Int32) * (m26 20 0)) x27 m26) fun _ m29 =>
  some m29)
  fun q23 =>
  if (q23 22 0) = 0 then
  (some (((), q23)))
  else
  oM (fX11_cell (192 : Int32) q23) fun _ m31 =>
  some (((), m31))
/-! BrailleDeskModel.fitOffset -/
def fX11_fitOffset (m : mm) : Option (Unit × mm) :=
  oM (fX11_layLine m) fun _ m2 =>
  if (m2 25 0) ≤ 0 then
  (some (((), m2)))
  else
  if (m2 25 0) < (m2 53 0) then
  (some (((), m2)))
  else
  if (m2 53 0) = 0 then
  ((mPI 25 (0 : Int32) m2).bind fun m4 =>
  some (((), m4)))
  else
  (oNz (10 : Int32)).bind fun _ =>
  (mPI 25 ((((m2 53 0) - (1 : Int32)) / (10 : Int32)) * (10 : Int32)) m2).bind fun m3 =>
  some (((), m3))
/-! BrailleDeskModel.isCharacter -/
def fX11_isCharacter (a0 : Int32) : Option Int32 :=
  (fX11_in a0 (32 : Int32) (126 : Int32)).bind fun x1 =>
  if x1 = 0 then
  ((fX11_in a0 (119040 : Int32) (119295 : Int32)).bind fun x2 =>
  if x2 = 0 then
  (some ((0 : Int32)))
  else
  some ((1 : Int32)))
  else
  some ((1 : Int32))
/-! BrailleDeskModel.draft -/
def fX11_draft (a1 : Int32) (m : mm) : Option (Int32 × mm) :=
  (fX11_isCharacter a1).bind fun x1 =>
  Option.bind (α := Int32)
  (if x1 = 0 then
  (some (1 : Int32))
  else
  if (m 19 0) = (12 : Int32) then
  (some (2 : Int32))
  else
  some (0 : Int32))
  fun q2 =>
  (mPI 48 q2 m).bind fun m4 =>
  if (m4 48 0) ≤ 0 then
  ((mS 18 (m4 19 0) a1 m4).bind fun m5 =>
  (mPI 19 ((m5 19 0) + (1 : Int32)) m5).bind fun m6 =>
  some ((m6 19 0, m6)))
  else
  some (((0 : Int32), m4))
/-! BrailleDeskModel.canHave -/
def fX11_canHave (a0 : Int32) (a1 : Int32) : Option Int32 :=
  oR (τ := Int32) (σ := Unit)
  (if a0 = 0 then
  (some (.inr ()))
  else
  if a0 = (7 : Int32) then
  (some (.inr ()))
  else
  if a0 = (5 : Int32) then
  (if a1 = (6 : Int32) then
  (some (.inl ((1 : Int32))))
  else
  some (.inl ((0 : Int32))))
  else
  if a0 = (6 : Int32) then
  ((fX11_in a1 (1 : Int32) (4 : Int32)).bind fun x3 =>
  if x3 = 0 then
  (some (.inl ((0 : Int32))))
  else
  some (.inl ((1 : Int32))))
  else
  some (.inl ((0 : Int32))))
  fun q1 =>
  if a1 = (6 : Int32) then
  (some ((0 : Int32)))
  else
  some ((1 : Int32))
/-! BrailleDeskModel.takeDraft -/
def fX11_takeDraft (a1 : Int32) (m : mm) : Option (Unit × mm) :=
  oM (fX11_copy 18 (0 : Int32) 6 ((12 : Int32) * a1) (m 19 0) m) fun _ m2 =>
  (mS 7 a1 (m2 19 0) m2).bind fun m3 =>
  (mPI 19 (0 : Int32) m3).bind fun m4 =>
  some (((), m4))
/-! BrailleDeskModel.add -/
def fX11_add_B190 (c1 : Int32) (c2 : Int32) (c4 : Int32) (a : (Int32 × mm)) : Option ((Int32 × mm) ⊕ mm) :=
  if a.1 ≤ c2 then
  (some (.inr a.2))
  else
  (mL 4 ((((10 : Int32) * c1) + a.1) - (1 : Int32)) a.2).bind fun x1 =>
  (mS 4 (((10 : Int32) * c1) + a.1) x1 a.2).bind fun m2 =>
  some (.inl (a.1 + (-1 : Int32), m2))
def fX11_add (a1 : Int32) (a2 : Int32) (a3 : Int32) (m : mm) : Option (Int32 × mm) :=
  (fX11_isElement a1 m).bind fun x1 =>
  Option.bind (α := Int32)
  (if x1 = 0 then
  (some (1 : Int32))
  else
  (mL 5 a1 m).bind fun x4 =>
  (fX11_in a2 (0 : Int32) x4).bind fun x5 =>
  if x5 = 0 then
  (some (2 : Int32))
  else
  (fX11_in a3 (0 : Int32) (7 : Int32)).bind fun x6 =>
  if x6 = 0 then
  (some (2 : Int32))
  else
  some (0 : Int32))
  fun q2 =>
  (mPI 48 q2 m).bind fun m7 =>
  Option.bind (α := mm)
  (if (m7 48 0) = 0 then
  (if (m7 0 0) = (40 : Int32) then
  ((mPI 48 (3 : Int32) m7).bind fun m10 =>
  some m10)
  else
  (mL 5 a1 m7).bind fun x11 =>
  if x11 = (10 : Int32) then
  ((mPI 48 (3 : Int32) m7).bind fun m12 =>
  some m12)
  else
  (mL 2 a1 m7).bind fun x13 =>
  (fX11_canHave x13 a3).bind fun x14 =>
  if x14 = 0 then
  ((mPI 48 (3 : Int32) m7).bind fun m15 =>
  some m15)
  else
  if (m7 37 0) < (20 : Int32) then
  ((mPI 48 (0 : Int32) m7).bind fun m16 =>
  some m16)
  else
  (mPI 48 (3 : Int32) m7).bind fun m17 =>
  some m17)
  else
  some m7)
  fun q8 =>
  if (q8 48 0) ≤ 0 then
  ((mPI 0 ((q8 0 0) + (1 : Int32)) q8).bind fun m18 =>
  (mSZ 1 (q8 0 0) (1 : Int32) m18).bind fun m19 =>
  (mS 2 (q8 0 0) a3 m19).bind fun m20 =>
  (mS 3 (q8 0 0) a1 m20).bind fun m21 =>
  (mS 13 (q8 0 0) (-1 : Int32) m21).bind fun m22 =>
  (mS 14 (q8 0 0) (1 : Int32) m22).bind fun m23 =>
  (mS 15 (q8 0 0) (-1 : Int32) m23).bind fun m24 =>
  oM (fX11_takeDraft (q8 0 0) m24) fun _ m26 =>
  (mL 5 a1 m26).bind fun x27 =>
  Option.bind (α := mm)
  (itr (fX11_add_B190 a1 a2 (q8 0 0)) FU (x27, m26))
  fun q28 =>
  (mS 4 (((10 : Int32) * a1) + a2) (q8 0 0) q28).bind fun m29 =>
  (mL 5 a1 m29).bind fun x30 =>
  (mS 5 a1 (x30 + (1 : Int32)) m29).bind fun m31 =>
  oM (fX11_tellWords (q8 0 0) m31) fun _ m33 =>
  oM (fX11_fitOffset m33) fun _ m35 =>
  some ((q8 0 0, m35)))
  else
  some (((0 : Int32), q8))
/-! BrailleDeskModel.refuge -/
def fX11_refuge_B3 (c1 : Int32) (c3 : Int32) (m : mm) (a : Int32) : Option (Int32 ⊕ (Int32 ⊕ Unit)) :=
  (mL 5 c1 m).bind fun x1 =>
  if x1 ≤ a then
  (some (.inr (.inr ())))
  else
  (mL 4 (((10 : Int32) * c1) + a) m).bind fun x2 =>
  (mLZ 12 x2 m).bind fun x3 =>
  if x3 = 0 then
  ((mL 4 (((10 : Int32) * c1) + a) m).bind fun x4 =>
  some (.inr (.inl (x4))))
  else
  some (.inl (a + (1 : Int32)))
def fX11_refuge_B56 (c1 : Int32) (m : mm) (a : Int32) : Option (Int32 ⊕ (Int32 ⊕ Unit)) :=
  if a < 0 then
  (some (.inr (.inr ())))
  else
  (mL 4 (((10 : Int32) * c1) + a) m).bind fun x1 =>
  (mLZ 12 x1 m).bind fun x2 =>
  if x2 = 0 then
  ((mL 4 (((10 : Int32) * c1) + a) m).bind fun x3 =>
  some (.inr (.inl (x3))))
  else
  some (.inl (a + (-1 : Int32)))
def fX11_refuge (a1 : Int32) (a2 : Int32) (a3 : Int32) (m : mm) : Option Int32 :=
  oR (τ := Int32) (σ := Unit)
  (itr (fX11_refuge_B3 a1 a3 m) FU a2)
  fun q1 =>
  oR (τ := Int32) (σ := Unit)
  (itr (fX11_refuge_B56 a1 m) FU a3)
  fun q2 =>
  some (a1)
/-! BrailleDeskModel.lose -/
def fX11_lose (a1 : Int32) (a2 : Int32) (a3 : Int32) (m : mm) : Option (Unit × mm) :=
  Option.bind (α := mm)
  (if (m 21 0) = (-1 : Int32) then
  (some m)
  else
  (mLZ 1 (m 21 0) m).bind fun x3 =>
  oR (τ := mm) (σ := Unit)
  (if x3 = 0 then
  (some (.inr ()))
  else
  (fX11_shows (m 21 0) m).bind fun x6 =>
  if x6 = 0 then
  (some (.inr ()))
  else
  some (.inl (m)))
  fun q4 =>
  (mPI 21 (-1 : Int32) m).bind fun m7 =>
  (mPZ 22 (0 : Int32) m7).bind fun m8 =>
  some m8)
  fun q1 =>
  (mLZ 1 (q1 20 0) q1).bind fun x9 =>
  if x9 = 0 then
  ((fX11_refuge a1 a2 a3 q1).bind fun x10 =>
  (mPI 20 x10 q1).bind fun m11 =>
  (mPI 25 (0 : Int32) m11).bind fun m12 =>
  (mPI 29 (0 : Int32) m12).bind fun m13 =>
  (fX11_word (0 : Int32) (0 : Int32) (0 : Int32) (108 : Int32) (111 : Int32) (115 : Int32) (116 : Int32)).bind fun x14 =>
  oM (fX11_partWord x14 m13) fun _ m16 =>
  oM (fX11_partWords (m16 20 0) m16) fun _ m18 =>
  oM (fX11_comeAlert m18) fun _ m20 =>
  some (((), m20)))
  else
  (fX11_shows (q1 20 0) q1).bind fun x21 =>
  if x21 = 0 then
  ((fX11_refuge a1 a2 a3 q1).bind fun x22 =>
  (mPI 20 x22 q1).bind fun m23 =>
  (mPI 25 (0 : Int32) m23).bind fun m24 =>
  (mPI 29 (0 : Int32) m24).bind fun m25 =>
  (fX11_word (0 : Int32) (0 : Int32) (0 : Int32) (108 : Int32) (111 : Int32) (115 : Int32) (116 : Int32)).bind fun x26 =>
  oM (fX11_partWord x26 m25) fun _ m28 =>
  oM (fX11_partWords (m28 20 0) m28) fun _ m30 =>
  oM (fX11_comeAlert m30) fun _ m32 =>
  some (((), m32)))
  else
  some (((), q1))
/-! BrailleDeskModel.isBelow -/
def fX11_isBelow_B2 (c2 : Int32) (m : mm) (a : Int32) : Option (Int32 ⊕ Int32) :=
  if a = (-1 : Int32) then
  (some (.inr a))
  else
  if a = c2 then
  (some (.inr a))
  else
  (mL 3 a m).bind fun x1 =>
  some (.inl x1)
def fX11_isBelow (a1 : Int32) (a2 : Int32) (m : mm) : Option Int32 :=
  Option.bind (α := Int32)
  (itr (fX11_isBelow_B2 a2 m) FU a1)
  fun q1 =>
  if q1 = a2 then
  (some ((1 : Int32)))
  else
  some ((0 : Int32))
/-! BrailleDeskModel.remove -/
def fX11_remove_B86 (c1 : Int32) (c2 : Int32) (c3 : Int32) (c4 : Int32) (a : (Int32 × Int32 × mm)) : Option ((Int32 × Int32 × mm) ⊕ (Int32 × mm)) :=
  if (a.2.2 0 0) ≤ a.2.1 then
  (some (.inr (a.1, a.2.2)))
  else
  (mLZ 1 a.2.1 a.2.2).bind fun x1 =>
  if x1 = 0 then
  (some (.inl (a.1, a.2.1 + (1 : Int32), a.2.2)))
  else
  (fX11_isBelow a.2.1 c1 a.2.2).bind fun x2 =>
  if x2 = 0 then
  (some (.inl (a.1, a.2.1 + (1 : Int32), a.2.2)))
  else
  (mSZ 1 a.2.1 (0 : Int32) a.2.2).bind fun m3 =>
  oM (fX11_swallow a.2.1 m3) fun _ m5 =>
  some (.inl (a.1 + (1 : Int32), a.2.1 + (1 : Int32), m5))
def fX11_remove_B151 (c2 : Int32) (c3 : Int32) (c4 : Int32) (c5 : Int32) (a : (Int32 × mm)) : Option ((Int32 × mm) ⊕ mm) :=
  (mL 5 c2 a.2).bind fun x1 =>
  if x1 ≤ a.1 then
  (some (.inr a.2))
  else
  (mL 4 ((((10 : Int32) * c2) + a.1) + (1 : Int32)) a.2).bind fun x2 =>
  (mS 4 (((10 : Int32) * c2) + a.1) x2 a.2).bind fun m3 =>
  some (.inl (a.1 + (1 : Int32), m3))
def fX11_remove (a1 : Int32) (m : mm) : Option (Int32 × mm) :=
  (fX11_isElement a1 m).bind fun x1 =>
  Option.bind (α := Int32)
  (if x1 = 0 then
  (some (1 : Int32))
  else
  if a1 = 0 then
  (some (2 : Int32))
  else
  if (m 37 0) < (20 : Int32) then
  (some (0 : Int32))
  else
  some (2 : Int32))
  fun q2 =>
  (mPI 48 q2 m).bind fun m4 =>
  if (m4 48 0) ≤ 0 then
  ((mL 3 a1 m4).bind fun x5 =>
  (fX11_placeOf a1 m4).bind fun x6 =>
  (fX11_shows a1 m4).bind fun x7 =>
  Option.bind (α := Int32)
  (if x7 = 0 then
  (some (-1 : Int32))
  else
  (fX11_regionOf a1 m4).bind fun x10 =>
  some x10)
  fun q8 =>
  oM (fX11_makeGone a1 m4) fun _ m12 =>
  Option.bind (α := (Int32 × mm))
  (itr (fX11_remove_B86 a1 x5 x6 q8) FU ((0 : Int32), (0 : Int32), m12))
  fun q13 =>
  (mL 5 x5 q13.2).bind fun x14 =>
  (mS 5 x5 (x14 - (1 : Int32)) q13.2).bind fun m15 =>
  Option.bind (α := mm)
  (itr (fX11_remove_B151 x5 x6 q8 q13.1) FU (x6, m15))
  fun q16 =>
  oM (fX11_tell q8 q16) fun _ m18 =>
  oM (fX11_lose x5 x6 (x6 - (1 : Int32)) m18) fun _ m20 =>
  oM (fX11_fitOffset m20) fun _ m22 =>
  some ((q13.1, m22)))
  else
  some (((0 : Int32), m4))
/-! BrailleDeskModel.hide -/
def fX11_hide (a1 : Int32) (a2 : Int32) (m : mm) : Option (Int32 × mm) :=
  (fX11_isElement a1 m).bind fun x1 =>
  Option.bind (α := Int32)
  (if x1 = 0 then
  (some (1 : Int32))
  else
  if a1 = 0 then
  (some (2 : Int32))
  else
  if (m 37 0) < (20 : Int32) then
  (some (0 : Int32))
  else
  some (2 : Int32))
  fun q2 =>
  (mPI 48 q2 m).bind fun m4 =>
  if (m4 48 0) ≤ 0 then
  ((mLZ 12 a1 m4).bind fun x5 =>
  Option.bind (α := mm)
  (if a2 = 0 then
  (if x5 = 0 then
  (some m4)
  else
  if a2 = 0 then
  ((mSZ 12 a1 (0 : Int32) m4).bind fun m8 =>
  oM (fX11_tellWords a1 m8) fun _ m10 =>
  some m10)
  else
  some m4)
  else
  if x5 = 0 then
  ((fX11_shows a1 m4).bind fun x14 =>
  Option.bind (α := Int32)
  (if x14 = 0 then
  (some (-1 : Int32))
  else
  (fX11_regionOf a1 m4).bind fun x17 =>
  some x17)
  fun q15 =>
  (mSZ 12 a1 (1 : Int32) m4).bind fun m18 =>
  oM (fX11_makeGone a1 m18) fun _ m20 =>
  oM (fX11_tell q15 m20) fun _ m22 =>
  (mL 3 a1 m22).bind fun x23 =>
  (fX11_placeOf a1 m22).bind fun x24 =>
  (fX11_placeOf a1 m22).bind fun x25 =>
  oM (fX11_lose x23 (x24 + (1 : Int32)) (x25 - (1 : Int32)) m22) fun _ m27 =>
  some m27)
  else
  if x5 = 0 then
  (some m4)
  else
  if a2 = 0 then
  ((mSZ 12 a1 (0 : Int32) m4).bind fun m11 =>
  oM (fX11_tellWords a1 m11) fun _ m13 =>
  some m13)
  else
  some m4)
  fun q6 =>
  oM (fX11_fitOffset q6) fun _ m29 =>
  (oBo x5).bind fun _ =>
  some ((x5, m29)))
  else
  some (((0 : Int32), m4))
/-! BrailleDeskModel.rename -/
def fX11_rename_B64 (c1 : Int32) (m : mm) (a : (Int32 × Int32)) : Option ((Int32 × Int32) ⊕ Int32) :=
  if (m 19 0) ≤ a.2 then
  (some (.inr a.1))
  else
  if a.1 = 0 then
  (some (.inr a.1))
  else
  (mL 6 (((12 : Int32) * c1) + a.2) m).bind fun x1 =>
  (mL 18 a.2 m).bind fun x2 =>
  if x1 = x2 then
  (some (.inl ((1 : Int32), a.2 + (1 : Int32))))
  else
  some (.inl ((0 : Int32), a.2 + (1 : Int32)))
def fX11_rename (a1 : Int32) (m : mm) : Option (Int32 × mm) :=
  (fX11_isElement a1 m).bind fun x1 =>
  Option.bind (α := Int32)
  (if x1 = 0 then
  (some (1 : Int32))
  else
  if a1 = 0 then
  (some (2 : Int32))
  else
  if (m 37 0) < (20 : Int32) then
  (some (0 : Int32))
  else
  some (2 : Int32))
  fun q2 =>
  (mPI 48 q2 m).bind fun m4 =>
  if (m4 48 0) ≤ 0 then
  ((mL 7 a1 m4).bind fun x5 =>
  Option.bind (α := Int32)
  (if x5 = (m4 19 0) then
  (some (1 : Int32))
  else
  some (0 : Int32))
  fun q6 =>
  Option.bind (α := Int32)
  (itr (fX11_rename_B64 a1 m4) FU (q6, (0 : Int32)))
  fun q8 =>
  oM (fX11_takeDraft a1 m4) fun _ m10 =>
  Option.bind (α := mm)
  (if q8 = 0 then
  (oM (fX11_tellWords a1 m10) fun _ m14 =>
  some m14)
  else
  some m10)
  fun q11 =>
  oM (fX11_fitOffset q11) fun _ m16 =>
  (mL 7 a1 m16).bind fun x17 =>
  some ((x17, m16)))
  else
  some (((0 : Int32), m4))
/-! BrailleDeskModel.set -/
def fX11_set (a1 : Int32) (a2 : Int32) (m : mm) : Option (Int32 × mm) :=
  (fX11_isElement a1 m).bind fun x1 =>
  Option.bind (α := Int32)
  (if x1 = 0 then
  (some (1 : Int32))
  else
  (mL 2 a1 m).bind fun x4 =>
  if x4 = (3 : Int32) then
  (if (m 37 0) < (20 : Int32) then
  (some (0 : Int32))
  else
  some (2 : Int32))
  else
  some (2 : Int32))
  fun q2 =>
  (mPI 48 q2 m).bind fun m5 =>
  if (m5 48 0) ≤ 0 then
  ((mLZ 10 a1 m5).bind fun x6 =>
  (mSZ 10 a1 a2 m5).bind fun m7 =>
  Option.bind (α := mm)
  (if x6 = a2 then
  (some m7)
  else
  oM (fX11_tellWords a1 m7) fun _ m11 =>
  some m11)
  fun q8 =>
  oM (fX11_fitOffset q8) fun _ m13 =>
  (oBo x6).bind fun _ =>
  some ((x6, m13)))
  else
  some (((0 : Int32), m5))
/-! BrailleDeskModel.setRule -/
def fX11_setRule (a1 : Int32) (a2 : Int32) (m : mm) : Option (Int32 × mm) :=
  (fX11_isElement a1 m).bind fun x1 =>
  Option.bind (α := Int32)
  (if x1 = 0 then
  (some (1 : Int32))
  else
  (fX11_in a2 (-1 : Int32) (2 : Int32)).bind fun x4 =>
  if x4 = 0 then
  (some (2 : Int32))
  else
  some (0 : Int32))
  fun q2 =>
  (mPI 48 q2 m).bind fun m5 =>
  if (m5 48 0) ≤ 0 then
  ((mL 13 a1 m5).bind fun x6 =>
  (mS 13 a1 a2 m5).bind fun m7 =>
  oM (fX11_fitOffset m7) fun _ m9 =>
  some ((x6, m9)))
  else
  some (((0 : Int32), m5))
/-! BrailleDeskModel.setManner -/
def fX11_setManner (a1 : Int32) (a2 : Int32) (m : mm) : Option (Int32 × mm) :=
  (fX11_isElement a1 m).bind fun x1 =>
  Option.bind (α := Int32)
  (if x1 = 0 then
  (some (1 : Int32))
  else
  (fX11_in a2 (0 : Int32) (2 : Int32)).bind fun x4 =>
  if x4 = 0 then
  (some (2 : Int32))
  else
  (mL 2 a1 m).bind fun x5 =>
  if x5 = (7 : Int32) then
  (some (0 : Int32))
  else
  some (3 : Int32))
  fun q2 =>
  (mPI 48 q2 m).bind fun m6 =>
  if (m6 48 0) ≤ 0 then
  ((mL 14 a1 m6).bind fun x7 =>
  (mS 14 a1 a2 m6).bind fun m8 =>
  oM (fX11_swallow a1 m8) fun _ m10 =>
  some ((x7, m10)))
  else
  some (((0 : Int32), m6))
/-! BrailleDeskModel.elements -/
def fX11_elements_B9 (m : mm) (a : (Int32 × Int32)) : Option ((Int32 × Int32) ⊕ Int32) :=
  if (m 0 0) ≤ a.2 then
  (some (.inr a.1))
  else
  (mLZ 1 a.2 m).bind fun x1 =>
  if x1 = 0 then
  (some (.inl (a.1 + (0 : Int32), a.2 + (1 : Int32))))
  else
  some (.inl (a.1 + (1 : Int32), a.2 + (1 : Int32)))
def fX11_elements (m : mm) : Option (Int32 × mm) :=
  (mPI 48 (0 : Int32) m).bind fun m1 =>
  Option.bind (α := Int32)
  (itr (fX11_elements_B9 m1) FU ((0 : Int32), (0 : Int32)))
  fun q2 =>
  some ((q2, m1))
/-! BrailleDeskModel.kind -/
def fX11_kind (a1 : Int32) (m : mm) : Option (Int32 × mm) :=
  oM (fX11_asksFor a1 m) fun x1 m2 =>
  if x1 = 0 then
  (some (((0 : Int32), m2)))
  else
  (mL 2 a1 m2).bind fun x3 =>
  some ((x3, m2))
/-! BrailleDeskModel.parent -/
def fX11_parent (a1 : Int32) (m : mm) : Option (Int32 × mm) :=
  oM (fX11_asksFor a1 m) fun x1 m2 =>
  if x1 = 0 then
  (some (((0 : Int32), m2)))
  else
  (mL 3 a1 m2).bind fun x3 =>
  some ((x3, m2))
/-! BrailleDeskModel.children -/
def fX11_children (a1 : Int32) (m : mm) : Option (Int32 × mm) :=
  oM (fX11_asksFor a1 m) fun x1 m2 =>
  if x1 = 0 then
  (some (((0 : Int32), m2)))
  else
  (mL 5 a1 m2).bind fun x3 =>
  some ((x3, m2))
/-! BrailleDeskModel.childAt -/
def fX11_childAt (a1 : Int32) (a2 : Int32) (m : mm) : Option (Int32 × mm) :=
  (fX11_isElement a1 m).bind fun x1 =>
  Option.bind (α := Int32)
  (if x1 = 0 then
  (some (1 : Int32))
  else
  (mL 5 a1 m).bind fun x4 =>
  (fX11_in a2 (0 : Int32) (x4 - (1 : Int32))).bind fun x5 =>
  if x5 = 0 then
  (some (1 : Int32))
  else
  some (0 : Int32))
  fun q2 =>
  (mPI 48 q2 m).bind fun m6 =>
  if (m6 48 0) = 0 then
  ((mL 4 (((10 : Int32) * a1) + a2) m6).bind fun x7 =>
  some ((x7, m6)))
  else
  some (((0 : Int32), m6))
/-! BrailleDeskModel.nameLength -/
def fX11_nameLength (a1 : Int32) (m : mm) : Option (Int32 × mm) :=
  oM (fX11_asksFor a1 m) fun x1 m2 =>
  if x1 = 0 then
  (some (((0 : Int32), m2)))
  else
  (mL 7 a1 m2).bind fun x3 =>
  some ((x3, m2))
/-! BrailleDeskModel.nameAt -/
def fX11_nameAt (a1 : Int32) (a2 : Int32) (m : mm) : Option (Int32 × mm) :=
  (fX11_isElement a1 m).bind fun x1 =>
  Option.bind (α := Int32)
  (if x1 = 0 then
  (some (1 : Int32))
  else
  (mL 7 a1 m).bind fun x4 =>
  (fX11_in a2 (0 : Int32) (x4 - (1 : Int32))).bind fun x5 =>
  if x5 = 0 then
  (some (1 : Int32))
  else
  some (0 : Int32))
  fun q2 =>
  (mPI 48 q2 m).bind fun m6 =>
  if (m6 48 0) = 0 then
  ((mL 6 (((12 : Int32) * a1) + a2) m6).bind fun x7 =>
  some ((x7, m6)))
  else
  some (((0 : Int32), m6))
/-! BrailleDeskModel.contentLength -/
def fX11_contentLength (a1 : Int32) (m : mm) : Option (Int32 × mm) :=
  oM (fX11_asksFor a1 m) fun x1 m2 =>
  if x1 = 0 then
  (some (((0 : Int32), m2)))
  else
  (mL 9 a1 m2).bind fun x3 =>
  some ((x3, m2))
/-! BrailleDeskModel.contentAt -/
def fX11_contentAt (a1 : Int32) (a2 : Int32) (m : mm) : Option (Int32 × mm) :=
  (fX11_isElement a1 m).bind fun x1 =>
  Option.bind (α := Int32)
  (if x1 = 0 then
  (some (1 : Int32))
  else
  (mL 9 a1 m).bind fun x4 =>
  (fX11_in a2 (0 : Int32) (x4 - (1 : Int32))).bind fun x5 =>
  if x5 = 0 then
  (some (1 : Int32))
  else
  some (0 : Int32))
  fun q2 =>
  (mPI 48 q2 m).bind fun m6 =>
  if (m6 48 0) = 0 then
  ((mL 8 (((12 : Int32) * a1) + a2) m6).bind fun x7 =>
  some ((x7, m6)))
  else
  some (((0 : Int32), m6))
/-! BrailleDeskModel.isOn -/
def fX11_isOn (a1 : Int32) (m : mm) : Option (Int32 × mm) :=
  oM (fX11_asksFor a1 m) fun x1 m2 =>
  if x1 = 0 then
  (some (((0 : Int32), m2)))
  else
  (mLZ 10 a1 m2).bind fun x3 =>
  if x3 = 0 then
  (some (((0 : Int32), m2)))
  else
  some (((1 : Int32), m2))
/-! BrailleDeskModel.presses -/
def fX11_presses (a1 : Int32) (m : mm) : Option (Int32 × mm) :=
  oM (fX11_asksFor a1 m) fun x1 m2 =>
  if x1 = 0 then
  (some (((0 : Int32), m2)))
  else
  (mL 11 a1 m2).bind fun x3 =>
  some ((x3, m2))
/-! BrailleDeskModel.isShown -/
def fX11_isShown (a1 : Int32) (m : mm) : Option (Int32 × mm) :=
  oM (fX11_asksFor a1 m) fun x1 m2 =>
  if x1 = 0 then
  (some (((0 : Int32), m2)))
  else
  (fX11_shows a1 m2).bind fun x3 =>
  if x3 = 0 then
  (some (((0 : Int32), m2)))
  else
  some (((1 : Int32), m2))
/-! BrailleDeskModel.level -/
def fX11_level (a1 : Int32) (m : mm) : Option (Int32 × mm) :=
  oM (fX11_asksFor a1 m) fun x1 m2 =>
  if x1 = 0 then
  (some (((0 : Int32), m2)))
  else
  (fX11_levelOf a1 m2).bind fun x3 =>
  some ((x3, m2))
/-! BrailleDeskModel.reading -/
def fX11_reading (m : mm) : Option (Int32 × mm) :=
  (mPI 48 (0 : Int32) m).bind fun m1 =>
  oM (fX11_layOrder m1) fun _ m3 =>
  some ((m3 50 0, m3))
/-! BrailleDeskModel.readingAt -/
def fX11_readingAt (a1 : Int32) (m : mm) : Option (Int32 × mm) :=
  oM (fX11_layOrder m) fun _ m2 =>
  (fX11_in a1 (0 : Int32) ((m2 50 0) - (1 : Int32))).bind fun x3 =>
  Option.bind (α := Int32)
  (if x3 = 0 then
  (some (1 : Int32))
  else
  some (0 : Int32))
  fun q4 =>
  (mPI 48 q4 m2).bind fun m6 =>
  if (m6 48 0) = 0 then
  ((mL 49 a1 m6).bind fun x7 =>
  some ((x7, m6)))
  else
  some (((0 : Int32), m6))
/-! BrailleDeskModel.partHeads -/
def fX11_partHeads (a1 : Int32) (a2 : Int32) (m : mm) : Option (Unit × mm) :=
  (mL 3 a2 m).bind fun x1 =>
  (mL 3 a1 m).bind fun x2 =>
  Option.bind (α := Int32)
  (if a1 = a2 then
  (some (0 : Int32))
  else
  if x1 = (-1 : Int32) then
  (some (0 : Int32))
  else
  if x2 = (-1 : Int32) then
  (some (0 : Int32))
  else
  (mL 2 x1 m).bind fun x5 =>
  if x5 = (6 : Int32) then
  ((mL 2 x2 m).bind fun x6 =>
  if x6 = (6 : Int32) then
  ((mL 3 x1 m).bind fun x7 =>
  (mL 3 x2 m).bind fun x8 =>
  if x7 = x8 then
  (some (1 : Int32))
  else
  some (0 : Int32))
  else
  some (0 : Int32))
  else
  some (0 : Int32))
  fun q3 =>
  if q3 = 0 then
  (some (((), m)))
  else
  (fX11_levelOf a2 m).bind fun x9 =>
  if x9 = 0 then
  (some (((), m)))
  else
  Option.bind (α := mm)
  (if x1 = x2 then
  (some m)
  else
  (mL 4 ((10 : Int32) * x1) m).bind fun x12 =>
  if x12 = a2 then
  (some m)
  else
  (mL 4 ((10 : Int32) * x1) m).bind fun x13 =>
  oM (fX11_partName x13 m) fun _ m15 =>
  some m15)
  fun q10 =>
  (mL 3 x1 q10).bind fun x16 =>
  (mL 4 ((10 : Int32) * x16) q10).bind fun x17 =>
  (fX11_placeOf a2 q10).bind fun x18 =>
  (fX11_placeOf a1 q10).bind fun x19 =>
  if x18 = x19 then
  (some (((), q10)))
  else
  (mL 5 x17 q10).bind fun x20 =>
  if x20 ≤ x18 then
  (some (((), q10)))
  else
  (mL 4 (((10 : Int32) * x17) + x18) q10).bind fun x21 =>
  if x21 = a2 then
  (some (((), q10)))
  else
  (mL 4 (((10 : Int32) * x17) + x18) q10).bind fun x22 =>
  oM (fX11_partName x22 q10) fun _ m24 =>
  some (((), m24))
/-! BrailleDeskModel.go -/
def fX11_go (a1 : Int32) (m : mm) : Option (Unit × mm) :=
  (mPZ 22 (0 : Int32) m).bind fun m1 =>
  (mPI 29 (0 : Int32) m1).bind fun m2 =>
  oM (fX11_partHeads (m2 20 0) a1 m2) fun _ m4 =>
  Option.bind (α := Int32)
  (if a1 = (m4 20 0) then
  (some (m4 25 0))
  else
  some (0 : Int32))
  fun q5 =>
  (mPI 25 q5 m4).bind fun m7 =>
  (mPI 20 a1 m7).bind fun m8 =>
  oM (fX11_partWords a1 m8) fun _ m10 =>
  oM (fX11_comeAnswer m10) fun _ m12 =>
  some (((), m12))
/-! BrailleDeskModel.goOr -/
def fX11_goOr (a1 : Int32) (a2 : Int64) (m : mm) : Option (Unit × mm) :=
  if a1 = (-1 : Int32) then
  (oM (fX11_say a2 m) fun _ m4 =>
  some (((), m4)))
  else
  oM (fX11_go a1 m) fun _ m2 =>
  some (((), m2))
/-! BrailleDeskModel.none -/
def fX11_none  : Option Int64 :=
  (fX11_word (0 : Int32) (0 : Int32) (0 : Int32) (110 : Int32) (111 : Int32) (110 : Int32) (101 : Int32)).bind fun x1 =>
  some (x1)
/-! BrailleDeskModel.end -/
def fX11_end  : Option Int64 :=
  (fX11_word (0 : Int32) (0 : Int32) (0 : Int32) (0 : Int32) (101 : Int32) (110 : Int32) (100 : Int32)).bind fun x1 =>
  some (x1)
/-! BrailleDeskModel.step -/
def fX11_step (a1 : Int32) (m : mm) : Option (Unit × mm) :=
  oM (fX11_layCursor m) fun x1 m2 =>
  (fX11_in (x1 + a1) (0 : Int32) ((m2 50 0) - (1 : Int32))).bind fun x3 =>
  Option.bind (α := Int32)
  (if x3 = 0 then
  (some (-1 : Int32))
  else
  (mL 49 (x1 + a1) m2).bind fun x6 =>
  some x6)
  fun q4 =>
  (fX11_end).bind fun x7 =>
  oM (fX11_goOr q4 x7 m2) fun _ m9 =>
  some (((), m9))
/-! BrailleDeskModel.goIn -/
def fX11_goIn_B14 (m : mm) (a : (Int32 × Int32)) : Option ((Int32 × Int32) ⊕ Int32) :=
  if a.2 < 0 then
  (some (.inr a.1))
  else
  (mL 4 (((10 : Int32) * (m 20 0)) + a.2) m).bind fun x1 =>
  (mLZ 12 x1 m).bind fun x2 =>
  if x2 = 0 then
  ((mL 4 (((10 : Int32) * (m 20 0)) + a.2) m).bind fun x3 =>
  some (.inl (x3, a.2 + (-1 : Int32))))
  else
  some (.inl (a.1, a.2 + (-1 : Int32)))
def fX11_goIn (m : mm) : Option (Unit × mm) :=
  (mL 5 (m 20 0) m).bind fun x1 =>
  Option.bind (α := Int32)
  (itr (fX11_goIn_B14 m) FU ((-1 : Int32), x1 - (1 : Int32)))
  fun q2 =>
  (fX11_none).bind fun x3 =>
  oM (fX11_goOr q2 x3 m) fun _ m5 =>
  some (((), m5))
/-! BrailleDeskModel.goRows -/
def fX11_goRows_B63 (c1 : Int32) (c3 : Int32) (c4 : Int32) (m : mm) (a : (Int32 × Int32)) : Option ((Int32 × Int32) ⊕ Int32) :=
  (mL 5 c3 m).bind fun x1 =>
  (fX11_in a.2 (0 : Int32) (x1 - (1 : Int32))).bind fun x2 =>
  if x2 = 0 then
  (some (.inr a.1))
  else
  if a.1 = (-1 : Int32) then
  ((mL 4 (((10 : Int32) * c3) + a.2) m).bind fun x3 =>
  (mLZ 12 x3 m).bind fun x4 =>
  Option.bind (α := Int32)
  (if x4 = 0 then
  ((mL 5 x3 m).bind fun x7 =>
  if x7 ≤ c4 then
  (some (0 : Int32))
  else
  (mL 4 (((10 : Int32) * x3) + c4) m).bind fun x8 =>
  (mLZ 12 x8 m).bind fun x9 =>
  if x9 = 0 then
  (some (1 : Int32))
  else
  some (0 : Int32))
  else
  some (0 : Int32))
  fun q5 =>
  if q5 = 0 then
  (some (.inl ((-1 : Int32), a.2 + c1)))
  else
  (mL 4 (((10 : Int32) * x3) + c4) m).bind fun x10 =>
  some (.inl (x10, a.2 + c1)))
  else
  some (.inr a.1)
def fX11_goRows (a1 : Int32) (m : mm) : Option (Unit × mm) :=
  (mL 3 (m 20 0) m).bind fun x1 =>
  oR (τ := (Unit × mm)) (σ := Unit)
  (if x1 = (-1 : Int32) then
  (some (.inr ()))
  else
  (mL 2 x1 m).bind fun x4 =>
  if x4 = (6 : Int32) then
  ((mL 3 x1 m).bind fun x5 =>
  (fX11_placeOf (m 20 0) m).bind fun x6 =>
  (fX11_placeOf x1 m).bind fun x7 =>
  Option.bind (α := Int32)
  (itr (fX11_goRows_B63 a1 x5 x6 m) FU ((-1 : Int32), x7 + a1))
  fun q8 =>
  (fX11_end).bind fun x9 =>
  oM (fX11_goOr q8 x9 m) fun _ m11 =>
  some (.inl (((), m11))))
  else
  some (.inr ()))
  fun q2 =>
  (fX11_none).bind fun x13 =>
  oM (fX11_say x13 m) fun _ m15 =>
  some (((), m15))
/-! BrailleDeskModel.canFocus -/
def fX11_canFocus (a0 : Int32) : Option Int32 :=
  (fX11_in a0 (2 : Int32) (4 : Int32)).bind fun x1 =>
  (oBo x1).bind fun _ =>
  some (x1)
/-! BrailleDeskModel.goTab -/
def fX11_goTab_B9 (c1 : Int32) (m : mm) (a : (Int32 × Int32)) : Option ((Int32 × Int32) ⊕ Int32) :=
  if (m 50 0) < a.2 then
  (some (.inr a.1))
  else
  if a.1 = (-1 : Int32) then
  ((oNz (m 50 0)).bind fun _ =>
  (mL 49 ((c1 + a.2) - (c1 + a.2) / (m 50 0) * (m 50 0)) m).bind fun x1 =>
  (mL 2 x1 m).bind fun x2 =>
  (fX11_canFocus x2).bind fun x3 =>
  if x3 = 0 then
  (some (.inl ((-1 : Int32), a.2 + (1 : Int32))))
  else
  some (.inl (x1, a.2 + (1 : Int32))))
  else
  some (.inr a.1)
def fX11_goTab (m : mm) : Option (Unit × mm) :=
  oM (fX11_layCursor m) fun x1 m2 =>
  Option.bind (α := Int32)
  (itr (fX11_goTab_B9 x1 m2) FU ((-1 : Int32), (1 : Int32)))
  fun q3 =>
  Option.bind (α := Int32)
  (if q3 = (-1 : Int32) then
  (some (m2 21 0))
  else
  some q3)
  fun q4 =>
  (mPI 21 q4 m2).bind fun m6 =>
  (fX11_none).bind fun x7 =>
  oM (fX11_goOr q3 x7 m6) fun _ m9 =>
  some (((), m9))
/-! BrailleDeskModel.act -/
def fX11_act (m : mm) : Option (Unit × mm) :=
  (mL 2 (m 20 0) m).bind fun x1 =>
  (fX11_canFocus x1).bind fun x2 =>
  if x2 = 0 then
  ((fX11_none).bind fun x27 =>
  oM (fX11_say x27 m) fun _ m29 =>
  some (((), m29)))
  else
  (mPI 21 (m 20 0) m).bind fun m3 =>
  (mPI 29 (0 : Int32) m3).bind fun m4 =>
  Option.bind (α := mm)
  (if x1 = (2 : Int32) then
  ((mL 11 (m4 20 0) m4).bind fun x20 =>
  (mS 11 (m4 20 0) (x20 + (1 : Int32)) m4).bind fun m21 =>
  (fX11_word (112 : Int32) (114 : Int32) (101 : Int32) (115 : Int32) (115 : Int32) (101 : Int32) (100 : Int32)).bind fun x22 =>
  oM (fX11_partWord x22 m21) fun _ m24 =>
  some m24)
  else
  if x1 = (3 : Int32) then
  ((mLZ 10 (m4 20 0) m4).bind fun x13 =>
  Option.bind (α := Int32)
  (if x13 = 0 then
  (some (1 : Int32))
  else
  some (0 : Int32))
  fun q14 =>
  (mSZ 10 (m4 20 0) q14 m4).bind fun m16 =>
  (mLZ 10 (m16 20 0) m16).bind fun x17 =>
  oM (fX11_partOn x17 m16) fun _ m19 =>
  some m19)
  else
  (mPZ 22 (1 : Int32) m4).bind fun m7 =>
  (mPZ 23 (0 : Int32) m7).bind fun m8 =>
  (mPZ 24 (0 : Int32) m8).bind fun m9 =>
  (fX11_word (0 : Int32) (0 : Int32) (0 : Int32) (116 : Int32) (121 : Int32) (112 : Int32) (101 : Int32)).bind fun x10 =>
  oM (fX11_partWord x10 m9) fun _ m12 =>
  some m12)
  fun q5 =>
  oM (fX11_comeAnswer q5) fun _ m26 =>
  some (((), m26))
/-! BrailleDeskModel.command -/
def fX11_command (a1 : Int32) (m : mm) : Option (Unit × mm) :=
  if a1 = (1 : Int32) then
  (Option.bind (α := Int32)
  (if a1 = (1 : Int32) then
  (some (-1 : Int32))
  else
  some (1 : Int32))
  fun q1 =>
  oM (fX11_step q1 m) fun _ m4 =>
  some (((), m4)))
  else
  if a1 = (8 : Int32) then
  (Option.bind (α := Int32)
  (if a1 = (1 : Int32) then
  (some (-1 : Int32))
  else
  some (1 : Int32))
  fun q38 =>
  oM (fX11_step q38 m) fun _ m41 =>
  some (((), m41)))
  else
  if a1 = (4 : Int32) then
  ((mL 3 (m 20 0) m).bind fun x34 =>
  (fX11_none).bind fun x35 =>
  oM (fX11_goOr x34 x35 m) fun _ m37 =>
  some (((), m37)))
  else
  if a1 = (32 : Int32) then
  (oM (fX11_goIn m) fun _ m33 =>
  some (((), m33)))
  else
  if a1 = (2 : Int32) then
  (Option.bind (α := Int32)
  (if a1 = (2 : Int32) then
  (some (-1 : Int32))
  else
  some (1 : Int32))
  fun q5 =>
  oM (fX11_goRows q5 m) fun _ m8 =>
  some (((), m8)))
  else
  if a1 = (16 : Int32) then
  (Option.bind (α := Int32)
  (if a1 = (2 : Int32) then
  (some (-1 : Int32))
  else
  some (1 : Int32))
  fun q28 =>
  oM (fX11_goRows q28 m) fun _ m31 =>
  some (((), m31)))
  else
  if a1 = (30 : Int32) then
  (oM (fX11_goTab m) fun _ m27 =>
  some (((), m27)))
  else
  if a1 = (128 : Int32) then
  (oM (fX11_act m) fun _ m25 =>
  some (((), m25)))
  else
  if a1 = (64 : Int32) then
  (oM (fX11_hush m) fun _ m23 =>
  some (((), m23)))
  else
  if a1 = (7 : Int32) then
  (Option.bind (α := Int32)
  (if (m 25 0) ≤ 0 then
  (some (0 : Int32))
  else
  some (10 : Int32))
  fun q19 =>
  (mPI 25 ((m 25 0) - q19) m).bind fun m21 =>
  some (((), m21)))
  else
  if a1 = (56 : Int32) then
  (oM (fX11_layLine m) fun _ m15 =>
  Option.bind (α := Int32)
  (if (m15 53 0) ≤ ((m15 25 0) + (10 : Int32)) then
  (some (0 : Int32))
  else
  some (10 : Int32))
  fun q16 =>
  (mPI 25 ((m15 25 0) + q16) m15).bind fun m18 =>
  some (((), m18)))
  else
  if a1 = (23 : Int32) then
  ((mPI 29 (0 : Int32) m).bind fun m9 =>
  oM (fX11_partWords (m9 20 0) m9) fun _ m11 =>
  oM (fX11_comeAnswer m11) fun _ m13 =>
  some (((), m13)))
  else
  some (((), m))
/-! BrailleDeskModel.goLetter -/
def fX11_goLetter_B4 (c1 : Int32) (m : mm) (a : (Int32 × Int32)) : Option ((Int32 × Int32) ⊕ Int32) :=
  if (7 : Int32) < a.2 then
  (some (.inr a.1))
  else
  (fX11_kindLetter a.2).bind fun x1 =>
  if x1 = (-1 : Int32) then
  (some (.inl (a.1, a.2 + (1 : Int32))))
  else
  (fX11_kindLetter a.2).bind fun x2 =>
  (fX11_points x2 m).bind fun x3 =>
  if x3 = c1 then
  (some (.inl (a.2, a.2 + (1 : Int32))))
  else
  some (.inl (a.1, a.2 + (1 : Int32)))
def fX11_goLetter_B58 (c2 : Int32) (m : mm) (a : (Int32 × Int32)) : Option ((Int32 × Int32) ⊕ Int32) :=
  if (m 50 0) ≤ a.2 then
  (some (.inr a.1))
  else
  if a.1 = (-1 : Int32) then
  ((mL 49 a.2 m).bind fun x1 =>
  (mL 2 x1 m).bind fun x2 =>
  if x2 = c2 then
  ((mL 49 a.2 m).bind fun x3 =>
  some (.inl (x3, a.2 + (1 : Int32))))
  else
  some (.inl ((-1 : Int32), a.2 + (1 : Int32))))
  else
  some (.inr a.1)
def fX11_goLetter (a1 : Int32) (m : mm) : Option (Unit × mm) :=
  Option.bind (α := Int32)
  (itr (fX11_goLetter_B4 a1 m) FU ((-1 : Int32), (0 : Int32)))
  fun q1 =>
  if q1 = (-1 : Int32) then
  (some (((), m)))
  else
  oM (fX11_layCursor m) fun x2 m3 =>
  Option.bind (α := Int32)
  (itr (fX11_goLetter_B58 q1 m3) FU ((-1 : Int32), x2 + (1 : Int32)))
  fun q4 =>
  (fX11_none).bind fun x5 =>
  oM (fX11_goOr q4 x5 m3) fun _ m7 =>
  some (((), m7))
/-! BrailleDeskModel.sayCode -/
def fX11_sayCode (a1 : Int32) (m : mm) : Option (Unit × mm) :=
  (mPI 29 (0 : Int32) m).bind fun m1 =>
  Option.bind (α := mm)
  (if a1 = (32 : Int32) then
  ((fX11_word (0 : Int32) (0 : Int32) (115 : Int32) (112 : Int32) (97 : Int32) (99 : Int32) (101 : Int32)).bind fun x6 =>
  oM (fX11_partWord x6 m1) fun _ m8 =>
  some m8)
  else
  oM (fX11_put a1 m1) fun _ m5 =>
  some m5)
  fun q2 =>
  oM (fX11_comeAnswer q2) fun _ m10 =>
  some (((), m10))
/-! BrailleDeskModel.type -/
def fX11_type (a1 : Int32) (m : mm) : Option (Int32 × mm) :=
  (mL 9 (m 20 0) m).bind fun x1 =>
  if x1 = (12 : Int32) then
  ((fX11_word (0 : Int32) (0 : Int32) (0 : Int32) (102 : Int32) (117 : Int32) (108 : Int32) (108 : Int32)).bind fun x8 =>
  oM (fX11_say x8 m) fun _ m10 =>
  some (((0 : Int32), m10)))
  else
  (mL 9 (m 20 0) m).bind fun x2 =>
  (mS 8 (((12 : Int32) * (m 20 0)) + x2) a1 m).bind fun m3 =>
  (mL 9 (m3 20 0) m3).bind fun x4 =>
  (mS 9 (m3 20 0) (x4 + (1 : Int32)) m3).bind fun m5 =>
  oM (fX11_sayCode a1 m5) fun _ m7 =>
  some (((1 : Int32), m7))
/-! BrailleDeskModel.letterOf -/
def fX11_letterOf_B4 (c1 : Int32) (m : mm) (a : (Int32 × Int32)) : Option ((Int32 × Int32) ⊕ Int32) :=
  if (26 : Int32) ≤ a.2 then
  (some (.inr a.1))
  else
  (fX11_points a.2 m).bind fun x1 =>
  if x1 = c1 then
  (some (.inl (a.2, a.2 + (1 : Int32))))
  else
  some (.inl (a.1, a.2 + (1 : Int32)))
def fX11_letterOf (a1 : Int32) (m : mm) : Option Int32 :=
  Option.bind (α := Int32)
  (itr (fX11_letterOf_B4 a1 m) FU ((-1 : Int32), (0 : Int32)))
  fun q1 =>
  some (q1)
/-! BrailleDeskModel.typeLetter -/
def fX11_typeLetter (a1 : Int32) (m : mm) : Option (Unit × mm) :=
  if (m 24 0) = 0 then
  (Option.bind (α := Int32)
  (if (m 23 0) = 0 then
  (some (97 : Int32))
  else
  some (65 : Int32))
  fun q1 =>
  oM (fX11_type (q1 + a1) m) fun x3 m4 =>
  if x3 = 0 then
  (some (((), m4)))
  else
  (mPZ 23 (0 : Int32) m4).bind fun m5 =>
  (mPZ 24 (0 : Int32) m5).bind fun m6 =>
  some (((), m6)))
  else
  if (m 23 0) = 0 then
  (if (10 : Int32) ≤ a1 then
  (Option.bind (α := Int32)
  (if (m 23 0) = 0 then
  (some (97 : Int32))
  else
  some (65 : Int32))
  fun q13 =>
  oM (fX11_type (q13 + a1) m) fun x15 m16 =>
  if x15 = 0 then
  (some (((), m16)))
  else
  (mPZ 23 (0 : Int32) m16).bind fun m17 =>
  (mPZ 24 (0 : Int32) m17).bind fun m18 =>
  some (((), m18)))
  else
  Option.bind (α := Int32)
  (if a1 = (9 : Int32) then
  (some (48 : Int32))
  else
  some ((49 : Int32) + a1))
  fun q19 =>
  oM (fX11_type q19 m) fun x21 m22 =>
  some (((), m22)))
  else
  Option.bind (α := Int32)
  (if (m 23 0) = 0 then
  (some (97 : Int32))
  else
  some (65 : Int32))
  fun q7 =>
  oM (fX11_type (q7 + a1) m) fun x9 m10 =>
  if x9 = 0 then
  (some (((), m10)))
  else
  (mPZ 23 (0 : Int32) m10).bind fun m11 =>
  (mPZ 24 (0 : Int32) m11).bind fun m12 =>
  some (((), m12))
/-! BrailleDeskModel.takeLast -/
def fX11_takeLast (m : mm) : Option (Unit × mm) :=
  (mL 9 (m 20 0) m).bind fun x1 =>
  if x1 = 0 then
  ((fX11_none).bind fun x8 =>
  oM (fX11_say x8 m) fun _ m10 =>
  some (((), m10)))
  else
  (mL 9 (m 20 0) m).bind fun x2 =>
  (mS 9 (m 20 0) (x2 - (1 : Int32)) m).bind fun m3 =>
  (mL 9 (m3 20 0) m3).bind fun x4 =>
  (mL 8 (((12 : Int32) * (m3 20 0)) + x4) m3).bind fun x5 =>
  oM (fX11_sayCode x5 m3) fun _ m7 =>
  some (((), m7))
/-! BrailleDeskModel.typeSet -/
def fX11_typeSet (a1 : Int32) (m : mm) : Option (Unit × mm) :=
  (fX11_letterOf a1 m).bind fun x1 =>
  if x1 = (-1 : Int32) then
  (if a1 = (32 : Int32) then
  ((mPZ 23 (1 : Int32) m).bind fun m37 =>
  some (((), m37)))
  else
  if a1 = (60 : Int32) then
  (Option.bind (α := Int32)
  (if a1 = (60 : Int32) then
  (some (1 : Int32))
  else
  some (0 : Int32))
  fun q2 =>
  (mPZ 24 q2 m).bind fun m4 =>
  some (((), m4)))
  else
  if a1 = (48 : Int32) then
  (Option.bind (α := Int32)
  (if a1 = (60 : Int32) then
  (some (1 : Int32))
  else
  some (0 : Int32))
  fun q34 =>
  (mPZ 24 q34 m).bind fun m36 =>
  some (((), m36)))
  else
  if a1 = (50 : Int32) then
  (Option.bind (α := Int32)
  (if a1 = (50 : Int32) then
  (some (46 : Int32))
  else
  if a1 = (2 : Int32) then
  (some (44 : Int32))
  else
  if a1 = (38 : Int32) then
  (some (63 : Int32))
  else
  some (45 : Int32))
  fun q5 =>
  oM (fX11_type q5 m) fun x7 m8 =>
  some (((), m8)))
  else
  if a1 = (2 : Int32) then
  (Option.bind (α := Int32)
  (if a1 = (50 : Int32) then
  (some (46 : Int32))
  else
  if a1 = (2 : Int32) then
  (some (44 : Int32))
  else
  if a1 = (38 : Int32) then
  (some (63 : Int32))
  else
  some (45 : Int32))
  fun q9 =>
  oM (fX11_type q9 m) fun x11 m12 =>
  some (((), m12)))
  else
  if a1 = (38 : Int32) then
  (Option.bind (α := Int32)
  (if a1 = (50 : Int32) then
  (some (46 : Int32))
  else
  if a1 = (2 : Int32) then
  (some (44 : Int32))
  else
  if a1 = (38 : Int32) then
  (some (63 : Int32))
  else
  some (45 : Int32))
  fun q13 =>
  oM (fX11_type q13 m) fun x15 m16 =>
  some (((), m16)))
  else
  if a1 = (36 : Int32) then
  (Option.bind (α := Int32)
  (if a1 = (50 : Int32) then
  (some (46 : Int32))
  else
  if a1 = (2 : Int32) then
  (some (44 : Int32))
  else
  if a1 = (38 : Int32) then
  (some (63 : Int32))
  else
  some (45 : Int32))
  fun q30 =>
  oM (fX11_type q30 m) fun x32 m33 =>
  some (((), m33)))
  else
  if a1 = (256 : Int32) then
  (oM (fX11_type (32 : Int32) m) fun x25 m26 =>
  Option.bind (α := Int32)
  (if x25 = 0 then
  (some (m26 24 0))
  else
  some (0 : Int32))
  fun q27 =>
  (mPZ 24 q27 m26).bind fun m29 =>
  some (((), m29)))
  else
  if a1 = (64 : Int32) then
  (oM (fX11_takeLast m) fun _ m24 =>
  some (((), m24)))
  else
  if a1 = (128 : Int32) then
  ((mPZ 22 (0 : Int32) m).bind fun m17 =>
  (mPI 29 (0 : Int32) m17).bind fun m18 =>
  oM (fX11_partWords (m18 20 0) m18) fun _ m20 =>
  oM (fX11_comeAnswer m20) fun _ m22 =>
  some (((), m22)))
  else
  some (((), m)))
  else
  oM (fX11_typeLetter x1 m) fun _ m39 =>
  some (((), m39))
/-! BrailleDeskModel.doChord -/
def fX11_doChord (a1 : Int32) (m : mm) : Option (Unit × mm) :=
  Option.bind (α := mm)
  (if a1 ≤ (256 : Int32) then
  (if (m 22 0) = 0 then
  (if (256 : Int32) ≤ a1 then
  (some m)
  else
  oM (fX11_goLetter a1 m) fun _ m4 =>
  some m4)
  else
  oM (fX11_typeSet a1 m) fun _ m6 =>
  some m6)
  else
  oM (fX11_command (a1 - (256 : Int32)) m) fun _ m8 =>
  some m8)
  fun q1 =>
  oM (fX11_fitOffset q1) fun _ m10 =>
  some (((), m10))
/-! BrailleDeskModel.bits -/
def fX11_bits_B4  (a : (Int32 × Int32)) : Option ((Int32 × Int32) ⊕ Int32) :=
  if a.2 ≤ 0 then
  (some (.inr a.1))
  else
  some (.inl (a.1 + (a.2 &&& (1 : Int32)), a.2 >>> ((1 : Int32) &&& 31)))
def fX11_bits (a0 : Int32) : Option Int32 :=
  Option.bind (α := Int32)
  (itr (fX11_bits_B4) FU ((0 : Int32), a0))
  fun q1 =>
  some (q1)
/-! BrailleDeskModel.press -/
def fX11_press (a1 : Int32) (m : mm) : Option (Int32 × mm) :=
  (fX11_in a1 (0 : Int32) (8 : Int32)).bind fun x1 =>
  Option.bind (α := Int32)
  (if x1 = 0 then
  (some (1 : Int32))
  else
  if (((m 26 0) >>> (a1 &&& 31)) &&& (1 : Int32)) = (1 : Int32) then
  (some (2 : Int32))
  else
  some (0 : Int32))
  fun q2 =>
  (mPI 48 q2 m).bind fun m4 =>
  if (m4 48 0) ≤ 0 then
  (Option.bind (α := Int32)
  (if (m4 26 0) = 0 then
  (some (0 : Int32))
  else
  some (m4 27 0))
  fun q5 =>
  (mPI 27 q5 m4).bind fun m7 =>
  (mPI 27 ((m7 27 0) ||| ((1 : Int32) <<< (a1 &&& 31))) m7).bind fun m8 =>
  (mPI 26 ((m8 26 0) ||| ((1 : Int32) <<< (a1 &&& 31))) m8).bind fun m9 =>
  (fX11_bits (m9 26 0)).bind fun x10 =>
  some ((x10, m9)))
  else
  some (((0 : Int32), m4))
/-! BrailleDeskModel.release -/
def fX11_release (a1 : Int32) (m : mm) : Option (Int32 × mm) :=
  (fX11_in a1 (0 : Int32) (8 : Int32)).bind fun x1 =>
  Option.bind (α := Int32)
  (if x1 = 0 then
  (some (1 : Int32))
  else
  if (((m 26 0) >>> (a1 &&& 31)) &&& (1 : Int32)) = 0 then
  (some (2 : Int32))
  else
  some (0 : Int32))
  fun q2 =>
  (mPI 48 q2 m).bind fun m4 =>
  if (m4 48 0) ≤ 0 then
  ((mPI 26 ((m4 26 0) &&& (((1 : Int32) <<< (a1 &&& 31)) ^^^ (-1 : Int32))) m4).bind fun m5 =>
  Option.bind (α := mm)
  (if (m5 26 0) = 0 then
  (oM (fX11_doChord (m5 27 0) m5) fun _ m9 =>
  some m9)
  else
  some m5)
  fun q6 =>
  (fX11_bits (q6 26 0)).bind fun x10 =>
  some ((x10, q6)))
  else
  some (((0 : Int32), m4))
/-! BrailleDeskModel.chord -/
def fX11_chord (a1 : Int32) (m : mm) : Option (Int32 × mm) :=
  (fX11_in a1 (1 : Int32) (511 : Int32)).bind fun x1 =>
  Option.bind (α := Int32)
  (if x1 = 0 then
  (some (1 : Int32))
  else
  if (m 26 0) ≤ 0 then
  (some (0 : Int32))
  else
  some (2 : Int32))
  fun q2 =>
  (mPI 48 q2 m).bind fun m4 =>
  if (m4 48 0) ≤ 0 then
  (oM (fX11_doChord a1 m4) fun _ m6 =>
  some ((m6 20 0, m6)))
  else
  some (((0 : Int32), m4))
/-! BrailleDeskModel.cursor -/
def fX11_cursor (m : mm) : Option (Int32 × mm) :=
  (mPI 48 (0 : Int32) m).bind fun m1 =>
  some ((m1 20 0, m1))
/-! BrailleDeskModel.focus -/
def fX11_focus (m : mm) : Option (Int32 × mm) :=
  (mPI 48 (0 : Int32) m).bind fun m1 =>
  some ((m1 21 0, m1))
/-! BrailleDeskModel.isTyping -/
def fX11_isTyping (m : mm) : Option (Int32 × mm) :=
  (mPI 48 (0 : Int32) m).bind fun m1 =>
  (oBo (m1 22 0)).bind fun _ =>
  some ((m1 22 0, m1))
/-! BrailleDeskModel.offset -/
def fX11_offset (m : mm) : Option (Int32 × mm) :=
  (mPI 48 (0 : Int32) m).bind fun m1 =>
  some ((m1 25 0, m1))
/-! BrailleDeskModel.lineLength -/
def fX11_lineLength (m : mm) : Option (Int32 × mm) :=
  (mPI 48 (0 : Int32) m).bind fun m1 =>
  oM (fX11_layLine m1) fun _ m3 =>
  some ((m3 53 0, m3))
/-! BrailleDeskModel.pin -/
def fX11_pin (a1 : Int32) (m : mm) : Option (Int32 × mm) :=
  (fX11_in a1 (0 : Int32) (9 : Int32)).bind fun x1 =>
  Option.bind (α := Int32)
  (if x1 = 0 then
  (some (1 : Int32))
  else
  some (0 : Int32))
  fun q2 =>
  (mPI 48 q2 m).bind fun m4 =>
  oM (fX11_layLine m4) fun _ m6 =>
  if (m6 48 0) = 0 then
  (if (m6 53 0) ≤ ((m6 25 0) + a1) then
  (some (((0 : Int32), m6)))
  else
  (mL 52 ((m6 25 0) + a1) m6).bind fun x7 =>
  some ((x7, m6)))
  else
  some (((0 : Int32), m6))
/-! BrailleDeskModel.pinAnew -/
def fX11_pinAnew (a1 : Int32) (m : mm) : Option (Int32 × mm) :=
  oM (fX11_pin a1 m) fun x1 m2 =>
  some ((x1, m2))
/-! BrailleDeskModel.wordsLength -/
def fX11_wordsLength (a1 : Int32) (m : mm) : Option (Int32 × mm) :=
  (fX11_isElement a1 m).bind fun x1 =>
  Option.bind (α := Int32)
  (if x1 = 0 then
  (some (1 : Int32))
  else
  (fX11_shows a1 m).bind fun x4 =>
  if x4 = 0 then
  (some (2 : Int32))
  else
  some (0 : Int32))
  fun q2 =>
  (mPI 48 q2 m).bind fun m5 =>
  if (m5 48 0) ≤ 0 then
  ((mPI 29 (0 : Int32) m5).bind fun m6 =>
  oM (fX11_partWords a1 m6) fun _ m8 =>
  some ((m8 29 0, m8)))
  else
  some (((0 : Int32), m5))
/-! BrailleDeskModel.wordsAt -/
def fX11_wordsAt (a1 : Int32) (a2 : Int32) (m : mm) : Option (Int32 × mm) :=
  (fX11_isElement a1 m).bind fun x1 =>
  Option.bind (α := Int32)
  (if x1 = 0 then
  (some (2 : Int32))
  else
  (fX11_shows a1 m).bind fun x4 =>
  if x4 = 0 then
  (some (1 : Int32))
  else
  some (0 : Int32))
  fun q2 =>
  (mPI 48 q2 m).bind fun m5 =>
  if (m5 48 0) ≤ 0 then
  ((mPI 29 (0 : Int32) m5).bind fun m6 =>
  oM (fX11_partWords a1 m6) fun _ m8 =>
  (fX11_in a2 (0 : Int32) ((m8 29 0) - (1 : Int32))).bind fun x9 =>
  Option.bind (α := Int32)
  (if x9 = 0 then
  (some (2 : Int32))
  else
  some (0 : Int32))
  fun q10 =>
  (mPI 48 q10 m8).bind fun m12 =>
  if (m12 48 0) = 0 then
  ((mL 28 a2 m12).bind fun x13 =>
  some ((x13, m12)))
  else
  some (((0 : Int32), m12)))
  else
  some (((0 : Int32), m5))
/-! BrailleDeskModel.beginSpeech -/
def fX11_beginSpeech (m : mm) : Option (Unit × mm) :=
  Option.bind (α := mm)
  (if (m 37 0) ≤ 0 then
  (if (m 34 0) ≤ 0 then
  (if (m 32 0) ≤ 0 then
  (some m)
  else
  (mPI 38 (0 : Int32) m).bind fun m3 =>
  (mL 31 (0 : Int32) m3).bind fun x4 =>
  (mPI 40 x4 m3).bind fun m5 =>
  oM (fX11_copy 30 (0 : Int32) 39 (0 : Int32) (m5 40 0) m5) fun _ m7 =>
  oM (fX11_takeNews m7) fun _ m9 =>
  some m9)
  else
  (mPI 38 (1 : Int32) m).bind fun m10 =>
  (mPI 40 (m10 34 0) m10).bind fun m11 =>
  oM (fX11_copy 33 (0 : Int32) 39 (0 : Int32) (m11 40 0) m11) fun _ m13 =>
  (mPI 34 (0 : Int32) m13).bind fun m14 =>
  some m14)
  else
  (mPI 38 (2 : Int32) m).bind fun m15 =>
  (mL 36 (0 : Int32) m15).bind fun x16 =>
  (mPI 40 x16 m15).bind fun m17 =>
  oM (fX11_copy 35 (0 : Int32) 39 (0 : Int32) (m17 40 0) m17) fun _ m19 =>
  oM (fX11_takeAlert m19) fun _ m21 =>
  some m21)
  fun q1 =>
  (mPI 41 (0 : Int32) q1).bind fun m22 =>
  some (((), m22))
/-! BrailleDeskModel.comeKept -/
def fX11_comeKept_B2  (a : (Int32 × mm)) : Option ((Int32 × mm) ⊕ mm) :=
  if (a.2 0 0) ≤ a.1 then
  (some (.inr a.2))
  else
  (mL 16 a.1 a.2).bind fun x1 =>
  if x1 ≤ 0 then
  (some (.inl (a.1 + (1 : Int32), a.2)))
  else
  (fX11_canNews a.1 a.2).bind fun x2 =>
  if x2 = 0 then
  (some (.inl (a.1 + (1 : Int32), a.2)))
  else
  (fX11_shows a.1 a.2).bind fun x3 =>
  if x3 = 0 then
  (oM (fX11_swallow a.1 a.2) fun _ m5 =>
  some (.inl (a.1 + (1 : Int32), m5)))
  else
  (mL 16 a.1 a.2).bind fun x6 =>
  (mPI 29 x6 a.2).bind fun m7 =>
  oM (fX11_copy 17 ((100 : Int32) * a.1) 28 (0 : Int32) (m7 29 0) m7) fun _ m9 =>
  (mS 16 a.1 (0 : Int32) m9).bind fun m10 =>
  (mS 15 a.1 (m10 46 0) m10).bind fun m11 =>
  oM (fX11_comeNews m11) fun _ m13 =>
  some (.inl (a.1 + (1 : Int32), m13))
def fX11_comeKept (m : mm) : Option (Unit × mm) :=
  Option.bind (α := mm)
  (itr (fX11_comeKept_B2) FU ((0 : Int32), m))
  fun q1 =>
  some (((), q1))
/-! BrailleDeskModel.tick -/
def fX11_tick_B23 (c1 : Int32) (a : (Int32 × Int32 × mm)) : Option ((Int32 × Int32 × mm) ⊕ (Int32 × mm)) :=
  if c1 ≤ a.2.1 then
  (some (.inr (a.1, a.2.2)))
  else
  if (a.2.2 48 0) = 0 then
  ((mPI 46 ((a.2.2 46 0) + (1 : Int32)) a.2.2).bind fun m1 =>
  oM (fX11_comeKept m1) fun _ m3 =>
  Option.bind (α := mm)
  (if (m3 38 0) = (-1 : Int32) then
  (oM (fX11_beginSpeech m3) fun _ m7 =>
  some m7)
  else
  some m3)
  fun q4 =>
  if (q4 38 0) = (-1 : Int32) then
  (some (.inl (a.1, a.2.1 + (1 : Int32), q4)))
  else
  (oNz (100 : Int32)).bind fun _ =>
  (mL 39 (q4 41 0) q4).bind fun x8 =>
  (mS 42 ((q4 43 0) - (q4 43 0) / (100 : Int32) * (100 : Int32)) x8 q4).bind fun m9 =>
  (mPI 43 ((m9 43 0) + (1 : Int32)) m9).bind fun m10 =>
  (mPI 41 ((m10 41 0) + (1 : Int32)) m10).bind fun m11 =>
  Option.bind (α := Int32)
  (if (m11 41 0) = (m11 40 0) then
  (some (-1 : Int32))
  else
  some (m11 38 0))
  fun q12 =>
  (mPI 38 q12 m11).bind fun m14 =>
  some (.inl (a.1 + (1 : Int32), a.2.1 + (1 : Int32), m14)))
  else
  some (.inr (a.1, a.2.2))
def fX11_tick (a1 : Int32) (m : mm) : Option (Int32 × mm) :=
  (fX11_in a1 (1 : Int32) (50 : Int32)).bind fun x1 =>
  Option.bind (α := Int32)
  (if x1 = 0 then
  (some (1 : Int32))
  else
  some (0 : Int32))
  fun q2 =>
  (mPI 48 q2 m).bind fun m4 =>
  Option.bind (α := (Int32 × mm))
  (itr (fX11_tick_B23 a1) FU ((0 : Int32), (0 : Int32), m4))
  fun q5 =>
  some ((q5.1, q5.2))
/-! BrailleDeskModel.time -/
def fX11_time (m : mm) : Option (Int32 × mm) :=
  (mPI 48 (0 : Int32) m).bind fun m1 =>
  some ((m1 46 0, m1))
/-! BrailleDeskModel.speaking -/
def fX11_speaking (m : mm) : Option (Int32 × mm) :=
  (mPI 48 (0 : Int32) m).bind fun m1 =>
  some ((m1 38 0, m1))
/-! BrailleDeskModel.left -/
def fX11_left (m : mm) : Option (Int32 × mm) :=
  (mPI 48 (0 : Int32) m).bind fun m1 =>
  if (m1 38 0) = (-1 : Int32) then
  (some (((0 : Int32), m1)))
  else
  some (((m1 40 0) - (m1 41 0), m1))
/-! BrailleDeskModel.waiting -/
def fX11_waiting (a1 : Int32) (m : mm) : Option (Int32 × mm) :=
  (fX11_in a1 (0 : Int32) (2 : Int32)).bind fun x1 =>
  Option.bind (α := Int32)
  (if x1 = 0 then
  (some (1 : Int32))
  else
  some (0 : Int32))
  fun q2 =>
  (mPI 48 q2 m).bind fun m4 =>
  if (m4 48 0) ≤ 0 then
  (if a1 = 0 then
  (some ((m4 32 0, m4)))
  else
  if a1 = (2 : Int32) then
  (some ((m4 37 0, m4)))
  else
  if (m4 34 0) ≤ 0 then
  (some (((0 : Int32), m4)))
  else
  some (((1 : Int32), m4)))
  else
  some (((0 : Int32), m4))
/-! BrailleDeskModel.heard -/
def fX11_heard (m : mm) : Option (Int32 × mm) :=
  (mPI 48 (0 : Int32) m).bind fun m1 =>
  some ((m1 43 0, m1))
/-! BrailleDeskModel.heardAt -/
def fX11_heardAt (a1 : Int32) (m : mm) : Option (Int32 × mm) :=
  (fX11_in a1 (0 : Int32) (99 : Int32)).bind fun x1 =>
  Option.bind (α := Int32)
  (if x1 = 0 then
  (some (1 : Int32))
  else
  if (m 43 0) ≤ a1 then
  (some (1 : Int32))
  else
  some (0 : Int32))
  fun q2 =>
  (mPI 48 q2 m).bind fun m4 =>
  if (m4 48 0) = 0 then
  ((oNz (100 : Int32)).bind fun _ =>
  (mL 42 ((((m4 43 0) - (1 : Int32)) - a1) - (((m4 43 0) - (1 : Int32)) - a1) / (100 : Int32) * (100 : Int32)) m4).bind fun x5 =>
  some ((x5, m4)))
  else
  some (((0 : Int32), m4))
/-! BrailleDeskModel.dropped -/
def fX11_dropped (m : mm) : Option (Int32 × mm) :=
  (mPI 48 (0 : Int32) m).bind fun m1 =>
  some ((m1 44 0, m1))
/-! BrailleDeskModel.swallowed -/
def fX11_swallowed (m : mm) : Option (Int32 × mm) :=
  (mPI 48 (0 : Int32) m).bind fun m1 =>
  some ((m1 45 0, m1))

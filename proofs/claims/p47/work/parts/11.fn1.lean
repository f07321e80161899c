/-! ===== methods as functions over the abstract heap ===== -/
/-! BrailleDesk$Codes.<init> -/
def fX1_init (a0 : Nat) (a1 : Int32) (h : hp) : Option (Unit × hp) :=
  Option.bind (α := Int32)
  (if 0 ≤ a1 then
  (some a1)
  else
  some (0 : Int32))
  fun q1 =>
  (oNm q1).bind fun n3 =>
  (oPR 0 0 (some a0) (some (hN h)) (wN h (20, n3))).bind fun h4 =>
  some (((), h4))
/-! BrailleDesk$Codes.size -/
def fX1_size (a0 : Nat) (h : hp) : Option Int32 :=
  (oGI 0 1 (some a0) h).bind fun x1 =>
  some (x1)
/-! BrailleDesk$Codes.at -/
def fX1_at (a0 : Nat) (a1 : Int32) (h : hp) : Option Int32 :=
  if a1 < 0 then
  (some ((-1 : Int32)))
  else
  (oGI 0 1 (some a0) h).bind fun x1 =>
  if x1 ≤ a1 then
  (some ((-1 : Int32)))
  else
  (oGR 0 0 (some a0) h).bind fun x2 =>
  (oLen x2 h).bind fun x3 =>
  if x3 ≤ a1 then
  (some ((-1 : Int32)))
  else
  (oGR 0 0 (some a0) h).bind fun x4 =>
  (oIL x4 a1 h).bind fun x5 =>
  some (x5)
/-! BrailleDesk$Codes.put -/
def fX1_put (a0 : Nat) (a1 : Int32) (h : hp) : Option (Unit × hp) :=
  (oGI 0 1 (some a0) h).bind fun x1 =>
  if x1 < 0 then
  (some (((), h)))
  else
  (oGI 0 1 (some a0) h).bind fun x2 =>
  (oGR 0 0 (some a0) h).bind fun x3 =>
  (oLen x3 h).bind fun x4 =>
  if x4 ≤ x2 then
  (some (((), h)))
  else
  (oGR 0 0 (some a0) h).bind fun x5 =>
  (oGI 0 1 (some a0) h).bind fun x6 =>
  (oIS x5 x6 a1 h).bind fun h7 =>
  (oGI 0 1 (some a0) h7).bind fun x8 =>
  (oPI 0 1 (some a0) (x8 + (1 : Int32)) h7).bind fun h9 =>
  some (((), h9))
/-! BrailleDesk$Codes.clear -/
def fX1_clear (a0 : Nat) (h : hp) : Option (Unit × hp) :=
  (oPI 0 1 (some a0) (0 : Int32) h).bind fun h1 =>
  some (((), h1))
/-! BrailleDesk$Codes.takeLast -/
def fX1_takeLast (a0 : Nat) (h : hp) : Option (Unit × hp) :=
  (oGI 0 1 (some a0) h).bind fun x1 =>
  if x1 ≤ 0 then
  (some (((), h)))
  else
  (oGI 0 1 (some a0) h).bind fun x2 =>
  (oPI 0 1 (some a0) (x2 - (1 : Int32)) h).bind fun h3 =>
  some (((), h3))
/-! BrailleDesk$Codes.copy -/
def fX1_copy_B5 (c0 : Nat) (c1 : (Option Nat)) (a : hp) : Option (hp ⊕ hp) :=
  (oGI 0 1 (some c0) a).bind fun x1 =>
  (oGI 0 1 c1 a).bind fun x2 =>
  if x2 ≤ x1 then
  (some (.inr a))
  else
  (oGI 0 1 (some c0) a).bind fun x3 =>
  (oGR 0 0 c1 a).bind fun x4 =>
  (oLen x4 a).bind fun x5 =>
  if x5 ≤ x3 then
  (some (.inr a))
  else
  (oGI 0 1 (some c0) a).bind fun x6 =>
  (oGR 0 0 (some c0) a).bind fun x7 =>
  (oLen x7 a).bind fun x8 =>
  if x8 ≤ x6 then
  (some (.inr a))
  else
  (oGR 0 0 (some c0) a).bind fun x9 =>
  (oGI 0 1 (some c0) a).bind fun x10 =>
  (oGR 0 0 c1 a).bind fun x11 =>
  (oGI 0 1 (some c0) a).bind fun x12 =>
  (oIL x11 x12 a).bind fun x13 =>
  (oIS x9 x10 x13 a).bind fun h14 =>
  (oGI 0 1 (some c0) h14).bind fun x15 =>
  (oPI 0 1 (some c0) (x15 + (1 : Int32)) h14).bind fun h16 =>
  some (.inl h16)
def fX1_copy (a0 : Nat) (a1 : (Option Nat)) (h : hp) : Option (Unit × hp) :=
  (oPI 0 1 (some a0) (0 : Int32) h).bind fun h1 =>
  Option.bind (α := hp)
  (itr (fX1_copy_B5 a0 a1) FU h1)
  fun q2 =>
  some (((), q2))
/-! BrailleDesk$Codes.isSame -/
def fX1_isSame_B15 (c0 : Nat) (c1 : (Option Nat)) (h : hp) (a : Int32) : Option (Int32 ⊕ (Int32 ⊕ Unit)) :=
  (oGI 0 1 (some c0) h).bind fun x1 =>
  if x1 ≤ a then
  (some (.inr (.inr ())))
  else
  (oOb 0 (some c0) h).bind fun b =>
  (fX1_at b a h).bind fun x2 =>
  (oOb 0 c1 h).bind fun b =>
  (fX1_at b a h).bind fun x3 =>
  if x2 = x3 then
  (some (.inl (a + (1 : Int32))))
  else
  some (.inr (.inl ((0 : Int32))))
def fX1_isSame (a0 : Nat) (a1 : (Option Nat)) (h : hp) : Option Int32 :=
  (oGI 0 1 (some a0) h).bind fun x1 =>
  (oGI 0 1 a1 h).bind fun x2 =>
  if x1 = x2 then
  (oR (τ := Int32) (σ := Unit)
  (itr (fX1_isSame_B15 a0 a1 h) FU (0 : Int32))
  fun q3 =>
  some ((1 : Int32)))
  else
  some ((0 : Int32))
/-! BrailleDesk$Codes.part -/
def fX1_part_B22 (c0 : Nat) (c1 : (Option Nat)) (a : (Int32 × hp)) : Option ((Int32 × hp) ⊕ hp) :=
  (oGI 0 1 c1 a.2).bind fun x1 =>
  if x1 ≤ a.1 then
  (some (.inr a.2))
  else
  (oOb 0 c1 a.2).bind fun b =>
  (fX1_at b a.1 a.2).bind fun x2 =>
  (oOb 0 (some c0) a.2).bind fun b =>
  o2 (fX1_put b x2 a.2) fun _ h4 =>
  some (.inl (a.1 + (1 : Int32), h4))
def fX1_part (a0 : Nat) (a1 : (Option Nat)) (h : hp) : Option (Unit × hp) :=
  (oGI 0 1 a1 h).bind fun x1 =>
  Option.bind (α := hp)
  (if x1 ≤ 0 then
  (some h)
  else
  (oGI 0 1 (some a0) h).bind fun x4 =>
  if x4 ≤ 0 then
  (some h)
  else
  (oOb 0 (some a0) h).bind fun b =>
  o2 (fX1_put b (32 : Int32) h) fun _ h6 =>
  some h6)
  fun q2 =>
  Option.bind (α := hp)
  (itr (fX1_part_B22 a0 a1) FU ((0 : Int32), q2))
  fun q7 =>
  some (((), q7))
/-! String.isEmpty -/
def fJ0_isEmpty_aae02 (a0 : Nat) : Option Int32 :=
  (oTx a0).bind fun _ =>
  (oTx a0).bind fun _ =>
  if (nI (strL a0)) = 0 then
  (some ((1 : Int32)))
  else
  some ((0 : Int32))
/-! String.coder -/
def fJ0_coder_7d493 (a0 : Nat) : Option Int32 :=
  if (1 : Int32) = 0 then
  (some ((1 : Int32)))
  else
  (oTx a0).bind fun _ =>
  some ((0 : Int32))
/-! String.length -/
def fJ0_length_8abf5 (a0 : Nat) : Option Int32 :=
  (oTx a0).bind fun _ =>
  (oTx a0).bind fun _ =>
  (oTx a0).bind fun _ =>
  (fJ0_coder_7d493 a0).bind fun x1 =>
  some ((nI (strL a0)) >>> (x1 &&& 31))
/-! String.isLatin1 -/
def fJ0_isLatin1_aae02 (a0 : Nat) : Option Int32 :=
  if (1 : Int32) = 0 then
  (some ((0 : Int32)))
  else
  (oTx a0).bind fun _ =>
  if (0 : Int32) = 0 then
  (some ((1 : Int32)))
  else
  some ((0 : Int32))
/-! jdk/internal/util/Preconditions.checkIndex -/
def fJ3_checkIndex_8e157 (a0 : Int32) (a1 : Int32) : Option Int32 :=
  oR (τ := Int32) (σ := Unit)
  (if a0 < 0 then
  (some (.inr ()))
  else
  if a0 < a1 then
  (some (.inl (a0)))
  else
  some (.inr ()))
  fun q1 =>
  none
/-! String.checkIndex -/
def fJ0_checkIndex_df160 (a0 : Int32) (a1 : Int32) : Option Unit :=
  (fJ3_checkIndex_8e157 a0 a1).bind fun x2 =>
  some (())
/-! StringLatin1.charAt -/
def fJ1_charAt_3b067 (a0 : Nat) (a1 : Int32) : Option Int32 :=
  (oTx a0).bind fun _ =>
  (fJ0_checkIndex_df160 a1 (nI (strL a0))).bind fun _ =>
  (oTA a0 a1).bind fun x2 =>
  (oCh (((x2 &&& (255 : Int32)).toUInt32 % 65536).toInt32)).bind fun _ =>
  some (((x2 &&& (255 : Int32)).toUInt32 % 65536).toInt32)
/-! String.charAt -/
def fJ0_charAt_5068e (a0 : Nat) (a1 : Int32) : Option Int32 :=
  (oTx a0).bind fun _ =>
  (fJ0_isLatin1_aae02 a0).bind fun x1 =>
  if x1 = 0 then
  ((oTx a0).bind fun _ =>
  none)
  else
  (oTx a0).bind fun _ =>
  (fJ1_charAt_3b067 a0 a1).bind fun x2 =>
  (oCh x2).bind fun _ =>
  some (x2)
/-! BrailleDesk$Codes.part -/
def fX1_part__B22 (c0 : Nat) (c1 : Nat) (a : (Int32 × hp)) : Option ((Int32 × hp) ⊕ hp) :=
  (oTx c1).bind fun _ =>
  (fJ0_length_8abf5 c1).bind fun x1 =>
  if x1 ≤ a.1 then
  (some (.inr a.2))
  else
  (oTx c1).bind fun _ =>
  (fJ0_charAt_5068e c1 a.1).bind fun x2 =>
  (oOb 0 (some c0) a.2).bind fun b =>
  o2 (fX1_put b x2 a.2) fun _ h4 =>
  some (.inl (a.1 + (1 : Int32), h4))
def fX1_part_ (a0 : Nat) (a1 : Nat) (h : hp) : Option (Unit × hp) :=
  (oTx a1).bind fun _ =>
  (fJ0_isEmpty_aae02 a1).bind fun x1 =>
  Option.bind (α := hp)
  (if x1 = 0 then
  ((oGI 0 1 (some a0) h).bind fun x4 =>
  if x4 ≤ 0 then
  (some h)
  else
  (oOb 0 (some a0) h).bind fun b =>
  o2 (fX1_put b (32 : Int32) h) fun _ h6 =>
  some h6)
  else
  some h)
  fun q2 =>
  Option.bind (α := hp)
  (itr (fX1_part__B22 a0 a1) FU ((0 : Int32), q2))
  fun q7 =>
  some (((), q7))
/-! BrailleDesk$Codes.part -/
def fX1_part__ (a0 : Nat) (a1 : Int32) (h : hp) : Option (Unit × hp) :=
  (oGI 0 1 (some a0) h).bind fun x1 =>
  Option.bind (α := hp)
  (if x1 ≤ 0 then
  (some h)
  else
  (oOb 0 (some a0) h).bind fun b =>
  o2 (fX1_put b (32 : Int32) h) fun _ h5 =>
  some h5)
  fun q2 =>
  Option.bind (α := hp)
  (if a1 < (10 : Int32) then
  (some q2)
  else
  (oNz (10 : Int32)).bind fun _ =>
  (oOb 0 (some a0) q2).bind fun b =>
  o2 (fX1_put b ((48 : Int32) + (a1 / (10 : Int32))) q2) fun _ h9 =>
  some h9)
  fun q6 =>
  (oNz (10 : Int32)).bind fun _ =>
  (oOb 0 (some a0) q6).bind fun b =>
  o2 (fX1_put b ((48 : Int32) + (a1 - a1 / (10 : Int32) * (10 : Int32))) q6) fun _ h11 =>
  some (((), h11))
/-! BrailleDesk$Braille.pointsOf -/
def fX0_pointsOf (a0 : Int32) : Option Int32 :=
  if a0 < 0 then
  (some ((0 : Int32)))
  else
  if (26 : Int32) ≤ a0 then
  (some ((0 : Int32)))
  else
  (oLt a0).bind fun x1 =>
  some (x1)
/-! BrailleDesk$Braille.letterOf -/
def fX0_letterOf_B2 (c0 : Int32) (a : Int32) : Option (Int32 ⊕ (Int32 ⊕ Unit)) :=
  if (26 : Int32) ≤ a then
  (some (.inr (.inr ())))
  else
  (oLt a).bind fun x1 =>
  if x1 = c0 then
  (some (.inr (.inl (a))))
  else
  some (.inl (a + (1 : Int32)))
def fX0_letterOf (a0 : Int32) : Option Int32 :=
  oR (τ := Int32) (σ := Unit)
  (itr (fX0_letterOf_B2 a0) FU (0 : Int32))
  fun q1 =>
  some ((-1 : Int32))
/-! BrailleDesk$Braille.firstPoints -/
def fX0_firstPoints (a0 : Nat) : Option Int32 :=
  (oTx a0).bind fun _ =>
  (fJ0_isEmpty_aae02 a0).bind fun x1 =>
  if x1 = 0 then
  ((oTx a0).bind fun _ =>
  (fJ0_charAt_5068e a0 (0 : Int32)).bind fun x2 =>
  (fX0_pointsOf (x2 - (97 : Int32))).bind fun x3 =>
  some (x3))
  else
  some ((0 : Int32))
/-! BrailleDesk$Braille.signOf -/
def fX0_signOf (a0 : Int32) : Option Int32 :=
  if a0 = 32 then
  (some ((0 : Int32)))
  else
  if a0 = 44 then
  (some ((2 : Int32)))
  else
  if a0 = 45 then
  (some ((36 : Int32)))
  else
  if a0 = 46 then
  (some ((50 : Int32)))
  else
  if a0 = 63 then
  (some ((38 : Int32)))
  else
  some ((63 : Int32))
/-! BrailleDesk$Braille.characterOfSign -/
def fX0_characterOfSign (a0 : Int32) : Option Int32 :=
  if a0 = 2 then
  (some ((44 : Int32)))
  else
  if a0 = 36 then
  (some ((45 : Int32)))
  else
  if a0 = 38 then
  (some ((63 : Int32)))
  else
  if a0 = 50 then
  (some ((46 : Int32)))
  else
  some ((-1 : Int32))
/-! BrailleDesk$Braille.isSmall -/
def fX0_isSmall (a0 : Int32) : Option Int32 :=
  if a0 < (97 : Int32) then
  (some ((0 : Int32)))
  else
  if (122 : Int32) < a0 then
  (some ((0 : Int32)))
  else
  some ((1 : Int32))
/-! BrailleDesk$Braille.isCapital -/
def fX0_isCapital (a0 : Int32) : Option Int32 :=
  if a0 < (65 : Int32) then
  (some ((0 : Int32)))
  else
  if (90 : Int32) < a0 then
  (some ((0 : Int32)))
  else
  some ((1 : Int32))
/-! BrailleDesk$Braille.isDigit -/
def fX0_isDigit (a0 : Int32) : Option Int32 :=
  if a0 < (48 : Int32) then
  (some ((0 : Int32)))
  else
  if (57 : Int32) < a0 then
  (some ((0 : Int32)))
  else
  some ((1 : Int32))
/-! BrailleDesk$Braille.isLetter -/
def fX0_isLetter (a0 : Int32) : Option Int32 :=
  if a0 < (97 : Int32) then
  (if a0 < (65 : Int32) then
  (some ((0 : Int32)))
  else
  if (90 : Int32) < a0 then
  (some ((0 : Int32)))
  else
  some ((1 : Int32)))
  else
  if a0 ≤ (122 : Int32) then
  (some ((1 : Int32)))
  else
  if a0 < (65 : Int32) then
  (some ((0 : Int32)))
  else
  if (90 : Int32) < a0 then
  (some ((0 : Int32)))
  else
  some ((1 : Int32))
/-! BrailleDesk$Braille.capitalSigns -/
def fX0_capitalSigns_B4 (c0 : (Option Nat)) (c1 : Int32) (h : hp) (a : (Int32 × Int32)) : Option ((Int32 × Int32) ⊕ (Int32 × Int32)) :=
  if a.1 ≤ 0 then
  (some (.inr (a.1, a.2)))
  else
  (oOb 0 c0 h).bind fun b =>
  (fX1_at b (a.1 - (1 : Int32)) h).bind fun x1 =>
  (fX0_isLetter x1).bind fun x2 =>
  if x2 = 0 then
  (some (.inr (a.1, a.2)))
  else
  if a.2 = 0 then
  (some (.inl (a.1 + (-1 : Int32), (0 : Int32))))
  else
  (oOb 0 c0 h).bind fun b =>
  (fX1_at b (a.1 + (-1 : Int32)) h).bind fun x3 =>
  (fX0_isCapital x3).bind fun x4 =>
  if x4 = 0 then
  (some (.inl (a.1 + (-1 : Int32), (0 : Int32))))
  else
  some (.inl (a.1 + (-1 : Int32), (1 : Int32)))
def fX0_capitalSigns_B53 (c0 : (Option Nat)) (c1 : Int32) (c2 : Int32) (h : hp) (a : (Int32 × Int32)) : Option ((Int32 × Int32) ⊕ (Int32 × Int32)) :=
  (oOb 0 c0 h).bind fun b =>
  (fX1_size b h).bind fun x1 =>
  if x1 ≤ a.2 then
  (some (.inr (a.1, a.2)))
  else
  (oOb 0 c0 h).bind fun b =>
  (fX1_at b a.2 h).bind fun x2 =>
  (fX0_isLetter x2).bind fun x3 =>
  if x3 = 0 then
  (some (.inr (a.1, a.2)))
  else
  if a.1 = 0 then
  (some (.inl ((0 : Int32), a.2 + (1 : Int32))))
  else
  (oOb 0 c0 h).bind fun b =>
  (fX1_at b a.2 h).bind fun x4 =>
  (fX0_isCapital x4).bind fun x5 =>
  if x5 = 0 then
  (some (.inl ((0 : Int32), a.2 + (1 : Int32))))
  else
  some (.inl ((1 : Int32), a.2 + (1 : Int32)))
def fX0_capitalSigns (a0 : (Option Nat)) (a1 : Int32) (h : hp) : Option Int32 :=
  Option.bind (α := (Int32 × Int32))
  (itr (fX0_capitalSigns_B4 a0 a1 h) FU (a1, (1 : Int32)))
  fun q1 =>
  Option.bind (α := (Int32 × Int32))
  (itr (fX0_capitalSigns_B53 a0 a1 q1.1 h) FU (q1.2, a1 + (1 : Int32)))
  fun q2 =>
  if q2.1 = 0 then
  (some ((1 : Int32)))
  else
  if (2 : Int32) ≤ (q2.2 - q1.1) then
  (if a1 = q1.1 then
  (some ((2 : Int32)))
  else
  some ((0 : Int32)))
  else
  some ((1 : Int32))
/-! BrailleDesk$Braille.write -/
def fX0_write_B83 (c0 : (Option Nat)) (c1 : (Option Nat)) (c2 : Int32) (c3 : Int32) (c5 : Int32) (a : (Int32 × hp)) : Option ((Int32 × hp) ⊕ hp) :=
  if c5 ≤ a.1 then
  (some (.inr a.2))
  else
  (oOb 0 c0 a.2).bind fun b =>
  o2 (fX1_put b (32 : Int32) a.2) fun _ h2 =>
  some (.inl (a.1 + (1 : Int32), h2))
def fX0_write_B2 (c0 : (Option Nat)) (c1 : (Option Nat)) (a : (Int32 × hp)) : Option ((Int32 × hp) ⊕ hp) :=
  (oOb 0 c1 a.2).bind fun b =>
  (fX1_size b a.2).bind fun x1 =>
  if x1 ≤ a.1 then
  (some (.inr a.2))
  else
  (oOb 0 c1 a.2).bind fun b =>
  (fX1_at b a.1 a.2).bind fun x2 =>
  (oOb 0 c1 a.2).bind fun b =>
  (fX1_at b (a.1 - (1 : Int32)) a.2).bind fun x3 =>
  (fX0_isDigit x3).bind fun x4 =>
  (fX0_isSmall x2).bind fun x5 =>
  if x5 = 0 then
  ((fX0_isCapital x2).bind fun x6 =>
  if x6 = 0 then
  ((fX0_isDigit x2).bind fun x7 =>
  if x7 = 0 then
  ((fX0_signOf x2).bind fun x8 =>
  (oOb 0 c0 a.2).bind fun b =>
  o2 (fX1_put b x8 a.2) fun _ h10 =>
  some (.inl (a.1 + (1 : Int32), h10)))
  else
  Option.bind (α := hp)
  (if x4 = 0 then
  ((oOb 0 c0 a.2).bind fun b =>
  o2 (fX1_put b (60 : Int32) a.2) fun _ h14 =>
  some h14)
  else
  some a.2)
  fun q11 =>
  Option.bind (α := Int32)
  (if x2 = (48 : Int32) then
  (some (9 : Int32))
  else
  some (x2 - (49 : Int32)))
  fun q15 =>
  (fX0_pointsOf q15).bind fun x17 =>
  (oOb 0 c0 q11).bind fun b =>
  o2 (fX1_put b x17 q11) fun _ h19 =>
  some (.inl (a.1 + (1 : Int32), h19)))
  else
  (fX0_capitalSigns c1 a.1 a.2).bind fun x20 =>
  Option.bind (α := hp)
  (itr (fX0_write_B83 c0 c1 a.1 x2 x20) FU ((0 : Int32), a.2))
  fun q21 =>
  (fX0_pointsOf (x2 - (65 : Int32))).bind fun x22 =>
  (oOb 0 c0 q21).bind fun b =>
  o2 (fX1_put b x22 q21) fun _ h24 =>
  some (.inl (a.1 + (1 : Int32), h24)))
  else
  Option.bind (α := hp)
  (if (106 : Int32) < x2 then
  (some a.2)
  else
  if x4 = 0 then
  (some a.2)
  else
  (oOb 0 c0 a.2).bind fun b =>
  o2 (fX1_put b (48 : Int32) a.2) fun _ h29 =>
  some h29)
  fun q26 =>
  (fX0_pointsOf (x2 - (97 : Int32))).bind fun x30 =>
  (oOb 0 c0 q26).bind fun b =>
  o2 (fX1_put b x30 q26) fun _ h32 =>
  some (.inl (a.1 + (1 : Int32), h32))
def fX0_write (a0 : (Option Nat)) (a1 : (Option Nat)) (h : hp) : Option (Unit × hp) :=
  Option.bind (α := hp)
  (itr (fX0_write_B2 a0 a1) FU ((0 : Int32), h))
  fun q1 =>
  some (((), q1))
/-! BrailleDesk$Element.levelNow -/
def fX2_levelNow_B2 (h : hp) (a : (Option Nat)) : Option ((Option Nat) ⊕ (Int32 ⊕ Unit)) :=
  if a = none then
  (some (.inr (.inr ())))
  else
  (oGI 1 10 a h).bind fun x1 =>
  if x1 = (-1 : Int32) then
  ((oGR 1 2 a h).bind fun x2 =>
  some (.inl x2))
  else
  (oGI 1 10 a h).bind fun x3 =>
  some (.inr (.inl (x3)))
def fX2_levelNow (a0 : Nat) (h : hp) : Option Int32 :=
  oR (τ := Int32) (σ := Unit)
  (itr (fX2_levelNow_B2 h) FU (some a0))
  fun q1 =>
  some ((1 : Int32))
/-! BrailleDesk$Element.kindWord -/
def fX2_kindWord (a0 : Int32) : Option Nat :=
  if a0 = 0 then
  (some (0))
  else
  if a0 = 2 then
  (some (1))
  else
  if a0 = 3 then
  (some (2))
  else
  if a0 = 4 then
  (some (3))
  else
  if a0 = 5 then
  (some (4))
  else
  if a0 = 6 then
  (some (5))
  else
  if a0 = 7 then
  (some (6))
  else
  some (7)
/-! BrailleDesk$Braille.writeLine -/
def fX0_writeLine (a0 : (Option Nat)) (a1 : (Option Nat)) (a2 : Int32) (h : hp) : Option (Unit × hp) :=
  (oOb 0 a0 h).bind fun b =>
  o2 (fX1_clear b h) fun _ h2 =>
  (oOb 1 a1 h2).bind fun b =>
  (fX2_levelNow b h2).bind fun x3 =>
  Option.bind (α := hp)
  (if x3 = 0 then
  (some h2)
  else
  (oGI 1 1 a1 h2).bind fun x6 =>
  if x6 = (1 : Int32) then
  (some h2)
  else
  (oGI 1 1 a1 h2).bind fun x7 =>
  (fX2_kindWord x7).bind fun x8 =>
  (fX0_firstPoints x8).bind fun x9 =>
  (oOb 0 a0 h2).bind fun b =>
  o2 (fX1_put b (x9 ||| (192 : Int32)) h2) fun _ h11 =>
  some h11)
  fun q4 =>
  (oGR 1 5 a1 q4).bind fun x12 =>
  o2 (fX0_write a0 x12 q4) fun _ h14 =>
  (oGI 1 1 a1 h14).bind fun x15 =>
  Option.bind (α := hp)
  (if x15 = (3 : Int32) then
  ((oOb 0 a0 h14).bind fun b =>
  o2 (fX1_put b (0 : Int32) h14) fun _ h19 =>
  (oGI 1 8 a1 h19).bind fun x20 =>
  if x20 = 0 then
  ((oOb 0 a0 h19).bind fun b =>
  o2 (fX1_put b (36 : Int32) h19) fun _ h22 =>
  some h22)
  else
  (oOb 0 a0 h19).bind fun b =>
  o2 (fX1_put b (63 : Int32) h19) fun _ h24 =>
  some h24)
  else
  some h14)
  fun q16 =>
  (oGR 1 6 a1 q16).bind fun x25 =>
  (oOb 0 x25 q16).bind fun b =>
  (fX1_size b q16).bind fun x26 =>
  Option.bind (α := hp)
  (if x26 ≤ 0 then
  (some q16)
  else
  (oOb 0 a0 q16).bind fun b =>
  o2 (fX1_put b (0 : Int32) q16) fun _ h30 =>
  (oGR 1 6 a1 h30).bind fun x31 =>
  o2 (fX0_write a0 x31 h30) fun _ h33 =>
  some h33)
  fun q27 =>
  (oGI 1 1 a1 q27).bind fun x34 =>
  if x34 = (4 : Int32) then
  (if a2 = 0 then
  (some (((), q27)))
  else
  (oOb 0 a0 q27).bind fun b =>
  o2 (fX1_put b (192 : Int32) q27) fun _ h36 =>
  some (((), h36)))
  else
  some (((), q27))
/-! BrailleDesk$Element.<init> -/
def fX2_init (a0 : Nat) (a1 : Int32) (a2 : Int32) (a3 : (Option Nat)) (h : hp) : Option (Unit × hp) :=
  (oPI 1 0 (some a0) a1 h).bind fun h1 =>
  (oPI 1 1 (some a0) a2 h1).bind fun h2 =>
  (oPR 1 2 (some a0) a3 h2).bind fun h3 =>
  (oPR 1 3 (some a0) (some (hN h3)) (wN h3 (22, 10))).bind fun h4 =>
  o2 (fX1_init (hN h4) (12 : Int32) (wN h4 (1, 0))) fun _ h6 =>
  (oPR 1 5 (some a0) (some (hN h4)) h6).bind fun h7 =>
  Option.bind (α := Int32)
  (if a2 = (4 : Int32) then
  (some (12 : Int32))
  else
  some (0 : Int32))
  fun q8 =>
  o2 (fX1_init (hN h7) q8 (wN h7 (1, 0))) fun _ h11 =>
  (oPR 1 6 (some a0) (some (hN h7)) h11).bind fun h12 =>
  (oPI 1 10 (some a0) (-1 : Int32) h12).bind fun h13 =>
  (oPI 1 11 (some a0) (1 : Int32) h13).bind fun h14 =>
  Option.bind (α := Int32)
  (if a2 = (7 : Int32) then
  (some (80 : Int32))
  else
  some (0 : Int32))
  fun q15 =>
  o2 (fX1_init (hN h14) q15 (wN h14 (1, 0))) fun _ h18 =>
  (oPR 1 12 (some a0) (some (hN h14)) h18).bind fun h19 =>
  some (((), h19))
/-! BrailleDesk$Element.size -/
def fX2_size (a0 : Nat) (h : hp) : Option Int32 :=
  (oGI 1 4 (some a0) h).bind fun x1 =>
  some (x1)
/-! BrailleDesk$Element.child -/
def fX2_child (a0 : Nat) (a1 : Int32) (h : hp) : Option (Option Nat) :=
  if a1 < 0 then
  (some ((none : Option Nat)))
  else
  (oGI 1 4 (some a0) h).bind fun x1 =>
  if x1 ≤ a1 then
  (some ((none : Option Nat)))
  else
  (oGR 1 3 (some a0) h).bind fun x2 =>
  (oLen x2 h).bind fun x3 =>
  if x3 ≤ a1 then
  (some ((none : Option Nat)))
  else
  (oGR 1 3 (some a0) h).bind fun x4 =>
  (oAL 22 x4 a1 h).bind fun x5 =>
  some (x5)
/-! BrailleDesk$Element.shownChild -/
def fX2_shownChild (a0 : Nat) (a1 : Int32) (h : hp) : Option (Option Nat) :=
  Option.bind (α := (Option Nat))
  (if a1 < 0 then
  (some (none : Option Nat))
  else
  (oGI 1 4 (some a0) h).bind fun x3 =>
  if x3 ≤ a1 then
  (some (none : Option Nat))
  else
  (oGR 1 3 (some a0) h).bind fun x4 =>
  (oLen x4 h).bind fun x5 =>
  if x5 ≤ a1 then
  (some (none : Option Nat))
  else
  (oGR 1 3 (some a0) h).bind fun x6 =>
  (oAL 22 x6 a1 h).bind fun x7 =>
  some x7)
  fun q1 =>
  if q1 = none then
  (some ((none : Option Nat)))
  else
  (oGI 1 7 q1 h).bind fun x8 =>
  if x8 = 0 then
  (some (q1))
  else
  some ((none : Option Nat))
/-! BrailleDesk$Element.placeOf -/
def fX2_placeOf_B2 (c0 : Nat) (c1 : (Option Nat)) (h : hp) (a : Int32) : Option (Int32 ⊕ (Int32 ⊕ Unit)) :=
  (oGI 1 4 (some c0) h).bind fun x1 =>
  if x1 ≤ a then
  (some (.inr (.inr ())))
  else
  (oOb 1 (some c0) h).bind fun b =>
  (fX2_child b a h).bind fun x2 =>
  if x2 = c1 then
  (some (.inr (.inl (a))))
  else
  some (.inl (a + (1 : Int32)))
def fX2_placeOf (a0 : Nat) (a1 : (Option Nat)) (h : hp) : Option Int32 :=
  oR (τ := Int32) (σ := Unit)
  (itr (fX2_placeOf_B2 a0 a1 h) FU (0 : Int32))
  fun q1 =>
  some ((-1 : Int32))
/-! BrailleDesk$Element.canHave -/
def fX2_canHave (a0 : Nat) (a1 : Int32) (h : hp) : Option Int32 :=
  (oGI 1 1 (some a0) h).bind fun x1 =>
  if x1 = 0 then
  (if a1 = (6 : Int32) then
  (some ((0 : Int32)))
  else
  some ((1 : Int32)))
  else
  if x1 = 5 then
  (if a1 = (6 : Int32) then
  (some ((1 : Int32)))
  else
  some ((0 : Int32)))
  else
  if x1 = 6 then
  (if a1 = (1 : Int32) then
  (some ((1 : Int32)))
  else
  if a1 = (2 : Int32) then
  (some ((1 : Int32)))
  else
  if a1 = (3 : Int32) then
  (some ((1 : Int32)))
  else
  if a1 = (4 : Int32) then
  (some ((1 : Int32)))
  else
  some ((0 : Int32)))
  else
  if x1 = 7 then
  (if a1 = (6 : Int32) then
  (some ((0 : Int32)))
  else
  some ((1 : Int32)))
  else
  some ((0 : Int32))
/-! BrailleDesk$Element.insert -/
def fX2_insert_B37 (c0 : Nat) (c1 : (Option Nat)) (c2 : Int32) (a : (Int32 × hp)) : Option ((Int32 × hp) ⊕ hp) :=
  if a.1 ≤ c2 then
  (some (.inr a.2))
  else
  (oGR 1 3 (some c0) a.2).bind fun x1 =>
  (oGR 1 3 (some c0) a.2).bind fun x2 =>
  (oAL 22 x2 (a.1 - (1 : Int32)) a.2).bind fun x3 =>
  (oAS 22 2 x1 a.1 x3 a.2).bind fun h4 =>
  some (.inl (a.1 + (-1 : Int32), h4))
def fX2_insert (a0 : Nat) (a1 : (Option Nat)) (a2 : Int32) (h : hp) : Option (Unit × hp) :=
  (oGI 1 4 (some a0) h).bind fun x1 =>
  if x1 < 0 then
  (some (((), h)))
  else
  (oGI 1 4 (some a0) h).bind fun x2 =>
  (oGR 1 3 (some a0) h).bind fun x3 =>
  (oLen x3 h).bind fun x4 =>
  if x4 ≤ x2 then
  (some (((), h)))
  else
  if a2 < 0 then
  (some (((), h)))
  else
  (oGI 1 4 (some a0) h).bind fun x5 =>
  if a2 ≤ x5 then
  ((oGI 1 4 (some a0) h).bind fun x6 =>
  Option.bind (α := hp)
  (itr (fX2_insert_B37 a0 a1 a2) FU (x6, h))
  fun q7 =>
  (oGR 1 3 (some a0) q7).bind fun x8 =>
  (oAS 22 2 x8 a2 a1 q7).bind fun h9 =>
  (oGI 1 4 (some a0) h9).bind fun x10 =>
  (oPI 1 4 (some a0) (x10 + (1 : Int32)) h9).bind fun h11 =>
  some (((), h11)))
  else
  some (((), h))
/-! BrailleDesk$Element.takeOut -/
def fX2_takeOut_B25 (c0 : Nat) (a : (Int32 × hp)) : Option ((Int32 × hp) ⊕ hp) :=
  (oGI 1 4 (some c0) a.2).bind fun x1 =>
  if x1 ≤ (a.1 + (1 : Int32)) then
  (some (.inr a.2))
  else
  (oGR 1 3 (some c0) a.2).bind fun x2 =>
  (oGR 1 3 (some c0) a.2).bind fun x3 =>
  (oAL 22 x3 (a.1 + (1 : Int32)) a.2).bind fun x4 =>
  (oAS 22 2 x2 a.1 x4 a.2).bind fun h5 =>
  some (.inl (a.1 + (1 : Int32), h5))
def fX2_takeOut (a0 : Nat) (a1 : (Option Nat)) (h : hp) : Option (Unit × hp) :=
  (oOb 1 (some a0) h).bind fun b =>
  (fX2_placeOf b a1 h).bind fun x1 =>
  if x1 < 0 then
  (some (((), h)))
  else
  (oGI 1 4 (some a0) h).bind fun x2 =>
  (oGR 1 3 (some a0) h).bind fun x3 =>
  (oLen x3 h).bind fun x4 =>
  if x2 ≤ x4 then
  (Option.bind (α := hp)
  (itr (fX2_takeOut_B25 a0) FU (x1, h))
  fun q5 =>
  (oGI 1 4 (some a0) q5).bind fun x6 =>
  (oPI 1 4 (some a0) (x6 - (1 : Int32)) q5).bind fun h7 =>
  some (((), h7)))
  else
  some (((), h))
/-! BrailleDesk$Element.isWithin -/
def fX2_isWithin_B2 (c1 : (Option Nat)) (h : hp) (a : (Option Nat)) : Option ((Option Nat) ⊕ (Int32 ⊕ Unit)) :=
  if a = none then
  (some (.inr (.inr ())))
  else
  if a = c1 then
  (some (.inr (.inl ((1 : Int32)))))
  else
  (oGR 1 2 a h).bind fun x1 =>
  some (.inl x1)
def fX2_isWithin (a0 : Nat) (a1 : (Option Nat)) (h : hp) : Option Int32 :=
  oR (τ := Int32) (σ := Unit)
  (itr (fX2_isWithin_B2 a1 h) FU (some a0))
  fun q1 =>
  some ((0 : Int32))
/-! BrailleDesk$Element.isShownNow -/
def fX2_isShownNow_B2 (h : hp) (a : (Option Nat)) : Option ((Option Nat) ⊕ (Int32 ⊕ Unit)) :=
  if a = none then
  (some (.inr (.inr ())))
  else
  (oGI 1 7 a h).bind fun x1 =>
  if x1 = 0 then
  ((oGR 1 2 a h).bind fun x2 =>
  some (.inl x2))
  else
  some (.inr (.inl ((0 : Int32))))
def fX2_isShownNow (a0 : Nat) (h : hp) : Option Int32 :=
  oR (τ := Int32) (σ := Unit)
  (itr (fX2_isShownNow_B2 h) FU (some a0))
  fun q1 =>
  some ((1 : Int32))
/-! BrailleDesk$Element.region -/
def fX2_region_B5 (h : hp) (a : (Option Nat)) : Option ((Option Nat) ⊕ ((Option Nat) ⊕ Unit)) :=
  if a = none then
  (some (.inr (.inr ())))
  else
  (oGI 1 1 a h).bind fun x1 =>
  if x1 = (7 : Int32) then
  (some (.inr (.inl (a))))
  else
  (oGR 1 2 a h).bind fun x2 =>
  some (.inl x2)
def fX2_region (a0 : Nat) (h : hp) : Option (Option Nat) :=
  (oGR 1 2 (some a0) h).bind fun x1 =>
  oR (τ := (Option Nat)) (σ := Unit)
  (itr (fX2_region_B5 h) FU x1)
  fun q2 =>
  some ((none : Option Nat))
/-! BrailleDesk$Element.canHaveFocus -/
def fX2_canHaveFocus (a0 : Nat) (h : hp) : Option Int32 :=
  (oGI 1 1 (some a0) h).bind fun x1 =>
  if x1 = (2 : Int32) then
  (some ((1 : Int32)))
  else
  (oGI 1 1 (some a0) h).bind fun x2 =>
  if x2 = (3 : Int32) then
  (some ((1 : Int32)))
  else
  (oGI 1 1 (some a0) h).bind fun x3 =>
  if x3 = (4 : Int32) then
  (some ((1 : Int32)))
  else
  some ((0 : Int32))
/-! BrailleDesk$Element.refuge -/
def fX2_refuge_B22 (c0 : Nat) (c1 : Int32) (h : hp) (a : Int32) : Option (Int32 ⊕ ((Option Nat) ⊕ Unit)) :=
  (oGR 1 2 (some c0) h).bind fun x1 =>
  (oOb 1 x1 h).bind fun b =>
  (fX2_size b h).bind fun x2 =>
  if x2 ≤ a then
  (some (.inr (.inr ())))
  else
  (oGR 1 2 (some c0) h).bind fun x3 =>
  (oOb 1 x3 h).bind fun b =>
  (fX2_shownChild b a h).bind fun x4 =>
  if x4 = none then
  (some (.inl (a + (1 : Int32))))
  else
  some (.inr (.inl (x4)))
def fX2_refuge_B58 (c0 : Nat) (h : hp) (a : Int32) : Option (Int32 ⊕ ((Option Nat) ⊕ Unit)) :=
  if a < 0 then
  (some (.inr (.inr ())))
  else
  (oGR 1 2 (some c0) h).bind fun x1 =>
  (oOb 1 x1 h).bind fun b =>
  (fX2_shownChild b a h).bind fun x2 =>
  if x2 = none then
  (some (.inl (a + (-1 : Int32))))
  else
  some (.inr (.inl (x2)))
def fX2_refuge (a0 : Nat) (h : hp) : Option (Option Nat) :=
  (oGR 1 2 (some a0) h).bind fun x1 =>
  if x1 = none then
  (some (some a0))
  else
  (oGR 1 2 (some a0) h).bind fun x2 =>
  (oOb 1 x2 h).bind fun b =>
  (fX2_placeOf b (some a0) h).bind fun x3 =>
  oR (τ := (Option Nat)) (σ := Unit)
  (itr (fX2_refuge_B22 a0 x3 h) FU (x3 + (1 : Int32)))
  fun q4 =>
  oR (τ := (Option Nat)) (σ := Unit)
  (itr (fX2_refuge_B58 a0 h) FU (x3 - (1 : Int32)))
  fun q5 =>
  (oGR 1 2 (some a0) h).bind fun x6 =>
  some (x6)
/-! BrailleDesk$Element.shownUpTo -/
def fX2_shownUpTo_B4 (c0 : Nat) (c1 : Int32) (h : hp) (a : (Int32 × Int32)) : Option ((Int32 × Int32) ⊕ Int32) :=
  if c1 < a.2 then
  (some (.inr a.1))
  else
  (oGI 1 4 (some c0) h).bind fun x1 =>
  if x1 ≤ a.2 then
  (some (.inr a.1))
  else
  (oOb 1 (some c0) h).bind fun b =>
  (fX2_shownChild b a.2 h).bind fun x2 =>
  if x2 = none then
  (some (.inl (a.1, a.2 + (1 : Int32))))
  else
  some (.inl (a.1 + (1 : Int32), a.2 + (1 : Int32)))
def fX2_shownUpTo (a0 : Nat) (a1 : Int32) (h : hp) : Option Int32 :=
  Option.bind (α := Int32)
  (itr (fX2_shownUpTo_B4 a0 a1 h) FU ((0 : Int32), (0 : Int32)))
  fun q1 =>
  some (q1)
/-! BrailleDesk$Element.putWords -/
def fX2_putWords (a0 : Nat) (a1 : (Option Nat)) (h : hp) : Option (Unit × hp) :=
  (oOb 1 (some a0) h).bind fun b =>
  (fX2_levelNow b h).bind fun x1 =>
  (oGR 1 5 (some a0) h).bind fun x2 =>
  (oOb 0 a1 h).bind fun b =>
  o2 (fX1_part b x2 h) fun _ h4 =>
  Option.bind (α := hp)
  (if x1 = 0 then
  ((oGR 1 5 (some a0) h4).bind fun x11 =>
  (oOb 0 x11 h4).bind fun b =>
  (fX1_size b h4).bind fun x12 =>
  if x12 = 0 then
  ((oGI 1 1 (some a0) h4).bind fun x13 =>
  (fX2_kindWord x13).bind fun x14 =>
  (oOb 0 a1 h4).bind fun b =>
  o2 (fX1_part_ b x14 h4) fun _ h16 =>
  some h16)
  else
  some h4)
  else
  (oGI 1 1 (some a0) h4).bind fun x7 =>
  (fX2_kindWord x7).bind fun x8 =>
  (oOb 0 a1 h4).bind fun b =>
  o2 (fX1_part_ b x8 h4) fun _ h10 =>
  some h10)
  fun q5 =>
  (oGI 1 1 (some a0) q5).bind fun x17 =>
  Option.bind (α := hp)
  (if x17 = (3 : Int32) then
  ((oGI 1 8 (some a0) q5).bind fun x20 =>
  if x20 = 0 then
  ((oOb 0 a1 q5).bind fun b =>
  o2 (fX1_part_ b 15 q5) fun _ h22 =>
  some h22)
  else
  (oOb 0 a1 q5).bind fun b =>
  o2 (fX1_part_ b 14 q5) fun _ h24 =>
  some h24)
  else
  some q5)
  fun q18 =>
  (oGR 1 6 (some a0) q18).bind fun x25 =>
  (oOb 0 a1 q18).bind fun b =>
  o2 (fX1_part b x25 q18) fun _ h27 =>
  if x1 = (2 : Int32) then
  ((oGR 1 2 (some a0) h27).bind fun x28 =>
  if x28 = none then
  (some (((), h27)))
  else
  (oGR 1 2 (some a0) h27).bind fun x29 =>
  (oGR 1 2 (some a0) h27).bind fun x30 =>
  (oOb 1 x30 h27).bind fun b =>
  (fX2_placeOf b (some a0) h27).bind fun x31 =>
  (oOb 1 x29 h27).bind fun b =>
  (fX2_shownUpTo b x31 h27).bind fun x32 =>
  (oOb 0 a1 h27).bind fun b =>
  o2 (fX1_part__ b x32 h27) fun _ h34 =>
  (oOb 0 a1 h34).bind fun b =>
  o2 (fX1_part_ b 16 h34) fun _ h36 =>
  (oGR 1 2 (some a0) h36).bind fun x37 =>
  (oOb 1 x37 h36).bind fun b =>
  (fX2_shownUpTo b (10 : Int32) h36).bind fun x38 =>
  (oOb 0 a1 h36).bind fun b =>
  o2 (fX1_part__ b x38 h36) fun _ h40 =>
  some (((), h40)))
  else
  some (((), h27))
/-! BrailleDesk$Queue.<init> -/
def fX4_init_B22 (c0 : Nat) (a : (Int32 × hp)) : Option ((Int32 × hp) ⊕ hp) :=
  (oGR 3 0 (some c0) a.2).bind fun x1 =>
  (oLen x1 a.2).bind fun x2 =>
  if x2 ≤ a.1 then
  (some (.inr a.2))
  else
  (oGR 3 0 (some c0) a.2).bind fun x3 =>
  o2 (fX1_init (hN a.2) (80 : Int32) (wN a.2 (1, 0))) fun _ h5 =>
  (oAS 23 1 x3 a.1 (some (hN a.2)) h5).bind fun h6 =>
  some (.inl (a.1 + (1 : Int32), h6))
def fX4_init (a0 : Nat) (a1 : Int32) (h : hp) : Option (Unit × hp) :=
  Option.bind (α := Int32)
  (if 0 ≤ a1 then
  (some a1)
  else
  some (0 : Int32))
  fun q1 =>
  (oNm q1).bind fun n3 =>
  (oPR 3 0 (some a0) (some (hN h)) (wN h (23, n3))).bind fun h4 =>
  Option.bind (α := hp)
  (itr (fX4_init_B22 a0) 22 ((0 : Int32), h4))
  fun q5 =>
  some (((), q5))
/-! BrailleDesk$Queue.size -/
def fX4_size (a0 : Nat) (h : hp) : Option Int32 :=
  (oGI 3 1 (some a0) h).bind fun x1 =>
  some (x1)
/-! BrailleDesk$Queue.clear -/
def fX4_clear (a0 : Nat) (h : hp) : Option (Unit × hp) :=
  (oPI 3 1 (some a0) (0 : Int32) h).bind fun h1 =>
  some (((), h1))
/-! BrailleDesk$Queue.put -/
def fX4_put (a0 : Nat) (a1 : (Option Nat)) (h : hp) : Option (Unit × hp) :=
  (oGI 3 1 (some a0) h).bind fun x1 =>
  Option.bind (α := (Option Nat))
  (if x1 < 0 then
  (some (none : Option Nat))
  else
  (oGI 3 1 (some a0) h).bind fun x4 =>
  (oGR 3 0 (some a0) h).bind fun x5 =>
  (oLen x5 h).bind fun x6 =>
  if x6 ≤ x4 then
  (some (none : Option Nat))
  else
  (oGR 3 0 (some a0) h).bind fun x7 =>
  (oGI 3 1 (some a0) h).bind fun x8 =>
  (oAL 23 x7 x8 h).bind fun x9 =>
  some x9)
  fun q2 =>
  if q2 = none then
  (some (((), h)))
  else
  (oOb 0 q2 h).bind fun b =>
  o2 (fX1_copy b a1 h) fun _ h11 =>
  (oGI 3 1 (some a0) h11).bind fun x12 =>
  (oPI 3 1 (some a0) (x12 + (1 : Int32)) h11).bind fun h13 =>
  some (((), h13))
/-! BrailleDesk$Queue.dropFirst -/
def fX4_dropFirst_B29 (c0 : Nat) (c1 : (Option Nat)) (a : (Int32 × hp)) : Option ((Int32 × hp) ⊕ hp) :=
  (oGR 3 0 (some c0) a.2).bind fun x1 =>
  (oLen x1 a.2).bind fun x2 =>
  if x2 ≤ (a.1 + (1 : Int32)) then
  (some (.inr a.2))
  else
  (oGR 3 0 (some c0) a.2).bind fun x3 =>
  (oGR 3 0 (some c0) a.2).bind fun x4 =>
  (oAL 23 x4 (a.1 + (1 : Int32)) a.2).bind fun x5 =>
  (oAS 23 1 x3 a.1 x5 a.2).bind fun h6 =>
  some (.inl (a.1 + (1 : Int32), h6))
def fX4_dropFirst (a0 : Nat) (h : hp) : Option (Unit × hp) :=
  (oGI 3 1 (some a0) h).bind fun x1 =>
  if x1 ≤ 0 then
  (some (((), h)))
  else
  (oGI 3 1 (some a0) h).bind fun x2 =>
  (oGR 3 0 (some a0) h).bind fun x3 =>
  (oLen x3 h).bind fun x4 =>
  if x2 ≤ x4 then
  ((oGR 3 0 (some a0) h).bind fun x5 =>
  (oAL 23 x5 (0 : Int32) h).bind fun x6 =>
  Option.bind (α := hp)
  (itr (fX4_dropFirst_B29 a0 x6) FU ((0 : Int32), h))
  fun q7 =>
  (oGR 3 0 (some a0) q7).bind fun x8 =>
  (oGR 3 0 (some a0) q7).bind fun x9 =>
  (oLen x9 q7).bind fun x10 =>
  (oAS 23 1 x8 (x10 - (1 : Int32)) x6 q7).bind fun h11 =>
  (oGI 3 1 (some a0) h11).bind fun x12 =>
  (oPI 3 1 (some a0) (x12 - (1 : Int32)) h11).bind fun h13 =>
  some (((), h13)))
  else
  some (((), h))
/-! BrailleDesk$Queue.moveFirst -/
def fX4_moveFirst (a0 : Nat) (a1 : (Option Nat)) (h : hp) : Option (Unit × hp) :=
  (oGR 3 0 (some a0) h).bind fun x1 =>
  (oLen x1 h).bind fun x2 =>
  Option.bind (α := (Option Nat))
  (if x2 ≤ 0 then
  (some (none : Option Nat))
  else
  (oGR 3 0 (some a0) h).bind fun x5 =>
  (oAL 23 x5 (0 : Int32) h).bind fun x6 =>
  some x6)
  fun q3 =>
  Option.bind (α := hp)
  (if q3 = none then
  (some h)
  else
  (oOb 0 a1 h).bind fun b =>
  o2 (fX1_copy b q3 h) fun _ h10 =>
  some h10)
  fun q7 =>
  (oOb 3 (some a0) q7).bind fun b =>
  o2 (fX4_dropFirst b q7) fun _ h12 =>
  some (((), h12))
/-! BrailleDesk$Pins.<init> -/
def fX3_init (a0 : Nat) (h : hp) : Option (Unit × hp) :=
  o2 (fX1_init (hN h) (64 : Int32) (wN h (1, 0))) fun _ h2 =>
  (oPR 2 0 (some a0) (some (hN h)) h2).bind fun h3 =>
  o2 (fX1_init (hN h3) (64 : Int32) (wN h3 (1, 0))) fun _ h5 =>
  (oPR 2 1 (some a0) (some (hN h3)) h5).bind fun h6 =>
  some (((), h6))
/-! BrailleDesk$Pins.keep -/
def fX3_keep (a0 : Nat) (a1 : (Option Nat)) (a2 : Int32) (h : hp) : Option (Unit × hp) :=
  (oGR 2 0 (some a0) h).bind fun x1 =>
  o2 (fX0_writeLine x1 a1 a2 h) fun _ h3 =>
  (oGI 2 2 (some a0) h3).bind fun x4 =>
  if x4 ≤ 0 then
  (some (((), h3)))
  else
  (oGI 2 2 (some a0) h3).bind fun x5 =>
  (oGR 2 0 (some a0) h3).bind fun x6 =>
  (oOb 0 x6 h3).bind fun b =>
  (fX1_size b h3).bind fun x7 =>
  if x5 < x7 then
  (some (((), h3)))
  else
  (oGR 2 0 (some a0) h3).bind fun x8 =>
  (oOb 0 x8 h3).bind fun b =>
  (fX1_size b h3).bind fun x9 =>
  if x9 ≤ 0 then
  ((oPI 2 2 (some a0) (0 : Int32) h3).bind fun h10 =>
  some (((), h10)))
  else
  (oGR 2 0 (some a0) h3).bind fun x11 =>
  (oOb 0 x11 h3).bind fun b =>
  (fX1_size b h3).bind fun x12 =>
  (oNz (10 : Int32)).bind fun _ =>
  (oPI 2 2 (some a0) (((x12 - (1 : Int32)) / (10 : Int32)) * (10 : Int32)) h3).bind fun h13 =>
  some (((), h13))
/-! BrailleDesk$Pins.goLeft -/
def fX3_goLeft (a0 : Nat) (h : hp) : Option (Unit × hp) :=
  (oGI 2 2 (some a0) h).bind fun x1 =>
  if x1 ≤ 0 then
  (some (((), h)))
  else
  (oGI 2 2 (some a0) h).bind fun x2 =>
  (oPI 2 2 (some a0) (x2 - (10 : Int32)) h).bind fun h3 =>
  some (((), h3))
/-! BrailleDesk$Pins.goRight -/
def fX3_goRight (a0 : Nat) (h : hp) : Option (Unit × hp) :=
  (oGI 2 2 (some a0) h).bind fun x1 =>
  (oGR 2 0 (some a0) h).bind fun x2 =>
  (oOb 0 x2 h).bind fun b =>
  (fX1_size b h).bind fun x3 =>
  if x3 ≤ (x1 + (10 : Int32)) then
  (some (((), h)))
  else
  (oGI 2 2 (some a0) h).bind fun x4 =>
  (oPI 2 2 (some a0) (x4 + (10 : Int32)) h).bind fun h5 =>
  some (((), h5))
/-! BrailleDesk$Pins.cellOf -/
def fX3_cellOf (a0 : Nat) (a1 : (Option Nat)) (a2 : Int32) (h : hp) : Option Int32 :=
  (oGI 2 2 (some a0) h).bind fun x1 =>
  (oOb 0 a1 h).bind fun b =>
  (fX1_size b h).bind fun x2 =>
  if x2 ≤ (x1 + a2) then
  (some ((0 : Int32)))
  else
  (oOb 0 a1 h).bind fun b =>
  (fX1_at b (x1 + a2) h).bind fun x3 =>
  some (x3)
/-! BrailleDesk$Pins.cell -/
def fX3_cell (a0 : Nat) (a1 : Int32) (h : hp) : Option Int32 :=
  (oGR 2 0 (some a0) h).bind fun x1 =>
  (oOb 2 (some a0) h).bind fun b =>
  (fX3_cellOf b x1 a1 h).bind fun x2 =>
  some (x2)
/-! BrailleDesk$Pins.cellAnew -/
def fX3_cellAnew (a0 : Nat) (a1 : (Option Nat)) (a2 : Int32) (a3 : Int32) (h : hp) : Option (Int32 × hp) :=
  (oGR 2 1 (some a0) h).bind fun x1 =>
  o2 (fX0_writeLine x1 a1 a2 h) fun _ h3 =>
  (oGR 2 1 (some a0) h3).bind fun x4 =>
  (oOb 2 (some a0) h3).bind fun b =>
  (fX3_cellOf b x4 a3 h3).bind fun x5 =>
  some ((x5, h3))
/-! BrailleDesk$Voice.<init> -/
def fX9_init (a0 : Nat) (h : hp) : Option (Unit × hp) :=
  o2 (fX4_init (hN h) (6 : Int32) (wN h (4, 0))) fun _ h2 =>
  (oPR 8 0 (some a0) (some (hN h)) h2).bind fun h3 =>
  o2 (fX4_init (hN h3) (21 : Int32) (wN h3 (4, 0))) fun _ h5 =>
  (oPR 8 1 (some a0) (some (hN h3)) h5).bind fun h6 =>
  o2 (fX1_init (hN h6) (80 : Int32) (wN h6 (1, 0))) fun _ h8 =>
  (oPR 8 2 (some a0) (some (hN h6)) h8).bind fun h9 =>
  o2 (fX1_init (hN h9) (80 : Int32) (wN h9 (1, 0))) fun _ h11 =>
  (oPR 8 5 (some a0) (some (hN h9)) h11).bind fun h12 =>
  (oPI 8 7 (some a0) (-1 : Int32) h12).bind fun h13 =>
  (oPR 8 8 (some a0) (some (hN h13)) (wN h13 (20, 100))).bind fun h14 =>
  some (((), h14))
/-! BrailleDesk$Voice.countWaiting -/
def fX9_countWaiting (a0 : Nat) (a1 : Int32) (h : hp) : Option Int32 :=
  if a1 = 0 then
  ((oGR 8 0 (some a0) h).bind fun x1 =>
  (oOb 3 x1 h).bind fun b =>
  (fX4_size b h).bind fun x2 =>
  some (x2))
  else
  if a1 = 1 then
  ((oGI 8 4 (some a0) h).bind fun x3 =>
  if x3 = 0 then
  (some ((0 : Int32)))
  else
  some ((1 : Int32)))
  else
  (oGR 8 1 (some a0) h).bind fun x4 =>
  (oOb 3 x4 h).bind fun b =>
  (fX4_size b h).bind fun x5 =>
  some (x5)
/-! BrailleDesk$Voice.comeNews -/
def fX9_comeNews (a0 : Nat) (a1 : (Option Nat)) (h : hp) : Option (Unit × hp) :=
  (oOb 0 a1 h).bind fun b =>
  (fX1_size b h).bind fun x1 =>
  if x1 = 0 then
  (some (((), h)))
  else
  (oGR 8 0 (some a0) h).bind fun x2 =>
  (oOb 3 x2 h).bind fun b =>
  o2 (fX4_put b a1 h) fun _ h4 =>
  (oGR 8 0 (some a0) h4).bind fun x5 =>
  (oOb 3 x5 h4).bind fun b =>
  (fX4_size b h4).bind fun x6 =>
  if x6 < (6 : Int32) then
  (some (((), h4)))
  else
  (oGR 8 0 (some a0) h4).bind fun x7 =>
  (oOb 3 x7 h4).bind fun b =>
  o2 (fX4_dropFirst b h4) fun _ h9 =>
  (oGI 8 10 (some a0) h9).bind fun x10 =>
  (oPI 8 10 (some a0) (x10 + (1 : Int32)) h9).bind fun h11 =>
  some (((), h11))
/-! BrailleDesk$Voice.dropAnswerThatWaits -/
def fX9_dropAnswerThatWaits (a0 : Nat) (h : hp) : Option (Unit × hp) :=
  (oGI 8 4 (some a0) h).bind fun x1 =>
  if x1 = 0 then
  (some (((), h)))
  else
  (oPZ 8 4 (some a0) (0 : Int32) h).bind fun h2 =>
  (oGI 8 10 (some a0) h2).bind fun x3 =>
  (oPI 8 10 (some a0) (x3 + (1 : Int32)) h2).bind fun h4 =>
  some (((), h4))
/-! BrailleDesk$Voice.dropSpokenBelowAlert -/
def fX9_dropSpokenBelowAlert (a0 : Nat) (h : hp) : Option (Unit × hp) :=
  (oGI 8 7 (some a0) h).bind fun x1 =>
  if x1 = 0 then
  ((oPI 8 7 (some a0) (-1 : Int32) h).bind fun h2 =>
  (oGI 8 10 (some a0) h2).bind fun x3 =>
  (oPI 8 10 (some a0) (x3 + (1 : Int32)) h2).bind fun h4 =>
  some (((), h4)))
  else
  (oGI 8 7 (some a0) h).bind fun x5 =>
  if x5 = (1 : Int32) then
  ((oPI 8 7 (some a0) (-1 : Int32) h).bind fun h6 =>
  (oGI 8 10 (some a0) h6).bind fun x7 =>
  (oPI 8 10 (some a0) (x7 + (1 : Int32)) h6).bind fun h8 =>
  some (((), h8)))
  else
  some (((), h))
/-! BrailleDesk$Voice.comeAnswer -/
def fX9_comeAnswer (a0 : Nat) (a1 : (Option Nat)) (h : hp) : Option (Unit × hp) :=
  (oOb 0 a1 h).bind fun b =>
  (fX1_size b h).bind fun x1 =>
  if x1 = 0 then
  (some (((), h)))
  else
  (oOb 8 (some a0) h).bind fun b =>
  o2 (fX9_dropAnswerThatWaits b h) fun _ h3 =>
  (oOb 8 (some a0) h3).bind fun b =>
  o2 (fX9_dropSpokenBelowAlert b h3) fun _ h5 =>
  (oGR 8 2 (some a0) h5).bind fun x6 =>
  (oOb 0 x6 h5).bind fun b =>
  o2 (fX1_copy b a1 h5) fun _ h8 =>
  (oPI 8 3 (some a0) (0 : Int32) h8).bind fun h9 =>
  (oPZ 8 4 (some a0) (1 : Int32) h9).bind fun h10 =>
  some (((), h10))
/-! BrailleDesk$Voice.wordStart -/
def fX9_wordStart_B2 (c0 : (Option Nat)) (c1 : Int32) (h : hp) (a : Int32) : Option (Int32 ⊕ Int32) :=
  if a ≤ 0 then
  (some (.inr a))
  else
  (oOb 0 c0 h).bind fun b =>
  (fX1_at b c1 h).bind fun x1 =>
  if x1 = (32 : Int32) then
  (some (.inr a))
  else
  (oOb 0 c0 h).bind fun b =>
  (fX1_at b (a - (1 : Int32)) h).bind fun x2 =>
  if x2 = (32 : Int32) then
  (some (.inr a))
  else
  some (.inl (a + (-1 : Int32)))
def fX9_wordStart (a0 : (Option Nat)) (a1 : Int32) (h : hp) : Option Int32 :=
  Option.bind (α := Int32)
  (itr (fX9_wordStart_B2 a0 a1 h) FU a1)
  fun q1 =>
  some (q1)
/-! BrailleDesk$Voice.comeAlert -/
def fX9_comeAlert (a0 : Nat) (a1 : (Option Nat)) (h : hp) : Option (Unit × hp) :=
  (oOb 0 a1 h).bind fun b =>
  (fX1_size b h).bind fun x1 =>
  if x1 = 0 then
  (some (((), h)))
  else
  (oGR 8 1 (some a0) h).bind fun x2 =>
  (oOb 3 x2 h).bind fun b =>
  o2 (fX4_put b a1 h) fun _ h4 =>
  (oGI 8 7 (some a0) h4).bind fun x5 =>
  if x5 = 0 then
  ((oOb 8 (some a0) h4).bind fun b =>
  o2 (fX9_dropSpokenBelowAlert b h4) fun _ h18 =>
  some (((), h18)))
  else
  (oGI 8 7 (some a0) h4).bind fun x6 =>
  if x6 = (1 : Int32) then
  ((oGR 8 2 (some a0) h4).bind fun x7 =>
  (oGR 8 5 (some a0) h4).bind fun x8 =>
  (oOb 0 x7 h4).bind fun b =>
  o2 (fX1_copy b x8 h4) fun _ h10 =>
  (oGR 8 5 (some a0) h10).bind fun x11 =>
  (oGI 8 6 (some a0) h10).bind fun x12 =>
  (fX9_wordStart x11 x12 h10).bind fun x13 =>
  (oPI 8 3 (some a0) x13 h10).bind fun h14 =>
  (oPZ 8 4 (some a0) (1 : Int32) h14).bind fun h15 =>
  (oPI 8 7 (some a0) (-1 : Int32) h15).bind fun h16 =>
  some (((), h16)))
  else
  some (((), h4))
/-! BrailleDesk$Voice.hush -/
def fX9_hush (a0 : Nat) (h : hp) : Option (Unit × hp) :=
  (oGI 8 10 (some a0) h).bind fun x1 =>
  (oGR 8 0 (some a0) h).bind fun x2 =>
  (oOb 3 x2 h).bind fun b =>
  (fX4_size b h).bind fun x3 =>
  (oPI 8 10 (some a0) (x1 + x3) h).bind fun h4 =>
  (oGR 8 0 (some a0) h4).bind fun x5 =>
  (oOb 3 x5 h4).bind fun b =>
  o2 (fX4_clear b h4) fun _ h7 =>
  (oOb 8 (some a0) h7).bind fun b =>
  o2 (fX9_dropAnswerThatWaits b h7) fun _ h9 =>
  (oOb 8 (some a0) h9).bind fun b =>
  o2 (fX9_dropSpokenBelowAlert b h9) fun _ h11 =>
  some (((), h11))
/-! BrailleDesk$Voice.begin -/
def fX9_begin (a0 : Nat) (h : hp) : Option (Unit × hp) :=
  (oPI 8 6 (some a0) (0 : Int32) h).bind fun h1 =>
  (oGR 8 1 (some a0) h1).bind fun x2 =>
  (oOb 3 x2 h1).bind fun b =>
  (fX4_size b h1).bind fun x3 =>
  if x3 ≤ 0 then
  ((oGI 8 4 (some a0) h1).bind fun x4 =>
  if x4 = 0 then
  ((oGR 8 0 (some a0) h1).bind fun x5 =>
  (oOb 3 x5 h1).bind fun b =>
  (fX4_size b h1).bind fun x6 =>
  if x6 ≤ 0 then
  (some (((), h1)))
  else
  (oGR 8 0 (some a0) h1).bind fun x7 =>
  (oGR 8 5 (some a0) h1).bind fun x8 =>
  (oOb 3 x7 h1).bind fun b =>
  o2 (fX4_moveFirst b x8 h1) fun _ h10 =>
  (oPI 8 7 (some a0) (0 : Int32) h10).bind fun h11 =>
  some (((), h11)))
  else
  (oGR 8 5 (some a0) h1).bind fun x12 =>
  (oGR 8 2 (some a0) h1).bind fun x13 =>
  (oOb 0 x12 h1).bind fun b =>
  o2 (fX1_copy b x13 h1) fun _ h15 =>
  (oGI 8 3 (some a0) h15).bind fun x16 =>
  (oPI 8 6 (some a0) x16 h15).bind fun h17 =>
  (oPZ 8 4 (some a0) (0 : Int32) h17).bind fun h18 =>
  (oPI 8 7 (some a0) (1 : Int32) h18).bind fun h19 =>
  some (((), h19)))
  else
  (oGR 8 1 (some a0) h1).bind fun x20 =>
  (oGR 8 5 (some a0) h1).bind fun x21 =>
  (oOb 3 x20 h1).bind fun b =>
  o2 (fX4_moveFirst b x21 h1) fun _ h23 =>
  (oPI 8 7 (some a0) (2 : Int32) h23).bind fun h24 =>
  some (((), h24))
/-! BrailleDesk$Voice.speak -/
def fX9_speak (a0 : Nat) (h : hp) : Option (Unit × hp) :=
  (oGI 8 7 (some a0) h).bind fun x1 =>
  Option.bind (α := hp)
  (if x1 = (-1 : Int32) then
  ((oOb 8 (some a0) h).bind fun b =>
  o2 (fX9_begin b h) fun _ h5 =>
  some h5)
  else
  some h)
  fun q2 =>
  (oGI 8 7 (some a0) q2).bind fun x6 =>
  if x6 = (-1 : Int32) then
  (some (((), q2)))
  else
  (oGI 8 9 (some a0) q2).bind fun x7 =>
  (oNz (100 : Int32)).bind fun _ =>
  Option.bind (α := hp)
  (if (x7 - x7 / (100 : Int32) * (100 : Int32)) < 0 then
  (some q2)
  else
  (oGR 8 8 (some a0) q2).bind fun x10 =>
  (oLen x10 q2).bind fun x11 =>
  if x11 ≤ (x7 - x7 / (100 : Int32) * (100 : Int32)) then
  (some q2)
  else
  (oGR 8 8 (some a0) q2).bind fun x12 =>
  (oGR 8 5 (some a0) q2).bind fun x13 =>
  (oGI 8 6 (some a0) q2).bind fun x14 =>
  (oOb 0 x13 q2).bind fun b =>
  (fX1_at b x14 q2).bind fun x15 =>
  (oIS x12 (x7 - x7 / (100 : Int32) * (100 : Int32)) x15 q2).bind fun h16 =>
  some h16)
  fun q8 =>
  (oGI 8 9 (some a0) q8).bind fun x17 =>
  (oPI 8 9 (some a0) (x17 + (1 : Int32)) q8).bind fun h18 =>
  (oGI 8 6 (some a0) h18).bind fun x19 =>
  (oPI 8 6 (some a0) (x19 + (1 : Int32)) h18).bind fun h20 =>
  (oGI 8 6 (some a0) h20).bind fun x21 =>
  (oGR 8 5 (some a0) h20).bind fun x22 =>
  (oOb 0 x22 h20).bind fun b =>
  (fX1_size b h20).bind fun x23 =>
  if x21 < x23 then
  (some (((), h20)))
  else
  (oPI 8 7 (some a0) (-1 : Int32) h20).bind fun h24 =>
  some (((), h24))
/-! BrailleDesk$Tree.<init> -/
def fX7_init (a0 : Nat) (h : hp) : Option (Unit × hp) :=
  o2 (fX2_init (hN h) (0 : Int32) (0 : Int32) (none : Option Nat) (wN h (2, 0))) fun _ h2 =>
  (oPR 6 0 (some a0) (some (hN h)) h2).bind fun h3 =>
  (oPR 6 1 (some a0) (some (hN h3)) (wN h3 (22, 40))).bind fun h4 =>
  (oGR 6 1 (some a0) h4).bind fun x5 =>
  (oGR 6 0 (some a0) h4).bind fun x6 =>
  (oAS 22 2 x5 (0 : Int32) x6 h4).bind fun h7 =>
  (oPI 6 2 (some a0) (1 : Int32) h7).bind fun h8 =>
  (oPI 6 3 (some a0) (1 : Int32) h8).bind fun h9 =>
  (oPR 6 4 (some a0) (some (hN h9)) (wN h9 (22, 40))).bind fun h10 =>
  (oGR 6 4 (some a0) h10).bind fun x11 =>
  (oGR 6 0 (some a0) h10).bind fun x12 =>
  (oAS 22 2 x11 (0 : Int32) x12 h10).bind fun h13 =>
  (oPI 6 5 (some a0) (1 : Int32) h13).bind fun h14 =>
  some (((), h14))
/-! BrailleDesk$Tree.hasRoom -/
def fX7_hasRoom (a0 : Nat) (h : hp) : Option Int32 :=
  (oGI 6 2 (some a0) h).bind fun x1 =>
  if (40 : Int32) ≤ x1 then
  (some ((0 : Int32)))
  else
  some ((1 : Int32))
/-! BrailleDesk$Tree.find -/
def fX7_find (a0 : Nat) (a1 : Int32) (h : hp) : Option (Option Nat) :=
  if a1 < 0 then
  (some ((none : Option Nat)))
  else
  (oGR 6 1 (some a0) h).bind fun x1 =>
  (oLen x1 h).bind fun x2 =>
  if x2 ≤ a1 then
  (some ((none : Option Nat)))
  else
  (oGR 6 1 (some a0) h).bind fun x3 =>
  (oAL 22 x3 a1 h).bind fun x4 =>
  some (x4)
/-! BrailleDesk$Tree.inOrder -/
def fX7_inOrder (a0 : Nat) (a1 : Int32) (h : hp) : Option (Option Nat) :=
  if a1 < 0 then
  (some ((none : Option Nat)))
  else
  (oGI 6 5 (some a0) h).bind fun x1 =>
  if x1 ≤ a1 then
  (some ((none : Option Nat)))
  else
  (oGR 6 4 (some a0) h).bind fun x2 =>
  (oLen x2 h).bind fun x3 =>
  if x3 ≤ a1 then
  (some ((none : Option Nat)))
  else
  (oGR 6 4 (some a0) h).bind fun x4 =>
  (oAL 22 x4 a1 h).bind fun x5 =>
  some (x5)
/-! BrailleDesk$Tree.placeInOrder -/
def fX7_placeInOrder_B2 (c0 : Nat) (c1 : (Option Nat)) (h : hp) (a : Int32) : Option (Int32 ⊕ (Int32 ⊕ Unit)) :=
  (oGI 6 5 (some c0) h).bind fun x1 =>
  if x1 ≤ a then
  (some (.inr (.inr ())))
  else
  (oOb 6 (some c0) h).bind fun b =>
  (fX7_inOrder b a h).bind fun x2 =>
  if x2 = c1 then
  (some (.inr (.inl (a))))
  else
  some (.inl (a + (1 : Int32)))
def fX7_placeInOrder (a0 : Nat) (a1 : (Option Nat)) (h : hp) : Option Int32 :=
  oR (τ := Int32) (σ := Unit)
  (itr (fX7_placeInOrder_B2 a0 a1 h) FU (0 : Int32))
  fun q1 =>
  some ((-1 : Int32))
/-! BrailleDesk$Tree.collect -/
def fX7_collect_B37 (rc : Option Nat → Option Nat → Int32 → Int32 → hp → Option (Int32 × hp)) (c0 : (Option Nat)) (c1 : (Option Nat)) (c3 : Int32) (a : (Int32 × Int32 × hp)) : Option ((Int32 × Int32 × hp) ⊕ (Int32 × hp)) :=
  (oOb 1 c0 a.2.2).bind fun b =>
  (fX2_size b a.2.2).bind fun x1 =>
  if x1 ≤ a.2.1 then
  (some (.inr (a.1, a.2.2)))
  else
  (oOb 1 c0 a.2.2).bind fun b =>
  (fX2_child b a.2.1 a.2.2).bind fun x2 =>
  if x2 = none then
  (some (.inl (a.1, a.2.1 + (1 : Int32), a.2.2)))
  else
  o2 (rc x2 c1 a.1 (c3 + (1 : Int32)) a.2.2) fun x3 h4 =>
  some (.inl (x3, a.2.1 + (1 : Int32), h4))
def fX7_collect_b (rc : Option Nat → Option Nat → Int32 → Int32 → hp → Option (Int32 × hp)) (a0 : (Option Nat)) (a1 : (Option Nat)) (a2 : Int32) (a3 : Int32) (h : hp) : Option (Int32 × hp) :=
  (oGI 1 7 a0 h).bind fun x1 =>
  if x1 = 0 then
  (if (40 : Int32) ≤ a3 then
  (some ((a2, h)))
  else
  if a2 < 0 then
  (some ((a2, h)))
  else
  (oLen a1 h).bind fun x2 =>
  if a2 < x2 then
  ((oAS 22 2 a1 a2 a0 h).bind fun h3 =>
  Option.bind (α := (Int32 × hp))
  (itr (fX7_collect_B37 rc a0 a1 a3) FU (a2 + (1 : Int32), (0 : Int32), h3))
  fun q4 =>
  some ((q4.1, q4.2)))
  else
  some ((a2, h)))
  else
  some ((a2, h))
def fX7_collect : Nat → Option Nat → Option Nat → Int32 → Int32 → hp → Option (Int32 × hp)
  | 0, _, _, _, _, _ => none
  | r + 1, a0, a1, a2, a3, h => fX7_collect_b (fX7_collect r) a0 a1 a2 a3 h
/-! BrailleDesk$Tree.reorder -/
def fX7_reorder (a0 : Nat) (h : hp) : Option (Unit × hp) :=
  (oGR 6 0 (some a0) h).bind fun x1 =>
  (oGR 6 4 (some a0) h).bind fun x2 =>
  o2 (fX7_collect 51 x1 x2 (0 : Int32) (0 : Int32) h) fun x3 h4 =>
  (oPI 6 5 (some a0) x3 h4).bind fun h5 =>
  some (((), h5))
/-! BrailleDesk$Tree.make -/
def fX7_make (a0 : Nat) (a1 : (Option Nat)) (a2 : Int32) (a3 : Int32) (a4 : (Option Nat)) (h : hp) : Option ((Option Nat) × hp) :=
  (oGI 6 2 (some a0) (wN h (2, 0))).bind fun x1 =>
  o2 (fX2_init (hN h) x1 a3 a1 (wN h (2, 0))) fun _ h3 =>
  (oGR 1 5 (some (hN h)) h3).bind fun x4 =>
  (oOb 0 x4 h3).bind fun b =>
  o2 (fX1_copy b a4 h3) fun _ h6 =>
  (oGI 6 2 (some a0) h6).bind fun x7 =>
  if x7 < 0 then
  (some ((some (hN h), h6)))
  else
  (oGI 6 2 (some a0) h6).bind fun x8 =>
  (oGR 6 1 (some a0) h6).bind fun x9 =>
  (oLen x9 h6).bind fun x10 =>
  if x10 ≤ x8 then
  (some ((some (hN h), h6)))
  else
  (oGR 6 1 (some a0) h6).bind fun x11 =>
  (oGI 6 2 (some a0) h6).bind fun x12 =>
  (oAS 22 2 x11 x12 (some (hN h)) h6).bind fun h13 =>
  (oGI 6 2 (some a0) h13).bind fun x14 =>
  (oPI 6 2 (some a0) (x14 + (1 : Int32)) h13).bind fun h15 =>
  (oGI 6 3 (some a0) h15).bind fun x16 =>
  (oPI 6 3 (some a0) (x16 + (1 : Int32)) h15).bind fun h17 =>
  (oOb 1 a1 h17).bind fun b =>
  o2 (fX2_insert b (some (hN h)) a2 h17) fun _ h19 =>
  (oOb 6 (some a0) h19).bind fun b =>
  o2 (fX7_reorder b h19) fun _ h21 =>
  some ((some (hN h), h21))
/-! BrailleDesk$Tree.takeOut -/
def fX7_takeOut_B7 (c0 : Nat) (c1 : (Option Nat)) (c2 : Int32) (a : (Int32 × hp)) : Option ((Int32 × hp) ⊕ hp) :=
  (oGR 6 1 (some c0) a.2).bind fun x1 =>
  (oLen x1 a.2).bind fun x2 =>
  if x2 ≤ a.1 then
  (some (.inr a.2))
  else
  (oGR 6 1 (some c0) a.2).bind fun x3 =>
  (oAL 22 x3 a.1 a.2).bind fun x4 =>
  if x4 = none then
  (some (.inl (a.1 + (1 : Int32), a.2)))
  else
  (oOb 1 x4 a.2).bind fun b =>
  (fX2_isWithin b c1 a.2).bind fun x5 =>
  if x5 = 0 then
  (some (.inl (a.1 + (1 : Int32), a.2)))
  else
  (oGR 6 1 (some c0) a.2).bind fun x6 =>
  (oAS 22 2 x6 a.1 (none : Option Nat) a.2).bind fun h7 =>
  (oGI 6 3 (some c0) h7).bind fun x8 =>
  (oPI 6 3 (some c0) (x8 - (1 : Int32)) h7).bind fun h9 =>
  some (.inl (a.1 + (1 : Int32), h9))
def fX7_takeOut (a0 : Nat) (a1 : (Option Nat)) (h : hp) : Option (Int32 × hp) :=
  (oGI 6 3 (some a0) h).bind fun x1 =>
  Option.bind (α := hp)
  (itr (fX7_takeOut_B7 a0 a1 x1) FU ((0 : Int32), h))
  fun q2 =>
  (oGR 1 2 a1 q2).bind fun x3 =>
  Option.bind (α := hp)
  (if x3 = none then
  (some q2)
  else
  (oGR 1 2 a1 q2).bind fun x6 =>
  (oOb 1 x6 q2).bind fun b =>
  o2 (fX2_takeOut b a1 q2) fun _ h8 =>
  some h8)
  fun q4 =>
  (oOb 6 (some a0) q4).bind fun b =>
  o2 (fX7_reorder b q4) fun _ h10 =>
  (oGI 6 3 (some a0) h10).bind fun x11 =>
  some ((x1 - x11, h10))
/-! BrailleDesk$Tree.nextOfKind -/
def fX7_nextOfKind_B8 (c0 : Nat) (c2 : Int32) (h : hp) (a : Int32) : Option (Int32 ⊕ ((Option Nat) ⊕ Unit)) :=
  (oGI 6 5 (some c0) h).bind fun x1 =>
  if x1 ≤ a then
  (some (.inr (.inr ())))
  else
  (oOb 6 (some c0) h).bind fun b =>
  (fX7_inOrder b a h).bind fun x2 =>
  if x2 = none then
  (some (.inl (a + (1 : Int32))))
  else
  (oGI 1 1 x2 h).bind fun x3 =>
  if x3 = c2 then
  (some (.inr (.inl (x2))))
  else
  some (.inl (a + (1 : Int32)))
def fX7_nextOfKind (a0 : Nat) (a1 : (Option Nat)) (a2 : Int32) (h : hp) : Option (Option Nat) :=
  (oOb 6 (some a0) h).bind fun b =>
  (fX7_placeInOrder b a1 h).bind fun x1 =>
  oR (τ := (Option Nat)) (σ := Unit)
  (itr (fX7_nextOfKind_B8 a0 a2 h) FU (x1 + (1 : Int32)))
  fun q2 =>
  some ((none : Option Nat))
/-! BrailleDesk$Tree.nextForFocus -/
def fX7_nextForFocus_B11 (c0 : Nat) (c3 : Int32) (h : hp) (a : ((Option Nat) × Int32)) : Option (((Option Nat) × Int32) ⊕ ((Option Nat) ⊕ (Option Nat))) :=
  (oGI 6 5 (some c0) h).bind fun x1 =>
  if x1 ≤ a.2 then
  (some (.inr (.inr a.1)))
  else
  (oOb 6 (some c0) h).bind fun b =>
  (fX7_inOrder b a.2 h).bind fun x2 =>
  if x2 = none then
  (some (.inl (a.1, a.2 + (1 : Int32))))
  else
  (oOb 1 x2 h).bind fun b =>
  (fX2_canHaveFocus b h).bind fun x3 =>
  if x3 = 0 then
  (some (.inl (a.1, a.2 + (1 : Int32))))
  else
  if a.2 ≤ c3 then
  (if a.1 = none then
  (some (.inl (x2, a.2 + (1 : Int32))))
  else
  some (.inl (a.1, a.2 + (1 : Int32))))
  else
  some (.inr (.inl (x2)))
def fX7_nextForFocus (a0 : Nat) (a1 : (Option Nat)) (h : hp) : Option (Option Nat) :=
  (oOb 6 (some a0) h).bind fun b =>
  (fX7_placeInOrder b a1 h).bind fun x1 =>
  oR (τ := (Option Nat)) (σ := (Option Nat))
  (itr (fX7_nextForFocus_B11 a0 x1 h) FU ((none : Option Nat), (0 : Int32)))
  fun q2 =>
  some (q2)
/-! BrailleDesk$Typist.<init> -/
def fX8_init (a0 : Nat) (h : hp) : Option (Unit × hp) :=
  some (((), h))
/-! BrailleDesk$Typist.begin -/
def fX8_begin (a0 : Nat) (h : hp) : Option (Unit × hp) :=
  (oPZ 7 0 (some a0) (1 : Int32) h).bind fun h1 =>
  (oPZ 7 1 (some a0) (0 : Int32) h1).bind fun h2 =>
  (oPZ 7 2 (some a0) (0 : Int32) h2).bind fun h3 =>
  some (((), h3))
/-! BrailleDesk$Typist.end -/
def fX8_end (a0 : Nat) (h : hp) : Option (Unit × hp) :=
  (oPZ 7 0 (some a0) (0 : Int32) h).bind fun h1 =>
  some (((), h1))
/-! BrailleDesk$Typist.takesSign -/
def fX8_takesSign (a0 : Nat) (a1 : Int32) (h : hp) : Option (Int32 × hp) :=
  if a1 = 32 then
  ((oPZ 7 1 (some a0) (1 : Int32) h).bind fun h1 =>
  some (((1 : Int32), h1)))
  else
  if a1 = 48 then
  ((oPZ 7 2 (some a0) (0 : Int32) h).bind fun h2 =>
  some (((1 : Int32), h2)))
  else
  if a1 = 60 then
  ((oPZ 7 2 (some a0) (1 : Int32) h).bind fun h3 =>
  some (((1 : Int32), h3)))
  else
  some (((0 : Int32), h))
/-! BrailleDesk$Typist.characterOf -/
def fX8_characterOf (a0 : Nat) (a1 : Int32) (h : hp) : Option Int32 :=
  if a1 = (256 : Int32) then
  (some ((32 : Int32)))
  else
  (fX0_letterOf a1).bind fun x1 =>
  if x1 = (-1 : Int32) then
  ((fX0_characterOfSign a1).bind fun x4 =>
  some (x4))
  else
  (oGI 7 1 (some a0) h).bind fun x2 =>
  if x2 = 0 then
  ((oGI 7 2 (some a0) h).bind fun x3 =>
  if x3 = 0 then
  (some ((97 : Int32) + x1))
  else
  if (10 : Int32) ≤ x1 then
  (some ((97 : Int32) + x1))
  else
  if x1 = (9 : Int32) then
  (some ((48 : Int32)))
  else
  some ((49 : Int32) + x1))
  else
  some ((65 : Int32) + x1)
/-! BrailleDesk$Typist.typed -/
def fX8_typed (a0 : Nat) (a1 : Int32) (h : hp) : Option (Unit × hp) :=
  (fX0_isSmall a1).bind fun x1 =>
  if x1 = 0 then
  ((fX0_isCapital a1).bind fun x4 =>
  if x4 = 0 then
  (if a1 = (32 : Int32) then
  ((oPZ 7 2 (some a0) (0 : Int32) h).bind fun h5 =>
  some (((), h5)))
  else
  some (((), h)))
  else
  (oPZ 7 1 (some a0) (0 : Int32) h).bind fun h6 =>
  (oPZ 7 2 (some a0) (0 : Int32) h6).bind fun h7 =>
  some (((), h7)))
  else
  (oPZ 7 1 (some a0) (0 : Int32) h).bind fun h2 =>
  (oPZ 7 2 (some a0) (0 : Int32) h2).bind fun h3 =>
  some (((), h3))
/-! BrailleDesk$Regions.<init> -/
def fX6_init (a0 : Nat) (a1 : (Option Nat)) (a2 : (Option Nat)) (h : hp) : Option (Unit × hp) :=
  (oPR 5 0 (some a0) a1 h).bind fun h1 =>
  (oPR 5 1 (some a0) a2 h1).bind fun h2 =>
  o2 (fX1_init (hN h2) (80 : Int32) (wN h2 (1, 0))) fun _ h4 =>
  (oPR 5 2 (some a0) (some (hN h2)) h4).bind fun h5 =>
  some (((), h5))
/-! BrailleDesk$Regions.mayTellAgain -/
def fX6_mayTellAgain (a0 : Nat) (a1 : (Option Nat)) (h : hp) : Option Int32 :=
  (oGI 5 3 (some a0) h).bind fun x1 =>
  (oGI 1 14 a1 h).bind fun x2 =>
  if (x1 - x2) < (5 : Int32) then
  (some ((0 : Int32)))
  else
  some ((1 : Int32))
/-! BrailleDesk$Regions.tellNews -/
def fX6_tellNews (a0 : Nat) (a1 : (Option Nat)) (a2 : (Option Nat)) (h : hp) : Option (Unit × hp) :=
  (oPZ 1 13 a1 (1 : Int32) h).bind fun h1 =>
  (oGI 5 3 (some a0) h1).bind fun x2 =>
  (oPI 1 14 a1 x2 h1).bind fun h3 =>
  (oGR 5 1 (some a0) h3).bind fun x4 =>
  (oOb 8 x4 h3).bind fun b =>
  o2 (fX9_comeNews b a2 h3) fun _ h6 =>
  some (((), h6))
/-! BrailleDesk$Regions.swallow -/
def fX6_swallow (a0 : Nat) (a1 : (Option Nat)) (h : hp) : Option (Unit × hp) :=
  (oGR 1 12 a1 h).bind fun x1 =>
  (oOb 0 x1 h).bind fun b =>
  (fX1_size b h).bind fun x2 =>
  if x2 ≤ 0 then
  (some (((), h)))
  else
  (oGR 1 12 a1 h).bind fun x3 =>
  (oOb 0 x3 h).bind fun b =>
  o2 (fX1_clear b h) fun _ h5 =>
  (oGI 5 4 (some a0) h5).bind fun x6 =>
  (oPI 5 4 (some a0) (x6 + (1 : Int32)) h5).bind fun h7 =>
  some (((), h7))
/-! BrailleDesk$Regions.tell -/
def fX6_tell (a0 : Nat) (a1 : (Option Nat)) (h : hp) : Option (Unit × hp) :=
  if a1 = none then
  (some (((), h)))
  else
  (oGI 1 11 a1 h).bind fun x1 =>
  if x1 = 0 then
  (some (((), h)))
  else
  (oGR 5 2 (some a0) h).bind fun x2 =>
  (oOb 0 x2 h).bind fun b =>
  (fX1_size b h).bind fun x3 =>
  if x3 = 0 then
  (some (((), h)))
  else
  (oGI 1 11 a1 h).bind fun x4 =>
  if x4 = (2 : Int32) then
  ((oGR 5 1 (some a0) h).bind fun x19 =>
  (oGR 5 2 (some a0) h).bind fun x20 =>
  (oOb 8 x19 h).bind fun b =>
  o2 (fX9_comeAlert b x20 h) fun _ h22 =>
  some (((), h22)))
  else
  (oGI 1 13 a1 h).bind fun x5 =>
  if x5 = 0 then
  ((oGR 5 2 (some a0) h).bind fun x6 =>
  (oOb 5 (some a0) h).bind fun b =>
  o2 (fX6_tellNews b a1 x6 h) fun _ h8 =>
  some (((), h8)))
  else
  (oOb 5 (some a0) h).bind fun b =>
  (fX6_mayTellAgain b a1 h).bind fun x9 =>
  if x9 = 0 then
  ((oOb 5 (some a0) h).bind fun b =>
  o2 (fX6_swallow b a1 h) fun _ h11 =>
  (oGR 1 12 a1 h11).bind fun x12 =>
  (oGR 5 2 (some a0) h11).bind fun x13 =>
  (oOb 0 x12 h11).bind fun b =>
  o2 (fX1_copy b x13 h11) fun _ h15 =>
  some (((), h15)))
  else
  (oGR 5 2 (some a0) h).bind fun x16 =>
  (oOb 5 (some a0) h).bind fun b =>
  o2 (fX6_tellNews b a1 x16 h) fun _ h18 =>
  some (((), h18))
/-! BrailleDesk$Regions.tellWords -/
def fX6_tellWords (a0 : Nat) (a1 : (Option Nat)) (h : hp) : Option (Unit × hp) :=
  (oOb 1 a1 h).bind fun b =>
  (fX2_isShownNow b h).bind fun x1 =>
  if x1 = 0 then
  (some (((), h)))
  else
  (oGR 5 2 (some a0) h).bind fun x2 =>
  (oOb 0 x2 h).bind fun b =>
  o2 (fX1_clear b h) fun _ h4 =>
  (oGR 5 2 (some a0) h4).bind fun x5 =>
  (oOb 1 a1 h4).bind fun b =>
  o2 (fX2_putWords b x5 h4) fun _ h7 =>
  (oOb 1 a1 h7).bind fun b =>
  (fX2_region b h7).bind fun x8 =>
  (oOb 5 (some a0) h7).bind fun b =>
  o2 (fX6_tell b x8 h7) fun _ h10 =>
  some (((), h10))
/-! BrailleDesk$Regions.tellGone -/
def fX6_tellGone (a0 : Nat) (a1 : (Option Nat)) (h : hp) : Option (Unit × hp) :=
  (oGR 5 2 (some a0) h).bind fun x1 =>
  (oOb 0 x1 h).bind fun b =>
  o2 (fX1_clear b h) fun _ h3 =>
  (oGR 5 2 (some a0) h3).bind fun x4 =>
  (oOb 0 x4 h3).bind fun b =>
  o2 (fX1_part_ b 18 h3) fun _ h6 =>
  (oGR 1 5 a1 h6).bind fun x7 =>
  (oOb 0 x7 h6).bind fun b =>
  (fX1_size b h6).bind fun x8 =>
  Option.bind (α := hp)
  (if x8 ≤ 0 then
  ((oGR 5 2 (some a0) h6).bind fun x11 =>
  (oGI 1 1 a1 h6).bind fun x12 =>
  (fX2_kindWord x12).bind fun x13 =>
  (oOb 0 x11 h6).bind fun b =>
  o2 (fX1_part_ b x13 h6) fun _ h15 =>
  some h15)
  else
  (oGR 5 2 (some a0) h6).bind fun x16 =>
  (oGR 1 5 a1 h6).bind fun x17 =>
  (oOb 0 x16 h6).bind fun b =>
  o2 (fX1_part b x17 h6) fun _ h19 =>
  some h19)
  fun q9 =>
  (oOb 1 a1 q9).bind fun b =>
  (fX2_region b q9).bind fun x20 =>
  (oOb 5 (some a0) q9).bind fun b =>
  o2 (fX6_tell b x20 q9) fun _ h22 =>
  some (((), h22))
/-! BrailleDesk$Regions.forgetWithin -/
def fX6_forgetWithin_B2 (c0 : Nat) (c1 : (Option Nat)) (a : (Int32 × hp)) : Option ((Int32 × hp) ⊕ hp) :=
  if (40 : Int32) ≤ a.1 then
  (some (.inr a.2))
  else
  (oGR 5 0 (some c0) a.2).bind fun x1 =>
  (oOb 6 x1 a.2).bind fun b =>
  (fX7_find b a.1 a.2).bind fun x2 =>
  if x2 = none then
  (some (.inl (a.1 + (1 : Int32), a.2)))
  else
  (oOb 1 x2 a.2).bind fun b =>
  (fX2_isWithin b c1 a.2).bind fun x3 =>
  if x3 = 0 then
  (some (.inl (a.1 + (1 : Int32), a.2)))
  else
  (oOb 5 (some c0) a.2).bind fun b =>
  o2 (fX6_swallow b x2 a.2) fun _ h5 =>
  some (.inl (a.1 + (1 : Int32), h5))
def fX6_forgetWithin (a0 : Nat) (a1 : (Option Nat)) (h : hp) : Option (Unit × hp) :=
  Option.bind (α := hp)
  (itr (fX6_forgetWithin_B2 a0 a1) FU ((0 : Int32), h))
  fun q1 =>
  some (((), q1))
/-! BrailleDesk$Regions.letKeptCome -/
def fX6_letKeptCome (a0 : Nat) (a1 : (Option Nat)) (h : hp) : Option (Unit × hp) :=
  (oOb 1 a1 h).bind fun b =>
  (fX2_isShownNow b h).bind fun x1 =>
  if x1 = 0 then
  ((oOb 5 (some a0) h).bind fun b =>
  o2 (fX6_swallow b a1 h) fun _ h3 =>
  some (((), h3)))
  else
  (oGR 1 12 a1 h).bind fun x4 =>
  (oOb 5 (some a0) h).bind fun b =>
  o2 (fX6_tellNews b a1 x4 h) fun _ h6 =>
  (oGR 1 12 a1 h6).bind fun x7 =>
  (oOb 0 x7 h6).bind fun b =>
  o2 (fX1_clear b h6) fun _ h9 =>
  some (((), h9))
/-! BrailleDesk$Regions.passTick -/
def fX6_passTick_B12 (c0 : Nat) (a : (Int32 × hp)) : Option ((Int32 × hp) ⊕ hp) :=
  if (40 : Int32) ≤ a.1 then
  (some (.inr a.2))
  else
  (oGR 5 0 (some c0) a.2).bind fun x1 =>
  (oOb 6 x1 a.2).bind fun b =>
  (fX7_find b a.1 a.2).bind fun x2 =>
  if x2 = none then
  (some (.inl (a.1 + (1 : Int32), a.2)))
  else
  (oGR 1 12 x2 a.2).bind fun x3 =>
  (oOb 0 x3 a.2).bind fun b =>
  (fX1_size b a.2).bind fun x4 =>
  if x4 ≤ 0 then
  (some (.inl (a.1 + (1 : Int32), a.2)))
  else
  (oOb 5 (some c0) a.2).bind fun b =>
  (fX6_mayTellAgain b x2 a.2).bind fun x5 =>
  if x5 = 0 then
  (some (.inl (a.1 + (1 : Int32), a.2)))
  else
  (oOb 5 (some c0) a.2).bind fun b =>
  o2 (fX6_letKeptCome b x2 a.2) fun _ h7 =>
  some (.inl (a.1 + (1 : Int32), h7))
def fX6_passTick (a0 : Nat) (h : hp) : Option (Unit × hp) :=
  (oGI 5 3 (some a0) h).bind fun x1 =>
  (oPI 5 3 (some a0) (x1 + (1 : Int32)) h).bind fun h2 =>
  Option.bind (α := hp)
  (itr (fX6_passTick_B12 a0) FU ((0 : Int32), h2))
  fun q3 =>
  some (((), q3))
/-! BrailleDesk$Reader.<init> -/
def fX5_init (a0 : Nat) (a1 : (Option Nat)) (a2 : (Option Nat)) (h : hp) : Option (Unit × hp) :=
  (oPR 4 0 (some a0) a1 h).bind fun h1 =>
  (oPR 4 1 (some a0) a2 h1).bind fun h2 =>
  o2 (fX3_init (hN h2) (wN h2 (3, 0))) fun _ h4 =>
  (oPR 4 2 (some a0) (some (hN h2)) h4).bind fun h5 =>
  o2 (fX8_init (hN h5) (wN h5 (8, 0))) fun _ h7 =>
  (oPR 4 3 (some a0) (some (hN h5)) h7).bind fun h8 =>
  o2 (fX1_init (hN h8) (80 : Int32) (wN h8 (1, 0))) fun _ h10 =>
  (oPR 4 4 (some a0) (some (hN h8)) h10).bind fun h11 =>
  (oGR 6 0 a1 h11).bind fun x12 =>
  (oPR 4 5 (some a0) x12 h11).bind fun h13 =>
  (oGR 4 2 (some a0) h13).bind fun x14 =>
  (oGR 4 5 (some a0) h13).bind fun x15 =>
  (oOb 2 x14 h13).bind fun b =>
  o2 (fX3_keep b x15 (0 : Int32) h13) fun _ h17 =>
  some (((), h17))
/-! BrailleDesk$Reader.refreshPins -/
def fX5_refreshPins (a0 : Nat) (h : hp) : Option (Unit × hp) :=
  (oGR 4 2 (some a0) h).bind fun x1 =>
  (oGR 4 5 (some a0) h).bind fun x2 =>
  (oGR 4 3 (some a0) h).bind fun x3 =>
  (oGI 7 0 x3 h).bind fun x4 =>
  (oOb 2 x1 h).bind fun b =>
  o2 (fX3_keep b x2 x4 h) fun _ h6 =>
  some (((), h6))
/-! BrailleDesk$Reader.cellAnew -/
def fX5_cellAnew (a0 : Nat) (a1 : Int32) (h : hp) : Option (Int32 × hp) :=
  (oGR 4 2 (some a0) h).bind fun x1 =>
  (oGR 4 5 (some a0) h).bind fun x2 =>
  (oGR 4 3 (some a0) h).bind fun x3 =>
  (oGI 7 0 x3 h).bind fun x4 =>
  (oOb 2 x1 h).bind fun b =>
  o2 (fX3_cellAnew b x2 x4 a1 h) fun x5 h6 =>
  some ((x5, h6))
/-! BrailleDesk$Reader.wordsOf -/
def fX5_wordsOf (a0 : Nat) (a1 : (Option Nat)) (h : hp) : Option ((Option Nat) × hp) :=
  (oGR 4 4 (some a0) h).bind fun x1 =>
  (oOb 0 x1 h).bind fun b =>
  o2 (fX1_clear b h) fun _ h3 =>
  (oGR 4 4 (some a0) h3).bind fun x4 =>
  (oOb 1 a1 h3).bind fun b =>
  o2 (fX2_putWords b x4 h3) fun _ h6 =>
  (oGR 4 4 (some a0) h6).bind fun x7 =>
  some ((x7, h6))
/-! BrailleDesk$Reader.moveTo -/
def fX5_moveTo (a0 : Nat) (a1 : (Option Nat)) (h : hp) : Option (Unit × hp) :=
  (oGR 4 5 (some a0) h).bind fun x1 =>
  if a1 = x1 then
  (some (((), h)))
  else
  (oPR 4 5 (some a0) a1 h).bind fun h2 =>
  (oGR 4 2 (some a0) h2).bind fun x3 =>
  (oPI 2 2 x3 (0 : Int32) h2).bind fun h4 =>
  some (((), h4))
/-! BrailleDesk$Reader.lose -/
def fX5_lose (a0 : Nat) (a1 : (Option Nat)) (a2 : (Option Nat)) (h : hp) : Option (Unit × hp) :=
  (oGR 4 6 (some a0) h).bind fun x1 =>
  Option.bind (α := hp)
  (if x1 = none then
  (some h)
  else
  (oGR 4 6 (some a0) h).bind fun x4 =>
  (oOb 1 x4 h).bind fun b =>
  (fX2_isWithin b a1 h).bind fun x5 =>
  if x5 = 0 then
  (some h)
  else
  (oPR 4 6 (some a0) (none : Option Nat) h).bind fun h6 =>
  (oGR 4 3 (some a0) h6).bind fun x7 =>
  (oOb 7 x7 h6).bind fun b =>
  o2 (fX8_end b h6) fun _ h9 =>
  some h9)
  fun q2 =>
  (oGR 4 5 (some a0) q2).bind fun x10 =>
  (oOb 1 x10 q2).bind fun b =>
  (fX2_isWithin b a1 q2).bind fun x11 =>
  Option.bind (α := hp)
  (if x11 = 0 then
  (some q2)
  else
  (oOb 4 (some a0) q2).bind fun b =>
  o2 (fX5_moveTo b a2 q2) fun _ h15 =>
  (oGR 4 4 (some a0) h15).bind fun x16 =>
  (oOb 0 x16 h15).bind fun b =>
  o2 (fX1_clear b h15) fun _ h18 =>
  (oGR 4 4 (some a0) h18).bind fun x19 =>
  (oOb 0 x19 h18).bind fun b =>
  o2 (fX1_part_ b 19 h18) fun _ h21 =>
  (oGR 4 5 (some a0) h21).bind fun x22 =>
  (oGR 4 4 (some a0) h21).bind fun x23 =>
  (oOb 1 x22 h21).bind fun b =>
  o2 (fX2_putWords b x23 h21) fun _ h25 =>
  (oGR 4 1 (some a0) h25).bind fun x26 =>
  (oGR 4 4 (some a0) h25).bind fun x27 =>
  (oOb 8 x26 h25).bind fun b =>
  o2 (fX9_comeAlert b x27 h25) fun _ h29 =>
  some h29)
  fun q12 =>
  (oGR 4 2 (some a0) q12).bind fun x30 =>
  (oGR 4 5 (some a0) q12).bind fun x31 =>
  (oGR 4 3 (some a0) q12).bind fun x32 =>
  (oGI 7 0 x32 q12).bind fun x33 =>
  (oOb 2 x30 q12).bind fun b =>
  o2 (fX3_keep b x31 x33 q12) fun _ h35 =>
  some (((), h35))
/-! BrailleDesk$Reader.say -/
def fX5_say (a0 : Nat) (a1 : Nat) (h : hp) : Option (Unit × hp) :=
  (oGR 4 4 (some a0) h).bind fun x1 =>
  (oOb 0 x1 h).bind fun b =>
  o2 (fX1_clear b h) fun _ h3 =>
  (oGR 4 4 (some a0) h3).bind fun x4 =>
  (oOb 0 x4 h3).bind fun b =>
  o2 (fX1_part_ b a1 h3) fun _ h6 =>
  (oGR 4 1 (some a0) h6).bind fun x7 =>
  (oGR 4 4 (some a0) h6).bind fun x8 =>
  (oOb 8 x7 h6).bind fun b =>
  o2 (fX9_comeAnswer b x8 h6) fun _ h10 =>
  some (((), h10))
/-! BrailleDesk$Reader.putHeads -/
def fX5_putHeads (a0 : Nat) (a1 : (Option Nat)) (a2 : (Option Nat)) (h : hp) : Option (Unit × hp) :=
  (oGR 1 2 a2 h).bind fun x1 =>
  (oGR 1 2 a1 h).bind fun x2 =>
  if a1 = a2 then
  (some (((), h)))
  else
  if x1 = none then
  (some (((), h)))
  else
  if x2 = none then
  (some (((), h)))
  else
  (oGI 1 1 x1 h).bind fun x3 =>
  if x3 = (6 : Int32) then
  ((oGI 1 1 x2 h).bind fun x4 =>
  if x4 = (6 : Int32) then
  ((oGR 1 2 x1 h).bind fun x5 =>
  if x5 = none then
  (some (((), h)))
  else
  (oGR 1 2 x2 h).bind fun x6 =>
  if x5 = x6 then
  ((oOb 1 a2 h).bind fun b =>
  (fX2_levelNow b h).bind fun x7 =>
  if x7 = 0 then
  (some (((), h)))
  else
  (oOb 1 x1 h).bind fun b =>
  (fX2_child b (0 : Int32) h).bind fun x8 =>
  Option.bind (α := hp)
  (if x1 = x2 then
  (some h)
  else
  if x8 = none then
  (some h)
  else
  if x8 = a2 then
  (some h)
  else
  (oGR 4 4 (some a0) h).bind fun x11 =>
  (oGR 1 5 x8 h).bind fun x12 =>
  (oOb 0 x11 h).bind fun b =>
  o2 (fX1_part b x12 h) fun _ h14 =>
  some h14)
  fun q9 =>
  (oOb 1 x1 q9).bind fun b =>
  (fX2_placeOf b a2 q9).bind fun x15 =>
  (oOb 1 x5 q9).bind fun b =>
  (fX2_child b (0 : Int32) q9).bind fun x16 =>
  Option.bind (α := (Option Nat))
  (if x16 = none then
  (some (none : Option Nat))
  else
  (oOb 1 x16 q9).bind fun b =>
  (fX2_child b x15 q9).bind fun x19 =>
  some x19)
  fun q17 =>
  (oOb 1 x2 q9).bind fun b =>
  (fX2_placeOf b a1 q9).bind fun x20 =>
  if x15 = x20 then
  (some (((), q9)))
  else
  if q17 = none then
  (some (((), q9)))
  else
  if q17 = a2 then
  (some (((), q9)))
  else
  (oGR 4 4 (some a0) q9).bind fun x21 =>
  (oGR 1 5 q17 q9).bind fun x22 =>
  (oOb 0 x21 q9).bind fun b =>
  o2 (fX1_part b x22 q9) fun _ h24 =>
  some (((), h24)))
  else
  some (((), h)))
  else
  some (((), h)))
  else
  some (((), h))
/-! BrailleDesk$Reader.goTo -/
def fX5_goTo (a0 : Nat) (a1 : (Option Nat)) (a2 : Nat) (h : hp) : Option (Unit × hp) :=
  if a1 = none then
  ((oOb 4 (some a0) h).bind fun b =>
  o2 (fX5_say b a2 h) fun _ h20 =>
  some (((), h20)))
  else
  (oGR 4 5 (some a0) h).bind fun x1 =>
  (oGR 4 3 (some a0) h).bind fun x2 =>
  (oOb 7 x2 h).bind fun b =>
  o2 (fX8_end b h) fun _ h4 =>
  (oOb 4 (some a0) h4).bind fun b =>
  o2 (fX5_moveTo b a1 h4) fun _ h6 =>
  (oGR 4 4 (some a0) h6).bind fun x7 =>
  (oOb 0 x7 h6).bind fun b =>
  o2 (fX1_clear b h6) fun _ h9 =>
  (oOb 4 (some a0) h9).bind fun b =>
  o2 (fX5_putHeads b x1 a1 h9) fun _ h11 =>
  (oGR 4 4 (some a0) h11).bind fun x12 =>
  (oOb 1 a1 h11).bind fun b =>
  o2 (fX2_putWords b x12 h11) fun _ h14 =>
  (oGR 4 1 (some a0) h14).bind fun x15 =>
  (oGR 4 4 (some a0) h14).bind fun x16 =>
  (oOb 8 x15 h14).bind fun b =>
  o2 (fX9_comeAnswer b x16 h14) fun _ h18 =>
  some (((), h18))
/-! BrailleDesk$Reader.firstShownChild -/
def fX5_firstShownChild_B2 (c0 : Nat) (h : hp) (a : Int32) : Option (Int32 ⊕ ((Option Nat) ⊕ Unit)) :=
  (oGR 4 5 (some c0) h).bind fun x1 =>
  (oOb 1 x1 h).bind fun b =>
  (fX2_size b h).bind fun x2 =>
  if x2 ≤ a then
  (some (.inr (.inr ())))
  else
  (oGR 4 5 (some c0) h).bind fun x3 =>
  (oOb 1 x3 h).bind fun b =>
  (fX2_shownChild b a h).bind fun x4 =>
  if x4 = none then
  (some (.inl (a + (1 : Int32))))
  else
  some (.inr (.inl (x4)))
def fX5_firstShownChild (a0 : Nat) (h : hp) : Option (Option Nat) :=
  oR (τ := (Option Nat)) (σ := Unit)
  (itr (fX5_firstShownChild_B2 a0 h) FU (0 : Int32))
  fun q1 =>
  some ((none : Option Nat))
/-! BrailleDesk$Reader.cellInOtherRow -/
def fX5_cellInOtherRow_B55 (c1 : Int32) (c3 : (Option Nat)) (c4 : Int32) (c5 : Int32) (h : hp) (a : Int32) : Option (Int32 ⊕ ((Option Nat) ⊕ Unit)) :=
  if (10 : Int32) ≤ a then
  (some (.inr (.inr ())))
  else
  (oOb 1 c3 h).bind fun b =>
  (fX2_shownChild b (c5 + (a * c1)) h).bind fun x1 =>
  Option.bind (α := (Option Nat))
  (if x1 = none then
  (some (none : Option Nat))
  else
  (oOb 1 x1 h).bind fun b =>
  (fX2_shownChild b c4 h).bind fun x4 =>
  some x4)
  fun q2 =>
  if q2 = none then
  (some (.inl (a + (1 : Int32))))
  else
  some (.inr (.inl (q2)))
def fX5_cellInOtherRow (a0 : Nat) (a1 : Int32) (h : hp) : Option (Option Nat) :=
  (oGR 4 5 (some a0) h).bind fun x1 =>
  (oGR 1 2 x1 h).bind fun x2 =>
  if x2 = none then
  (some ((none : Option Nat)))
  else
  (oGI 1 1 x2 h).bind fun x3 =>
  if x3 = (6 : Int32) then
  ((oGR 1 2 x2 h).bind fun x4 =>
  if x4 = none then
  (some ((none : Option Nat)))
  else
  (oGR 1 2 x2 h).bind fun x5 =>
  (oGR 4 5 (some a0) h).bind fun x6 =>
  (oOb 1 x2 h).bind fun b =>
  (fX2_placeOf b x6 h).bind fun x7 =>
  (oOb 1 x5 h).bind fun b =>
  (fX2_placeOf b x2 h).bind fun x8 =>
  oR (τ := (Option Nat)) (σ := Unit)
  (itr (fX5_cellInOtherRow_B55 a1 x5 x7 x8 h) FU (1 : Int32))
  fun q9 =>
  some ((none : Option Nat)))
  else
  some ((none : Option Nat))
/-! BrailleDesk$Reader.isInRow -/
def fX5_isInRow (a0 : Nat) (h : hp) : Option Int32 :=
  (oGR 4 5 (some a0) h).bind fun x1 =>
  (oGR 1 2 x1 h).bind fun x2 =>
  if x2 = none then
  (some ((0 : Int32)))
  else
  (oGR 4 5 (some a0) h).bind fun x3 =>
  (oGR 1 2 x3 h).bind fun x4 =>
  (oGI 1 1 x4 h).bind fun x5 =>
  if x5 = (6 : Int32) then
  (some ((1 : Int32)))
  else
  some ((0 : Int32))
/-! BrailleDesk$Reader.takeFocus -/
def fX5_takeFocus (a0 : Nat) (h : hp) : Option (Unit × hp) :=
  (oGR 4 5 (some a0) h).bind fun x1 =>
  (oOb 1 x1 h).bind fun b =>
  (fX2_canHaveFocus b h).bind fun x2 =>
  if x2 = 0 then
  (some (((), h)))
  else
  (oGR 4 5 (some a0) h).bind fun x3 =>
  (oPR 4 6 (some a0) x3 h).bind fun h4 =>
  some (((), h4))
/-! BrailleDesk$Reader.act -/
def fX5_act (a0 : Nat) (h : hp) : Option (Unit × hp) :=
  (oOb 4 (some a0) h).bind fun b =>
  o2 (fX5_takeFocus b h) fun _ h2 =>
  (oGR 4 5 (some a0) h2).bind fun x3 =>
  (oGI 1 1 x3 h2).bind fun x4 =>
  if x4 = 2 then
  ((oGR 4 5 (some a0) h2).bind fun x5 =>
  (oGI 1 9 x5 h2).bind fun x6 =>
  (oPI 1 9 x5 (x6 + (1 : Int32)) h2).bind fun h7 =>
  (oOb 4 (some a0) h7).bind fun b =>
  o2 (fX5_say b 32 h7) fun _ h9 =>
  some (((), h9)))
  else
  if x4 = 3 then
  ((oGR 4 5 (some a0) h2).bind fun x10 =>
  (oGR 4 5 (some a0) h2).bind fun x11 =>
  (oGI 1 8 x11 h2).bind fun x12 =>
  Option.bind (α := Int32)
  (if x12 = 0 then
  (some (1 : Int32))
  else
  some (0 : Int32))
  fun q13 =>
  (oPZ 1 8 x10 q13 h2).bind fun h15 =>
  (oGR 4 5 (some a0) h15).bind fun x16 =>
  (oGI 1 8 x16 h15).bind fun x17 =>
  Option.bind (α := Nat)
  (if x17 = 0 then
  (some 34)
  else
  some 33)
  fun q18 =>
  (oOb 4 (some a0) h15).bind fun b =>
  o2 (fX5_say b q18 h15) fun _ h21 =>
  some (((), h21)))
  else
  if x4 = 4 then
  ((oGR 4 3 (some a0) h2).bind fun x22 =>
  (oOb 7 x22 h2).bind fun b =>
  o2 (fX8_begin b h2) fun _ h24 =>
  (oOb 4 (some a0) h24).bind fun b =>
  o2 (fX5_say b 35 h24) fun _ h26 =>
  some (((), h26)))
  else
  (oOb 4 (some a0) h2).bind fun b =>
  o2 (fX5_say b 31 h2) fun _ h28 =>
  some (((), h28))
/-! BrailleDesk$Reader.command -/
def fX5_command (a0 : Nat) (a1 : Int32) (h : hp) : Option (Unit × hp) :=
  if a1 = 1 then
  ((oGR 4 0 (some a0) h).bind fun x1 =>
  (oGR 4 0 (some a0) h).bind fun x2 =>
  (oGR 4 5 (some a0) h).bind fun x3 =>
  (oOb 6 x2 h).bind fun b =>
  (fX7_placeInOrder b x3 h).bind fun x4 =>
  (oOb 6 x1 h).bind fun b =>
  (fX7_inOrder b (x4 - (1 : Int32)) h).bind fun x5 =>
  (oOb 4 (some a0) h).bind fun b =>
  o2 (fX5_goTo b x5 30 h) fun _ h7 =>
  some (((), h7)))
  else
  if a1 = 2 then
  ((oOb 4 (some a0) h).bind fun b =>
  (fX5_cellInOtherRow b (-1 : Int32) h).bind fun x8 =>
  (oOb 4 (some a0) h).bind fun b =>
  (fX5_isInRow b h).bind fun x9 =>
  Option.bind (α := Nat)
  (if x9 = 0 then
  (some 31)
  else
  some 30)
  fun q10 =>
  (oOb 4 (some a0) h).bind fun b =>
  o2 (fX5_goTo b x8 q10 h) fun _ h13 =>
  some (((), h13)))
  else
  if a1 = 4 then
  ((oGR 4 5 (some a0) h).bind fun x14 =>
  (oGR 1 2 x14 h).bind fun x15 =>
  (oOb 4 (some a0) h).bind fun b =>
  o2 (fX5_goTo b x15 31 h) fun _ h17 =>
  some (((), h17)))
  else
  if a1 = 7 then
  ((oGR 4 2 (some a0) h).bind fun x18 =>
  (oOb 2 x18 h).bind fun b =>
  o2 (fX3_goLeft b h) fun _ h20 =>
  some (((), h20)))
  else
  if a1 = 8 then
  ((oGR 4 0 (some a0) h).bind fun x21 =>
  (oGR 4 0 (some a0) h).bind fun x22 =>
  (oGR 4 5 (some a0) h).bind fun x23 =>
  (oOb 6 x22 h).bind fun b =>
  (fX7_placeInOrder b x23 h).bind fun x24 =>
  (oOb 6 x21 h).bind fun b =>
  (fX7_inOrder b (x24 + (1 : Int32)) h).bind fun x25 =>
  (oOb 4 (some a0) h).bind fun b =>
  o2 (fX5_goTo b x25 30 h) fun _ h27 =>
  some (((), h27)))
  else
  if a1 = 16 then
  ((oOb 4 (some a0) h).bind fun b =>
  (fX5_cellInOtherRow b (1 : Int32) h).bind fun x28 =>
  (oOb 4 (some a0) h).bind fun b =>
  (fX5_isInRow b h).bind fun x29 =>
  Option.bind (α := Nat)
  (if x29 = 0 then
  (some 31)
  else
  some 30)
  fun q30 =>
  (oOb 4 (some a0) h).bind fun b =>
  o2 (fX5_goTo b x28 q30 h) fun _ h33 =>
  some (((), h33)))
  else
  if a1 = 23 then
  ((oGR 4 1 (some a0) h).bind fun x34 =>
  (oGR 4 5 (some a0) h).bind fun x35 =>
  (oOb 4 (some a0) h).bind fun b =>
  o2 (fX5_wordsOf b x35 h) fun x36 h37 =>
  (oOb 8 x34 h37).bind fun b =>
  o2 (fX9_comeAnswer b x36 h37) fun _ h39 =>
  some (((), h39)))
  else
  if a1 = 30 then
  ((oGR 4 0 (some a0) h).bind fun x40 =>
  (oGR 4 5 (some a0) h).bind fun x41 =>
  (oOb 6 x40 h).bind fun b =>
  (fX7_nextForFocus b x41 h).bind fun x42 =>
  (oOb 4 (some a0) h).bind fun b =>
  o2 (fX5_goTo b x42 31 h) fun _ h44 =>
  (oOb 4 (some a0) h44).bind fun b =>
  o2 (fX5_takeFocus b h44) fun _ h46 =>
  some (((), h46)))
  else
  if a1 = 32 then
  ((oOb 4 (some a0) h).bind fun b =>
  (fX5_firstShownChild b h).bind fun x47 =>
  (oOb 4 (some a0) h).bind fun b =>
  o2 (fX5_goTo b x47 31 h) fun _ h49 =>
  some (((), h49)))
  else
  if a1 = 56 then
  ((oGR 4 2 (some a0) h).bind fun x50 =>
  (oOb 2 x50 h).bind fun b =>
  o2 (fX3_goRight b h) fun _ h52 =>
  some (((), h52)))
  else
  if a1 = 64 then
  ((oGR 4 1 (some a0) h).bind fun x53 =>
  (oOb 8 x53 h).bind fun b =>
  o2 (fX9_hush b h) fun _ h55 =>
  some (((), h55)))
  else
  if a1 = 128 then
  ((oOb 4 (some a0) h).bind fun b =>
  o2 (fX5_act b h) fun _ h57 =>
  some (((), h57)))
  else
  some (((), h))
/-! BrailleDesk$Reader.sayCharacter -/
def fX5_sayCharacter (a0 : Nat) (a1 : Int32) (h : hp) : Option (Unit × hp) :=
  (oGR 4 4 (some a0) h).bind fun x1 =>
  (oOb 0 x1 h).bind fun b =>
  o2 (fX1_clear b h) fun _ h3 =>
  Option.bind (α := hp)
  (if a1 = (32 : Int32) then
  ((oGR 4 4 (some a0) h3).bind fun x9 =>
  (oOb 0 x9 h3).bind fun b =>
  o2 (fX1_part_ b 36 h3) fun _ h11 =>
  some h11)
  else
  (oGR 4 4 (some a0) h3).bind fun x6 =>
  (oOb 0 x6 h3).bind fun b =>
  o2 (fX1_put b a1 h3) fun _ h8 =>
  some h8)
  fun q4 =>
  (oGR 4 1 (some a0) q4).bind fun x12 =>
  (oGR 4 4 (some a0) q4).bind fun x13 =>
  (oOb 8 x12 q4).bind fun b =>
  o2 (fX9_comeAnswer b x13 q4) fun _ h15 =>
  some (((), h15))
/-! BrailleDesk$Reader.takeBack -/
def fX5_takeBack (a0 : Nat) (h : hp) : Option (Unit × hp) :=
  (oGR 4 5 (some a0) h).bind fun x1 =>
  (oGR 1 6 x1 h).bind fun x2 =>
  (oOb 0 x2 h).bind fun b =>
  (fX1_size b h).bind fun x3 =>
  if x3 = 0 then
  ((oOb 4 (some a0) h).bind fun b =>
  o2 (fX5_say b 31 h) fun _ h14 =>
  some (((), h14)))
  else
  (oGR 4 5 (some a0) h).bind fun x4 =>
  (oGR 1 6 x4 h).bind fun x5 =>
  (oOb 0 x5 h).bind fun b =>
  (fX1_at b (x3 - (1 : Int32)) h).bind fun x6 =>
  (oGR 4 5 (some a0) h).bind fun x7 =>
  (oGR 1 6 x7 h).bind fun x8 =>
  (oOb 0 x8 h).bind fun b =>
  o2 (fX1_takeLast b h) fun _ h10 =>
  (oOb 4 (some a0) h10).bind fun b =>
  o2 (fX5_sayCharacter b x6 h10) fun _ h12 =>
  some (((), h12))
/-! BrailleDesk$Reader.typeCharacter -/
def fX5_typeCharacter (a0 : Nat) (a1 : Int32) (h : hp) : Option (Unit × hp) :=
  if a1 = (-1 : Int32) then
  (some (((), h)))
  else
  (oGR 4 5 (some a0) h).bind fun x1 =>
  (oGR 1 6 x1 h).bind fun x2 =>
  (oOb 0 x2 h).bind fun b =>
  (fX1_size b h).bind fun x3 =>
  if x3 < (12 : Int32) then
  ((oGR 4 5 (some a0) h).bind fun x4 =>
  (oGR 1 6 x4 h).bind fun x5 =>
  (oOb 0 x5 h).bind fun b =>
  o2 (fX1_put b a1 h) fun _ h7 =>
  (oGR 4 3 (some a0) h7).bind fun x8 =>
  (oOb 7 x8 h7).bind fun b =>
  o2 (fX8_typed b a1 h7) fun _ h10 =>
  (oOb 4 (some a0) h10).bind fun b =>
  o2 (fX5_sayCharacter b a1 h10) fun _ h12 =>
  some (((), h12)))
  else
  (oOb 4 (some a0) h).bind fun b =>
  o2 (fX5_say b 37 h) fun _ h14 =>
  some (((), h14))
/-! BrailleDesk$Reader.type -/
def fX5_type (a0 : Nat) (a1 : Int32) (h : hp) : Option (Unit × hp) :=
  (oGR 4 3 (some a0) h).bind fun x1 =>
  (oOb 7 x1 h).bind fun b =>
  o2 (fX8_takesSign b a1 h) fun x2 h3 =>
  if x2 = 0 then
  (if a1 = (64 : Int32) then
  ((oOb 4 (some a0) h3).bind fun b =>
  o2 (fX5_takeBack b h3) fun _ h18 =>
  some (((), h18)))
  else
  if a1 = (128 : Int32) then
  ((oGR 4 3 (some a0) h3).bind fun x8 =>
  (oOb 7 x8 h3).bind fun b =>
  o2 (fX8_end b h3) fun _ h10 =>
  (oGR 4 1 (some a0) h10).bind fun x11 =>
  (oGR 4 5 (some a0) h10).bind fun x12 =>
  (oOb 4 (some a0) h10).bind fun b =>
  o2 (fX5_wordsOf b x12 h10) fun x13 h14 =>
  (oOb 8 x11 h14).bind fun b =>
  o2 (fX9_comeAnswer b x13 h14) fun _ h16 =>
  some (((), h16)))
  else
  (oGR 4 3 (some a0) h3).bind fun x4 =>
  (oOb 7 x4 h3).bind fun b =>
  (fX8_characterOf b a1 h3).bind fun x5 =>
  (oOb 4 (some a0) h3).bind fun b =>
  o2 (fX5_typeCharacter b x5 h3) fun _ h7 =>
  some (((), h7)))
  else
  some (((), h3))
/-! BrailleDesk$Reader.goToKind -/
def fX5_goToKind_B2 (c0 : Nat) (c1 : Int32) (h : hp) (a : Int32) : Option (Int32 ⊕ ((Unit × hp) ⊕ Unit)) :=
  if (7 : Int32) < a then
  (some (.inr (.inr ())))
  else
  (fX2_kindWord a).bind fun x1 =>
  (fX0_firstPoints x1).bind fun x2 =>
  if c1 = x2 then
  ((oGR 4 0 (some c0) h).bind fun x3 =>
  (oGR 4 5 (some c0) h).bind fun x4 =>
  (oOb 6 x3 h).bind fun b =>
  (fX7_nextOfKind b x4 a h).bind fun x5 =>
  (oOb 4 (some c0) h).bind fun b =>
  o2 (fX5_goTo b x5 31 h) fun _ h7 =>
  some (.inr (.inl (((), h7)))))
  else
  some (.inl (a + (1 : Int32)))
def fX5_goToKind (a0 : Nat) (a1 : Int32) (h : hp) : Option (Unit × hp) :=
  oR (τ := (Unit × hp)) (σ := Unit)
  (itr (fX5_goToKind_B2 a0 a1 h) FU (0 : Int32))
  fun q1 =>
  some (((), h))
/-! BrailleDesk$Reader.obey -/
def fX5_obey (a0 : Nat) (a1 : Int32) (h : hp) : Option (Unit × hp) :=
  Option.bind (α := hp)
  (if a1 ≤ (256 : Int32) then
  ((oGR 4 3 (some a0) h).bind fun x3 =>
  (oGI 7 0 x3 h).bind fun x4 =>
  if x4 = 0 then
  ((oOb 4 (some a0) h).bind fun b =>
  o2 (fX5_goToKind b a1 h) fun _ h6 =>
  some h6)
  else
  (oOb 4 (some a0) h).bind fun b =>
  o2 (fX5_type b a1 h) fun _ h8 =>
  some h8)
  else
  (oOb 4 (some a0) h).bind fun b =>
  o2 (fX5_command b (a1 - (256 : Int32)) h) fun _ h10 =>
  some h10)
  fun q1 =>
  (oGR 4 2 (some a0) q1).bind fun x11 =>
  (oGR 4 5 (some a0) q1).bind fun x12 =>
  (oGR 4 3 (some a0) q1).bind fun x13 =>
  (oGI 7 0 x13 q1).bind fun x14 =>
  (oOb 2 x11 q1).bind fun b =>
  o2 (fX3_keep b x12 x14 q1) fun _ h16 =>
  some (((), h16))
/-! BrailleDesk.<init> -/
def fX10_init (a0 : Nat) (h : hp) : Option (Unit × hp) :=
  o2 (fX7_init (hN h) (wN h (7, 0))) fun _ h2 =>
  (oPR 9 0 (some a0) (some (hN h)) h2).bind fun h3 =>
  o2 (fX9_init (hN h3) (wN h3 (9, 0))) fun _ h5 =>
  (oPR 9 1 (some a0) (some (hN h3)) h5).bind fun h6 =>
  (oGR 9 0 (some a0) (wN h6 (6, 0))).bind fun x7 =>
  (oGR 9 1 (some a0) (wN h6 (6, 0))).bind fun x8 =>
  o2 (fX6_init (hN h6) x7 x8 (wN h6 (6, 0))) fun _ h10 =>
  (oPR 9 2 (some a0) (some (hN h6)) h10).bind fun h11 =>
  (oGR 9 0 (some a0) (wN h11 (5, 0))).bind fun x12 =>
  (oGR 9 1 (some a0) (wN h11 (5, 0))).bind fun x13 =>
  o2 (fX5_init (hN h11) x12 x13 (wN h11 (5, 0))) fun _ h15 =>
  (oPR 9 3 (some a0) (some (hN h11)) h15).bind fun h16 =>
  o2 (fX1_init (hN h16) (12 : Int32) (wN h16 (1, 0))) fun _ h18 =>
  (oPR 9 4 (some a0) (some (hN h16)) h18).bind fun h19 =>
  some (((), h19))
/-! BrailleDesk.isCharacter -/
def fX10_isCharacter (a0 : Int32) : Option Int32 :=
  if a0 < (32 : Int32) then
  (if a0 < (119040 : Int32) then
  (some ((0 : Int32)))
  else
  if (119295 : Int32) < a0 then
  (some ((0 : Int32)))
  else
  some ((1 : Int32)))
  else
  if a0 ≤ (126 : Int32) then
  (some ((1 : Int32)))
  else
  if a0 < (119040 : Int32) then
  (some ((0 : Int32)))
  else
  if (119295 : Int32) < a0 then
  (some ((0 : Int32)))
  else
  some ((1 : Int32))
/-! BrailleDesk.draft -/
def fX10_draft (a0 : Nat) (a1 : Int32) (h : hp) : Option ((Int32 ⊕ String) × hp) :=
  (fX10_isCharacter a1).bind fun x1 =>
  if x1 = 0 then
  (some ((.inr "java/lang/IllegalArgumentException", h)))
  else
  (oGR 9 4 (some a0) h).bind fun x2 =>
  (oOb 0 x2 h).bind fun b =>
  (fX1_size b h).bind fun x3 =>
  if x3 < (12 : Int32) then
  ((oGR 9 4 (some a0) h).bind fun x4 =>
  (oOb 0 x4 h).bind fun b =>
  o2 (fX1_put b a1 h) fun _ h6 =>
  (oGR 9 4 (some a0) h6).bind fun x7 =>
  (oOb 0 x7 h6).bind fun b =>
  (fX1_size b h6).bind fun x8 =>
  some ((.inl x8, h6)))
  else
  some ((.inr "java/lang/IllegalStateException", h))
/-! BrailleDesk.existing -/
def fX10_existing (a0 : Nat) (a1 : Int32) (h : hp) : Option ((Option Nat) ⊕ String) :=
  (oGR 9 0 (some a0) h).bind fun x1 =>
  (oOb 6 x1 h).bind fun b =>
  (fX7_find b a1 h).bind fun x2 =>
  if x2 = none then
  (some (.inr "java/lang/IndexOutOfBoundsException"))
  else
  some (.inl x2)
/-! BrailleDesk.refuseManyAlerts -/
def fX10_refuseManyAlerts (a0 : Nat) (h : hp) : Option (Unit ⊕ String) :=
  (oGR 9 1 (some a0) h).bind fun x1 =>
  (oOb 8 x1 h).bind fun b =>
  (fX9_countWaiting b (2 : Int32) h).bind fun x2 =>
  if x2 < (20 : Int32) then
  (some (.inl ()))
  else
  some (.inr "java/lang/IllegalStateException")
/-! BrailleDesk.add -/
def fX10_add (a0 : Nat) (a1 : Int32) (a2 : Int32) (a3 : Int32) (h : hp) : Option ((Int32 ⊕ String) × hp) :=
  (oOb 9 (some a0) h).bind fun b =>
  oC (fX10_existing b a1 h) (fun E => (.inr E, h)) fun x1 =>
  if a2 < 0 then
  (some ((.inr "java/lang/IllegalArgumentException", h)))
  else
  (oOb 1 x1 h).bind fun b =>
  (fX2_size b h).bind fun x2 =>
  if x2 < a2 then
  (some ((.inr "java/lang/IllegalArgumentException", h)))
  else
  if a3 < 0 then
  (some ((.inr "java/lang/IllegalArgumentException", h)))
  else
  if a3 ≤ (7 : Int32) then
  ((oGR 9 0 (some a0) h).bind fun x3 =>
  (oOb 6 x3 h).bind fun b =>
  (fX7_hasRoom b h).bind fun x4 =>
  if x4 = 0 then
  (some ((.inr "java/lang/IllegalStateException", h)))
  else
  (oOb 1 x1 h).bind fun b =>
  (fX2_size b h).bind fun x5 =>
  if (10 : Int32) ≤ x5 then
  (some ((.inr "java/lang/IllegalStateException", h)))
  else
  (oOb 1 x1 h).bind fun b =>
  (fX2_canHave b a3 h).bind fun x6 =>
  if x6 = 0 then
  (some ((.inr "java/lang/IllegalStateException", h)))
  else
  (oOb 9 (some a0) h).bind fun b =>
  oC (fX10_refuseManyAlerts b h) (fun E => (.inr E, h)) fun _ =>
  (oGR 9 0 (some a0) h).bind fun x8 =>
  (oGR 9 4 (some a0) h).bind fun x9 =>
  (oOb 6 x8 h).bind fun b =>
  o2 (fX7_make b x1 a2 a3 x9 h) fun x10 h11 =>
  (oGR 9 4 (some a0) h11).bind fun x12 =>
  (oOb 0 x12 h11).bind fun b =>
  o2 (fX1_clear b h11) fun _ h14 =>
  (oGR 9 2 (some a0) h14).bind fun x15 =>
  (oOb 5 x15 h14).bind fun b =>
  o2 (fX6_tellWords b x10 h14) fun _ h17 =>
  (oGI 1 0 x10 h17).bind fun x18 =>
  some ((.inl x18, h17)))
  else
  some ((.inr "java/lang/IllegalArgumentException", h))
/-! BrailleDesk.refuseScreen -/
def fX10_refuseScreen (a0 : (Option Nat)) (h : hp) : Option (Unit ⊕ String) :=
  (oGR 1 2 a0 h).bind fun x1 =>
  if x1 = none then
  (some (.inr "java/lang/IllegalStateException"))
  else
  some (.inl ())
/-! BrailleDesk.remove -/
def fX10_remove (a0 : Nat) (a1 : Int32) (h : hp) : Option ((Int32 ⊕ String) × hp) :=
  (oOb 9 (some a0) h).bind fun b =>
  oC (fX10_existing b a1 h) (fun E => (.inr E, h)) fun x1 =>
  oC (fX10_refuseScreen x1 h) (fun E => (.inr E, h)) fun _ =>
  (oOb 9 (some a0) h).bind fun b =>
  oC (fX10_refuseManyAlerts b h) (fun E => (.inr E, h)) fun _ =>
  (oOb 1 x1 h).bind fun b =>
  (fX2_isShownNow b h).bind fun x4 =>
  (oOb 1 x1 h).bind fun b =>
  (fX2_refuge b h).bind fun x5 =>
  (oGR 9 2 (some a0) h).bind fun x6 =>
  (oOb 5 x6 h).bind fun b =>
  o2 (fX6_forgetWithin b x1 h) fun _ h8 =>
  (oGR 9 0 (some a0) h8).bind fun x9 =>
  (oOb 6 x9 h8).bind fun b =>
  o2 (fX7_takeOut b x1 h8) fun x10 h11 =>
  Option.bind (α := hp)
  (if x4 = 0 then
  (some h11)
  else
  (oGR 9 2 (some a0) h11).bind fun x14 =>
  (oOb 5 x14 h11).bind fun b =>
  o2 (fX6_tellGone b x1 h11) fun _ h16 =>
  some h16)
  fun q12 =>
  (oGR 9 3 (some a0) q12).bind fun x17 =>
  (oOb 4 x17 q12).bind fun b =>
  o2 (fX5_lose b x1 x5 q12) fun _ h19 =>
  some ((.inl x10, h19))
/-! BrailleDesk.hide -/
def fX10_hide (a0 : Nat) (a1 : Int32) (a2 : Int32) (h : hp) : Option ((Int32 ⊕ String) × hp) :=
  (oOb 9 (some a0) h).bind fun b =>
  oC (fX10_existing b a1 h) (fun E => (.inr E, h)) fun x1 =>
  oC (fX10_refuseScreen x1 h) (fun E => (.inr E, h)) fun _ =>
  (oOb 9 (some a0) h).bind fun b =>
  oC (fX10_refuseManyAlerts b h) (fun E => (.inr E, h)) fun _ =>
  (oGI 1 7 x1 h).bind fun x4 =>
  (oOb 1 x1 h).bind fun b =>
  (fX2_isShownNow b h).bind fun x5 =>
  (oPZ 1 7 x1 a2 h).bind fun h6 =>
  (oGR 9 0 (some a0) h6).bind fun x7 =>
  (oOb 6 x7 h6).bind fun b =>
  o2 (fX7_reorder b h6) fun _ h9 =>
  if x5 = 0 then
  (if x4 = 0 then
  ((oBo x4).bind fun _ =>
  some ((.inl x4, h9)))
  else
  if a2 = 0 then
  ((oGR 9 2 (some a0) h9).bind fun x10 =>
  (oOb 5 x10 h9).bind fun b =>
  o2 (fX6_tellWords b x1 h9) fun _ h12 =>
  (oBo x4).bind fun _ =>
  some ((.inl x4, h12)))
  else
  (oBo x4).bind fun _ =>
  some ((.inl x4, h9)))
  else
  if a2 = 0 then
  (if x4 = 0 then
  ((oBo x4).bind fun _ =>
  some ((.inl x4, h9)))
  else
  if a2 = 0 then
  ((oGR 9 2 (some a0) h9).bind fun x13 =>
  (oOb 5 x13 h9).bind fun b =>
  o2 (fX6_tellWords b x1 h9) fun _ h15 =>
  (oBo x4).bind fun _ =>
  some ((.inl x4, h15)))
  else
  (oBo x4).bind fun _ =>
  some ((.inl x4, h9)))
  else
  (oGR 9 2 (some a0) h9).bind fun x16 =>
  (oOb 5 x16 h9).bind fun b =>
  o2 (fX6_tellGone b x1 h9) fun _ h18 =>
  (oGR 9 3 (some a0) h18).bind fun x19 =>
  (oOb 1 x1 h18).bind fun b =>
  (fX2_refuge b h18).bind fun x20 =>
  (oOb 4 x19 h18).bind fun b =>
  o2 (fX5_lose b x1 x20 h18) fun _ h22 =>
  (oBo x4).bind fun _ =>
  some ((.inl x4, h22))
/-! BrailleDesk.rename -/
def fX10_rename (a0 : Nat) (a1 : Int32) (h : hp) : Option ((Int32 ⊕ String) × hp) :=
  (oOb 9 (some a0) h).bind fun b =>
  oC (fX10_existing b a1 h) (fun E => (.inr E, h)) fun x1 =>
  oC (fX10_refuseScreen x1 h) (fun E => (.inr E, h)) fun _ =>
  (oOb 9 (some a0) h).bind fun b =>
  oC (fX10_refuseManyAlerts b h) (fun E => (.inr E, h)) fun _ =>
  (oGR 1 5 x1 h).bind fun x4 =>
  (oGR 9 4 (some a0) h).bind fun x5 =>
  (oOb 0 x4 h).bind fun b =>
  (fX1_isSame b x5 h).bind fun x6 =>
  Option.bind (α := Int32)
  (if x6 = 0 then
  (some (1 : Int32))
  else
  some (0 : Int32))
  fun q7 =>
  (oGR 1 5 x1 h).bind fun x9 =>
  (oGR 9 4 (some a0) h).bind fun x10 =>
  (oOb 0 x9 h).bind fun b =>
  o2 (fX1_copy b x10 h) fun _ h12 =>
  (oGR 9 4 (some a0) h12).bind fun x13 =>
  (oOb 0 x13 h12).bind fun b =>
  o2 (fX1_clear b h12) fun _ h15 =>
  Option.bind (α := hp)
  (if q7 = 0 then
  (some h15)
  else
  (oGR 9 2 (some a0) h15).bind fun x18 =>
  (oOb 5 x18 h15).bind fun b =>
  o2 (fX6_tellWords b x1 h15) fun _ h20 =>
  some h20)
  fun q16 =>
  (oGR 9 3 (some a0) q16).bind fun x21 =>
  (oOb 4 x21 q16).bind fun b =>
  o2 (fX5_refreshPins b q16) fun _ h23 =>
  (oGR 1 5 x1 h23).bind fun x24 =>
  (oOb 0 x24 h23).bind fun b =>
  (fX1_size b h23).bind fun x25 =>
  some ((.inl x25, h23))
/-! BrailleDesk.set -/
def fX10_set (a0 : Nat) (a1 : Int32) (a2 : Int32) (h : hp) : Option ((Int32 ⊕ String) × hp) :=
  (oOb 9 (some a0) h).bind fun b =>
  oC (fX10_existing b a1 h) (fun E => (.inr E, h)) fun x1 =>
  (oGI 1 1 x1 h).bind fun x2 =>
  if x2 = (3 : Int32) then
  ((oOb 9 (some a0) h).bind fun b =>
  oC (fX10_refuseManyAlerts b h) (fun E => (.inr E, h)) fun _ =>
  (oGI 1 8 x1 h).bind fun x4 =>
  (oPZ 1 8 x1 a2 h).bind fun h5 =>
  Option.bind (α := hp)
  (if x4 = a2 then
  (some h5)
  else
  (oGR 9 2 (some a0) h5).bind fun x8 =>
  (oOb 5 x8 h5).bind fun b =>
  o2 (fX6_tellWords b x1 h5) fun _ h10 =>
  some h10)
  fun q6 =>
  (oGR 9 3 (some a0) q6).bind fun x11 =>
  (oOb 4 x11 q6).bind fun b =>
  o2 (fX5_refreshPins b q6) fun _ h13 =>
  (oBo x4).bind fun _ =>
  some ((.inl x4, h13)))
  else
  some ((.inr "java/lang/IllegalStateException", h))
/-! BrailleDesk.setRule -/
def fX10_setRule (a0 : Nat) (a1 : Int32) (a2 : Int32) (h : hp) : Option ((Int32 ⊕ String) × hp) :=
  (oOb 9 (some a0) h).bind fun b =>
  oC (fX10_existing b a1 h) (fun E => (.inr E, h)) fun x1 =>
  oR (τ := ((Int32 ⊕ String) × hp)) (σ := Unit)
  (if a2 = (-1 : Int32) then
  (some (.inr ()))
  else
  if a2 < 0 then
  (some (.inl ((.inr "java/lang/IllegalArgumentException", h))))
  else
  if a2 ≤ (2 : Int32) then
  (some (.inr ()))
  else
  some (.inl ((.inr "java/lang/IllegalArgumentException", h))))
  fun q2 =>
  (oGI 1 10 x1 h).bind fun x4 =>
  (oPI 1 10 x1 a2 h).bind fun h5 =>
  (oGR 9 3 (some a0) h5).bind fun x6 =>
  (oOb 4 x6 h5).bind fun b =>
  o2 (fX5_refreshPins b h5) fun _ h8 =>
  some ((.inl x4, h8))
/-! BrailleDesk.elements -/
def fX10_elements (a0 : Nat) (h : hp) : Option Int32 :=
  (oGR 9 0 (some a0) h).bind fun x1 =>
  (oGI 6 3 x1 h).bind fun x2 =>
  some (x2)
/-! BrailleDesk.kind -/
def fX10_kind (a0 : Nat) (a1 : Int32) (h : hp) : Option (Int32 ⊕ String) :=
  (oOb 9 (some a0) h).bind fun b =>
  oC (fX10_existing b a1 h) (fun E => .inr E) fun x1 =>
  (oGI 1 1 x1 h).bind fun x2 =>
  some (.inl x2)
/-! BrailleDesk.parent -/
def fX10_parent (a0 : Nat) (a1 : Int32) (h : hp) : Option (Int32 ⊕ String) :=
  (oOb 9 (some a0) h).bind fun b =>
  oC (fX10_existing b a1 h) (fun E => .inr E) fun x1 =>
  (oGR 1 2 x1 h).bind fun x2 =>
  if x2 = none then
  (some (.inl (-1 : Int32)))
  else
  (oGI 1 0 x2 h).bind fun x3 =>
  some (.inl x3)
/-! BrailleDesk.children -/
def fX10_children (a0 : Nat) (a1 : Int32) (h : hp) : Option (Int32 ⊕ String) :=
  (oOb 9 (some a0) h).bind fun b =>
  oC (fX10_existing b a1 h) (fun E => .inr E) fun x1 =>
  (oOb 1 x1 h).bind fun b =>
  (fX2_size b h).bind fun x2 =>
  some (.inl x2)
/-! BrailleDesk.childAt -/
def fX10_childAt (a0 : Nat) (a1 : Int32) (a2 : Int32) (h : hp) : Option (Int32 ⊕ String) :=
  (oOb 9 (some a0) h).bind fun b =>
  oC (fX10_existing b a1 h) (fun E => .inr E) fun x1 =>
  (oOb 1 x1 h).bind fun b =>
  (fX2_child b a2 h).bind fun x2 =>
  if x2 = none then
  (some (.inr "java/lang/IndexOutOfBoundsException"))
  else
  (oGI 1 0 x2 h).bind fun x3 =>
  some (.inl x3)
/-! BrailleDesk.nameLength -/
def fX10_nameLength (a0 : Nat) (a1 : Int32) (h : hp) : Option (Int32 ⊕ String) :=
  (oOb 9 (some a0) h).bind fun b =>
  oC (fX10_existing b a1 h) (fun E => .inr E) fun x1 =>
  (oGR 1 5 x1 h).bind fun x2 =>
  (oOb 0 x2 h).bind fun b =>
  (fX1_size b h).bind fun x3 =>
  some (.inl x3)
/-! BrailleDesk.contentLength -/
def fX10_contentLength (a0 : Nat) (a1 : Int32) (h : hp) : Option (Int32 ⊕ String) :=
  (oOb 9 (some a0) h).bind fun b =>
  oC (fX10_existing b a1 h) (fun E => .inr E) fun x1 =>
  (oGR 1 6 x1 h).bind fun x2 =>
  (oOb 0 x2 h).bind fun b =>
  (fX1_size b h).bind fun x3 =>
  some (.inl x3)
/-! BrailleDesk.isOn -/
def fX10_isOn (a0 : Nat) (a1 : Int32) (h : hp) : Option (Int32 ⊕ String) :=
  (oOb 9 (some a0) h).bind fun b =>
  oC (fX10_existing b a1 h) (fun E => .inr E) fun x1 =>
  (oGI 1 8 x1 h).bind fun x2 =>
  (oBo x2).bind fun _ =>
  some (.inl x2)
/-! BrailleDesk.presses -/
def fX10_presses (a0 : Nat) (a1 : Int32) (h : hp) : Option (Int32 ⊕ String) :=
  (oOb 9 (some a0) h).bind fun b =>
  oC (fX10_existing b a1 h) (fun E => .inr E) fun x1 =>
  (oGI 1 9 x1 h).bind fun x2 =>
  some (.inl x2)
/-! BrailleDesk.isShown -/
def fX10_isShown (a0 : Nat) (a1 : Int32) (h : hp) : Option (Int32 ⊕ String) :=
  (oOb 9 (some a0) h).bind fun b =>
  oC (fX10_existing b a1 h) (fun E => .inr E) fun x1 =>
  (oOb 1 x1 h).bind fun b =>
  (fX2_isShownNow b h).bind fun x2 =>
  (oBo x2).bind fun _ =>
  some (.inl x2)
/-! BrailleDesk.level -/
def fX10_level (a0 : Nat) (a1 : Int32) (h : hp) : Option (Int32 ⊕ String) :=
  (oOb 9 (some a0) h).bind fun b =>
  oC (fX10_existing b a1 h) (fun E => .inr E) fun x1 =>
  (oOb 1 x1 h).bind fun b =>
  (fX2_levelNow b h).bind fun x2 =>
  some (.inl x2)
/-! BrailleDesk.reading -/
def fX10_reading (a0 : Nat) (h : hp) : Option Int32 :=
  (oGR 9 0 (some a0) h).bind fun x1 =>
  (oGI 6 5 x1 h).bind fun x2 =>
  some (x2)
/-! BrailleDesk.readingAt -/
def fX10_readingAt (a0 : Nat) (a1 : Int32) (h : hp) : Option (Int32 ⊕ String) :=
  (oGR 9 0 (some a0) h).bind fun x1 =>
  (oOb 6 x1 h).bind fun b =>
  (fX7_inOrder b a1 h).bind fun x2 =>
  if x2 = none then
  (some (.inr "java/lang/IndexOutOfBoundsException"))
  else
  (oGI 1 0 x2 h).bind fun x3 =>
  some (.inl x3)
/-! BrailleDesk.chord -/
def fX10_chord (a0 : Nat) (a1 : Int32) (h : hp) : Option ((Int32 ⊕ String) × hp) :=
  if a1 < (1 : Int32) then
  (some ((.inr "java/lang/IllegalArgumentException", h)))
  else
  if a1 ≤ (511 : Int32) then
  ((oGI 9 5 (some a0) h).bind fun x1 =>
  if x1 = 0 then
  ((oGR 9 3 (some a0) h).bind fun x2 =>
  (oOb 4 x2 h).bind fun b =>
  o2 (fX5_obey b a1 h) fun _ h4 =>
  (oGR 9 3 (some a0) h4).bind fun x5 =>
  (oGR 4 5 x5 h4).bind fun x6 =>
  (oGI 1 0 x6 h4).bind fun x7 =>
  some ((.inl x7, h4)))
  else
  some ((.inr "java/lang/IllegalStateException", h)))
  else
  some ((.inr "java/lang/IllegalArgumentException", h))
/-! BrailleDesk.cursor -/
def fX10_cursor (a0 : Nat) (h : hp) : Option Int32 :=
  (oGR 9 3 (some a0) h).bind fun x1 =>
  (oGR 4 5 x1 h).bind fun x2 =>
  (oGI 1 0 x2 h).bind fun x3 =>
  some (x3)
/-! BrailleDesk.focus -/
def fX10_focus (a0 : Nat) (h : hp) : Option Int32 :=
  (oGR 9 3 (some a0) h).bind fun x1 =>
  (oGR 4 6 x1 h).bind fun x2 =>
  if x2 = none then
  (some ((-1 : Int32)))
  else
  (oGI 1 0 x2 h).bind fun x3 =>
  some (x3)
/-! BrailleDesk.isTyping -/
def fX10_isTyping (a0 : Nat) (h : hp) : Option Int32 :=
  (oGR 9 3 (some a0) h).bind fun x1 =>
  (oGR 4 3 x1 h).bind fun x2 =>
  (oGI 7 0 x2 h).bind fun x3 =>
  (oBo x3).bind fun _ =>
  some (x3)
/-! BrailleDesk.offset -/
def fX10_offset (a0 : Nat) (h : hp) : Option Int32 :=
  (oGR 9 3 (some a0) h).bind fun x1 =>
  (oGR 4 2 x1 h).bind fun x2 =>
  (oGI 2 2 x2 h).bind fun x3 =>
  some (x3)
/-! BrailleDesk.lineLength -/
def fX10_lineLength (a0 : Nat) (h : hp) : Option Int32 :=
  (oGR 9 3 (some a0) h).bind fun x1 =>
  (oGR 4 2 x1 h).bind fun x2 =>
  (oGR 2 0 x2 h).bind fun x3 =>
  (oOb 0 x3 h).bind fun b =>
  (fX1_size b h).bind fun x4 =>
  some (x4)
/-! BrailleDesk.refuseNoPin -/
def fX10_refuseNoPin (a0 : Int32) : Option (Unit ⊕ String) :=
  if a0 < 0 then
  (some (.inr "java/lang/IndexOutOfBoundsException"))
  else
  if a0 < (10 : Int32) then
  (some (.inl ()))
  else
  some (.inr "java/lang/IndexOutOfBoundsException")
/-! BrailleDesk.pin -/
def fX10_pin (a0 : Nat) (a1 : Int32) (h : hp) : Option (Int32 ⊕ String) :=
  oC (fX10_refuseNoPin a1) (fun E => .inr E) fun _ =>
  (oGR 9 3 (some a0) h).bind fun x2 =>
  (oGR 4 2 x2 h).bind fun x3 =>
  (oOb 2 x3 h).bind fun b =>
  (fX3_cell b a1 h).bind fun x4 =>
  some (.inl x4)
/-! BrailleDesk.pinAnew -/
def fX10_pinAnew (a0 : Nat) (a1 : Int32) (h : hp) : Option ((Int32 ⊕ String) × hp) :=
  oC (fX10_refuseNoPin a1) (fun E => (.inr E, h)) fun _ =>
  (oGR 9 3 (some a0) h).bind fun x2 =>
  (oOb 4 x2 h).bind fun b =>
  o2 (fX5_cellAnew b a1 h) fun x3 h4 =>
  some ((.inl x3, h4))
/-! BrailleDesk.wordsOf -/
def fX10_wordsOf (a0 : Nat) (a1 : (Option Nat)) (h : hp) : Option (((Option Nat) ⊕ String) × hp) :=
  (oOb 1 a1 h).bind fun b =>
  (fX2_isShownNow b h).bind fun x1 =>
  if x1 = 0 then
  (some ((.inr "java/lang/IllegalStateException", h)))
  else
  (oGR 9 3 (some a0) h).bind fun x2 =>
  (oOb 4 x2 h).bind fun b =>
  o2 (fX5_wordsOf b a1 h) fun x3 h4 =>
  some ((.inl x3, h4))
/-! BrailleDesk.wordsLength -/
def fX10_wordsLength (a0 : Nat) (a1 : Int32) (h : hp) : Option ((Int32 ⊕ String) × hp) :=
  (oOb 9 (some a0) h).bind fun b =>
  oC (fX10_existing b a1 h) (fun E => (.inr E, h)) fun x1 =>
  (oOb 9 (some a0) h).bind fun b =>
  oX (fX10_wordsOf b x1 h) (fun E hE => (.inr E, hE)) fun x2 h3 =>
  (oOb 0 x2 h3).bind fun b =>
  (fX1_size b h3).bind fun x4 =>
  some ((.inl x4, h3))
/-! BrailleDesk.codeAt -/
def fX10_codeAt (a0 : (Option Nat)) (a1 : Int32) (h : hp) : Option (Int32 ⊕ String) :=
  if a1 < 0 then
  (some (.inr "java/lang/IndexOutOfBoundsException"))
  else
  (oOb 0 a0 h).bind fun b =>
  (fX1_size b h).bind fun x1 =>
  if a1 < x1 then
  ((oOb 0 a0 h).bind fun b =>
  (fX1_at b a1 h).bind fun x2 =>
  some (.inl x2))
  else
  some (.inr "java/lang/IndexOutOfBoundsException")
/-! BrailleDesk.wordsAt -/
def fX10_wordsAt (a0 : Nat) (a1 : Int32) (a2 : Int32) (h : hp) : Option ((Int32 ⊕ String) × hp) :=
  (oOb 9 (some a0) h).bind fun b =>
  oC (fX10_existing b a1 h) (fun E => (.inr E, h)) fun x1 =>
  (oOb 9 (some a0) h).bind fun b =>
  oX (fX10_wordsOf b x1 h) (fun E hE => (.inr E, hE)) fun x2 h3 =>
  oC (fX10_codeAt x2 a2 h3) (fun E => (.inr E, h3)) fun x4 =>
  some ((.inl x4, h3))
/-! BrailleDesk.tick -/
def fX10_tick_B32 (c0 : Nat) (c1 : Int32) (c2 : Int32) (a : (Int32 × hp)) : Option ((Int32 × hp) ⊕ hp) :=
  if c1 ≤ a.1 then
  (some (.inr a.2))
  else
  (oGR 9 2 (some c0) a.2).bind fun x1 =>
  (oOb 5 x1 a.2).bind fun b =>
  o2 (fX6_passTick b a.2) fun _ h3 =>
  (oGR 9 1 (some c0) h3).bind fun x4 =>
  (oOb 8 x4 h3).bind fun b =>
  o2 (fX9_speak b h3) fun _ h6 =>
  some (.inl (a.1 + (1 : Int32), h6))
def fX10_tick (a0 : Nat) (a1 : Int32) (h : hp) : Option ((Int32 ⊕ String) × hp) :=
  if a1 < (1 : Int32) then
  (some ((.inr "java/lang/IllegalArgumentException", h)))
  else
  if a1 ≤ (50 : Int32) then
  ((oGR 9 1 (some a0) h).bind fun x1 =>
  (oGI 8 9 x1 h).bind fun x2 =>
  Option.bind (α := hp)
  (itr (fX10_tick_B32 a0 a1 x2) FU ((0 : Int32), h))
  fun q3 =>
  (oGR 9 1 (some a0) q3).bind fun x4 =>
  (oGI 8 9 x4 q3).bind fun x5 =>
  some ((.inl (x5 - x2), q3)))
  else
  some ((.inr "java/lang/IllegalArgumentException", h))
/-! BrailleDesk.waiting -/
def fX10_waiting (a0 : Nat) (a1 : Int32) (h : hp) : Option (Int32 ⊕ String) :=
  if a1 < 0 then
  (some (.inr "java/lang/IllegalArgumentException"))
  else
  if a1 ≤ (2 : Int32) then
  ((oGR 9 1 (some a0) h).bind fun x1 =>
  (oOb 8 x1 h).bind fun b =>
  (fX9_countWaiting b a1 h).bind fun x2 =>
  some (.inl x2))
  else
  some (.inr "java/lang/IllegalArgumentException")

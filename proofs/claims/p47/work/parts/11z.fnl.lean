/-! ===== the law's methods as functions over the abstract heap ===== -/
/-! BrailleDeskLaw.isThere -/
def fL_isThere (a0 : (Option Nat)) (a1 : Int32) (h : hp) : Option Int32 :=
  (oIL a0 (((6 : Int32) * a1) + (3 : Int32)) h).bind fun x1 =>
  if (x1 &&& (1 : Int32)) = (1 : Int32) then
  (some ((1 : Int32)))
  else
  some ((0 : Int32))
/-! BrailleDeskLaw.isHidden -/
def fL_isHidden (a0 : (Option Nat)) (a1 : Int32) (h : hp) : Option Int32 :=
  (oIL a0 (((6 : Int32) * a1) + (3 : Int32)) h).bind fun x1 =>
  if (x1 &&& (2 : Int32)) = (2 : Int32) then
  (some ((1 : Int32)))
  else
  some ((0 : Int32))
/-! BrailleDeskLaw.isShown -/
def fL_isShown_B8 (c0 : (Option Nat)) (h : hp) (a : (Int32 × Int32)) : Option ((Int32 × Int32) ⊕ Int32) :=
  if a.1 < 0 then
  (some (.inr a.2))
  else
  if a.2 = 0 then
  (some (.inr a.2))
  else
  (fL_isHidden c0 a.1 h).bind fun x1 =>
  Option.bind (α := Int32)
  (if x1 = 0 then
  (some (1 : Int32))
  else
  some (0 : Int32))
  fun q2 =>
  (oIL c0 (((6 : Int32) * a.1) + (1 : Int32)) h).bind fun x4 =>
  some (.inl (x4, q2))
def fL_isShown (a0 : (Option Nat)) (a1 : Int32) (h : hp) : Option Int32 :=
  (fL_isThere a0 a1 h).bind fun x1 =>
  Option.bind (α := Int32)
  (itr (fL_isShown_B8 a0 h) FU (a1, x1))
  fun q2 =>
  (oBo q2).bind fun _ =>
  some (q2)
/-! BrailleDeskLaw.level -/
def fL_level_B2 (c0 : (Option Nat)) (h : hp) (a : Int32) : Option (Int32 ⊕ Int32) :=
  if a < 0 then
  (some (.inr a))
  else
  (oIL c0 (((6 : Int32) * a) + (4 : Int32)) h).bind fun x1 =>
  if x1 = 0 then
  ((oIL c0 (((6 : Int32) * a) + (1 : Int32)) h).bind fun x2 =>
  some (.inl x2))
  else
  some (.inr a)
def fL_level (a0 : (Option Nat)) (a1 : Int32) (h : hp) : Option Int32 :=
  Option.bind (α := Int32)
  (itr (fL_level_B2 a0 h) FU a1)
  fun q1 =>
  if 0 ≤ q1 then
  ((oIL a0 (((6 : Int32) * q1) + (4 : Int32)) h).bind fun x2 =>
  some (x2 - (1 : Int32)))
  else
  some ((1 : Int32))
/-! BrailleDeskLaw.kid -/
def fL_kid_B6 (c0 : (Option Nat)) (c1 : (Option Nat)) (c2 : Int32) (c3 : Int32) (c4 : Int32) (h : hp) (a : (Int32 × Int32)) : Option ((Int32 × Int32) ⊕ Int32) :=
  (oIL c0 (0 : Int32) h).bind fun x1 =>
  if x1 ≤ a.2 then
  (some (.inr a.1))
  else
  (fL_isThere c1 a.2 h).bind fun x2 =>
  Option.bind (α := Int32)
  (if x2 = 0 then
  (some (0 : Int32))
  else
  (oIL c1 (((6 : Int32) * a.2) + (1 : Int32)) h).bind fun x5 =>
  if x5 = c2 then
  ((oIL c1 (((6 : Int32) * a.2) + (2 : Int32)) h).bind fun x6 =>
  if x6 < c3 then
  (some (0 : Int32))
  else
  if c4 = 0 then
  ((fL_isHidden c1 a.2 h).bind fun x7 =>
  if x7 = 0 then
  (some (1 : Int32))
  else
  some (0 : Int32))
  else
  some (1 : Int32))
  else
  some (0 : Int32))
  fun q3 =>
  if q3 = 0 then
  (some (.inl (a.1, a.2 + (1 : Int32))))
  else
  if a.1 < 0 then
  (some (.inl (a.2, a.2 + (1 : Int32))))
  else
  (oIL c1 (((6 : Int32) * a.2) + (2 : Int32)) h).bind fun x8 =>
  (oIL c1 (((6 : Int32) * a.1) + (2 : Int32)) h).bind fun x9 =>
  if x9 ≤ x8 then
  (some (.inl (a.1, a.2 + (1 : Int32))))
  else
  some (.inl (a.2, a.2 + (1 : Int32)))
def fL_kid (a0 : (Option Nat)) (a1 : (Option Nat)) (a2 : Int32) (a3 : Int32) (a4 : Int32) (h : hp) : Option Int32 :=
  Option.bind (α := Int32)
  (itr (fL_kid_B6 a0 a1 a2 a3 a4 h) FU ((-1 : Int32), (0 : Int32)))
  fun q1 =>
  some (q1)
/-! BrailleDeskLaw.kids -/
def fL_kids_B5 (c0 : (Option Nat)) (c1 : (Option Nat)) (c2 : Int32) (h : hp) (a : (Int32 × Int32)) : Option ((Int32 × Int32) ⊕ Int32) :=
  (oIL c0 (0 : Int32) h).bind fun x1 =>
  if x1 ≤ a.2 then
  (some (.inr a.1))
  else
  (fL_isThere c1 a.2 h).bind fun x2 =>
  if x2 = 0 then
  (some (.inl (a.1 + (0 : Int32), a.2 + (1 : Int32))))
  else
  (oIL c1 (((6 : Int32) * a.2) + (1 : Int32)) h).bind fun x3 =>
  if x3 = c2 then
  (some (.inl (a.1 + (1 : Int32), a.2 + (1 : Int32))))
  else
  some (.inl (a.1 + (0 : Int32), a.2 + (1 : Int32)))
def fL_kids (a0 : (Option Nat)) (a1 : (Option Nat)) (a2 : Int32) (h : hp) : Option Int32 :=
  Option.bind (α := Int32)
  (itr (fL_kids_B5 a0 a1 a2 h) FU ((0 : Int32), (0 : Int32)))
  fun q1 =>
  some (q1)
/-! BrailleDeskLaw.next -/
def fL_next_B12 (c0 : (Option Nat)) (c1 : (Option Nat)) (h : hp) (a : (Int32 × Int32)) : Option ((Int32 × Int32) ⊕ Int32) :=
  if 0 ≤ a.2 then
  (some (.inr a.2))
  else
  if a.1 ≤ 0 then
  (some (.inr a.2))
  else
  (oIL c1 (((6 : Int32) * a.1) + (1 : Int32)) h).bind fun x1 =>
  (oIL c1 (((6 : Int32) * a.1) + (2 : Int32)) h).bind fun x2 =>
  (fL_kid c0 c1 x1 (x2 + (1 : Int32)) (0 : Int32) h).bind fun x3 =>
  (oIL c1 (((6 : Int32) * a.1) + (1 : Int32)) h).bind fun x4 =>
  some (.inl (x4, x3))
def fL_next (a0 : (Option Nat)) (a1 : (Option Nat)) (a2 : Int32) (h : hp) : Option Int32 :=
  (fL_kid a0 a1 a2 (0 : Int32) (0 : Int32) h).bind fun x1 =>
  Option.bind (α := Int32)
  (itr (fL_next_B12 a0 a1 h) FU (a2, x1))
  fun q2 =>
  some (q2)
/-! BrailleDeskLaw.says -/
def fL_says_B6 (c0 : (Option Nat)) (c1 : Int32) (c2 : Int32) (c3 : Int32) (c4 : Int32) (c5 : Int32) (c6 : Int32) (c7 : Int32) (a : (Int32 × Int32 × hp)) : Option ((Int32 × Int32 × hp) ⊕ (Int32 × hp)) :=
  if (7 : Int32) ≤ a.2.1 then
  (some (.inr (a.1, a.2.2)))
  else
  Option.bind (α := Int32)
  (if a.2.1 = 0 then
  (if c1 ≤ 0 then
  (some (0 : Int32))
  else
  some (32 : Int32))
  else
  if a.2.1 = (1 : Int32) then
  (some c2)
  else
  if a.2.1 = (2 : Int32) then
  (some c3)
  else
  if a.2.1 = (3 : Int32) then
  (some c4)
  else
  if a.2.1 = (4 : Int32) then
  (some c5)
  else
  if a.2.1 = (5 : Int32) then
  (some c6)
  else
  some c7)
  fun q1 =>
  if q1 ≤ 0 then
  (some (.inl (a.1, a.2.1 + (1 : Int32), a.2.2)))
  else
  (oIS c0 a.1 q1 a.2.2).bind fun h3 =>
  some (.inl (a.1 + (1 : Int32), a.2.1 + (1 : Int32), h3))
def fL_says (a0 : (Option Nat)) (a1 : Int32) (a2 : Int32) (a3 : Int32) (a4 : Int32) (a5 : Int32) (a6 : Int32) (a7 : Int32) (h : hp) : Option (Int32 × hp) :=
  Option.bind (α := (Int32 × hp))
  (itr (fL_says_B6 a0 a1 a2 a3 a4 a5 a6 a7) FU (a1, (0 : Int32), h))
  fun q1 =>
  some ((q1.1, q1.2))
/-! BrailleDeskLaw.saysKind -/
def fL_saysKind (a0 : (Option Nat)) (a1 : Int32) (a2 : Int32) (h : hp) : Option (Int32 × hp) :=
  if a2 = (1 : Int32) then
  (some ((a1, h)))
  else
  if a2 = 0 then
  (o2 (fL_says a0 a1 (103 : Int32) (114 : Int32) (111 : Int32) (117 : Int32) (112 : Int32) (0 : Int32) h) fun x11 h12 =>
  some ((x11, h12)))
  else
  if a2 = (2 : Int32) then
  (o2 (fL_says a0 a1 (98 : Int32) (117 : Int32) (116 : Int32) (116 : Int32) (111 : Int32) (110 : Int32) h) fun x9 h10 =>
  some ((x9, h10)))
  else
  if a2 = (3 : Int32) then
  (o2 (fL_says a0 a1 (99 : Int32) (104 : Int32) (101 : Int32) (99 : Int32) (107 : Int32) (0 : Int32) h) fun x7 h8 =>
  some ((x7, h8)))
  else
  if a2 = (4 : Int32) then
  (o2 (fL_says a0 a1 (101 : Int32) (100 : Int32) (105 : Int32) (116 : Int32) (0 : Int32) (0 : Int32) h) fun x5 h6 =>
  some ((x5, h6)))
  else
  if a2 = (5 : Int32) then
  (o2 (fL_says a0 a1 (116 : Int32) (97 : Int32) (98 : Int32) (108 : Int32) (101 : Int32) (0 : Int32) h) fun x3 h4 =>
  some ((x3, h4)))
  else
  o2 (fL_says a0 a1 (114 : Int32) (111 : Int32) (119 : Int32) (0 : Int32) (0 : Int32) (0 : Int32) h) fun x1 h2 =>
  some ((x1, h2))
/-! BrailleDeskLaw.nameMany -/
def fL_nameMany (a0 : Int64) : Option Int32 :=
  if (lg_cmp a0 (0 : Int64)) = 0 then
  (some ((0 : Int32)))
  else
  if 0 ≤ (lg_cmp a0 (1048576 : Int64)) then
  (if 0 ≤ (lg_cmp a0 (1099511627776 : Int64)) then
  (some ((3 : Int32)))
  else
  some ((2 : Int32)))
  else
  some ((1 : Int32))
/-! BrailleDeskLaw.typed -/
def fL_typed (a0 : (Option Nat)) (a1 : Int32) (a2 : Int32) (h : hp) : Option Int32 :=
  (oNz (6 : Int32)).bind fun _ =>
  (oJL a0 (((2 : Int32) * a1) + (a2 / (6 : Int32))) h).bind fun x1 =>
  (oNz (6 : Int32)).bind fun _ =>
  some (((x1 >>> (((7 : Int32) * (a2 - a2 / (6 : Int32) * (6 : Int32))).toInt64 &&& 63)) &&& (127 : Int64)).toInt32)
/-! BrailleDeskLaw.words -/
def fL_words_B23 (c0 : (Option Nat)) (c1 : (Option Nat)) (c2 : (Option Nat)) (c3 : (Option Nat)) (c4 : (Option Nat)) (c5 : Int32) (c6 : (Option Nat)) (c8 : Int32) (c9 : Int32) (a : (Int32 × Int32 × hp)) : Option ((Int32 × Int32 × hp) ⊕ (Int32 × hp)) :=
  (oJL c2 c5 a.2.2).bind fun x1 =>
  (fL_nameMany x1).bind fun x2 =>
  if x2 ≤ a.2.1 then
  (some (.inr (a.1, a.2.2)))
  else
  (oJL c2 c5 a.2.2).bind fun x3 =>
  (oIS c6 a.1 (((x3 >>> (((20 : Int32) * a.2.1).toInt64 &&& 63)) &&& (1048575 : Int64)).toInt32) a.2.2).bind fun h4 =>
  some (.inl (a.1 + (1 : Int32), a.2.1 + (1 : Int32), h4))
def fL_words_B158 (c0 : (Option Nat)) (c1 : (Option Nat)) (c3 : (Option Nat)) (c4 : (Option Nat)) (c5 : Int32) (c6 : (Option Nat)) (c9 : Int32) (a : (Int32 × Int32 × hp)) : Option ((Int32 × Int32 × hp) ⊕ (Int32 × hp)) :=
  (oIL c4 c5 a.2.2).bind fun x1 =>
  if x1 ≤ a.2.1 then
  (some (.inr (a.1, a.2.2)))
  else
  Option.bind (α := (Int32 × hp))
  (if a.2.1 = 0 then
  (if a.1 ≤ 0 then
  (some (a.1, a.2.2))
  else
  (oIS c6 a.1 (32 : Int32) a.2.2).bind fun h4 =>
  some (a.1 + (1 : Int32), h4))
  else
  some (a.1, a.2.2))
  fun q2 =>
  (fL_typed c3 c5 a.2.1 q2.2).bind fun x5 =>
  (oIS c6 q2.1 x5 q2.2).bind fun h6 =>
  some (.inl (q2.1 + (1 : Int32), a.2.1 + (1 : Int32), h6))
def fL_words_B230 (c0 : (Option Nat)) (c1 : (Option Nat)) (c5 : Int32) (c6 : (Option Nat)) (c7 : Int32) (h : hp) (a : (Int32 × Int32 × Int32)) : Option ((Int32 × Int32 × Int32) ⊕ (Int32 × Int32)) :=
  (oIL c0 (0 : Int32) h).bind fun x1 =>
  if x1 ≤ a.2.2 then
  (some (.inr (a.1, a.2.1)))
  else
  (fL_isThere c1 a.2.2 h).bind fun x2 =>
  Option.bind (α := Int32)
  (if x2 = 0 then
  (some (0 : Int32))
  else
  (fL_isHidden c1 a.2.2 h).bind fun x5 =>
  if x5 = 0 then
  ((oIL c1 (((6 : Int32) * a.2.2) + (1 : Int32)) h).bind fun x6 =>
  (oIL c1 (((6 : Int32) * c5) + (1 : Int32)) h).bind fun x7 =>
  if x6 = x7 then
  (some (1 : Int32))
  else
  some (0 : Int32))
  else
  some (0 : Int32))
  fun q3 =>
  Option.bind (α := Int32)
  (if q3 = 0 then
  (some (0 : Int32))
  else
  some (1 : Int32))
  fun q8 =>
  if q3 = 0 then
  (some (.inl (a.1 + q8, a.2.1 + (0 : Int32), a.2.2 + (1 : Int32))))
  else
  (oIL c1 (((6 : Int32) * a.2.2) + (2 : Int32)) h).bind fun x10 =>
  (oIL c1 (((6 : Int32) * c5) + (2 : Int32)) h).bind fun x11 =>
  if x11 < x10 then
  (some (.inl (a.1 + q8, a.2.1 + (0 : Int32), a.2.2 + (1 : Int32))))
  else
  some (.inl (a.1 + q8, a.2.1 + (1 : Int32), a.2.2 + (1 : Int32)))
def fL_words (a0 : (Option Nat)) (a1 : (Option Nat)) (a2 : (Option Nat)) (a3 : (Option Nat)) (a4 : (Option Nat)) (a5 : Int32) (a6 : (Option Nat)) (h : hp) : Option (Int32 × hp) :=
  (oIL a1 ((6 : Int32) * a5) h).bind fun x1 =>
  (fL_level a1 a5 h).bind fun x2 =>
  Option.bind (α := (Int32 × hp))
  (itr (fL_words_B23 a0 a1 a2 a3 a4 a5 a6 x1 x2) FU ((0 : Int32), (0 : Int32), h))
  fun q3 =>
  Option.bind (α := (Int32 × hp))
  (if 0 < x2 then
  (o2 (fL_saysKind a6 q3.1 x1 q3.2) fun x6 h7 =>
  some (x6, h7))
  else
  if q3.1 = 0 then
  (o2 (fL_saysKind a6 q3.1 x1 q3.2) fun x8 h9 =>
  some (x8, h9))
  else
  some (q3.1, q3.2))
  fun q4 =>
  Option.bind (α := (Int32 × hp))
  (if x1 = (3 : Int32) then
  ((oIL a1 (((6 : Int32) * a5) + (3 : Int32)) q4.2).bind fun x12 =>
  Option.bind (α := Int32)
  (if (x12 &&& (4 : Int32)) = (4 : Int32) then
  (some (1 : Int32))
  else
  some (0 : Int32))
  fun q13 =>
  Option.bind (α := Int32)
  (if q13 = 0 then
  (some (102 : Int32))
  else
  some (110 : Int32))
  fun q15 =>
  Option.bind (α := Int32)
  (if q13 = 0 then
  (some (102 : Int32))
  else
  some (0 : Int32))
  fun q17 =>
  o2 (fL_says a6 q4.1 (111 : Int32) q15 q17 (0 : Int32) (0 : Int32) (0 : Int32) q4.2) fun x19 h20 =>
  some (x19, h20))
  else
  some (q4.1, q4.2))
  fun q10 =>
  Option.bind (α := (Int32 × hp))
  (itr (fL_words_B158 a0 a1 a3 a4 a5 a6 x2) FU (q10.1, (0 : Int32), q10.2))
  fun q21 =>
  if x2 = (2 : Int32) then
  (if a5 ≤ 0 then
  (some ((q21.1, q21.2)))
  else
  Option.bind (α := (Int32 × Int32))
  (itr (fL_words_B230 a0 a1 a5 a6 q21.1 q21.2) FU ((0 : Int32), (0 : Int32), (0 : Int32)))
  fun q22 =>
  Option.bind (α := Int32)
  (if q22.2 ≤ (9 : Int32) then
  (some (0 : Int32))
  else
  (oNz (10 : Int32)).bind fun _ =>
  some ((48 : Int32) + (q22.2 / (10 : Int32))))
  fun q23 =>
  (oNz (10 : Int32)).bind fun _ =>
  o2 (fL_says a6 q21.1 q23 ((48 : Int32) + (q22.2 - q22.2 / (10 : Int32) * (10 : Int32))) (0 : Int32) (0 : Int32) (0 : Int32) (0 : Int32) q21.2) fun x25 h26 =>
  o2 (fL_says a6 x25 (111 : Int32) (102 : Int32) (0 : Int32) (0 : Int32) (0 : Int32) (0 : Int32) h26) fun x27 h28 =>
  Option.bind (α := Int32)
  (if q22.1 ≤ (9 : Int32) then
  (some (0 : Int32))
  else
  (oNz (10 : Int32)).bind fun _ =>
  some ((48 : Int32) + (q22.1 / (10 : Int32))))
  fun q29 =>
  (oNz (10 : Int32)).bind fun _ =>
  o2 (fL_says a6 x27 q29 ((48 : Int32) + (q22.1 - q22.1 / (10 : Int32) * (10 : Int32))) (0 : Int32) (0 : Int32) (0 : Int32) (0 : Int32) h28) fun x31 h32 =>
  some ((x31, h32)))
  else
  some ((q21.1, q21.2))
/-! BrailleDeskLaw.points -/
def fL_points (a0 : Int32) : Option Int32 :=
  Option.bind (α := Int32)
  (if (10 : Int32) ≤ a0 then
  (if (20 : Int32) ≤ a0 then
  (some (2 : Int32))
  else
  some (1 : Int32))
  else
  some (0 : Int32))
  fun q1 =>
  Option.bind (α := Int32)
  (if a0 = (22 : Int32) then
  (some (9 : Int32))
  else
  if a0 ≤ (22 : Int32) then
  (some ((a0 - ((10 : Int32) * q1)) - (0 : Int32)))
  else
  some ((a0 - ((10 : Int32) * q1)) - (1 : Int32)))
  fun q3 =>
  if a0 = (22 : Int32) then
  (some (((((926471004398689 : Int64) >>> (((5 : Int32) * q3).toInt64 &&& 63)) &&& (31 : Int64)).toInt32) + (32 : Int32)))
  else
  if q1 = 0 then
  (some ((((926471004398689 : Int64) >>> (((5 : Int32) * q3).toInt64 &&& 63)) &&& (31 : Int64)).toInt32))
  else
  if q1 = (1 : Int32) then
  (some (((((926471004398689 : Int64) >>> (((5 : Int32) * q3).toInt64 &&& 63)) &&& (31 : Int64)).toInt32) + (4 : Int32)))
  else
  some (((((926471004398689 : Int64) >>> (((5 : Int32) * q3).toInt64 &&& 63)) &&& (31 : Int64)).toInt32) + (36 : Int32))
/-! BrailleDeskLaw.isLetter -/
def fL_isLetter (a0 : Int32) : Option Int32 :=
  if a0 < (97 : Int32) then
  (if a0 < (65 : Int32) then
  (some ((0 : Int32)))
  else
  if (90 : Int32) < a0 then
  (some ((0 : Int32)))
  else
  some ((1 : Int32)))
  else
  if a0 ≤ (122 : Int32) then
  (some ((1 : Int32)))
  else
  if a0 < (65 : Int32) then
  (some ((0 : Int32)))
  else
  if (90 : Int32) < a0 then
  (some ((0 : Int32)))
  else
  some ((1 : Int32))
/-! BrailleDeskLaw.isDigit -/
def fL_isDigit (a0 : Int32) : Option Int32 :=
  if a0 < (48 : Int32) then
  (some ((0 : Int32)))
  else
  if (57 : Int32) < a0 then
  (some ((0 : Int32)))
  else
  some ((1 : Int32))
/-! BrailleDeskLaw.writes -/
def fL_writes_B19 (c0 : (Option Nat)) (c1 : Int32) (c2 : (Option Nat)) (c4 : Int32) (c5 : Int32) (h : hp) (a : (Int32 × Int32)) : Option ((Int32 × Int32) ⊕ (Int32 × Int32)) :=
  if c1 ≤ a.1 then
  (some (.inr (a.1, a.2)))
  else
  (oIL c0 a.1 h).bind fun x1 =>
  (fL_isLetter x1).bind fun x2 =>
  if x2 = 0 then
  (some (.inr (a.1, a.2)))
  else
  (oIL c0 a.1 h).bind fun x3 =>
  if (97 : Int32) ≤ x3 then
  (some (.inl (a.1 + (1 : Int32), a.2 + (0 : Int32))))
  else
  some (.inl (a.1 + (1 : Int32), a.2 + (1 : Int32)))
def fL_writes_B112 (c0 : (Option Nat)) (c1 : Int32) (c2 : (Option Nat)) (c5 : Int32) (c6 : Int32) (c8 : Int32) (a : (Int32 × Int32 × hp)) : Option ((Int32 × Int32 × hp) ⊕ (Int32 × hp)) :=
  if c6 ≤ a.2.1 then
  (some (.inr (a.1, a.2.2)))
  else
  (oIL c0 a.2.1 a.2.2).bind fun x1 =>
  Option.bind (α := Int32)
  (if (97 : Int32) ≤ x1 then
  (some (0 : Int32))
  else
  some (1 : Int32))
  fun q2 =>
  (oIL c0 a.2.1 a.2.2).bind fun x4 =>
  Option.bind (α := Int32)
  (if q2 = 0 then
  (some (97 : Int32))
  else
  some (65 : Int32))
  fun q5 =>
  Option.bind (α := (Int32 × hp))
  (if q2 = 0 then
  (if q2 = 0 then
  (if a.2.1 = c5 then
  (if (10 : Int32) ≤ (x4 - q5) then
  (some (a.1, a.2.2))
  else
  if c5 ≤ 0 then
  (some (a.1, a.2.2))
  else
  (oIL c0 (c5 - (1 : Int32)) a.2.2).bind fun x9 =>
  (fL_isDigit x9).bind fun x10 =>
  if x10 = 0 then
  (some (a.1, a.2.2))
  else
  if q2 = 0 then
  ((oIS c2 a.1 (48 : Int32) a.2.2).bind fun h11 =>
  some (a.1 + (1 : Int32), h11))
  else
  (oIS c2 a.1 (32 : Int32) a.2.2).bind fun h12 =>
  some (a.1 + (1 : Int32), h12))
  else
  some (a.1, a.2.2))
  else
  some (a.1, a.2.2))
  else
  oR (τ := (Int32 × hp)) (σ := Unit)
  (if c8 = 0 then
  (some (.inr ()))
  else
  if q2 = 0 then
  (if a.2.1 = c5 then
  (if (10 : Int32) ≤ (x4 - q5) then
  (some (.inl ((a.1, a.2.2))))
  else
  if c5 ≤ 0 then
  (some (.inl ((a.1, a.2.2))))
  else
  (oIL c0 (c5 - (1 : Int32)) a.2.2).bind fun x15 =>
  (fL_isDigit x15).bind fun x16 =>
  if x16 = 0 then
  (some (.inl ((a.1, a.2.2))))
  else
  some (.inr ()))
  else
  some (.inl ((a.1, a.2.2))))
  else
  some (.inl ((a.1, a.2.2))))
  fun q13 =>
  if q2 = 0 then
  ((oIS c2 a.1 (48 : Int32) a.2.2).bind fun h17 =>
  some (a.1 + (1 : Int32), h17))
  else
  (oIS c2 a.1 (32 : Int32) a.2.2).bind fun h18 =>
  some (a.1 + (1 : Int32), h18))
  fun q7 =>
  (fL_points (x4 - q5)).bind fun x19 =>
  (oIS c2 q7.1 x19 q7.2).bind fun h20 =>
  some (.inl (q7.1 + (1 : Int32), a.2.1 + (1 : Int32), h20))
def fL_writes_B6 (c0 : (Option Nat)) (c1 : Int32) (c2 : (Option Nat)) (a : (Int32 × Int32 × hp)) : Option ((Int32 × Int32 × hp) ⊕ (Int32 × hp)) :=
  if c1 ≤ a.2.1 then
  (some (.inr (a.1, a.2.2)))
  else
  Option.bind (α := (Int32 × Int32))
  (itr (fL_writes_B19 c0 c1 c2 a.1 a.2.1 a.2.2) FU (a.2.1, (0 : Int32)))
  fun q1 =>
  Option.bind (α := Int32)
  (if (q1.1 - a.2.1) ≤ (1 : Int32) then
  (some (0 : Int32))
  else
  if q1.2 = (q1.1 - a.2.1) then
  (some (1 : Int32))
  else
  some (0 : Int32))
  fun q2 =>
  Option.bind (α := (Int32 × hp))
  (if q2 = 0 then
  (some (a.1, a.2.2))
  else
  (oIS c2 a.1 (32 : Int32) a.2.2).bind fun h6 =>
  (oIS c2 (a.1 + (1 : Int32)) (32 : Int32) h6).bind fun h7 =>
  some (a.1 + (2 : Int32), h7))
  fun q4 =>
  Option.bind (α := (Int32 × hp))
  (itr (fL_writes_B112 c0 c1 c2 a.2.1 q1.1 q2) FU (q4.1, a.2.1, q4.2))
  fun q8 =>
  if q1.1 = a.2.1 then
  ((oIL c0 a.2.1 q8.2).bind fun x9 =>
  (fL_isDigit x9).bind fun x10 =>
  Option.bind (α := (Int32 × hp))
  (if x10 = 0 then
  (some (q8.1, q8.2))
  else
  if a.2.1 = 0 then
  ((oIS c2 q8.1 (60 : Int32) q8.2).bind fun h13 =>
  some (q8.1 + (1 : Int32), h13))
  else
  (oIL c0 (a.2.1 - (1 : Int32)) q8.2).bind fun x14 =>
  (fL_isDigit x14).bind fun x15 =>
  if x15 = 0 then
  ((oIS c2 q8.1 (60 : Int32) q8.2).bind fun h16 =>
  some (q8.1 + (1 : Int32), h16))
  else
  some (q8.1, q8.2))
  fun q11 =>
  (fL_isDigit x9).bind fun x17 =>
  if x17 = 0 then
  (if x9 = (32 : Int32) then
  ((oIS c2 q11.1 (0 : Int32) q11.2).bind fun h23 =>
  some (.inl (q11.1 + (1 : Int32), q1.1 + (1 : Int32), h23)))
  else
  if x9 = (46 : Int32) then
  ((oIS c2 q11.1 (50 : Int32) q11.2).bind fun h22 =>
  some (.inl (q11.1 + (1 : Int32), q1.1 + (1 : Int32), h22)))
  else
  if x9 = (44 : Int32) then
  ((oIS c2 q11.1 (2 : Int32) q11.2).bind fun h21 =>
  some (.inl (q11.1 + (1 : Int32), q1.1 + (1 : Int32), h21)))
  else
  if x9 = (63 : Int32) then
  ((oIS c2 q11.1 (38 : Int32) q11.2).bind fun h20 =>
  some (.inl (q11.1 + (1 : Int32), q1.1 + (1 : Int32), h20)))
  else
  if x9 = (45 : Int32) then
  ((oIS c2 q11.1 (36 : Int32) q11.2).bind fun h19 =>
  some (.inl (q11.1 + (1 : Int32), q1.1 + (1 : Int32), h19)))
  else
  (oIS c2 q11.1 (63 : Int32) q11.2).bind fun h18 =>
  some (.inl (q11.1 + (1 : Int32), q1.1 + (1 : Int32), h18)))
  else
  (oNz (10 : Int32)).bind fun _ =>
  (fL_points ((x9 - (39 : Int32)) - (x9 - (39 : Int32)) / (10 : Int32) * (10 : Int32))).bind fun x24 =>
  (oIS c2 q11.1 x24 q11.2).bind fun h25 =>
  some (.inl (q11.1 + (1 : Int32), q1.1 + (1 : Int32), h25)))
  else
  some (.inl (q8.1, q1.1, q8.2))
def fL_writes (a0 : (Option Nat)) (a1 : Int32) (a2 : (Option Nat)) (a3 : Int32) (h : hp) : Option (Int32 × hp) :=
  Option.bind (α := (Int32 × hp))
  (itr (fL_writes_B6 a0 a1 a2) FU (a3, (0 : Int32), h))
  fun q1 =>
  some ((q1.1, q1.2))
/-! BrailleDeskLaw.set -/
def fL_set (a0 : (Option Nat)) (a1 : Int32) (h : hp) : Option Int32 :=
  (oNz (20 : Int32)).bind fun _ =>
  (oIL a0 (4 : Int32) h).bind fun x1 =>
  oR (τ := Int32) (σ := Unit)
  (if x1 = (1 : Int32) then
  (if (a1 - a1 / (20 : Int32) * (20 : Int32)) ≤ (3 : Int32) then
  (some (.inr ()))
  else
  (oNz (20 : Int32)).bind fun _ =>
  (oNz (13 : Int32)).bind fun _ =>
  if (6 : Int32) ≤ ((a1 / (20 : Int32)) - (a1 / (20 : Int32)) / (13 : Int32) * (13 : Int32)) then
  (if ((a1 / (20 : Int32)) - (a1 / (20 : Int32)) / (13 : Int32) * (13 : Int32)) = (6 : Int32) then
  (some (.inl ((32 : Int32))))
  else
  if ((a1 / (20 : Int32)) - (a1 / (20 : Int32)) / (13 : Int32) * (13 : Int32)) = (7 : Int32) then
  (some (.inl ((60 : Int32))))
  else
  if ((a1 / (20 : Int32)) - (a1 / (20 : Int32)) / (13 : Int32) * (13 : Int32)) = (8 : Int32) then
  (some (.inl ((48 : Int32))))
  else
  if ((a1 / (20 : Int32)) - (a1 / (20 : Int32)) / (13 : Int32) * (13 : Int32)) = (9 : Int32) then
  (some (.inl ((256 : Int32))))
  else
  if ((a1 / (20 : Int32)) - (a1 / (20 : Int32)) / (13 : Int32) * (13 : Int32)) = (10 : Int32) then
  ((oNz (260 : Int32)).bind fun _ =>
  (oNz (2 : Int32)).bind fun _ =>
  if ((a1 / (260 : Int32)) - (a1 / (260 : Int32)) / (2 : Int32) * (2 : Int32)) = 0 then
  (some (.inl ((50 : Int32))))
  else
  some (.inl ((38 : Int32))))
  else
  if ((a1 / (20 : Int32)) - (a1 / (20 : Int32)) / (13 : Int32) * (13 : Int32)) = (11 : Int32) then
  (some (.inl ((64 : Int32))))
  else
  some (.inl ((128 : Int32))))
  else
  (oNz (260 : Int32)).bind fun _ =>
  (oNz (26 : Int32)).bind fun _ =>
  (fL_points ((a1 / (260 : Int32)) - (a1 / (260 : Int32)) / (26 : Int32) * (26 : Int32))).bind fun x4 =>
  some (.inl (x4)))
  else
  some (.inr ()))
  fun q2 =>
  Option.bind (α := Int32)
  (if (a1 - a1 / (20 : Int32) * (20 : Int32)) = 0 then
  (some (1 : Int32))
  else
  if (4 : Int32) ≤ (a1 - a1 / (20 : Int32) * (20 : Int32)) then
  (if (a1 - a1 / (20 : Int32) * (20 : Int32)) = (4 : Int32) then
  (some (4 : Int32))
  else
  if (7 : Int32) ≤ (a1 - a1 / (20 : Int32) * (20 : Int32)) then
  (if (a1 - a1 / (20 : Int32) * (20 : Int32)) = (7 : Int32) then
  (some (2 : Int32))
  else
  if (a1 - a1 / (20 : Int32) * (20 : Int32)) = (8 : Int32) then
  (some (16 : Int32))
  else
  if (11 : Int32) ≤ (a1 - a1 / (20 : Int32) * (20 : Int32)) then
  (if (14 : Int32) ≤ (a1 - a1 / (20 : Int32) * (20 : Int32)) then
  (if (a1 - a1 / (20 : Int32) * (20 : Int32)) = (14 : Int32) then
  (some (7 : Int32))
  else
  some (56 : Int32))
  else
  some (128 : Int32))
  else
  some (30 : Int32))
  else
  some (32 : Int32))
  else
  some (8 : Int32))
  fun q5 =>
  if (16 : Int32) ≤ (a1 - a1 / (20 : Int32) * (20 : Int32)) then
  (if (18 : Int32) ≤ (a1 - a1 / (20 : Int32) * (20 : Int32)) then
  ((oNz (20 : Int32)).bind fun _ =>
  (oNz (26 : Int32)).bind fun _ =>
  (fL_points ((a1 / (20 : Int32)) - (a1 / (20 : Int32)) / (26 : Int32) * (26 : Int32))).bind fun x7 =>
  some (x7))
  else
  (oNz (20 : Int32)).bind fun _ =>
  (oNz (511 : Int32)).bind fun _ =>
  some ((1 : Int32) + ((a1 / (20 : Int32)) - (a1 / (20 : Int32)) / (511 : Int32) * (511 : Int32))))
  else
  some ((256 : Int32) + q5)
/-! BrailleDeskLaw.line -/
def fL_line_B72 (c0 : (Option Nat)) (c1 : (Option Nat)) (c2 : (Option Nat)) (c3 : (Option Nat)) (c4 : (Option Nat)) (c5 : (Option Nat)) (c6 : (Option Nat)) (c7 : Int32) (c8 : Int32) (c9 : Int32) (a : (Int32 × hp)) : Option ((Int32 × hp) ⊕ hp) :=
  (oJL c2 c7 a.2).bind fun x1 =>
  (fL_nameMany x1).bind fun x2 =>
  if x2 ≤ a.1 then
  (some (.inr a.2))
  else
  (oJL c2 c7 a.2).bind fun x3 =>
  (oIS c6 a.1 (((x3 >>> (((20 : Int32) * a.1).toInt64 &&& 63)) &&& (1048575 : Int64)).toInt32) a.2).bind fun h4 =>
  some (.inl (a.1 + (1 : Int32), h4))
def fL_line_B192 (c0 : (Option Nat)) (c3 : (Option Nat)) (c4 : (Option Nat)) (c5 : (Option Nat)) (c6 : (Option Nat)) (c7 : Int32) (c9 : Int32) (a : (Int32 × hp)) : Option ((Int32 × hp) ⊕ hp) :=
  (oIL c4 c7 a.2).bind fun x1 =>
  if x1 ≤ a.1 then
  (some (.inr a.2))
  else
  (fL_typed c3 c7 a.1 a.2).bind fun x2 =>
  (oIS c6 a.1 x2 a.2).bind fun h3 =>
  some (.inl (a.1 + (1 : Int32), h3))
def fL_line (a0 : (Option Nat)) (a1 : (Option Nat)) (a2 : (Option Nat)) (a3 : (Option Nat)) (a4 : (Option Nat)) (a5 : (Option Nat)) (h : hp) : Option (Int32 × hp) :=
  (oIL a0 (1 : Int32) (wN h (20, 12))).bind fun x1 =>
  (oIL a1 ((6 : Int32) * x1) (wN h (20, 12))).bind fun x2 =>
  (fL_level a1 x1 (wN h (20, 12))).bind fun x3 =>
  Option.bind (α := (Int32 × hp))
  (if x3 ≤ 0 then
  (some ((0 : Int32), wN h (20, 12)))
  else
  if x2 = (1 : Int32) then
  (some ((0 : Int32), wN h (20, 12)))
  else
  o2 (fL_saysKind a5 (0 : Int32) x2 (wN h (20, 12))) fun x6 h7 =>
  (oIL a5 (0 : Int32) h7).bind fun x8 =>
  (fL_points (x8 - (97 : Int32))).bind fun x9 =>
  (oIS a5 (0 : Int32) (x9 + (192 : Int32)) h7).bind fun h10 =>
  some ((1 : Int32), h10))
  fun q4 =>
  Option.bind (α := hp)
  (itr (fL_line_B72 a0 a1 a2 a3 a4 a5 (some (hN h)) x1 x2 q4.1) FU ((0 : Int32), q4.2))
  fun q11 =>
  (oJL a2 x1 q11).bind fun x12 =>
  (fL_nameMany x12).bind fun x13 =>
  o2 (fL_writes (some (hN h)) x13 a5 q4.1 q11) fun x14 h15 =>
  Option.bind (α := (Int32 × hp))
  (if x2 = (3 : Int32) then
  ((oIS a5 x14 (0 : Int32) h15).bind fun h18 =>
  (oIL a1 (((6 : Int32) * x1) + (3 : Int32)) h18).bind fun x19 =>
  if (x19 &&& (4 : Int32)) = (4 : Int32) then
  ((oIS a5 (x14 + (1 : Int32)) (63 : Int32) h18).bind fun h21 =>
  some (x14 + (2 : Int32), h21))
  else
  (oIS a5 (x14 + (1 : Int32)) (36 : Int32) h18).bind fun h20 =>
  some (x14 + (2 : Int32), h20))
  else
  some (x14, h15))
  fun q16 =>
  (oIL a4 x1 q16.2).bind fun x22 =>
  Option.bind (α := (Int32 × hp))
  (if x22 ≤ 0 then
  (some (q16.1, q16.2))
  else
  (oIS a5 q16.1 (0 : Int32) q16.2).bind fun h25 =>
  Option.bind (α := hp)
  (itr (fL_line_B192 a0 a3 a4 a5 (some (hN h)) x1 (q16.1 + (1 : Int32))) FU ((0 : Int32), h25))
  fun q26 =>
  (oIL a4 x1 q26).bind fun x27 =>
  o2 (fL_writes (some (hN h)) x27 a5 (q16.1 + (1 : Int32)) q26) fun x28 h29 =>
  some (x28, h29))
  fun q23 =>
  (oIL a0 (4 : Int32) q23.2).bind fun x31 =>
  if x31 = (1 : Int32) then
  ((oIS a5 q23.1 (192 : Int32) q23.2).bind fun h32 =>
  some ((q23.1 + (1 : Int32), h32)))
  else
  some ((q23.1, q23.2))
/-! BrailleDeskLaw.goes -/
def fL_goes (a0 : (Option Nat)) (a1 : Int32) (h : hp) : Option (Unit × hp) :=
  if a1 < 0 then
  (some (((), h)))
  else
  (oIS a0 (4 : Int32) (0 : Int32) h).bind fun h1 =>
  (oIL a0 (1 : Int32) h1).bind fun x2 =>
  if a1 = x2 then
  ((oIL a0 (3 : Int32) h1).bind fun x5 =>
  (oIS a0 (3 : Int32) x5 h1).bind fun h6 =>
  (oIS a0 (1 : Int32) a1 h6).bind fun h7 =>
  some (((), h7)))
  else
  (oIS a0 (3 : Int32) (0 : Int32) h1).bind fun h3 =>
  (oIS a0 (1 : Int32) a1 h3).bind fun h4 =>
  some (((), h4))
/-! BrailleDeskLaw.canFocus -/
def fL_canFocus (a0 : (Option Nat)) (a1 : Int32) (h : hp) : Option Int32 :=
  (oIL a0 ((6 : Int32) * a1) h).bind fun x1 =>
  if x1 ≤ (1 : Int32) then
  (some ((0 : Int32)))
  else
  (oIL a0 ((6 : Int32) * a1) h).bind fun x2 =>
  if (5 : Int32) ≤ x2 then
  (some ((0 : Int32)))
  else
  some ((1 : Int32))
/-! BrailleDeskLaw.before -/
def fL_before_B5 (c0 : (Option Nat)) (c1 : (Option Nat)) (c2 : Int32) (h : hp) (a : (Int32 × Int32)) : Option ((Int32 × Int32) ⊕ Int32) :=
  if a.1 = c2 then
  (some (.inr a.2))
  else
  (fL_next c0 c1 a.1 h).bind fun x1 =>
  some (.inl (x1, a.1))
def fL_before (a0 : (Option Nat)) (a1 : (Option Nat)) (a2 : Int32) (h : hp) : Option Int32 :=
  Option.bind (α := Int32)
  (itr (fL_before_B5 a0 a1 a2 h) FU ((0 : Int32), (-1 : Int32)))
  fun q1 =>
  some (q1)
/-! BrailleDeskLaw.rows -/
def fL_rows_B66 (c0 : (Option Nat)) (c1 : (Option Nat)) (c2 : Int32) (c3 : Int32) (c5 : Int32) (c6 : Int32) (h : hp) (a : Int32) : Option (Int32 ⊕ (Int32 ⊕ Unit)) :=
  if a < 0 then
  (some (.inr (.inr ())))
  else
  if c6 ≤ a then
  (some (.inr (.inr ())))
  else
  (fL_kid c0 c1 c5 a (1 : Int32) h).bind fun x1 =>
  (oIL c1 (((6 : Int32) * c3) + (2 : Int32)) h).bind fun x2 =>
  (fL_kid c0 c1 x1 x2 (1 : Int32) h).bind fun x3 =>
  (fL_isHidden c1 x1 h).bind fun x4 =>
  if x4 = 0 then
  (if x3 < 0 then
  (some (.inl (a + c2)))
  else
  (oIL c1 (((6 : Int32) * x3) + (2 : Int32)) h).bind fun x5 =>
  (oIL c1 (((6 : Int32) * c3) + (2 : Int32)) h).bind fun x6 =>
  if x5 = x6 then
  ((fL_isHidden c1 x3 h).bind fun x7 =>
  if x7 = 0 then
  (some (.inr (.inl (x3))))
  else
  some (.inl (a + c2)))
  else
  some (.inl (a + c2)))
  else
  some (.inl (a + c2))
def fL_rows (a0 : (Option Nat)) (a1 : (Option Nat)) (a2 : Int32) (h : hp) : Option Int32 :=
  (oIL a0 (1 : Int32) h).bind fun x1 =>
  (oIL a1 (((6 : Int32) * x1) + (1 : Int32)) h).bind fun x2 =>
  if x2 < 0 then
  (some ((-1 : Int32)))
  else
  (oIL a1 ((6 : Int32) * x2) h).bind fun x3 =>
  if x3 = (6 : Int32) then
  ((oIL a1 (((6 : Int32) * x2) + (1 : Int32)) h).bind fun x4 =>
  (fL_kids a0 a1 x4 h).bind fun x5 =>
  (oIL a1 (((6 : Int32) * x2) + (2 : Int32)) h).bind fun x6 =>
  oR (τ := Int32) (σ := Unit)
  (itr (fL_rows_B66 a0 a1 a2 x1 x4 x5 h) FU (x6 + a2))
  fun q7 =>
  some ((-1 : Int32)))
  else
  some ((-1 : Int32))
/-! BrailleDeskLaw.seeks -/
def fL_seeks_B13 (c0 : (Option Nat)) (c1 : (Option Nat)) (c2 : Int32) (c3 : Int32) (h : hp) (a : (Int32 × Int32)) : Option ((Int32 × Int32) ⊕ Int32) :=
  if a.2 < 0 then
  (some (.inr a.1))
  else
  if 0 ≤ a.1 then
  (some (.inr a.1))
  else
  Option.bind (α := Int32)
  (if 0 ≤ c2 then
  ((oIL c1 ((6 : Int32) * a.2) h).bind fun x3 =>
  if x3 = c2 then
  (some a.2)
  else
  some (-1 : Int32))
  else
  (fL_canFocus c1 a.2 h).bind fun x4 =>
  if x4 = 0 then
  (some (-1 : Int32))
  else
  some a.2)
  fun q1 =>
  (fL_next c0 c1 a.2 h).bind fun x5 =>
  some (.inl (q1, x5))
def fL_seeks_B79 (c0 : (Option Nat)) (c1 : (Option Nat)) (c3 : Int32) (h : hp) (a : (Int32 × Int32)) : Option ((Int32 × Int32) ⊕ Int32) :=
  if a.2 < 0 then
  (some (.inr a.1))
  else
  if 0 ≤ a.1 then
  (some (.inr a.1))
  else
  if c3 = 0 then
  (some (.inr a.1))
  else
  (fL_canFocus c1 a.2 h).bind fun x1 =>
  Option.bind (α := Int32)
  (if x1 = 0 then
  (some (-1 : Int32))
  else
  some a.2)
  fun q2 =>
  (fL_next c0 c1 a.2 h).bind fun x4 =>
  some (.inl (q2, x4))
def fL_seeks (a0 : (Option Nat)) (a1 : (Option Nat)) (a2 : Int32) (a3 : Int32) (h : hp) : Option Int32 :=
  (oIL a0 (1 : Int32) h).bind fun x1 =>
  (fL_next a0 a1 x1 h).bind fun x2 =>
  Option.bind (α := Int32)
  (itr (fL_seeks_B13 a0 a1 a2 a3 h) FU ((-1 : Int32), x2))
  fun q3 =>
  Option.bind (α := Int32)
  (itr (fL_seeks_B79 a0 a1 a3 h) FU (q3, (0 : Int32)))
  fun q4 =>
  some (q4)
/-! BrailleDeskLaw.commands -/
def fL_commands (a0 : (Option Nat)) (a1 : (Option Nat)) (a2 : Int32) (a3 : Int32) (h : hp) : Option (Unit × hp) :=
  (oIL a0 (1 : Int32) h).bind fun x1 =>
  if a3 = (1 : Int32) then
  ((fL_before a0 a1 x1 h).bind fun x62 =>
  o2 (fL_goes a0 x62 h) fun _ h64 =>
  some (((), h64)))
  else
  if a3 = (8 : Int32) then
  ((fL_next a0 a1 x1 h).bind fun x59 =>
  o2 (fL_goes a0 x59 h) fun _ h61 =>
  some (((), h61)))
  else
  if a3 = (4 : Int32) then
  ((oIL a1 (((6 : Int32) * x1) + (1 : Int32)) h).bind fun x56 =>
  o2 (fL_goes a0 x56 h) fun _ h58 =>
  some (((), h58)))
  else
  if a3 = (32 : Int32) then
  ((fL_kid a0 a1 x1 (0 : Int32) (0 : Int32) h).bind fun x53 =>
  o2 (fL_goes a0 x53 h) fun _ h55 =>
  some (((), h55)))
  else
  if a3 = (2 : Int32) then
  (Option.bind (α := Int32)
  (if a3 = (2 : Int32) then
  (some (-1 : Int32))
  else
  some (1 : Int32))
  fun q2 =>
  (fL_rows a0 a1 q2 h).bind fun x4 =>
  o2 (fL_goes a0 x4 h) fun _ h6 =>
  some (((), h6)))
  else
  if a3 = (16 : Int32) then
  (Option.bind (α := Int32)
  (if a3 = (2 : Int32) then
  (some (-1 : Int32))
  else
  some (1 : Int32))
  fun q48 =>
  (fL_rows a0 a1 q48 h).bind fun x50 =>
  o2 (fL_goes a0 x50 h) fun _ h52 =>
  some (((), h52)))
  else
  if a3 = (30 : Int32) then
  ((fL_seeks a0 a1 (-1 : Int32) (1 : Int32) h).bind fun x41 =>
  Option.bind (α := Int32)
  (if 0 ≤ x41 then
  (some (x41 + (1 : Int32)))
  else
  (oIL a0 (2 : Int32) h).bind fun x44 =>
  some x44)
  fun q42 =>
  (oIS a0 (2 : Int32) q42 h).bind fun h45 =>
  o2 (fL_goes a0 x41 h45) fun _ h47 =>
  some (((), h47)))
  else
  if a3 = (128 : Int32) then
  ((fL_canFocus a1 x1 h).bind fun x15 =>
  if x15 = 0 then
  (if a3 = (7 : Int32) then
  ((oIL a0 (3 : Int32) h).bind fun x20 =>
  if x20 ≤ 0 then
  ((oIS a0 (3 : Int32) (0 : Int32) h).bind fun h21 =>
  some (((), h21)))
  else
  (oIL a0 (3 : Int32) h).bind fun x22 =>
  (oIS a0 (3 : Int32) (x22 - (10 : Int32)) h).bind fun h23 =>
  some (((), h23)))
  else
  if a3 = (56 : Int32) then
  ((oIL a0 (3 : Int32) h).bind fun x16 =>
  (oIL a0 (3 : Int32) h).bind fun x17 =>
  if a2 ≤ (x17 + (10 : Int32)) then
  ((oIS a0 (3 : Int32) (x16 + (0 : Int32)) h).bind fun h18 =>
  some (((), h18)))
  else
  (oIS a0 (3 : Int32) (x16 + (10 : Int32)) h).bind fun h19 =>
  some (((), h19)))
  else
  some (((), h)))
  else
  (oIS a0 (2 : Int32) (x1 + (1 : Int32)) h).bind fun h24 =>
  (oIL a1 (((6 : Int32) * x1) + (5 : Int32)) h24).bind fun x25 =>
  (oIL a1 ((6 : Int32) * x1) h24).bind fun x26 =>
  Option.bind (α := Int32)
  (if x26 = (2 : Int32) then
  (some (1 : Int32))
  else
  some (0 : Int32))
  fun q27 =>
  (oIS a1 (((6 : Int32) * x1) + (5 : Int32)) (x25 + q27) h24).bind fun h29 =>
  (oIL a1 (((6 : Int32) * x1) + (3 : Int32)) h29).bind fun x30 =>
  (oIL a1 ((6 : Int32) * x1) h29).bind fun x31 =>
  Option.bind (α := Int32)
  (if x31 = (3 : Int32) then
  (some (4 : Int32))
  else
  some (0 : Int32))
  fun q32 =>
  (oIS a1 (((6 : Int32) * x1) + (3 : Int32)) (x30 ^^^ q32) h29).bind fun h34 =>
  (oIL a1 ((6 : Int32) * x1) h34).bind fun x35 =>
  Option.bind (α := Int32)
  (if x35 = (4 : Int32) then
  (some (1 : Int32))
  else
  some (0 : Int32))
  fun q36 =>
  (oIS a0 (4 : Int32) q36 h34).bind fun h38 =>
  (oIS a0 (5 : Int32) (0 : Int32) h38).bind fun h39 =>
  (oIS a0 (6 : Int32) (0 : Int32) h39).bind fun h40 =>
  some (((), h40)))
  else
  if a3 = (7 : Int32) then
  ((oIL a0 (3 : Int32) h).bind fun x11 =>
  if x11 ≤ 0 then
  ((oIS a0 (3 : Int32) (0 : Int32) h).bind fun h12 =>
  some (((), h12)))
  else
  (oIL a0 (3 : Int32) h).bind fun x13 =>
  (oIS a0 (3 : Int32) (x13 - (10 : Int32)) h).bind fun h14 =>
  some (((), h14)))
  else
  if a3 = (56 : Int32) then
  ((oIL a0 (3 : Int32) h).bind fun x7 =>
  (oIL a0 (3 : Int32) h).bind fun x8 =>
  if a2 ≤ (x8 + (10 : Int32)) then
  ((oIS a0 (3 : Int32) (x7 + (0 : Int32)) h).bind fun h9 =>
  some (((), h9)))
  else
  (oIS a0 (3 : Int32) (x7 + (10 : Int32)) h).bind fun h10 =>
  some (((), h10)))
  else
  some (((), h))
/-! BrailleDeskLaw.types -/
def fL_types_B69 (c0 : (Option Nat)) (c1 : (Option Nat)) (c2 : (Option Nat)) (c3 : Int32) (c4 : Int32) (h : hp) (a : (Int32 × Int32)) : Option ((Int32 × Int32) ⊕ Int32) :=
  if (26 : Int32) ≤ a.2 then
  (some (.inr a.1))
  else
  (fL_points a.2).bind fun x1 =>
  if x1 = c3 then
  ((oIL c0 (6 : Int32) h).bind fun x2 =>
  Option.bind (α := Int32)
  (if x2 = (1 : Int32) then
  ((oIL c0 (5 : Int32) h).bind fun x5 =>
  if x5 = 0 then
  (if (10 : Int32) ≤ a.2 then
  (some (0 : Int32))
  else
  some (1 : Int32))
  else
  some (0 : Int32))
  else
  some (0 : Int32))
  fun q3 =>
  if q3 = 0 then
  ((oIL c0 (5 : Int32) h).bind fun x6 =>
  if x6 = (1 : Int32) then
  (some (.inl (a.2 + (65 : Int32), a.2 + (1 : Int32))))
  else
  some (.inl (a.2 + (97 : Int32), a.2 + (1 : Int32))))
  else
  (oNz (10 : Int32)).bind fun _ =>
  some (.inl ((48 : Int32) + ((a.2 + (1 : Int32)) - (a.2 + (1 : Int32)) / (10 : Int32) * (10 : Int32)), a.2 + (1 : Int32))))
  else
  some (.inl (a.1, a.2 + (1 : Int32)))
def fL_types (a0 : (Option Nat)) (a1 : (Option Nat)) (a2 : (Option Nat)) (a3 : Int32) (h : hp) : Option (Unit × hp) :=
  (oIL a0 (1 : Int32) h).bind fun x1 =>
  Option.bind (α := Int32)
  (if a3 = (50 : Int32) then
  (some (46 : Int32))
  else
  if a3 = (2 : Int32) then
  (some (44 : Int32))
  else
  if a3 = (38 : Int32) then
  (some (63 : Int32))
  else
  if a3 = (36 : Int32) then
  (some (45 : Int32))
  else
  if a3 = (256 : Int32) then
  (some (32 : Int32))
  else
  some (0 : Int32))
  fun q2 =>
  Option.bind (α := Int32)
  (itr (fL_types_B69 a0 a1 a2 a3 x1 h) FU (q2, (0 : Int32)))
  fun q4 =>
  if q4 ≤ 0 then
  (if a3 = (32 : Int32) then
  ((oIS a0 (5 : Int32) (1 : Int32) h).bind fun h18 =>
  some (((), h18)))
  else
  if a3 = (60 : Int32) then
  (if a3 = (60 : Int32) then
  ((oIS a0 (6 : Int32) (1 : Int32) h).bind fun h6 =>
  some (((), h6)))
  else
  (oIS a0 (6 : Int32) (0 : Int32) h).bind fun h5 =>
  some (((), h5)))
  else
  if a3 = (48 : Int32) then
  (if a3 = (60 : Int32) then
  ((oIS a0 (6 : Int32) (1 : Int32) h).bind fun h17 =>
  some (((), h17)))
  else
  (oIS a0 (6 : Int32) (0 : Int32) h).bind fun h16 =>
  some (((), h16)))
  else
  if a3 = (64 : Int32) then
  ((oIL a2 x1 h).bind fun x8 =>
  if x8 ≤ 0 then
  (if a3 = (128 : Int32) then
  ((oIS a0 (4 : Int32) (0 : Int32) h).bind fun h9 =>
  some (((), h9)))
  else
  some (((), h)))
  else
  (oIL a2 x1 h).bind fun x10 =>
  (oIS a2 x1 (x10 - (1 : Int32)) h).bind fun h11 =>
  (oIL a2 x1 h11).bind fun x12 =>
  (oNz (6 : Int32)).bind fun _ =>
  (oJL a1 (((2 : Int32) * x1) + (x12 / (6 : Int32))) h11).bind fun x13 =>
  (oIL a2 x1 h11).bind fun x14 =>
  (oNz (6 : Int32)).bind fun _ =>
  (oJS a1 (((2 : Int32) * x1) + (x12 / (6 : Int32))) (x13 &&& (((127 : Int64) <<< (((7 : Int32) * (x14 - x14 / (6 : Int32) * (6 : Int32))).toInt64 &&& 63)) ^^^ (-1 : Int64))) h11).bind fun h15 =>
  some (((), h15)))
  else
  if a3 = (128 : Int32) then
  ((oIS a0 (4 : Int32) (0 : Int32) h).bind fun h7 =>
  some (((), h7)))
  else
  some (((), h)))
  else
  (oIL a2 x1 h).bind fun x19 =>
  if (12 : Int32) ≤ x19 then
  (if a3 = (32 : Int32) then
  ((oIS a0 (5 : Int32) (1 : Int32) h).bind fun h33 =>
  some (((), h33)))
  else
  if a3 = (60 : Int32) then
  (if a3 = (60 : Int32) then
  ((oIS a0 (6 : Int32) (1 : Int32) h).bind fun h21 =>
  some (((), h21)))
  else
  (oIS a0 (6 : Int32) (0 : Int32) h).bind fun h20 =>
  some (((), h20)))
  else
  if a3 = (48 : Int32) then
  (if a3 = (60 : Int32) then
  ((oIS a0 (6 : Int32) (1 : Int32) h).bind fun h32 =>
  some (((), h32)))
  else
  (oIS a0 (6 : Int32) (0 : Int32) h).bind fun h31 =>
  some (((), h31)))
  else
  if a3 = (64 : Int32) then
  ((oIL a2 x1 h).bind fun x23 =>
  if x23 ≤ 0 then
  (if a3 = (128 : Int32) then
  ((oIS a0 (4 : Int32) (0 : Int32) h).bind fun h24 =>
  some (((), h24)))
  else
  some (((), h)))
  else
  (oIL a2 x1 h).bind fun x25 =>
  (oIS a2 x1 (x25 - (1 : Int32)) h).bind fun h26 =>
  (oIL a2 x1 h26).bind fun x27 =>
  (oNz (6 : Int32)).bind fun _ =>
  (oJL a1 (((2 : Int32) * x1) + (x27 / (6 : Int32))) h26).bind fun x28 =>
  (oIL a2 x1 h26).bind fun x29 =>
  (oNz (6 : Int32)).bind fun _ =>
  (oJS a1 (((2 : Int32) * x1) + (x27 / (6 : Int32))) (x28 &&& (((127 : Int64) <<< (((7 : Int32) * (x29 - x29 / (6 : Int32) * (6 : Int32))).toInt64 &&& 63)) ^^^ (-1 : Int64))) h26).bind fun h30 =>
  some (((), h30)))
  else
  if a3 = (128 : Int32) then
  ((oIS a0 (4 : Int32) (0 : Int32) h).bind fun h22 =>
  some (((), h22)))
  else
  some (((), h)))
  else
  (oIL a2 x1 h).bind fun x34 =>
  (oNz (6 : Int32)).bind fun _ =>
  (oJL a1 (((2 : Int32) * x1) + (x34 / (6 : Int32))) h).bind fun x35 =>
  (oIL a2 x1 h).bind fun x36 =>
  (oNz (6 : Int32)).bind fun _ =>
  (oJS a1 (((2 : Int32) * x1) + (x34 / (6 : Int32))) (x35 ||| (q4.toInt64 <<< (((7 : Int32) * (x36 - x36 / (6 : Int32) * (6 : Int32))).toInt64 &&& 63))) h).bind fun h37 =>
  (oIL a2 x1 h37).bind fun x38 =>
  (oIS a2 x1 (x38 + (1 : Int32)) h37).bind fun h39 =>
  Option.bind (α := Int32)
  (if q4 ≤ (63 : Int32) then
  (some (0 : Int32))
  else
  some (1 : Int32))
  fun q40 =>
  Option.bind (α := Int32)
  (if q40 = 0 then
  ((oIL a0 (5 : Int32) h39).bind fun x44 =>
  some x44)
  else
  some (0 : Int32))
  fun q42 =>
  (oIS a0 (5 : Int32) q42 h39).bind fun h45 =>
  if q40 = 0 then
  (if a3 = (256 : Int32) then
  ((oIS a0 (6 : Int32) (0 : Int32) h45).bind fun h49 =>
  some (((), h49)))
  else
  (oIL a0 (6 : Int32) h45).bind fun x47 =>
  (oIS a0 (6 : Int32) x47 h45).bind fun h48 =>
  some (((), h48)))
  else
  (oIS a0 (6 : Int32) (0 : Int32) h45).bind fun h46 =>
  some (((), h46))
/-! BrailleDeskLaw.presses -/
def fL_presses (a0 : (Option Nat)) (a1 : (Option Nat)) (a2 : (Option Nat)) (a3 : (Option Nat)) (a4 : Int32) (a5 : Int32) (h : hp) : Option (Unit × hp) :=
  if a5 ≤ (256 : Int32) then
  ((oIL a0 (4 : Int32) h).bind fun x1 =>
  if x1 = (1 : Int32) then
  (o2 (fL_types a0 a2 a3 a5 h) fun _ h10 =>
  some (((), h10)))
  else
  Option.bind (α := Int32)
  (if a5 = (27 : Int32) then
  (some (0 : Int32))
  else
  if a5 = (3 : Int32) then
  (some (2 : Int32))
  else
  if a5 = (9 : Int32) then
  (some (3 : Int32))
  else
  if a5 = (17 : Int32) then
  (some (4 : Int32))
  else
  if a5 = (30 : Int32) then
  (some (5 : Int32))
  else
  if a5 = (23 : Int32) then
  (some (6 : Int32))
  else
  some (-1 : Int32))
  fun q2 =>
  if 0 ≤ q2 then
  ((fL_seeks a0 a1 q2 (0 : Int32) h).bind fun x4 =>
  o2 (fL_goes a0 x4 h) fun _ h6 =>
  some (((), h6)))
  else
  o2 (fL_goes a0 (-1 : Int32) h) fun _ h8 =>
  some (((), h8)))
  else
  o2 (fL_commands a0 a1 a4 (a5 - (256 : Int32)) h) fun _ h12 =>
  some (((), h12))
/-! BrailleDeskLaw.loses -/
def fL_loses_B88 (c0 : (Option Nat)) (c1 : (Option Nat)) (c2 : Int32) (c5 : Int32) (h : hp) (a : (Int32 × Int32)) : Option ((Int32 × Int32) ⊕ Int32) :=
  if a.2 < 0 then
  (some (.inr a.1))
  else
  (oIL c1 (((6 : Int32) * a.2) + (2 : Int32)) h).bind fun x1 =>
  (fL_kid c0 c1 c2 (x1 + (1 : Int32)) (0 : Int32) h).bind fun x2 =>
  some (.inl (a.2, x2))
def fL_loses (a0 : (Option Nat)) (a1 : (Option Nat)) (a2 : Int32) (a3 : Int32) (h : hp) : Option (Unit × hp) :=
  (oIL a0 (2 : Int32) h).bind fun x1 =>
  Option.bind (α := Int32)
  (if x1 ≤ 0 then
  (some (0 : Int32))
  else
  (oIL a0 (2 : Int32) h).bind fun x4 =>
  (fL_isShown a1 (x4 - (1 : Int32)) h).bind fun x5 =>
  if x5 = 0 then
  (some (1 : Int32))
  else
  some (0 : Int32))
  fun q2 =>
  Option.bind (α := Int32)
  (if q2 = 0 then
  ((oIL a0 (4 : Int32) h).bind fun x8 =>
  some x8)
  else
  some (0 : Int32))
  fun q6 =>
  (oIS a0 (4 : Int32) q6 h).bind fun h9 =>
  Option.bind (α := Int32)
  (if q2 = 0 then
  ((oIL a0 (2 : Int32) h9).bind fun x12 =>
  some x12)
  else
  some (0 : Int32))
  fun q10 =>
  (oIS a0 (2 : Int32) q10 h9).bind fun h13 =>
  (oIL a0 (1 : Int32) h13).bind fun x14 =>
  (fL_isShown a1 x14 h13).bind fun x15 =>
  if x15 = 0 then
  ((fL_kid a0 a1 a2 a3 (0 : Int32) h13).bind fun x16 =>
  (fL_kid a0 a1 a2 (0 : Int32) (0 : Int32) h13).bind fun x17 =>
  Option.bind (α := Int32)
  (itr (fL_loses_B88 a0 a1 a2 x16 h13) FU (a2, x17))
  fun q18 =>
  if 0 ≤ x16 then
  ((oIS a0 (1 : Int32) x16 h13).bind fun h19 =>
  (oIS a0 (3 : Int32) (0 : Int32) h19).bind fun h20 =>
  some (((), h20)))
  else
  (oIS a0 (1 : Int32) q18 h13).bind fun h21 =>
  (oIS a0 (3 : Int32) (0 : Int32) h21).bind fun h22 =>
  some (((), h22)))
  else
  some (((), h13))
/-! BrailleDeskLaw.code -/
def fL_code (a0 : Int32) : Option Int32 :=
  if (14 : Int32) ≤ a0 then
  (if (34 : Int32) ≤ a0 then
  (if (48 : Int32) ≤ a0 then
  (if (62 : Int32) ≤ a0 then
  (if a0 = (62 : Int32) then
  (some ((119040 : Int32)))
  else
  some ((119295 : Int32)))
  else
  (oNz (15 : Int32)).bind fun _ =>
  some ((32 : Int32) + (a0 - a0 / (15 : Int32) * (15 : Int32))))
  else
  (oNz (10 : Int32)).bind fun _ =>
  some ((48 : Int32) + (a0 - a0 / (10 : Int32) * (10 : Int32))))
  else
  (oNz (26 : Int32)).bind fun _ =>
  some ((97 : Int32) + (a0 - a0 / (26 : Int32) * (26 : Int32))))
  else
  (oNz (7 : Int32)).bind fun _ =>
  some ((65 : Int32) + (a0 - a0 / (7 : Int32) * (7 : Int32)))
/-! BrailleDeskLaw.removes -/
def fL_removes_B38 (c0 : (Option Nat)) (c1 : (Option Nat)) (c2 : Int32) (c3 : Int32) (c4 : Int32) (c5 : Int32) (c6 : Int32) (h : hp) (a : Int32) : Option (Int32 ⊕ Int32) :=
  if a < 0 then
  (some (.inr a))
  else
  if a = c2 then
  (some (.inr a))
  else
  (oIL c1 (((6 : Int32) * a) + (1 : Int32)) h).bind fun x1 =>
  some (.inl x1)
def fL_removes_B29 (c0 : (Option Nat)) (c1 : (Option Nat)) (c2 : Int32) (c4 : Int32) (c5 : Int32) (a : (Int32 × Int32 × hp)) : Option ((Int32 × Int32 × hp) ⊕ (Int32 × hp)) :=
  if a.2.1 ≤ 0 then
  (some (.inr (a.1, a.2.2)))
  else
  Option.bind (α := Int32)
  (itr (fL_removes_B38 c0 c1 c2 a.1 c4 c5 a.2.1 a.2.2) FU a.2.1)
  fun q1 =>
  Option.bind (α := Int32)
  (if q1 = c2 then
  ((fL_isThere c1 a.2.1 a.2.2).bind fun x4 =>
  if x4 = 0 then
  (some (0 : Int32))
  else
  some (1 : Int32))
  else
  some (0 : Int32))
  fun q2 =>
  if q1 = c2 then
  ((oIS c1 (((6 : Int32) * a.2.1) + (3 : Int32)) (0 : Int32) a.2.2).bind fun h7 =>
  some (.inl (a.1 + q2, a.2.1 + (-1 : Int32), h7)))
  else
  (oIL c1 (((6 : Int32) * a.2.1) + (3 : Int32)) a.2.2).bind fun x5 =>
  (oIS c1 (((6 : Int32) * a.2.1) + (3 : Int32)) x5 a.2.2).bind fun h6 =>
  some (.inl (a.1 + q2, a.2.1 + (-1 : Int32), h6))
def fL_removes_B123 (c0 : (Option Nat)) (c1 : (Option Nat)) (c3 : Int32) (c4 : Int32) (c5 : Int32) (a : (Int32 × hp)) : Option ((Int32 × hp) ⊕ hp) :=
  (oIL c0 (0 : Int32) a.2).bind fun x1 =>
  if x1 ≤ a.1 then
  (some (.inr a.2))
  else
  (oIL c1 (((6 : Int32) * a.1) + (2 : Int32)) a.2).bind fun x2 =>
  (oIL c1 (((6 : Int32) * a.1) + (1 : Int32)) a.2).bind fun x3 =>
  if x3 = c4 then
  ((oIL c1 (((6 : Int32) * a.1) + (2 : Int32)) a.2).bind fun x5 =>
  if x5 ≤ c5 then
  ((oIS c1 (((6 : Int32) * a.1) + (2 : Int32)) (x2 - (0 : Int32)) a.2).bind fun h6 =>
  some (.inl (a.1 + (1 : Int32), h6)))
  else
  (oIS c1 (((6 : Int32) * a.1) + (2 : Int32)) (x2 - (1 : Int32)) a.2).bind fun h7 =>
  some (.inl (a.1 + (1 : Int32), h7)))
  else
  (oIS c1 (((6 : Int32) * a.1) + (2 : Int32)) (x2 - (0 : Int32)) a.2).bind fun h4 =>
  some (.inl (a.1 + (1 : Int32), h4))
def fL_removes (a0 : (Option Nat)) (a1 : (Option Nat)) (a2 : Int32) (h : hp) : Option (Int32 × hp) :=
  (oIL a1 (((6 : Int32) * a2) + (1 : Int32)) h).bind fun x1 =>
  (oIL a1 (((6 : Int32) * a2) + (2 : Int32)) h).bind fun x2 =>
  (oIL a0 (0 : Int32) h).bind fun x3 =>
  Option.bind (α := (Int32 × hp))
  (itr (fL_removes_B29 a0 a1 a2 x1 x2) FU ((0 : Int32), x3 - (1 : Int32), h))
  fun q4 =>
  Option.bind (α := hp)
  (itr (fL_removes_B123 a0 a1 q4.1 x1 x2) FU ((1 : Int32), q4.2))
  fun q5 =>
  o2 (fL_loses a0 a1 x1 x2 q5) fun _ h7 =>
  some ((q4.1, h7))

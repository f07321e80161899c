/-! ===== the desk as mathematics: numbers, texts, queues of texts, children; what each call answers and makes of it ===== -/
abbrev SS : Type := (Nat → Nat → Int32) × (Nat → Nat → List Int32) × (Nat → List (List Int32)) × (Nat → List Nat)
/-- numbers by the reference's fields: 0 made, 1 there, 2 kind, 3 parent, 10 on, 11 pressed, 12 hidden, 13 rule, 14 manner, 15 last news, 20 cursor, 21 focus, 22 typing, 23 capital, 24 number, 25 offset, 26 down, 27 chord, 38 speaks, 41 spoken at, 42 heard, 43 how many, 44 dropped, 45 swallowed, 46 now, 48 thrown -/
def sI (S : SS) (k i : Nat) : Int32 := S.1 k i
/-- texts: 6 name, 8 content, 17 kept, 18 draft, 33 answer, 39 spoken -/
def sL (S : SS) (k i : Nat) : List Int32 := S.2.1 k i
/-- 30 news, 35 alerts -/
def sQ (S : SS) (k : Nat) : List (List Int32) := S.2.2.1 k
def sK (S : SS) (i : Nat) : List Nat := S.2.2.2 i
def wSI (S : SS) (k i : Nat) (v : Int32) : SS := (up2 S.1 k i v, S.2)
def wSL (S : SS) (k i : Nat) (l : List Int32) : SS := (S.1, up2 S.2.1 k i l, S.2.2)
def wSQ (S : SS) (k : Nat) (q : List (List Int32)) : SS := (S.1, S.2.1, (fun j => if j = k then q else S.2.2.1 j), S.2.2.2)
def wSK (S : SS) (i : Nat) (l : List Nat) : SS := (S.1, S.2.1, S.2.2.1, fun j => if j = i then l else S.2.2.2 j)
/-! texts of parts -/
def sep (t p : List Int32) : List Int32 := if t.length = 0 ∨ p.length = 0 then [] else [32]
def pt (t p : List Int32) : List Int32 := t ++ (sep t p ++ p)
def kw (k : Int32) : List Int32 := if k = 0 then [103, 114, 111, 117, 112] else if k = 2 then [98, 117, 116, 116, 111, 110] else if k = 3 then [99, 104, 101, 99, 107] else if k = 4 then [101, 100, 105, 116] else if k = 5 then [116, 97, 98, 108, 101] else if k = 6 then [114, 111, 119] else if k = 7 then [108, 105, 118, 101] else []
def onw (x : Int32) : List Int32 := if x = 0 then [111, 102, 102] else [111, 110]
def dg (n : Nat) : List Int32 := if n ≤ 9 then [nI (48 + n)] else [nI (48 + n / 10), nI (48 + n % 10)]
/-! the tree -/
def dpar (S : SS) (i : Nat) : Nat := (sI S 3 i).toNatClampNeg
def anc (S : SS) : Nat → Nat → List Nat
  | 0, _ => []
  | f + 1, i => i :: (if sI S 3 i = -1 then [] else anc S f (dpar S i))
def an (S : SS) (i : Nat) : List Nat := anc S 40 i
def hid (S : SS) (i : Nat) : Bool := decide (sI S 12 i ≠ 0)
def shn (S : SS) (i : Nat) : Bool := (an S i).all (fun j => !hid S j)
def lvl (S : SS) (i : Nat) : Int32 := ((an S i).find? (fun j => decide (sI S 13 j ≠ -1))).elim 1 (fun j => sI S 13 j)
def rgn (S : SS) (i : Nat) : Option Nat := (an S i).tail.find? (fun j => decide (sI S 2 j = 7))
def wthn (S : SS) (i x : Nat) : Bool := decide (x ∈ an S i)
def plc (S : SS) (i : Nat) : Nat := (sK S (dpar S i)).idxOf i
def vis (S : SS) (l : List Nat) : Nat := l.countP (fun j => !hid S j)
def ordF (S : SS) : Nat → Nat → List Nat
  | 0, _ => []
  | f + 1, i => if hid S i = true then [] else i :: (sK S i).flatMap (ordF S f)
def ord (S : SS) : List Nat := ordF S 40 0
def made (S : SS) : Nat := (sI S 0 0).toNatClampNeg
def cur (S : SS) : Nat := (sI S 20 0).toNatClampNeg
def elt (S : SS) (x : Int32) : Bool := inb x (made S) && decide (sI S 1 x.toNatClampNeg ≠ 0)
def nth (x : Int32) : Nat := x.toNatClampNeg
/-! words -/
def wd1 (S : SS) (i : Nat) (t : List Int32) : List Int32 := if lvl S i ≠ 0 ∨ (sL S 6 i).length = 0 then pt (pt t (sL S 6 i)) (kw (sI S 2 i)) else pt t (sL S 6 i)
def wd2 (S : SS) (i : Nat) (t : List Int32) : List Int32 := if sI S 2 i = 3 then pt t (onw (sI S 10 i)) else t
def wd3 (S : SS) (i : Nat) (t : List Int32) : List Int32 := pt (pt (pt t (dg (vis S ((sK S (dpar S i)).take (plc S i + 1))))) [111, 102]) (dg (vis S (sK S (dpar S i))))
def wd (S : SS) (i : Nat) (t : List Int32) : List Int32 := if lvl S i = 2 ∧ i ≠ 0 then wd3 S i (pt (wd2 S i (wd1 S i t)) (sL S 8 i)) else pt (wd2 S i (wd1 S i t)) (sL S 8 i)
def gone (S : SS) (i : Nat) : List Int32 := pt [103, 111, 110, 101] (if (sL S 6 i).length = 0 then kw (sI S 2 i) else sL S 6 i)
/-! the line -/
def isS (c : Int32) : Bool := decide (97 ≤ c ∧ c ≤ 122)
def isG (c : Int32) : Bool := decide (65 ≤ c ∧ c ≤ 90)
def isD (c : Int32) : Bool := decide (48 ≤ c ∧ c ≤ 57)
def isA (c : Int32) : Bool := isS c || isG c
def ptsN (k : Nat) : Int32 := lettL.getD k 0
def sgn (c : Int32) : Int32 := if c = 32 then 0 else if c = 46 then 50 else if c = 44 then 2 else if c = 63 then 38 else if c = 45 then 36 else 63
/-- how many letters stand right ahead of the place k, and from the place k on -/
def bk (l : List Int32) : Nat → Nat
  | 0 => 0
  | k + 1 => if isA (ge l k) = true then bk l k + 1 else 0
def fw (l : List Int32) : List Int32 := l.takeWhile isA
def gsg (l : List Int32) (k : Nat) : Nat := if (fw (l.drop (k - bk l k))).all isG = true ∧ 1 < (fw (l.drop (k - bk l k))).length then (if bk l k = 0 then 2 else 0) else 1
def cl1 (l : List Int32) (k : Nat) : List Int32 :=
  if isG (ge l k) = true then List.replicate (gsg l k) 32 ++ [ptsN (ge l k - 65).toNatClampNeg]
  else if isS (ge l k) = true then (if (0 < k ∧ isD (ge l (k - 1)) = true) ∧ ge l k ≤ 106 then [48] else []) ++ [ptsN (ge l k - 97).toNatClampNeg]
  else if isD (ge l k) = true then (if 0 < k ∧ isD (ge l (k - 1)) = true then [] else [60]) ++ [if ge l k = 48 then 26 else ptsN (ge l k - 49).toNatClampNeg]
  else [sgn (ge l k)]
def wrt (l : List Int32) : List Int32 := (List.range l.length).flatMap (cl1 l)
def fpt (k : Int32) : Int32 := if k = 0 then 27 else if k = 2 then 3 else if k = 3 then 9 else if k = 4 then 17 else if k = 5 then 30 else if k = 6 then 23 else if k = 7 then 7 else 0
def ln1 (S : SS) (i : Nat) : List Int32 := if lvl S i = 0 ∨ sI S 2 i = 1 then [] else [fpt (sI S 2 i) + 192]
def ln2 (S : SS) (i : Nat) : List Int32 := if sI S 2 i = 3 then [0, if sI S 10 i = 0 then 36 else 63] else []
def ln3 (S : SS) (i : Nat) : List Int32 := if (sL S 8 i).length = 0 then [] else 0 :: wrt (sL S 8 i)
def ln (S : SS) : List Int32 := ln1 S (cur S) ++ wrt (sL S 6 (cur S)) ++ ln2 S (cur S) ++ ln3 S (cur S) ++ (if sI S 22 0 = 0 then [] else [192])
def fit (S : SS) : SS := if 0 < sI S 25 0 ∧ nI (ln S).length ≤ sI S 25 0 then wSI S 25 0 (if (ln S).length = 0 then 0 else nI (((ln S).length - 1) / 10 * 10)) else S
/-! speech -/
def drop1 (S : SS) : SS := wSI S 44 0 (sI S 44 0 + 1)
def cNews (S : SS) (t : List Int32) : SS := if (sQ S 30).length = 5 then drop1 (wSQ S 30 ((sQ S 30 ++ [t]).drop 1)) else wSQ S 30 (sQ S 30 ++ [t])
def hshS (S : SS) : SS := if sI S 38 0 = 0 ∨ sI S 38 0 = 1 then drop1 (wSI S 38 0 (-1)) else S
def hshA (S : SS) : SS := if (sL S 33 0).length = 0 then S else drop1 S
def cAns (S : SS) (t : List Int32) : SS := if t.length = 0 then S else wSL (hshS (hshA S)) 33 0 t
/-- where the word begins to which the character at a place belongs -/
def wst (l : List Int32) (p : Nat) : Nat → Nat
  | 0 => 0
  | k + 1 => if ge l p = 32 ∨ ge l k = 32 then k + 1 else wst l p k
def spk (S : SS) : Nat := (sI S 41 0).toNatClampNeg
def cAl1 (S : SS) : SS := if sI S 38 0 = 0 then drop1 (wSI S 38 0 (-1)) else if sI S 38 0 = 1 then wSI (wSL S 33 0 ((sL S 39 0).drop (wst (sL S 39 0) (spk S) (spk S)))) 38 0 (-1) else S
def cAl (S : SS) (t : List Int32) : SS := cAl1 (wSQ S 35 (sQ S 35 ++ [t]))
def hush (S : SS) : SS := wSI (wSL (wSQ (wSI S 44 0 (sI S 44 0 + ((nI (sQ S 30).length + (if (sL S 33 0).length = 0 then 0 else 1)) + (if sI S 38 0 = 0 ∨ sI S 38 0 = 1 then 1 else 0)))) 30 []) 33 0 []) 38 0 (if sI S 38 0 = 2 then 2 else -1)
/-! regions -/
def swl (S : SS) (r : Nat) : SS := if (sL S 17 r).length = 0 then S else wSL (wSI S 45 0 (sI S 45 0 + 1)) 17 r []
def canN (S : SS) (r : Nat) : Bool := decide (sI S 15 r = -1 ∨ 5 ≤ sI S 46 0 - sI S 15 r)
def tel (S : SS) (r : Option Nat) (t : List Int32) : SS := match r with
  | none => S
  | some r => if t.length = 0 ∨ sI S 14 r = 0 then S else if sI S 14 r = 2 then cAl S t else if canN S r = true then cNews (wSI S 15 r (sI S 46 0)) t else wSL (swl S r) 17 r t
def telW (S : SS) (i : Nat) : SS := if shn S i = true then tel S (rgn S i) (wd S i []) else S
/-! speaking -/
def bgn1 (S : SS) : SS := match sQ S 35 with
  | t :: q => wSI (wSQ (wSL S 39 0 t) 35 q) 38 0 2
  | [] => if (sL S 33 0).length = 0 then (match sQ S 30 with
    | t :: q => wSI (wSQ (wSL S 39 0 t) 30 q) 38 0 0
    | [] => S) else wSI (wSL (wSL S 39 0 (sL S 33 0)) 33 0 []) 38 0 1
def bgn (S : SS) : SS := wSI (bgn1 S) 41 0 0
def bgnI (S : SS) : SS := if sI S 38 0 = -1 then bgn S else S
def nhd (S : SS) : Nat := (sI S 43 0).toNatClampNeg
def say2 (S : SS) : SS := wSI (wSI (wSI S 42 (nhd S % 100) (ge (sL S 39 0) (spk S))) 43 0 (sI S 43 0 + 1)) 41 0 (sI S 41 0 + 1)
def say3 (S : SS) : SS := if spk S = (sL S 39 0).length then wSI S 38 0 (-1) else S
def spkI (S : SS) : SS := if sI S 38 0 = -1 then S else say3 (say2 S)
def kpt1 (S : SS) (r : Nat) : SS := if (sL S 17 r).length = 0 ∨ canN S r = false then S else if shn S r = true then cNews (wSI (wSL S 17 r []) 15 r (sI S 46 0)) (sL S 17 r) else swl S r
/-- what regions keep, by rising numbers (those that are gone keep nothing) -/
def kptF (S : SS) (n : Nat) : SS := (List.range n).foldl kpt1 S
def kpt (S : SS) : SS := kptF S (made S)
def tck1 (S : SS) : SS := spkI (bgnI (kpt (wSI S 46 0 (sI S 46 0 + 1))))
def tckN (S : SS) : Nat → SS
  | 0 => S
  | n + 1 => tck1 (tckN S n)
/-! the cursor's loss -/
def fnd (S : SS) (l : List Nat) : Option Nat := l.find? (fun j => !hid S j)
def rfg (S : SS) (p : Nat) (b a : List Nat) : Nat := ((fnd S b).orElse (fun _ => fnd S a.reverse)).getD p
def gonA (S : SS) (x : Int32) : Bool := decide (x ≠ -1) && (decide (sI S 1 (nth x) = 0) || !shn S (nth x))
def los1 (S : SS) : SS := if gonA S (sI S 21 0) = true then wSI (wSI S 21 0 (-1)) 22 0 0 else S
def los2 (S : SS) (r : Nat) : SS := wSI (wSI S 20 0 (nI r)) 25 0 0
def los3 (S : SS) (r : Nat) : SS := if gonA S (sI S 20 0) = true then cAl (los2 S r) (wd (los2 S r) r [108, 111, 115, 116]) else S
def los (S : SS) (r : Nat) : SS := los3 (los1 S) r

/-! ===== commands, letters, typing, and what each call answers ===== -/
def kid (S : SS) (i k : Nat) : Nat := gn (sK S i) k
def canF (k : Int32) : Bool := decide (2 ≤ k ∧ k ≤ 4)
def cpl (S : SS) : Nat := (ord S).idxOf (cur S)
def wNone : List Int32 := [110, 111, 110, 101]
def wEnd : List Int32 := [101, 110, 100]
/-- whether from f to t the heads of a table are told -/
def hdB (S : SS) (f t : Nat) : Bool := decide (f ≠ t ∧ t ≠ 0 ∧ f ≠ 0 ∧ sI S 2 (dpar S t) = 6 ∧ sI S 2 (dpar S f) = 6 ∧ dpar S (dpar S t) = dpar S (dpar S f) ∧ lvl S t ≠ 0)
def hd1 (S : SS) (f t : Nat) : List Int32 := if dpar S t = dpar S f ∨ kid S (dpar S t) 0 = t then [] else pt [] (sL S 6 (kid S (dpar S t) 0))
def tbl (S : SS) (t : Nat) : Nat := kid S (dpar S (dpar S t)) 0
def hd2 (S : SS) (f t : Nat) : List Int32 := if plc S t = plc S f ∨ (sK S (tbl S t)).length ≤ plc S t ∨ kid S (tbl S t) (plc S t) = t then hd1 S f t else pt (hd1 S f t) (sL S 6 (kid S (tbl S t) (plc S t)))
def hds (S : SS) (f t : Nat) : List Int32 := if hdB S f t = true then hd2 S f t else []
def go (S : SS) (x : Nat) : SS := cAns (wSI (wSI (wSI S 22 0 0) 25 0 (if x = cur S then sI S 25 0 else 0)) 20 0 (nI x)) (wd S x (hds S (cur S) x))
def goO (S : SS) (o : Option Nat) (w : List Int32) : SS := match o with
  | some x => go S x
  | none => cAns S w
def gPrev (S : SS) : SS := goO S (if cpl S = 0 then none else some (gn (ord S) (cpl S - 1))) wEnd
def gNext (S : SS) : SS := goO S (if cpl S + 1 < (ord S).length then some (gn (ord S) (cpl S + 1)) else none) wEnd
def gOut (S : SS) : SS := goO S (if cur S = 0 then none else some (dpar S (cur S))) wNone
def gIn (S : SS) : SS := goO S (fnd S (sK S (cur S))) wNone
def rwB (S : SS) (p j : Nat) : Bool := !hid S j && (decide (p < (sK S j).length) && !hid S (kid S j p))
def rwF (S : SS) (l : List Nat) : Option Nat := (l.find? (rwB S (plc S (cur S)))).map (fun j => kid S j (plc S (cur S)))
def inRow (S : SS) : Bool := decide (cur S ≠ 0 ∧ sI S 2 (dpar S (cur S)) = 6)
def rws (S : SS) : List Nat := sK S (dpar S (dpar S (cur S)))
def gUp (S : SS) : SS := if inRow S = true then goO S (rwF S ((rws S).take (plc S (dpar S (cur S)))).reverse) wEnd else cAns S wNone
def gDown (S : SS) : SS := if inRow S = true then goO S (rwF S ((rws S).drop (plc S (dpar S (cur S)) + 1))) wEnd else cAns S wNone
def tbF (S : SS) : Option Nat := (((ord S).drop (cpl S + 1)) ++ ((ord S).take (cpl S + 1))).find? (fun j => canF (sI S 2 j))
def gTab (S : SS) : SS := match tbF S with
  | some x => go (wSI S 21 0 (nI x)) x
  | none => cAns S wNone
def act2 (S : SS) : SS := wSI S 21 0 (sI S 20 0)
def act (S : SS) : SS :=
  if canF (sI S 2 (cur S)) = true then
    (if sI S 2 (cur S) = 2 then cAns (wSI (act2 S) 11 (cur S) (sI S 11 (cur S) + 1)) [112, 114, 101, 115, 115, 101, 100]
    else if sI S 2 (cur S) = 3 then cAns (wSI (act2 S) 10 (cur S) (if sI S 10 (cur S) = 0 then 1 else 0)) (onw (if sI S 10 (cur S) = 0 then 1 else 0))
    else cAns (wSI (wSI (wSI (act2 S) 22 0 1) 23 0 0) 24 0 0) [116, 121, 112, 101])
  else cAns S wNone
def gLeft (S : SS) : SS := wSI S 25 0 (sI S 25 0 - (if sI S 25 0 ≤ 0 then 0 else 10))
def gRight (S : SS) : SS := wSI S 25 0 (sI S 25 0 + (if nI (ln S).length ≤ sI S 25 0 + 10 then 0 else 10))
def again (S : SS) : SS := cAns S (wd S (cur S) [])
def cmd (S : SS) (p : Int32) : SS :=
  if p = 1 then gPrev S else if p = 8 then gNext S else if p = 4 then gOut S else if p = 32 then gIn S else if p = 2 then gUp S else if p = 16 then gDown S else if p = 30 then gTab S
  else if p = 128 then act S else if p = 64 then hush S else if p = 7 then gLeft S else if p = 56 then gRight S else if p = 23 then again S else S
/-- the kind that some points ask for -/
def kos (p : Int32) : Int32 := if p = 27 then 0 else if p = 3 then 2 else if p = 9 then 3 else if p = 17 then 4 else if p = 30 then 5 else if p = 23 then 6 else if p = 7 then 7 else -1
def gKind (S : SS) (k : Int32) : SS := if k = -1 then S else goO S (((ord S).drop (cpl S + 1)).find? (fun j => decide (sI S 2 j = k))) wNone
/-! typing -/
def lto (p : Int32) : Option Nat := (List.range 26).find? (fun j => decide (ptsN j = p))
def sayC (S : SS) (c : Int32) : SS := cAns S (if c = 32 then [115, 112, 97, 99, 101] else [c])
def typ (S : SS) (c : Int32) : SS := if (sL S 8 (cur S)).length = 12 then cAns S [102, 117, 108, 108] else sayC (wSL S 8 (cur S) (sL S 8 (cur S) ++ [c])) c
def full (S : SS) : Bool := decide ((sL S 8 (cur S)).length = 12)
def typL (S : SS) (j : Nat) : SS :=
  if sI S 24 0 ≠ 0 ∧ sI S 23 0 = 0 ∧ j < 10 then typ S (if j = 9 then 48 else nI (49 + j))
  else if full S = true then typ S 0 else wSI (wSI (typ S ((if sI S 23 0 = 0 then 97 else 65) + nI j)) 23 0 0) 24 0 0
def tkB (S : SS) : SS := if (sL S 8 (cur S)).length = 0 then cAns S wNone else sayC (wSL S 8 (cur S) ((sL S 8 (cur S)).take ((sL S 8 (cur S)).length - 1))) (ge (sL S 8 (cur S)) ((sL S 8 (cur S)).length - 1))
def typS (S : SS) (p : Int32) : SS := match lto p with
  | some j => typL S j
  | none => if p = 32 then wSI S 23 0 1 else if p = 60 then wSI S 24 0 1 else if p = 48 then wSI S 24 0 0
    else if p = 50 then typ S 46 else if p = 2 then typ S 44 else if p = 38 then typ S 63 else if p = 36 then typ S 45
    else if p = 256 then (if full S = true then typ S 32 else wSI (typ S 32) 24 0 0)
    else if p = 64 then tkB S else if p = 128 then cAns (wSI S 22 0 0) (wd S (cur S) []) else S
def chd0 (S : SS) (p : Int32) : SS := if p ≤ 256 then (if sI S 22 0 = 0 then (if 256 ≤ p then S else gKind S (kos p)) else typS S p) else cmd S (p - 256)
def chd (S : SS) (p : Int32) : SS := fit (chd0 S p)
/-! calls: thrown, the answer, the desk -/
abbrev aS : Type := Int32 × Int32 × SS
def rt (a : Int32) (S : SS) : aS := (0, a, S)
def tw (k : Int32) (S : SS) : aS := (k, 0, S)
def isC (c : Int32) : Bool := decide (32 ≤ c ∧ c ≤ 126) || decide (119040 ≤ c ∧ c ≤ 119295)
def cDraft (S : SS) (c : Int32) : aS := if isC c = false then tw 1 S else if (sL S 18 0).length = 12 then tw 2 S else rt (nI ((sL S 18 0).length + 1)) (wSL S 18 0 (sL S 18 0 ++ [c]))
def cnH (p k : Int32) : Bool := if p = 0 ∨ p = 7 then decide (k ≠ 6) else if p = 5 then decide (k = 6) else if p = 6 then decide (1 ≤ k ∧ k ≤ 4) else false
def insA (l : List Nat) (p x : Nat) : List Nat := l.take p ++ x :: l.drop p
/-- the new element, before its region is told -/
def add1 (S : SS) (p pl : Nat) (k : Int32) : SS := wSK (wSL (wSL (wSI (wSI (wSI (wSI (wSI (wSI (wSI S 0 0 (nI (made S + 1))) 1 (made S) 1) 2 (made S) k) 3 (made S) (nI p)) 13 (made S) (-1)) 14 (made S) 1) 15 (made S) (-1)) 6 (made S) (sL S 18 0)) 18 0 []) p (insA (sK S p) pl (made S))
def add2 (S : SS) (p pl : Nat) (k : Int32) : SS := fit (telW (add1 S p pl k) (made S))
def cAdd (S : SS) (p pl k : Int32) : aS :=
  if elt S p = false then tw 1 S
  else if ¬ (0 ≤ pl ∧ pl ≤ nI (sK S (nth p)).length) ∨ ¬ (0 ≤ k ∧ k ≤ 7) then tw 2 S
  else if made S = 40 ∨ (sK S (nth p)).length = 10 ∨ cnH (sI S 2 (nth p)) k = false ∨ 20 ≤ (sQ S 35).length then tw 3 S
  else rt (nI (made S)) (add2 S (nth p) (nth pl) k)
/-- those that are gone: not there any more, what they kept is swallowed, by rising numbers -/
def rm1 (x : Nat) (S : SS) (j : Nat) : SS := if sI S 1 j ≠ 0 ∧ wthn S j x = true then swl (wSI S 1 j 0) j else S
def rmF (S : SS) (x n : Nat) : SS := (List.range n).foldl (rm1 x) S
def rmN (S : SS) (x : Nat) : Nat := (List.range (made S)).countP (fun j => decide (sI S 1 j ≠ 0) && wthn S j x)
def rm2 (S : SS) (x : Nat) : SS := wSK (rmF S x (made S)) (dpar S x) ((sK S (dpar S x)).eraseIdx (plc S x))
def rgS (S : SS) (x : Nat) : Option Nat := if shn S x = true then rgn S x else none
def rfgO (S : SS) (x : Nat) : Nat := rfg S (dpar S x) ((sK S (dpar S x)).drop (plc S x + 1)) ((sK S (dpar S x)).take (plc S x))
def rm3 (S : SS) (x : Nat) : SS := fit (los (tel (rm2 S x) (rgS S x) (gone S x)) (rfgO S x))
def cRemove (S : SS) (x : Int32) : aS := if elt S x = false then tw 1 S else if x = 0 ∨ 20 ≤ (sQ S 35).length then tw 2 S else rt (nI (rmN S (nth x))) (rm3 S (nth x))
def hd3 (S : SS) (x : Nat) (v : Int32) : SS := if v ≠ 0 ∧ sI S 12 x = 0 then los (tel (wSI S 12 x 1) (rgS S x) (gone S x)) (rfgO S x) else if sI S 12 x ≠ 0 ∧ v = 0 then telW (wSI S 12 x 0) x else S
def cHide (S : SS) (x v : Int32) : aS := if elt S x = false then tw 1 S else if x = 0 ∨ 20 ≤ (sQ S 35).length then tw 2 S else rt (sI S 12 (nth x)) (fit (hd3 S (nth x) v))
def ren1 (S : SS) (x : Nat) : SS := wSL (wSL S 6 x (sL S 18 0)) 18 0 []
def ren (S : SS) (x : Nat) : SS := fit (if sL S 6 x = sL S 18 0 then ren1 S x else telW (ren1 S x) x)
def cRename (S : SS) (x : Int32) : aS := if elt S x = false then tw 1 S else if x = 0 ∨ 20 ≤ (sQ S 35).length then tw 2 S else rt (nI (sL S 18 0).length) (ren S (nth x))
def set1S (S : SS) (x : Nat) (v : Int32) : SS := fit (if sI S 10 x = v then wSI S 10 x v else telW (wSI S 10 x v) x)
def cSet (S : SS) (x v : Int32) : aS := if elt S x = false then tw 1 S else if sI S 2 (nth x) ≠ 3 ∨ 20 ≤ (sQ S 35).length then tw 2 S else rt (sI S 10 (nth x)) (set1S S (nth x) v)
def cSetRule (S : SS) (x v : Int32) : aS := if elt S x = false then tw 1 S else if ¬ (-1 ≤ v ∧ v ≤ 2) then tw 2 S else rt (sI S 13 (nth x)) (fit (wSI S 13 (nth x) v))
def cSetManner (S : SS) (x v : Int32) : aS := if elt S x = false then tw 1 S else if ¬ (0 ≤ v ∧ v ≤ 2) then tw 2 S else if sI S 2 (nth x) ≠ 7 then tw 3 S else rt (sI S 14 (nth x)) (swl (wSI S 14 (nth x) v) (nth x))
def nTh (S : SS) : Nat := (List.range (made S)).countP (fun j => decide (sI S 1 j ≠ 0))
def ask (S : SS) (x : Int32) (a : Nat → Int32) : aS := if elt S x = false then tw 1 S else rt (a (nth x)) S
def ask2 (S : SS) (x y : Int32) (n : Nat → Nat) (a : Nat → Nat → Int32) : aS := if elt S x = true ∧ inb y (n (nth x)) = true then rt (a (nth x) (nth y)) S else tw 1 S
def cReadingAt (S : SS) (y : Int32) : aS := if inb y (ord S).length = true then rt (nI (gn (ord S) (nth y))) S else tw 1 S
/-! keys -/
def bts (n : Nat) : Nat := (List.range 9).countP (fun k => n.testBit k)
def dwn (S : SS) : Nat := nth (sI S 26 0)
def prs (S : SS) (k : Int32) : SS := wSI (wSI S 27 0 ((if sI S 26 0 = 0 then 0 else sI S 27 0) ||| (1 <<< (k &&& 31)))) 26 0 (sI S 26 0 ||| (1 <<< (k &&& 31)))
def cPress (S : SS) (k : Int32) : aS := if ¬ (0 ≤ k ∧ k ≤ 8) then tw 1 S else if (sI S 26 0 >>> (k &&& 31)) &&& 1 = 1 then tw 2 S else rt (nI (bts (dwn (prs S k)))) (prs S k)
def rls1 (S : SS) (k : Int32) : SS := wSI S 26 0 (sI S 26 0 &&& ((1 <<< (k &&& 31)) ^^^ (-1)))
def rls (S : SS) (k : Int32) : SS := if sI (rls1 S k) 26 0 = 0 then chd (rls1 S k) (sI S 27 0) else rls1 S k
def cRelease (S : SS) (k : Int32) : aS := if ¬ (0 ≤ k ∧ k ≤ 8) then tw 1 S else if (sI S 26 0 >>> (k &&& 31)) &&& 1 = 0 then tw 2 S else rt (nI (bts (dwn (rls1 S k)))) (rls S k)
def cChord (S : SS) (p : Int32) : aS := if ¬ (1 ≤ p ∧ p ≤ 511) then tw 1 S else if 0 < sI S 26 0 then tw 2 S else rt (sI (chd S p) 20 0) (chd S p)
/-! pins, words, ticks -/
def cPin (S : SS) (p : Int32) : aS := if ¬ (0 ≤ p ∧ p ≤ 9) then tw 1 S else rt (if nI (ln S).length ≤ sI S 25 0 + p then 0 else ge (ln S) (nth (sI S 25 0 + p))) S
def cWordsLen (S : SS) (x : Int32) : aS := if elt S x = false then tw 1 S else if shn S (nth x) = false then tw 2 S else rt (nI (wd S (nth x) []).length) S
def cWordsAt (S : SS) (x y : Int32) : aS := if elt S x = false then tw 2 S else if shn S (nth x) = false then tw 1 S else if inb y (wd S (nth x) []).length = true then rt (ge (wd S (nth x) []) (nth y)) S else tw 2 S
def cTick (S : SS) (n : Int32) : aS := if ¬ (1 ≤ n ∧ n ≤ 50) then tw 1 S else rt (sI (tckN S (nth n)) 43 0 - sI S 43 0) (tckN S (nth n))
def cLeft (S : SS) : aS := rt (if sI S 38 0 = -1 then 0 else nI (sL S 39 0).length - sI S 41 0) S
def cWaiting (S : SS) (p : Int32) : aS := if ¬ (0 ≤ p ∧ p ≤ 2) then tw 1 S else rt (if p = 0 then nI (sQ S 30).length else if p = 2 then nI (sQ S 35).length else if (sL S 33 0).length = 0 then 0 else 1) S
def cHeardAt (S : SS) (b : Int32) : aS := if (0 ≤ b ∧ b ≤ 99) ∧ b < sI S 43 0 then rt (sI S 42 ((nhd S - 1 - nth b) % 100)) S else tw 1 S

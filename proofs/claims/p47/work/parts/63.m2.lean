/-! ===== the reference's texts of parts ===== -/
def tsc : List Nat := [28, 29]
def Tx (m : mm) (t : List Int32) : Prop := TxA m 28 29 100 0 t
theorem Tx.cnt {m : mm} {t : List Int32} (h : Tx m t) : m 29 0 = nI t.length := h.1
/-- what a part of a text does -/
def TP (F : mm → Option (Unit × mm)) (m : mm) (t : List Int32) : Prop := ∃ m', F m = some ((), m') ∧ Tx m' t ∧ Sm tsc m m'
/-! words told as a number -/
def wgr (w : Int64) (s : Int32) : List Int32 := if lg_cmp ((w >>> (s.toInt64 &&& 63)) &&& (127 : Int64)) 0 ≤ 0 then [] else [((w >>> (s.toInt64 &&& 63)) &&& (127 : Int64)).toInt32]
def wdc (w : Int64) : List Int32 := wgr w 42 ++ (wgr w 35 ++ (wgr w 28 ++ (wgr w 21 ++ (wgr w 14 ++ (wgr w 7 ++ wgr w 0)))))
theorem wgr_len (w : Int64) (s : Int32) : (wgr w s).length ≤ 1 := by
  unfold wgr; split <;> simp
/-! a part out of a row -/
theorem sep_len (t p : List Int32) : (sep t p).length ≤ 1 := by unfold sep; split <;> simp
theorem pt_len (t p : List Int32) : (pt t p).length ≤ t.length + 1 + p.length := by
  have := sep_len t p
  unfold pt
  simp only [List.length_append]; omega
/-! numbers below 100 -/
theorem dg_len (n : Nat) : (dg n).length ≤ 2 := by unfold dg; split <;> simp

/-! ===== the reference's adding ===== -/
section MAD
variable {S : SS} {m : mm}
def add7 (S : SS) (p : Nat) (k : Int32) : SS := wSI (wSI (wSI (wSI (wSI (wSI (wSI S 0 0 (nI (made S + 1))) 1 (made S) 1) 2 (made S) k) 3 (made S) (nI p)) 13 (made S) (-1)) 14 (made S) 1) 15 (made S) (-1)
theorem add1_7 (S : SS) (p pl : Nat) (k : Int32) : add1 S p pl k = wSK (ren1 (add7 S p k) (made S)) p (insA (sK S p) pl (made S)) := rfl
theorem add2_48 (S : SS) (p pl : Nat) (k : Int32) : sI (add2 S p pl k) 48 0 = sI S 48 0 := by
  unfold add2
  rw [(sd_fit _).i 48 rfl, (sd_telW _ _).i 48 rfl]
  exact a1_f p pl k (by decide)
end MAD

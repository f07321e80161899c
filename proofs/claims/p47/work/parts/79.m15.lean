/-! ===== the reference's typing and chords ===== -/
def WB (S : SS) : Prop := ∀ k, k ∈ [1, 10, 12, 22, 23, 24] → ∀ i, sI S k i = 0 ∨ sI S k i = 1
theorem sd_sayC (S : SS) (c : Int32) : Sd [38, 44] [33] [] S (sayC S c) := sd_cAns S _
theorem sd_typ (S : SS) (c : Int32) : Sd [38, 44] [8, 33] [] S (typ S c) := Sd.if ((sd_cAns S _).mono (by decide)) (Sd.tr (Sd.L (by decide)) ((sd_sayC _ _).mono (by decide)))
theorem ptsN_inj : ∀ i, i < 26 → ∀ j, j < 26 → ptsN i = ptsN j → i = j := by decide +kernel
section MY
variable {S : SS} {m : mm}
theorem lto_lt {p : Int32} {j : Nat} (h : lto p = some j) : j < 26 := List.mem_range.mp (List.mem_of_find?_eq_some h)
theorem typ_full (hf : full S = true) (c d : Int32) : typ S c = typ S d := by
  have := of_decide_eq_true hf
  unfold typ
  rw [if_pos this, if_pos this]
end MY

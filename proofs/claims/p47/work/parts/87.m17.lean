/-! ===== the reference's public calls: what else is asked, the draft ===== -/
theorem sd_z (S : SS) : Sd [48] [] [] S (z0 S) := Sd.I (by decide)
theorem ord_cg {S S' : SS} (h12 : sI S' 12 = sI S 12) (hK : sK S' = sK S) : ord S' = ord S := by
  have : ∀ (f i : Nat), ordF S' f i = ordF S f i := by
    intro f
    induction f with
    | zero => intro i; rfl
    | succ f ih =>
      intro i
      have e : ordF S' f = ordF S f := funext ih
      show (if hid S' i = true then [] else i :: (sK S' i).flatMap (ordF S' f)) = _
      rw [hid_cg h12, hK, e]; rfl
  exact this 40 0
theorem ln_z (S : SS) : ln (z0 S) = ln S := by
  have hs := sd_z S
  exact ln_cg (hs.i 2 rfl) (hs.i 3 rfl) (hs.i 10 rfl) (hs.i 13 rfl) (hs.i 20 rfl) (hs.i 22 rfl) (hs.l 6 rfl) (hs.l 8 rfl)
theorem wd_z (S : SS) (i : Nat) (t : List Int32) : wd (z0 S) i t = wd S i t := by
  have hs := sd_z S
  exact wd_cg (hs.i 2 rfl) (hs.i 3 rfl) (hs.i 10 rfl) (hs.i 12 rfl) (hs.i 13 rfl) (hs.l 6 rfl) (hs.l 8 rfl) hs.2.2.2 i t
theorem ord_z (S : SS) : ord (z0 S) = ord S := ord_cg ((sd_z S).i 12 rfl) rfl
theorem shn_z (S : SS) (i : Nat) : shn (z0 S) i = shn S i := shn_cg ((sd_z S).i 3 rfl) ((sd_z S).i 12 rfl) i
theorem WT.z {S : SS} (h : WT S) : WT (z0 S) := h.sd (sd_z S) rfl
theorem WL.z {S : SS} (h : WL S) : WL (z0 S) := h
theorem WK.z {S : SS} (h : WK S) : WK (z0 S) := h.cg ((sd_z S).i 0 rfl) ((sd_z S).i 1 rfl) ((sd_z S).i 2 rfl)
theorem WC.z {S : SS} (h : WC S) : WC (z0 S) := h.cg ((sd_z S).i 0 rfl) ((sd_z S).i 1 rfl) ((sd_z S).i 20 rfl)
section ME
variable {S : SS} {m : mm}
end ME

/-! ===== the reference's calls: naming, setting, the draft, words ===== -/
theorem Inv0.z {S : SS} {c : Nat} (h : Inv0 S c) : Inv0 (z0 S) c := h.i rfl
theorem fit_z {S : SS} (h : fit S = S) : fit (z0 S) = z0 S := by
  unfold fit at *
  rw [ln_z]
  by_cases q : 0 < sI S 25 0 ∧ nI (ln S).length ≤ sI S 25 0
  · rw [if_pos q] at h
    rw [if_pos (show 0 < sI (z0 S) 25 0 ∧ nI (ln S).length ≤ sI (z0 S) 25 0 from q)]
    refine wSI_same ?_
    have := congrArg (fun T => sI T 25 0) h
    replace this : sI (wSI S 25 0 (if (ln S).length = 0 then 0 else nI (((ln S).length - 1) / 10 * 10))) 25 0 = sI S 25 0 := this
    rw [sI_I, if_pos ⟨rfl, rfl⟩] at this
    rw [this]; rfl
  · rw [if_neg (show ¬ (0 < sI (z0 S) 25 0 ∧ nI (ln S).length ≤ sI (z0 S) 25 0) from q)]
theorem Inv.z {S : SS} {c : Nat} (h : Inv S c) : Inv (z0 S) c := ⟨h.1.z, fit_z h.2.1, h.2.2⟩
section MR
variable {S : SS} {m : mm}
theorem rn_th {x i : Nat} : th (ren1 S x) i ↔ th S i := Iff.rfl
theorem ren_I0 {c : Nat} (h : Inv S c) {x : Nat} (hx : th S x) (ha : (sQ S 35).length < 20) : Inv0 (ren1 S x) c ∧ Inv0 (if sL S 6 x = sL S 18 0 then ren1 S x else telW (ren1 S x) x) c := by
  have hs : Sd [] [6, 18] [] S (ren1 S x) := (Sd.L (by decide)).tr (Sd.L (by decide))
  have h1 : Inv0 (ren1 S x) c := h.1.core hs ((h.1.1.w6 h.1.1.xd).w18 (by simp)) rfl
  refine ⟨h1, ?_⟩
  have h2 := h1.kTelW ((th_cg rfl rfl x).mpr hx) (by rw [hs.q 35 rfl]; omega)
  split
  · exact h1
  · exact h2
theorem ren_6 (S : SS) (x : Nat) : sL (ren S x) 6 x = sL S 18 0 ∧ sI (ren S x) 48 0 = sI S 48 0 := by
  have hs : Sd [25, 15, 38, 44, 45] [17, 33] [30, 35] (ren1 S x) (ren S x) := by
    unfold ren
    refine Sd.tr ?_ ((sd_fit _).mono (by decide))
    split
    · exact Sd.rf
    · exact (sd_telW _ _).mono (by decide)
  rw [hs.l 6 rfl, hs.i 48 rfl]
  refine ⟨?_, rfl⟩
  show sL (wSL (wSL S 6 x (sL S 18 0)) 18 0 []) 6 x = _
  rw [sL_L, if_neg (by simp), sL_L, if_pos ⟨rfl, rfl⟩]
end MR

/-! ===== the class's keys ===== -/
theorem key_and : ∀ d, d < 512 → ∀ k, k < 9 → ((nI d &&& ((1 : Int32) <<< (nI k &&& 31))) = 0 ↔ ¬ ((nI d >>> (nI k &&& 31)) &&& (1 : Int32) = 1)) ∧ ((nI d >>> (nI k &&& 31)) &&& (1 : Int32) = 0 ↔ ¬ ((nI d >>> (nI k &&& 31)) &&& (1 : Int32) = 1)) ∧ ((nI d &&& ((1 : Int32) <<< (nI k &&& 31))) ≠ 0 → d ≠ 0) := by decide +kernel
section KY
variable {B : Nat} {E : Nat → Nat} {S : SS} {li : List Int32} {od : List Nat} {h h' : hp}
theorem k9 {x : Int32} (q : 0 ≤ x ∧ x ≤ 8) : ∃ k, k < 9 ∧ x = nI k := by
  obtain ⟨j, j1, rfl⟩ := nI_of (Int32.not_lt.mpr q.1)
  refine ⟨j, ?_, rfl⟩
  rcases Nat.lt_or_ge 8 j with w | w
  · exact absurd q.2 (nI_ge (a := 8) w j1)
  · omega
theorem RW.g5 (x : RW B E S li od h) : oGI 9 5 (some B) h = some (sI S 26 0) := x.fi (o := 0) (f := 5) (k := 26) (t := 9) (by decide) (by decide)
theorem C_chord (x : RC B E S h) {c : Nat} (hv : Inv S c) (p : Int32) : CS B [exA, exS] (fX10_chord B p h) (cChord S p) := by
  obtain ⟨d, e, d1, e1, d2, e2, de⟩ := hv.1.1.xp
  unfold fX10_chord cChord
  by_cases q1 : p < 1
  · rw [if_pos q1, if_pos (fun z => Int32.not_le.mpr q1 z.1)]
    exact CS.thr 0 x (by decide) rfl rfl
  · rw [if_neg q1]
    by_cases q2 : p ≤ 511
    · rw [if_pos q2, if_neg (fun z => z ⟨Int32.not_lt.mp q1, q2⟩), RW.g5 x, sb, d2]
      by_cases w : d = 0
      · have hp0 : p ≠ 0 := fun z => q1 (by rw [z]; decide)
        obtain ⟨h2, a2, x2⟩ := r_obey x hv.1 hp0
        have hC2 := (hv.chd p).1.1.c
        rw [w, if_pos (show nI 0 = 0 from rfl), if_neg (show ¬ 0 < nI 0 by decide), RW.p03 x, sb, RW.ob79 x, sb, a2, o2s, x2.p03, sb, x2.cu, sb, x2.es.numb hC2.2.lt, sb]
        exact CS.ok (E' := E) (h' := h2) x2 (by rw [hC2.1])
      · rw [if_neg (show ¬ nI d = 0 from fun z => w ((nI_eq (b := 0) (by omega) (by decide)).mp z)), if_pos (show 0 < nI d from nI_lt (a := 0) (by omega) (by omega))]
        exact CS.thr 1 x (by decide) rfl rfl
    · rw [if_neg q2, if_pos (fun z => q2 z.2)]
      exact CS.thr 0 x (by decide) rfl rfl
end KY

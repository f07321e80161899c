/-! ===== the voice's steps within the whole desk ===== -/
section RV
variable {B : Nat} {E : Nat → Nat} {S S' : SS} {li : List Int32} {od : List Nat} {h h' : hp}
theorem RW.vs (x : RW B E S li od h) : VS B S h := ⟨x.1, x.2.2.2.2.2.2.1, x.2.2.1.n 12 7 38 (by decide), x.2.2.1.n 12 9 43 (by decide), x.2.2.1.n 12 10 44 (by decide)⟩
theorem fx_12 : ∀ p ∈ fxI, (p.1 = 12 → p = (12, 7, 38) ∨ p = (12, 9, 43) ∨ p = (12, 10, 44)) ∧ (p.1 ≠ 12 → (p.1 < 12 ∨ 75 ≤ p.1) ∧ p.2.2 ∉ [38, 41, 43, 44]) := by decide
theorem RW.voice (x : RW B E S li od h) (v : VS B S' h') (y : Ag (vas B) h h') (hs : Sd [38, 41, 43, 44] [33, 39] [30, 35] S S') : RW B E S' li od h' := by
  obtain ⟨a1, a2, a3, a4, a5, a6, a7, a8, ⟨⟨l1, s1⟩, ⟨l2, s2⟩, ⟨l3, s3⟩⟩, a10, a11, a12⟩ := x
  have nn : ∀ a, (a < B + 12 ∨ B + 75 ≤ a) → a ∉ vas B := fun a w z => by have := mem_vas.mp z; omega
  refine ⟨v.1, by rw [made_cg (hs.i 0 rfl), y.1]; exact a2, ⟨fun p hp => ?_, fun z => ?_, fun z => ?_, fun k hk => ?_⟩, fun i hi => ?_, (a5.ag y (fun a ha => by have := mem_vas.mp ha; omega)).sd (hs.i 0 rfl) (hs.i 1 rfl), a6.ag y (fun a ha => by have := mem_vas.mp ha; omega), v.2.1, (a8.ag y (nn _ (by omega))).sd (hs.i 20 rfl) (hs.i 21 rfl), ⟨⟨l1, s1.ag y (nn _ (by omega)) (nn _ (by omega))⟩, ⟨l2, s2.ag y (nn _ (by omega)) (nn _ (by omega))⟩, ⟨l3, s3.ag y (nn _ (by omega)) (nn _ (by omega))⟩⟩, a10.ag y (nn _ (by omega)) (nn _ (by omega)), ?_, a12.ag y (fun a ha => by have := mem_vas.mp ha; omega) (hs.big rfl)⟩
  · obtain ⟨u1, u2⟩ := fx_12 p hp
    by_cases q : p.1 = 12
    · rcases u1 q with e | e | e
      · rw [e]; exact v.2.2.1
      · rw [e]; exact v.2.2.2.1
      · rw [e]; exact v.2.2.2.2
    · obtain ⟨w1, w2⟩ := u2 q
      rw [y.I (nn _ (by omega)), hs.1 _ w2]
      exact a3.1 p hp
  · rw [hs.i 22 rfl] at z
    rw [y.I (nn _ (by omega)), hs.i 23 rfl, hs.i 24 rfl]
    exact a3.2.1 z
  · rw [hs.i 26 rfl] at z
    rw [y.I (nn _ (by omega)), hs.i 27 rfl]
    exact a3.2.2.1 z
  · rw [y.I (nn _ (by omega)), hs.i 42 rfl]
    exact a3.2.2.2 k hk
  · rw [made_cg (hs.i 0 rfl)] at hi
    refine ((a4 i hi).ag y (fun a ha => by have := mem_vas.mp ha; exact a2.far hi (by omega) (by omega))).sd (fun k hk => hs.1 k ?_) (fun k hk => hs.2.1 k ?_) hs.2.2.2
    · simp only [List.mem_cons, List.not_mem_nil, or_false] at hk ⊢
      omega
    · simp only [List.mem_cons, List.not_mem_nil, or_false] at hk ⊢
      omega
  · rw [hs.l 18 rfl]
    exact a11.ag y (nn _ (by omega)) (nn _ (by omega))
end RV

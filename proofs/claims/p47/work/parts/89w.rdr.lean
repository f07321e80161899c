/-! ===== the class's reader: words, answers ===== -/
section RE2
variable {B : Nat} {E : Nat → Nat} {S : SS} {li : List Int32} {od : List Nat} {h h' : hp}
theorem r_words (x : RW B E S li od h) (hW : WT S) (hL : WL S) {i : Nat} (hi : th S i) : ∃ h', fX5_wordsOf (B + 79) (some (E i)) h = some (some (B + 86), h') ∧ RW B E S li od h' ∧ Cd h' (B + 86) 80 (wd S i []) := by
  obtain ⟨l, c0⟩ := x.2.2.2.2.2.2.2.2.1.2.1
  obtain ⟨h1, a1, c1, g1⟩ := c_clear c0
  have x1 := x.scr g1 c1 (Or.inr (Or.inl ⟨rfl, rfl⟩))
  have e4 := fun {h} (y : RW B E S li od h) => y.fp (o := 79) (f := 4) (q := 86) (t := 4) (by decide) (by decide)
  obtain ⟨h2, a2, c2, g2⟩ := e_words x1.es hW hL hi (x1.out (b := B + 86) (by omega) (by omega)) c1 (by decide)
  have x2 := x1.scr g2 c2 (Or.inr (Or.inl ⟨rfl, rfl⟩))
  refine ⟨h2, ?_, x2, c2⟩
  unfold fX5_wordsOf
  rw [e4 x, sb, c0.ob, sb, a1, o2s, e4 x1, sb, x1.es.ob hi.lt, sb, a2, o2s, e4 x2, sb]
theorem r_ans (x : RW B E S li od h) {t : List Int32} (c : Cd h (B + 86) 80 t) : ∃ h', fX9_comeAnswer (B + 12) (some (B + 86)) h = some ((), h') ∧ RW B E (cAns S t) li od h' := by
  obtain ⟨h', a1, v1, g1⟩ := v_ans x.vs c (by omega) c.2.2.2.2.1
  exact ⟨h', a1, x.voice v1 g1 ((sd_cAns S t).mono (by decide))⟩
theorem r_say (x : RW B E S li od h) {i : Nat} (hi : i < 45) (hl : (txt i).length ≤ 70) : ∃ h', fX5_say (B + 79) i h = some ((), h') ∧ RW B E (cAns S (txt i)) li od h' := by
  obtain ⟨l, c0⟩ := x.2.2.2.2.2.2.2.2.1.2.1
  obtain ⟨h1, a1, c1, g1⟩ := c_clear c0
  have x1 := x.scr g1 c1 (Or.inr (Or.inl ⟨rfl, rfl⟩))
  obtain ⟨h2, a2, c2, g2⟩ := c_text c1 hi (by show 0 + 1 + _ ≤ 80; omega)
  have x2 := x1.scr g2 c2 (Or.inr (Or.inl ⟨rfl, rfl⟩))
  have ep : pt [] (txt i) = txt i := by
    unfold pt sep
    rw [if_pos (show ([] : List Int32).length = 0 ∨ (txt i).length = 0 from Or.inl rfl)]; rfl
  rw [ep] at c2
  obtain ⟨h3, a3, x3⟩ := r_ans x2 c2
  have e4 := fun {h} (y : RW B E S li od h) => y.fp (o := 79) (f := 4) (q := 86) (t := 4) (by decide) (by decide)
  have e1 := fun {h} (y : RW B E S li od h) => y.fp (o := 79) (f := 1) (q := 12) (t := 4) (by decide) (by decide)
  refine ⟨h3, ?_, x3⟩
  unfold fX5_say
  rw [e4 x, sb, c0.ob, sb, a1, o2s, e4 x1, sb, c1.ob, sb, a2, o2s, e1 x2, sb, e4 x2, sb, x2.vs.ob, sb, a3, o2s]
end RE2

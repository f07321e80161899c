/-! ===== the class's voice: hush ===== -/
theorem wI_44 (S : SS) (v : Int32) : sI (wSL (wSQ (wSI S 44 0 v) 30 []) 33 0 []) 44 0 = v := by
  show sI (wSI S 44 0 v) 44 0 = v
  rw [sI_I, if_pos ⟨rfl, rfl⟩]
section VY
variable {B : Nat} {S S' : SS} {h : hp}
theorem VS.cg (x : VS B S h) (h38 : sI S' 38 0 = sI S 38 0) (h41 : sI S' 41 0 = sI S 41 0) (h43 : sI S' 43 0 = sI S 43 0) (h44 : sI S' 44 0 = sI S 44 0) (h33 : sL S' 33 0 = sL S 33 0) (h39 : sL S' 39 0 = sL S 39 0) (h30 : sQ S' 30 = sQ S 30) (h35 : sQ S' 35 = sQ S 35) : VS B S' h := by
  unfold VS VO VN at *
  rw [h38, h41, h43, h44, h33, h39, h30, h35]; exact x
theorem v_hush (x : VS B S h) (h38 : sI S 38 0 = -1 ∨ sI S 38 0 = 0 ∨ sI S 38 0 = 1 ∨ sI S 38 0 = 2) : ∃ h', fX9_hush (B + 12) h = some ((), h') ∧ VS B (hush S) h' ∧ Ag (vas B) h h' := by
  obtain ⟨v1, v2, v3⟩ := x.2.2
  have t12 := x.1.t 12 9 (by decide)
  have e10 : oGI 8 10 (some (B + 12)) h = some (sI S 44 0) := hgI t12 v3
  have e0 : oGR 8 0 (some (B + 12)) h = some (some (B + 13)) := hgR t12 (x.1.p 12 0 13 (by decide))
  obtain ⟨p, b1⟩ := x.2.1.1
  obtain ⟨x1, g1⟩ := x.i12 (S' := wSI S 44 0 (sI S 44 0 + nI (sQ S 30).length)) 10 (sI S 44 0 + nI (sQ S 30).length) rfl rfl (fun l k hA => ⟨k, by
    unfold AC at *
    rw [hI_n _ _ _ (by decide), hI_n _ _ _ (by decide)]; exact hA⟩) (fun l k hP => ⟨k, fun z => by
    have := hP z
    rw [hI_n _ _ _ (by decide)]; exact this⟩) ⟨by rw [hI_n _ _ _ (by decide)]; exact v1, by rw [hI_n _ _ _ (by decide)]; exact v2, by rw [hI_s, sI_I, if_pos ⟨rfl, rfl⟩]⟩
  generalize hh1 : wI h (B + 12) 10 (sI S 44 0 + nI (sQ S 30).length) = h1 at *
  generalize hS1 : wSI S 44 0 (sI S 44 0 + nI (sQ S 30).length) = S1 at *
  have s1 : ∀ k, k ≠ 44 → sI S1 k = sI S k := fun k hk => by rw [← hS1]; exact up2_ne S.1 0 _ hk
  have s144 : sI S1 44 0 = sI S 44 0 + nI (sQ S 30).length := by rw [← hS1, sI_I, if_pos ⟨rfl, rfl⟩]
  have s1L : ∀ k i, sL S1 k i = sL S k i := fun k i => by rw [← hS1]; rfl
  have s1Q : ∀ k, sQ S1 k = sQ S k := fun k => by rw [← hS1]; rfl
  have e0' : oGR 8 0 (some (B + 12)) h1 = some (some (B + 13)) := hgR (x1.1.t 12 9 (by decide)) (x1.1.p 12 0 13 (by decide))
  obtain ⟨fx, ⟨⟨p1, c1⟩, ⟨p2, c2⟩, ⟨l, k0, c3, c4⟩, ⟨l', k2, d1, d2⟩⟩, w1, w2, w3⟩ := x1
  obtain ⟨h2, a2, u2, g2, f2⟩ := q_clear c1 fx.q1 (by omega) (by omega)
  have m2 : ∀ a ∈ [B + 13], a = B + 13 := fun a ha => List.mem_singleton.mp ha
  have nn : ∀ a, a ≠ B + 13 → a ∉ [B + 13] := fun a q z => q (m2 a z)
  have x2 : VS B (wSQ S1 30 []) h2 := by
    refine ⟨fx.ag' g2 (fun q hq hm => ?_), ⟨⟨p1, u2⟩, ⟨p2, c2.ag g2 (fun a ha => by have := m2 a ha; omega)⟩, ⟨l, k0, c3.ag g2 (nn _ (by omega)) (nn _ (by omega)), ?_⟩, ⟨l', k2, d1.ag g2 (nn _ (by omega)) (nn _ (by omega)), ?_⟩⟩, ?_, ?_, ?_⟩
    · obtain ⟨y1, y2, y3⟩ := fx_13 q hq
      have := m2 _ hm
      have q13 : q.1 = 13 := by omega
      obtain ⟨qa, qb, qc⟩ := q
      simp only at q13 y1
      have := y1 q13
      rw [Prod.mk.injEq] at this
      obtain ⟨rfl, rfl⟩ := this
      subst q13
      exact f2.2.1
    · rw [g2.I (nn _ (by omega))]; exact c4
    · rw [g2.I (nn _ (by omega))]; exact d2
    · rw [g2.I (nn _ (by omega))]; exact w1
    · rw [g2.I (nn _ (by omega))]; exact w2
    · rw [g2.I (nn _ (by omega))]; exact w3
  obtain ⟨h3, a3, x3, g3⟩ := v_dropA x2
  obtain ⟨h4, a4, x4, g4⟩ := v_dropS x3
  refine ⟨h4, ?_, ?_, ((g1.tr (g2.vas (fun a ha => by have := m2 a ha; omega))).tr g3).tr g4⟩
  · unfold fX9_hush
    rw [e10, sb, e0, sb, x.1.q1.ob, sb, q_size b1 x.1.q1, sb, oPI_ok t12, sb, hh1, e0', sb, fx.q1.ob, sb, a2, o2s, x2.ob, sb, a3, o2s, x3.ob, sb, a4, o2s]
  · have k33 : sL (hush S) 33 0 = [] := by
      unfold hush
      show sL (wSL _ 33 0 []) 33 0 = []
      rw [sL_L, if_pos ⟨rfl, rfl⟩]
    have k44 : sI (hush S) 44 0 = sI S 44 0 + ((nI (sQ S 30).length + (if (sL S 33 0).length = 0 then 0 else 1)) + (if sI S 38 0 = 0 ∨ sI S 38 0 = 1 then 1 else 0)) := by
      unfold hush
      rw [sI_N (by decide)]
      exact wI_44 S _
    have k38 : sI (hush S) 38 0 = (if sI S 38 0 = 2 then 2 else -1) := by
      unfold hush
      rw [sI_I, if_pos ⟨rfl, rfl⟩]
    have hsh := sd_hush S
    -- the state reached
    have sA : Sd [44] [] [] (wSQ S1 30 []) (hshA (wSQ S1 30 [])) := sd_hshA _
    have a44 : sI (hshA (wSQ S1 30 [])) 44 0 = sI S 44 0 + nI (sQ S 30).length + (if (sL S 33 0).length = 0 then 0 else 1) := by
      unfold hshA
      rw [show sL (wSQ S1 30 []) 33 0 = sL S 33 0 from s1L 33 0]
      by_cases q : (sL S 33 0).length = 0
      · rw [if_pos q, if_pos q, Int32.add_zero]
        exact s144
      · rw [if_neg q, if_neg q]
        unfold drop1
        rw [sI_I, if_pos ⟨rfl, rfl⟩]
        show sI S1 44 0 + 1 = _
        rw [s144]
    have a38 : sI (hshA (wSQ S1 30 [])) 38 0 = sI S 38 0 := by
      rw [sA.i 38 rfl]
      show sI S1 38 0 = _
      rw [s1 38 (by decide)]
    have sS : Sd [38, 44] [] [] (wSL (hshA (wSQ S1 30 [])) 33 0 []) (hshS (wSL (hshA (wSQ S1 30 [])) 33 0 [])) := sd_hshS _
    have r38 : sI (hshS (wSL (hshA (wSQ S1 30 [])) 33 0 [])) 38 0 = (if sI S 38 0 = 2 then 2 else -1) ∧ sI (hshS (wSL (hshA (wSQ S1 30 [])) 33 0 [])) 44 0 = sI S 44 0 + nI (sQ S 30).length + (if (sL S 33 0).length = 0 then 0 else 1) + (if sI S 38 0 = 0 ∨ sI S 38 0 = 1 then 1 else 0) := by
      unfold hshS
      have e38 : sI (wSL (hshA (wSQ S1 30 [])) 33 0 []) 38 0 = sI S 38 0 := a38
      rw [e38]
      by_cases q : sI S 38 0 = 0 ∨ sI S 38 0 = 1
      · rw [if_pos q, if_pos q]
        unfold drop1
        refine ⟨?_, ?_⟩
        · rw [sI_N (by decide), sI_I, if_pos ⟨rfl, rfl⟩, if_neg (by rcases q with w | w <;> rw [w] <;> decide)]
        · rw [sI_I, if_pos ⟨rfl, rfl⟩, sI_N (by decide)]
          show sI (hshA (wSQ S1 30 [])) 44 0 + 1 = _
          rw [a44]
      · rw [if_neg q, if_neg q]
        refine ⟨?_, ?_⟩
        · show sI (hshA (wSQ S1 30 [])) 38 0 = _
          rw [a38]
          rcases h38 with w | w | w | w
          · rw [w]; decide
          · exact absurd (Or.inl w) q
          · exact absurd (Or.inr w) q
          · rw [w]; decide
        · show sI (hshA (wSQ S1 30 [])) 44 0 = _
          rw [a44, Int32.add_zero]
    have o : ∀ k, k ≠ 38 → k ≠ 44 → sI (hshS (wSL (hshA (wSQ S1 30 [])) 33 0 [])) k 0 = sI S k 0 := fun k q1 q2 => by
      rw [sS.1 k (by simp [q1, q2])]
      show sI (hshA (wSQ S1 30 [])) k 0 = _
      rw [sA.1 k (by simp [q2])]
      show sI S1 k 0 = _
      rw [s1 k q2]
    refine x4.cg ?_ ?_ ?_ ?_ ?_ ?_ ?_ ?_
    · rw [k38, r38.1]
    · rw [hsh.i 41 rfl, o 41 (by decide) (by decide)]
    · rw [hsh.i 43 rfl, o 43 (by decide) (by decide)]
    · rw [k44, r38.2, Int32.add_assoc, Int32.add_assoc, Int32.add_assoc]
    · rw [k33, sS.l 33 rfl, sL_L, if_pos ⟨rfl, rfl⟩]
    · rw [hsh.l 39 rfl, sS.l 39 rfl]
      show sL S 39 0 = sL (hshA (wSQ S1 30 [])) 39 0
      rw [sA.l 39 rfl]
      exact (s1L 39 0).symm
    · rw [sS.q 30 rfl]
      show sQ (hush S) 30 = sQ (hshA (wSQ S1 30 [])) 30
      rw [sA.q 30 rfl]; rfl
    · rw [hsh.q 35 rfl, sS.q 35 rfl]
      show sQ S 35 = sQ (hshA (wSQ S1 30 [])) 35
      rw [sA.q 35 rfl]
      exact (s1Q 35).symm
end VY

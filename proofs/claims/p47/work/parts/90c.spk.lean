/-! ===== the class's voice speaks ===== -/
section VX3
variable {B : Nat} {E : Nat → Nat} {S : SS} {li : List Int32} {od : List Nat} {h h' : hp}
/-- a character that was spoken is kept -/
theorem RW.n42 (x : RW B E S li od h) {j : Nat} (v : Int32) : RW B E (wSI S 42 j v) li od (wI h (B + 75) j v) := by
  obtain ⟨a1, a2, a3, a4, a5, a6, a7, a8, ⟨⟨l1, s1⟩, ⟨l2, s2⟩, ⟨l3, s3⟩⟩, a10, a11, a12⟩ := x
  have e : ∀ k', k' ≠ 42 → sI (wSI S 42 j v) k' = sI S k' := fun k' hne => up2_ne S.1 j v hne
  have y : Ag [B + 75] h (wI h (B + 75) j v) := Ag.wI (List.mem_singleton.mpr rfl)
  have my : ∀ a ∈ [B + 75], a = B + 75 := fun a ha => List.mem_singleton.mp ha
  have nn : ∀ a, a ≠ B + 75 → a ∉ [B + 75] := fun a q z => q (List.mem_singleton.mp z)
  refine ⟨⟨a1.1, a1.2.1, a1.2.2⟩, by rw [made_cg (e 0 (by decide))]; exact a2, ⟨fun p hp => ?_, fun z => ?_, fun z => ?_, fun i hi => ?_⟩, fun i hi => ?_, (a5.ag y (fun a ha => by have := my a ha; omega)).sd (e 0 (by decide)) (e 1 (by decide)), a6.ag y (fun a ha => by have := my a ha; omega), ?_, (a8.ag y (nn _ (by omega))).sd (e 20 (by decide)) (e 21 (by decide)), ⟨⟨l1, s1.ag y (nn _ (by omega)) (nn _ (by omega))⟩, ⟨l2, s2.ag y (nn _ (by omega)) (nn _ (by omega))⟩, ⟨l3, s3.ag y (nn _ (by omega)) (nn _ (by omega))⟩⟩, a10.ag y (nn _ (by omega)) (nn _ (by omega)), a11.ag y (nn _ (by omega)) (nn _ (by omega)), a12.ag y (fun a ha => by have := my a ha; omega) (fun k' hk' => e k' (by omega))⟩
  · have : ∀ p ∈ fxI, p.1 ≠ 75 ∧ p.2.2 ≠ 42 := by decide
    obtain ⟨u1, u2⟩ := this p hp
    rw [hI_o _ _ _ (by omega), e _ u2]
    exact a3.1 p hp
  · rw [e 22 (by decide)] at z
    rw [hI_o _ _ _ (by omega), e 23 (by decide), e 24 (by decide)]
    exact a3.2.1 z
  · rw [e 26 (by decide)] at z
    rw [hI_o _ _ _ (by omega), e 27 (by decide)]
    exact a3.2.2.1 z
  · by_cases q : i = j
    · rw [q, hI_s, sI_I, if_pos ⟨rfl, rfl⟩]
    · rw [hI_n _ _ _ q, sI_I, if_neg (fun z => q z.2)]
      exact a3.2.2.2 i hi
  · rw [made_cg (e 0 (by decide))] at hi
    refine ((a4 i hi).ag y (fun a ha => by rw [my a ha]; exact a2.far hi (by omega) (by omega))).sd (fun k' hk' => e k' ?_) (fun _ _ => rfl) rfl
    simp only [List.mem_cons, List.not_mem_nil, or_false] at hk'
    omega
  · refine (show VO B S _ from ?_).sd (fun k' hk' => e k' ?_) (fun _ _ => rfl) (fun _ _ => rfl)
    · obtain ⟨⟨p, b1⟩, ⟨p2, b2⟩, ⟨l, k0, b3, b4⟩, ⟨l', k2, c1, c2⟩⟩ := a7
      refine ⟨⟨p, b1.ag y (fun a ha => by have := my a ha; omega)⟩, ⟨p2, b2.ag y (fun a ha => by have := my a ha; omega)⟩, ⟨l, k0, b3.ag y (nn _ (by omega)) (nn _ (by omega)), ?_⟩, ⟨l', k2, c1.ag y (nn _ (by omega)) (nn _ (by omega)), ?_⟩⟩
      · rw [hI_o _ _ _ (by omega)]; exact b4
      · rw [hI_o _ _ _ (by omega)]; exact c2
    · simp only [List.mem_cons, List.not_mem_nil, or_false] at hk'
      omega
theorem VS.nxt (x : VS B S h) : VS B (wSI S 41 0 (sI S 41 0 + 1)) (wI h (B + 12) 6 (hI h (B + 12) 6 + 1)) ∧ Ag (vas B) h (wI h (B + 12) 6 (hI h (B + 12) 6 + 1)) :=
  x.i12 (S' := wSI S 41 0 (sI S 41 0 + 1)) 6 (hI h (B + 12) 6 + 1) rfl rfl (fun l k hA => ⟨k, by
    unfold AC at *
    rw [hI_n _ _ _ (by decide), hI_n _ _ _ (by decide)]; exact hA⟩) (fun l' k' hP => ⟨k', fun w => by
    have w' : sI S 38 0 ≠ -1 := by rw [sI_N (by decide)] at w; exact w
    obtain ⟨y1, y2, y3⟩ := hP w'
    refine ⟨y1, ?_, fun z => y3 (by rw [sI_N (by decide)] at z; exact z)⟩
    rw [hI_s, y2, sI_I, if_pos ⟨rfl, rfl⟩, Int32.add_assoc]⟩) (by
    obtain ⟨v1, v2, v3⟩ := x.2.2
    exact ⟨by rw [hI_n _ _ _ (by decide)]; exact v1, by rw [hI_n _ _ _ (by decide)]; exact v2, by rw [hI_n _ _ _ (by decide)]; exact v3⟩)
theorem RW.kbgn (x : RW B E S li od h) : ∃ h', (if sI S 38 0 = -1 then ((oOb 8 (some (B + 12)) h).bind fun b => o2 (fX9_begin b h) fun _ h5 => some h5) else some h) = some h' ∧ RW B E (bgnI S) li od h' := by
  by_cases q : sI S 38 0 = -1
  · obtain ⟨h', a1, v1, g1⟩ := v_begin x.vs q
    refine ⟨h', by rw [if_pos q, x.vs.ob, sb, a1, o2s], x.voice ?_ g1 ((sd_bgnI S).mono (by decide))⟩
    unfold bgnI
    rw [if_pos q]; exact v1
  · refine ⟨h, if_neg q, ?_⟩
    unfold bgnI
    rw [if_neg q]; exact x
theorem r_speak1 (x : RW B E S li od h) (hV : WV S) (q : sI S 38 0 ≠ -1) {n : Nat} (hn : n < 2000000) (hN : sI S 43 0 = nI n) : ∃ h1 h2, ((oNz (100 : Int32)).bind fun _ => Option.bind (α := hp) (if (sI S 43 0 - sI S 43 0 / (100 : Int32) * (100 : Int32)) < 0 then (some h) else (oGR 8 8 (some (B + 12)) h).bind fun x10 => (oLen x10 h).bind fun x11 => if x11 ≤ (sI S 43 0 - sI S 43 0 / (100 : Int32) * (100 : Int32)) then (some h) else (oGR 8 8 (some (B + 12)) h).bind fun x12 => (oGR 8 5 (some (B + 12)) h).bind fun x13 => (oGI 8 6 (some (B + 12)) h).bind fun x14 => (oOb 0 x13 h).bind fun b => (fX1_at b x14 h).bind fun x15 => (oIS x12 (sI S 43 0 - sI S 43 0 / (100 : Int32) * (100 : Int32)) x15 h).bind fun h16 => some h16) fun q8 => (oGI 8 9 (some (B + 12)) q8).bind fun x17 => (oPI 8 9 (some (B + 12)) (x17 + (1 : Int32)) q8).bind fun h18 => some h18) = some h1 ∧ oGI 8 6 (some (B + 12)) h1 = some (hI h1 (B + 12) 6) ∧ oPI 8 6 (some (B + 12)) (hI h1 (B + 12) 6 + 1) h1 = some h2 ∧ RW B E (say2 S) li od h2 := by
  obtain ⟨l, k, c1, c2⟩ := x.2.2.2.2.2.2.1.2.2.2
  obtain ⟨⟨z1, z2, -⟩, z3, -⟩ := c2 q
  obtain ⟨p, p1, p2⟩ := hV.2.2.2.2.2.2 q
  have hl : (sL S 39 0).length = l.length - k := by rw [z2, List.length_drop]
  have l80 := c1.2.2.2.2.1
  have e8 : oGR 8 8 (some (B + 12)) h = some (some (B + 75)) := x.fp (by decide) (by decide)
  have e5 : oGR 8 5 (some (B + 12)) h = some (some (B + 73)) := x.fp (by decide) (by decide)
  have hr : sI S 43 0 - sI S 43 0 / (100 : Int32) * (100 : Int32) = nI (n % 100) := by
    rw [hN, show (100 : Int32) = nI 100 from rfl, nI_rem (by omega) (by omega)]
  have hlt : n % 100 < 100 := Nat.mod_lt _ (by decide)
  have hg : ge (sL S 39 0) (spk S) = ge l (k + p) := by
    unfold spk
    rw [p2, nI_clamp (by omega), z2, ge_drop]
  have x1 := x.n42 (j := n % 100) (ge (sL S 39 0) (spk S))
  have x2 := x1.num (o := 12) (f := 9) (k := 43) (by decide) (by decide) (nI n + 1)
  have e9 : oGI 8 9 (some (B + 12)) (wI h (B + 75) (n % 100) (ge (sL S 39 0) (spk S))) = some (nI n) := by
    rw [x1.fi (o := 12) (f := 9) (k := 43) (by decide) (by decide), sI_N (by decide), hN]
  obtain ⟨v3, g3⟩ := x2.vs.nxt
  refine ⟨_, _, ?_, x2.vs.g 6, oPI_ok (x2.1.t 12 9 (by decide)), ?_⟩
  · rw [show oNz (100 : Int32) = some () from rfl, sb, hr, if_neg (nI_pos (by omega)), e8, sb, hgL (x.1.a 75 20 100 (by decide)) (by decide), sb, if_neg (nI_ge hlt (by omega)), sb, e5, sb, x.vs.g 6, sb, z3, p2, nI_add, c1.ob, sb, c_at c1 (by omega), sb, hg.symm]
    have hst : oIS (some (B + 75)) (nI (n % 100)) (ge (sL S 39 0) (spk S)) h = some (wI h (B + 75) (n % 100) (ge (sL S 39 0) (spk S))) := by
      show (if (hT h (B + 75)).1 = 20 ∧ inb (nI (n % 100)) (hT h (B + 75)).2 = true then some (wI h (B + 75) (nI (n % 100)).toNatClampNeg _) else none) = _
      rw [x.1.a 75 20 100 (by decide), if_pos ⟨rfl, inb_nI hlt (by omega)⟩, nI_clamp (by omega)]
    rw [hst, sb, sb, e9, sb, oPI_ok (x1.1.t 12 9 (by decide)), sb]
  · have hS : say2 S = wSI (wSI (wSI S 42 (n % 100) (ge (sL S 39 0) (spk S))) 43 0 (nI n + 1)) 41 0 (sI S 41 0 + 1) := by
      unfold say2 nhd
      rw [hN, nI_clamp (by omega)]
    rw [hS]
    have := x2.voice v3 g3 (Sd.I (by decide))
    rw [sI_N (show (41 : Nat) ≠ 43 by decide), sI_N (show (41 : Nat) ≠ 42 by decide)] at this
    exact this
theorem r_speak2 (x : RW B E S li od h) (q : sI S 38 0 ≠ -1) {p : Nat} (p1 : p < (sL S 39 0).length) (p2 : sI S 41 0 = nI (p + 1)) : ∃ h', ((oGI 8 6 (some (B + 12)) h).bind fun x21 => (oGR 8 5 (some (B + 12)) h).bind fun x22 => (oOb 0 x22 h).bind fun b => (fX1_size b h).bind fun x23 => if x21 < x23 then (some (((), h))) else (oPI 8 7 (some (B + 12)) (-1 : Int32) h).bind fun h24 => some (((), h24))) = some ((), h') ∧ RW B E (say3 S) li od h' := by
  obtain ⟨l, k, c1, c2⟩ := x.2.2.2.2.2.2.1.2.2.2
  obtain ⟨⟨z1, z2, -⟩, z3, -⟩ := c2 q
  have hl : (sL S 39 0).length = l.length - k := by rw [z2, List.length_drop]
  have l80 := c1.2.2.2.2.1
  have e5 : oGR 8 5 (some (B + 12)) h = some (some (B + 73)) := x.fp (by decide) (by decide)
  have hs : spk S = p + 1 := by
    unfold spk
    rw [p2, nI_clamp (by omega)]
  rw [x.vs.g 6, sb, e5, sb, c1.ob, sb, c_size c1, sb, z3, p2, nI_add]
  unfold say3
  rw [hs, hl]
  by_cases w : p + 1 = l.length - k
  · rw [if_pos w, if_neg (show ¬ nI (k + (p + 1)) < nI l.length from nI_nlt (by omega) (by omega)), oPI_ok (x.1.t 12 9 (by decide)), sb]
    obtain ⟨v1, g1⟩ := x.vs.i12 (S' := wSI S 38 0 (-1)) 7 (-1) rfl rfl (fun l k hA => ⟨k, by
      unfold AC at *
      rw [hI_n _ _ _ (by decide), hI_n _ _ _ (by decide)]; exact hA⟩) (fun l k hP => ⟨k, fun z => absurd (show sI (wSI S 38 0 (-1)) 38 0 = -1 by rw [sI_I, if_pos ⟨rfl, rfl⟩]) z⟩) (by
      obtain ⟨v1, v2, v3⟩ := x.vs.2.2
      exact ⟨by rw [hI_s, sI_I, if_pos ⟨rfl, rfl⟩], by rw [hI_n _ _ _ (by decide)]; exact v2, by rw [hI_n _ _ _ (by decide)]; exact v3⟩)
    exact ⟨_, rfl, x.voice v1 g1 (Sd.I (by decide))⟩
  · rw [if_neg w, if_pos (show nI (k + (p + 1)) < nI l.length from nI_lt (by omega) (by omega))]
    exact ⟨h, rfl, x⟩
theorem r_speak (x : RW B E S li od h) (hV : WV S) {n : Nat} (hn : n < 2000000) (hN : sI S 43 0 = nI n) : ∃ h', fX9_speak (B + 12) h = some ((), h') ∧ RW B E (spkI (bgnI S)) li od h' := by
  obtain ⟨h1, a1, x1⟩ := x.kbgn
  have hV1 := hV.kbgnI
  have hN1 : sI (bgnI S) 43 0 = nI n := by rw [(sd_bgnI S).i 43 rfl]; exact hN
  have e7 : oGI 8 7 (some (B + 12)) h = some (sI S 38 0) := x.fi (by decide) (by decide)
  unfold fX9_speak
  rw [e7, sb, a1, sb]
  generalize bgnI S = T at *
  have e7' : oGI 8 7 (some (B + 12)) h1 = some (sI T 38 0) := x1.fi (by decide) (by decide)
  have e9 : oGI 8 9 (some (B + 12)) h1 = some (sI T 43 0) := x1.fi (by decide) (by decide)
  rw [e7', sb]
  unfold spkI
  by_cases q : sI T 38 0 = -1
  · rw [if_pos q, if_pos q]
    exact ⟨h1, rfl, x1⟩
  · rw [if_neg q, if_neg q, e9, sb]
    obtain ⟨h2, h3, b1, b2, b3, x3⟩ := r_speak1 x1 hV1 q hn hN1
    obtain ⟨p, p1, p2⟩ := hV1.2.2.2.2.2.2 q
    obtain ⟨h4, d1, x4⟩ := r_speak2 x3 (p := p) (by
      unfold say2
      rw [sI_N (by decide), sI_N (by decide), sI_N (by decide)]; exact q) p1 (by
      unfold say2
      rw [sI_I, if_pos ⟨rfl, rfl⟩, p2, nI_1])
    refine ⟨h4, ?_, x4⟩
    rw [← d1]
    have b1' := b1
    rw [show oNz (100 : Int32) = some () from rfl, sb] at b1' ⊢
    generalize (if (sI T 43 0 - sI T 43 0 / (100 : Int32) * (100 : Int32)) < 0 then (some h1) else (oGR 8 8 (some (B + 12)) h1).bind fun x10 => (oLen x10 h1).bind fun x11 => if x11 ≤ (sI T 43 0 - sI T 43 0 / (100 : Int32) * (100 : Int32)) then (some h1) else (oGR 8 8 (some (B + 12)) h1).bind fun x12 => (oGR 8 5 (some (B + 12)) h1).bind fun x13 => (oGI 8 6 (some (B + 12)) h1).bind fun x14 => (oOb 0 x13 h1).bind fun b => (fX1_at b x14 h1).bind fun x15 => (oIS x12 (sI T 43 0 - sI T 43 0 / (100 : Int32) * (100 : Int32)) x15 h1).bind fun h16 => some h16) = W at *
    cases W with
    | none => cases b1'
    | some w =>
      rw [sb] at b1' ⊢
      cases hw : oGI 8 9 (some (B + 12)) w with
      | none => rw [hw] at b1'; cases b1'
      | some u =>
        rw [hw, sb] at b1'
        rw [sb]
        cases hu : oPI 8 9 (some (B + 12)) (u + 1) w with
        | none => rw [hu] at b1'; cases b1'
        | some u2 =>
          rw [hu, sb] at b1'
          rw [sb, Option.some.inj b1', b2, sb, b3, sb]
end VX3

/-! ===== the law lays words ===== -/
def cdl (t : List Int32) (c1 c2 c3 c4 c5 c6 : Int32) : List Int32 := [if t.length = 0 then 0 else 32, c1, c2, c3, c4, c5, c6]
def pos (l : List Int32) : List Int32 := l.filter (fun c => decide (0 < c))
theorem pos_app (l r : List Int32) : pos (l ++ r) = pos l ++ pos r := List.filter_append ..
theorem says_code {t : List Int32} (ht : t.length < 2 ^ 31) (c1 c2 c3 c4 c5 c6 : Int32) {j : Nat} (hj : j < 7) : (if nI j = 0 then
  (if nI t.length ≤ 0 then
  (some (0 : Int32))
  else
  some (32 : Int32))
  else
  if nI j = (1 : Int32) then
  (some c1)
  else
  if nI j = (2 : Int32) then
  (some c2)
  else
  if nI j = (3 : Int32) then
  (some c3)
  else
  if nI j = (4 : Int32) then
  (some c4)
  else
  if nI j = (5 : Int32) then
  (some c5)
  else
  some c6) = some (ge (cdl t c1 c2 c3 c4 c5 c6) j) := by
  rcases (show j = 0 ∨ j = 1 ∨ j = 2 ∨ j = 3 ∨ j = 4 ∨ j = 5 ∨ j = 6 by omega) with rfl | rfl | rfl | rfl | rfl | rfl | rfl
  · rw [if_pos (by decide)]
    by_cases q : t.length = 0
    · rw [q, if_pos (by decide)]
      show _ = some (if t.length = 0 then 0 else 32)
      rw [if_pos q]
    · rw [if_neg (nI_nle (by omega) ht)]
      show _ = some (if t.length = 0 then 0 else 32)
      rw [if_neg q]
  · rw [if_neg (by decide), if_pos (by decide)]; rfl
  · rw [if_neg (by decide), if_neg (by decide), if_pos (by decide)]; rfl
  · rw [if_neg (by decide), if_neg (by decide), if_neg (by decide), if_pos (by decide)]; rfl
  · rw [if_neg (by decide), if_neg (by decide), if_neg (by decide), if_neg (by decide), if_pos (by decide)]; rfl
  · rw [if_neg (by decide), if_neg (by decide), if_neg (by decide), if_neg (by decide), if_neg (by decide), if_pos (by decide)]; rfl
  · rw [if_neg (by decide), if_neg (by decide), if_neg (by decide), if_neg (by decide), if_neg (by decide), if_neg (by decide)]; rfl
theorem pos_len (l : List Int32) : (pos l).length ≤ l.length := List.length_filter_le ..
theorem says_l {h : hp} {a : Nat} {t : List Int32} {f : Nat → Int32} (ht : hT h a = (20, 64)) (hl : t.length + 7 ≤ 64) (hf : Sl f 0 t) (c1 c2 c3 c4 c5 c6 : Int32) : ∃ f', fL_says (some a) (nI t.length) c1 c2 c3 c4 c5 c6 (sw h a f) = some (nI (t ++ pos (cdl t c1 c2 c3 c4 c5 c6)).length, sw h a f') ∧ Sl f' 0 (t ++ pos (cdl t c1 c2 c3 c4 c5 c6)) := by
  obtain ⟨r, e1, f', e2, e3⟩ := itr_for (F := fL_says_B6 (some a) (nI t.length) c1 c2 c3 c4 c5 c6) (R := fun r => ∃ f', r = (nI (t ++ pos (cdl t c1 c2 c3 c4 c5 c6)).length, sw h a f') ∧ Sl f' 0 (t ++ pos (cdl t c1 c2 c3 c4 c5 c6))) (fun j q => ∃ f', q = (nI (t ++ pos ((cdl t c1 c2 c3 c4 c5 c6).take j)).length, nI j, sw h a f') ∧ Sl f' 0 (t ++ pos ((cdl t c1 c2 c3 c4 c5 c6).take j))) 7 (fun j q hj hX => by
    obtain ⟨g, rfl, hg⟩ := hX
    have hjl : j < (cdl t c1 c2 c3 c4 c5 c6).length := hj
    have et : (cdl t c1 c2 c3 c4 c5 c6).take (j + 1) = (cdl t c1 c2 c3 c4 c5 c6).take j ++ [ge (cdl t c1 c2 c3 c4 c5 c6) j] := take_succ_ge hjl
    have hpl : (pos ((cdl t c1 c2 c3 c4 c5 c6).take j)).length ≤ j := Nat.le_trans (pos_len _) (by rw [List.length_take]; omega)
    unfold fL_says_B6
    rw [if_neg (show ¬ (7 : Int32) ≤ nI j from nI_ge (b := 7) hj (by decide)), says_code (by omega) c1 c2 c3 c4 c5 c6 hj, sb, et, pos_app]
    by_cases w : ge (cdl t c1 c2 c3 c4 c5 c6) j ≤ 0
    · have ep : pos [ge (cdl t c1 c2 c3 c4 c5 c6) j] = [] := by
        unfold pos
        rw [List.filter_cons, if_neg (by simp [Int32.not_lt.mpr w])]; rfl
      rw [if_pos w, ep, List.append_nil]
      exact ⟨_, rfl, g, by rw [nI_1], hg⟩
    · have ep : pos [ge (cdl t c1 c2 c3 c4 c5 c6) j] = [ge (cdl t c1 c2 c3 c4 c5 c6) j] := by
        unfold pos
        rw [List.filter_cons, if_pos (by simp [Int32.not_le.mp w])]; rfl
      have hk : (t ++ pos ((cdl t c1 c2 c3 c4 c5 c6).take j)).length < 64 := by rw [List.length_append]; omega
      rw [if_neg w, ep, pSW ht hk (by decide), sb, ← List.append_assoc]
      refine ⟨_, rfl, _, by rw [nI_1, nI_1, List.length_append (bs := [ge (cdl t c1 c2 c3 c4 c5 c6) j])]; rfl, ?_⟩
      refine Sl_push hg ?_ (fun k hk2 => ?_)
      · show (if 0 + (t ++ pos ((cdl t c1 c2 c3 c4 c5 c6).take j)).length = (t ++ pos ((cdl t c1 c2 c3 c4 c5 c6).take j)).length then _ else _) = _
        rw [if_pos (by omega)]
      · show (if 0 + k = (t ++ pos ((cdl t c1 c2 c3 c4 c5 c6).take j)).length then _ else _) = _
        rw [if_neg (by omega)]) (fun q hX => by
    obtain ⟨g, rfl, hg⟩ := hX
    have et : (cdl t c1 c2 c3 c4 c5 c6).take 7 = cdl t c1 c2 c3 c4 c5 c6 := rfl
    rw [et] at hg ⊢
    refine ⟨_, ?_, g, rfl, hg⟩
    unfold fL_says_B6
    rw [if_pos (by decide)]) (fu := FU) (a := (nI t.length, 0, sw h a f)) (by unfold FU; omega) ⟨f, by rw [List.take_zero, show pos [] = [] from rfl, List.append_nil]; rfl, by rw [List.take_zero, show pos [] = [] from rfl, List.append_nil]; exact hf⟩
  subst e2
  refine ⟨f', ?_, e3⟩
  unfold fL_says
  rw [e1]; rfl
/-- a part comes behind a text -/
theorem says_pt {t p : List Int32} {c1 c2 c3 c4 c5 c6 : Int32} (hp : pos [c1, c2, c3, c4, c5, c6] = p) (h0 : 0 < p.length) : t ++ pos (cdl t c1 c2 c3 c4 c5 c6) = pt t p := by
  unfold pt cdl sep
  have e : pos ((if t.length = 0 then 0 else 32) :: [c1, c2, c3, c4, c5, c6]) = pos [if t.length = 0 then 0 else 32] ++ pos [c1, c2, c3, c4, c5, c6] := pos_app [_] _
  rw [e, hp]
  congr 2
  by_cases q : t.length = 0
  · rw [if_pos q, if_pos (Or.inl q)]; decide
  · rw [if_neg q, if_neg (fun z => z.elim q (fun z => by omega))]; decide
theorem r_says {h : hp} {a : Nat} {t p : List Int32} {f : Nat → Int32} (ht : hT h a = (20, 64)) (hl : t.length + 7 ≤ 64) (hf : Sl f 0 t) {c1 c2 c3 c4 c5 c6 : Int32} (hp : pos [c1, c2, c3, c4, c5, c6] = p) (h0 : 0 < p.length) : ∃ f', fL_says (some a) (nI t.length) c1 c2 c3 c4 c5 c6 (sw h a f) = some (nI (pt t p).length, sw h a f') ∧ Sl f' 0 (pt t p) := by
  have := says_l ht hl hf c1 c2 c3 c4 c5 c6
  rw [says_pt hp h0] at this
  exact this
theorem r_sKind {h : hp} {a : Nat} {t : List Int32} {f : Nat → Int32} (ht : hT h a = (20, 64)) (hl : t.length + 7 ≤ 64) (hf : Sl f 0 t) {k : Nat} (hk : k ≤ 6) : ∃ f', fL_saysKind (some a) (nI t.length) (nI k) (sw h a f) = some (nI (pt t (kw (nI k))).length, sw h a f') ∧ Sl f' 0 (pt t (kw (nI k))) := by
  unfold fL_saysKind
  rcases (show k = 0 ∨ k = 1 ∨ k = 2 ∨ k = 3 ∨ k = 4 ∨ k = 5 ∨ k = 6 by omega) with rfl | rfl | rfl | rfl | rfl | rfl | rfl
  · rw [if_neg (by decide), if_pos (by decide)]
    obtain ⟨g, e1, e2⟩ := r_says ht hl hf (c1 := 103) (c2 := 114) (c3 := 111) (c4 := 117) (c5 := 112) (c6 := 0) (p := kw (nI 0)) (by decide) (by decide)
    exact ⟨g, by rw [e1]; rfl, e2⟩
  · rw [if_pos (by decide)]
    refine ⟨f, ?_, ?_⟩
    · rw [show pt t (kw (nI 1)) = t by unfold pt sep; rw [show kw (nI 1) = [] by decide]; simp]
    · rw [show pt t (kw (nI 1)) = t by unfold pt sep; rw [show kw (nI 1) = [] by decide]; simp]; exact hf
  · rw [if_neg (by decide), if_neg (by decide), if_pos (by decide)]
    obtain ⟨g, e1, e2⟩ := r_says ht hl hf (c1 := 98) (c2 := 117) (c3 := 116) (c4 := 116) (c5 := 111) (c6 := 110) (p := kw (nI 2)) (by decide) (by decide)
    exact ⟨g, by rw [e1]; rfl, e2⟩
  · rw [if_neg (by decide), if_neg (by decide), if_neg (by decide), if_pos (by decide)]
    obtain ⟨g, e1, e2⟩ := r_says ht hl hf (c1 := 99) (c2 := 104) (c3 := 101) (c4 := 99) (c5 := 107) (c6 := 0) (p := kw (nI 3)) (by decide) (by decide)
    exact ⟨g, by rw [e1]; rfl, e2⟩
  · rw [if_neg (by decide), if_neg (by decide), if_neg (by decide), if_neg (by decide), if_pos (by decide)]
    obtain ⟨g, e1, e2⟩ := r_says ht hl hf (c1 := 101) (c2 := 100) (c3 := 105) (c4 := 116) (c5 := 0) (c6 := 0) (p := kw (nI 4)) (by decide) (by decide)
    exact ⟨g, by rw [e1]; rfl, e2⟩
  · rw [if_neg (by decide), if_neg (by decide), if_neg (by decide), if_neg (by decide), if_neg (by decide), if_pos (by decide)]
    obtain ⟨g, e1, e2⟩ := r_says ht hl hf (c1 := 116) (c2 := 97) (c3 := 98) (c4 := 108) (c5 := 101) (c6 := 0) (p := kw (nI 5)) (by decide) (by decide)
    exact ⟨g, by rw [e1]; rfl, e2⟩
  · rw [if_neg (by decide), if_neg (by decide), if_neg (by decide), if_neg (by decide), if_neg (by decide), if_neg (by decide)]
    obtain ⟨g, e1, e2⟩ := r_says ht hl hf (c1 := 114) (c2 := 111) (c3 := 119) (c4 := 0) (c5 := 0) (c6 := 0) (p := kw (nI 6)) (by decide) (by decide)
    exact ⟨g, by rw [e1]; rfl, e2⟩
section WRD
variable {B : Nat} {h : hp} {m : LS} {S : SS}
theorem take_all {l : List Int32} : l.take l.length = l := List.take_of_length_le (Nat.le_refl _)
/-- the name's characters -/
theorem w_name (x : RD B h m S) {i a : Nat} (hi : i < made S) (ha : B + 95 ≤ a) (ht : hT h a = (20, 64)) (f : Nat → Int32) (v1 v2 : Int32) : ∃ f', itr (fL_words_B23 (some (B + 90)) (some (B + 91)) (some (B + 92)) (some (B + 93)) (some (B + 94)) (nI i) (some a) v1 v2) FU (0, 0, sw h a f) = some (nI (sL S 6 i).length, sw h a f') ∧ Sl f' 0 (sL S 6 i) := by
  have hn := (x.ok6 hi).1
  obtain ⟨r, e1, f', e2, e3⟩ := itr_for (F := fL_words_B23 (some (B + 90)) (some (B + 91)) (some (B + 92)) (some (B + 93)) (some (B + 94)) (nI i) (some a) v1 v2) (R := fun r => ∃ f', r = (nI (sL S 6 i).length, sw h a f') ∧ Sl f' 0 (sL S 6 i)) (fun j q => ∃ f', q = (nI j, nI j, sw h a f') ∧ Sl f' 0 ((sL S 6 i).take j)) (sL S 6 i).length (fun j q hj hX => by
    obtain ⟨g, rfl, hg⟩ := hX
    have y := x.sw ha g
    unfold fL_words_B23
    rw [y.nm hi, sb, r_nmany (x.ok6 hi).1 (x.ok6 hi).2, sb, if_neg (show ¬ nI (sL S 6 i).length ≤ nI j from nI_ge hj (by omega)), sb, nm_at (x.ok6 hi).1 (x.ok6 hi).2 hj, pSW ht (by omega) (by decide), sb]
    refine ⟨_, rfl, _, by rw [nI_1], ?_⟩
    rw [take_succ_ge hj]
    have hl : ((sL S 6 i).take j).length = j := by rw [List.length_take]; omega
    refine Sl_push hg ?_ (fun k hk2 => ?_)
    · show (if 0 + ((sL S 6 i).take j).length = j then _ else _) = _
      rw [if_pos (by omega)]
    · show (if 0 + k = j then _ else _) = _
      rw [if_neg (by omega)]) (fun q hX => by
    obtain ⟨g, rfl, hg⟩ := hX
    have y := x.sw ha g
    rw [take_all] at hg
    refine ⟨_, ?_, g, rfl, hg⟩
    unfold fL_words_B23
    rw [y.nm hi, sb, r_nmany (x.ok6 hi).1 (x.ok6 hi).2, sb, if_pos (nI_le (Nat.le_refl _) (by omega))]) (fu := FU) (a := (0, 0, sw h a f)) (by unfold FU; omega) ⟨f, rfl, Sl_nil⟩
  subst e2
  exact ⟨f', e1, e3⟩
/-- the content's characters, behind a space -/
theorem w_cont (x : RD B h m S) {i a : Nat} (hi : i < made S) (h12 : (sL S 8 i).length ≤ 12) (ha : B + 95 ≤ a) (ht : hT h a = (20, 64)) {t : List Int32} (hl : t.length + 14 ≤ 64) {f : Nat → Int32} (hf : Sl f 0 t) (v2 : Int32) : ∃ f', itr (fL_words_B158 (some (B + 90)) (some (B + 91)) (some (B + 93)) (some (B + 94)) (nI i) (some a) v2) FU (nI t.length, 0, sw h a f) = some (nI (pt t (sL S 8 i)).length, sw h a f') ∧ Sl f' 0 (pt t (sL S 8 i)) := by
  obtain ⟨r, e1, f', e2, e3⟩ := itr_for (F := fL_words_B158 (some (B + 90)) (some (B + 91)) (some (B + 93)) (some (B + 94)) (nI i) (some a) v2) (R := fun r => ∃ f', r = (nI (pt t (sL S 8 i)).length, sw h a f') ∧ Sl f' 0 (pt t (sL S 8 i))) (fun j q => ∃ f', q = (nI (pt t ((sL S 8 i).take j)).length, nI j, sw h a f') ∧ Sl f' 0 (pt t ((sL S 8 i).take j))) (sL S 8 i).length (fun j q hj hX => by
    obtain ⟨g, rfl, hg⟩ := hX
    have y := x.sw ha g
    have htl : ((sL S 8 i).take j).length = j := by rw [List.length_take]; omega
    have hpl : (pt t ((sL S 8 i).take j)).length ≤ t.length + 1 + j := by
      unfold pt sep
      rw [List.length_append, List.length_append, htl]
      split <;> simp <;> omega
    unfold fL_words_B158
    rw [y.ct hi, sb, if_neg (show ¬ nI (sL S 8 i).length ≤ nI j from nI_ge hj (by omega))]
    rcases Nat.eq_zero_or_pos j with z | z
    · subst z
      have e0 : pt t ((sL S 8 i).take 0) = t := by unfold pt sep; rw [List.take_zero]; simp
      have e1 : pt t ((sL S 8 i).take (0 + 1)) = (t ++ (if t.length = 0 then [] else [32])) ++ [ge (sL S 8 i) 0] := by
        rw [take_succ_ge hj, List.take_zero, List.nil_append]
        unfold pt sep
        by_cases w : t.length = 0
        · rw [if_pos (Or.inl w), if_pos w, List.nil_append, List.append_nil]
        · rw [if_neg (fun q => q.elim w (by simp)), if_neg w, List.append_assoc]
      rw [e0] at hg ⊢
      rw [if_pos (show nI 0 = 0 from rfl), e1]
      by_cases w : t.length = 0
      · rw [if_pos (by rw [w]; decide), sb, r_typed y hi h12 hj, sb, pSW ht (by omega) (by decide), sb, if_pos w, List.append_nil]
        refine ⟨_, rfl, _, by rw [nI_1, nI_1, List.length_append]; rfl, ?_⟩
        refine Sl_push hg ?_ (fun k hk2 => ?_)
        · show (if 0 + t.length = t.length then _ else _) = _
          rw [if_pos (by omega)]
        · show (if 0 + k = t.length then _ else _) = _
          rw [if_neg (by omega)]
      · rw [if_neg (nI_nle (by omega) (by omega)), pSW ht (by omega) (by decide), sb, sb]
        have y2 := x.sw ha (fun j => if j = t.length then 32 else g j)
        rw [r_typed y2 hi h12 hj, sb]
        show ((oIS (some a) (nI t.length + 1) _ _).bind fun h6 => _) = _ ∧ _ ∨ _
        sorry
    · rw [if_neg (show ¬ nI j = 0 from nI_ne0 z (by omega)), sb, r_typed y hi h12 hj, sb, pSW ht (by omega) (by decide), sb]
      have e1 : pt t ((sL S 8 i).take (j + 1)) = pt t ((sL S 8 i).take j) ++ [ge (sL S 8 i) j] := by
        rw [take_succ_ge hj]
        unfold pt sep
        rw [List.append_assoc, List.append_assoc, List.length_append, htl]
        by_cases w : t.length = 0
        · rw [if_pos (Or.inl w), if_pos (Or.inl w)]
        · rw [if_neg (fun q => q.elim w (by simp)), if_neg (fun q => q.elim w (by omega))]
      rw [e1]
      refine ⟨_, rfl, _, by rw [nI_1, nI_1, List.length_append (bs := [ge (sL S 8 i) j])]; rfl, ?_⟩
      refine Sl_push hg ?_ (fun k hk2 => ?_)
      · show (if 0 + (pt t ((sL S 8 i).take j)).length = (pt t ((sL S 8 i).take j)).length then _ else _) = _
        rw [if_pos (by omega)]
      · show (if 0 + k = (pt t ((sL S 8 i).take j)).length then _ else _) = _
        rw [if_neg (by omega)]) (fun q hX => by
    obtain ⟨g, rfl, hg⟩ := hX
    have y := x.sw ha g
    rw [take_all] at hg ⊢
    refine ⟨_, ?_, g, rfl, hg⟩
    unfold fL_words_B158
    rw [y.ct hi, sb, if_pos (nI_le (Nat.le_refl _) (by omega))]) (fu := FU) (a := (nI t.length, 0, sw h a f)) (by unfold FU; omega) ⟨f, by rw [show pt t ((sL S 8 i).take 0) = t by unfold pt sep; rw [List.take_zero]; simp]; rfl, by rw [show pt t ((sL S 8 i).take 0) = t by unfold pt sep; rw [List.take_zero]; simp]; exact hf⟩
  subst e2
  exact ⟨f', e1, e3⟩
end WRD

/-! ===== the law lays words ===== -/
def cdl (t : List Int32) (c1 c2 c3 c4 c5 c6 : Int32) : List Int32 := [if t.length = 0 then 0 else 32, c1, c2, c3, c4, c5, c6]
def pos (l : List Int32) : List Int32 := l.filter (fun c => decide (0 < c))
theorem pos_app (l r : List Int32) : pos (l ++ r) = pos l ++ pos r := List.filter_append ..
theorem says_code {t : List Int32} (ht : t.length < 2 ^ 31) (c1 c2 c3 c4 c5 c6 : Int32) {j : Nat} (hj : j < 7) : (if nI j = 0 then
  (if nI t.length ≤ 0 then
  (some (0 : Int32))
  else
  some (32 : Int32))
  else
  if nI j = (1 : Int32) then
  (some c1)
  else
  if nI j = (2 : Int32) then
  (some c2)
  else
  if nI j = (3 : Int32) then
  (some c3)
  else
  if nI j = (4 : Int32) then
  (some c4)
  else
  if nI j = (5 : Int32) then
  (some c5)
  else
  some c6) = some (ge (cdl t c1 c2 c3 c4 c5 c6) j) := by
  rcases (show j = 0 ∨ j = 1 ∨ j = 2 ∨ j = 3 ∨ j = 4 ∨ j = 5 ∨ j = 6 by omega) with rfl | rfl | rfl | rfl | rfl | rfl | rfl
  · rw [if_pos (by decide)]
    by_cases q : t.length = 0
    · rw [q, if_pos (by decide)]
      show _ = some (if t.length = 0 then 0 else 32)
      rw [if_pos q]
    · rw [if_neg (nI_nle (by omega) ht)]
      show _ = some (if t.length = 0 then 0 else 32)
      rw [if_neg q]
  · rw [if_neg (by decide), if_pos (by decide)]; rfl
  · rw [if_neg (by decide), if_neg (by decide), if_pos (by decide)]; rfl
  · rw [if_neg (by decide), if_neg (by decide), if_neg (by decide), if_pos (by decide)]; rfl
  · rw [if_neg (by decide), if_neg (by decide), if_neg (by decide), if_neg (by decide), if_pos (by decide)]; rfl
  · rw [if_neg (by decide), if_neg (by decide), if_neg (by decide), if_neg (by decide), if_neg (by decide), if_pos (by decide)]; rfl
  · rw [if_neg (by decide), if_neg (by decide), if_neg (by decide), if_neg (by decide), if_neg (by decide), if_neg (by decide)]; rfl
theorem pos_len (l : List Int32) : (pos l).length ≤ l.length := List.length_filter_le ..
theorem says_l {h : hp} {a : Nat} {t : List Int32} {f : Nat → Int32} (ht : hT h a = (20, 64)) (hl : t.length + 7 ≤ 64) (hf : Sl f 0 t) (c1 c2 c3 c4 c5 c6 : Int32) : ∃ f', fL_says (some a) (nI t.length) c1 c2 c3 c4 c5 c6 (sw h a f) = some (nI (t ++ pos (cdl t c1 c2 c3 c4 c5 c6)).length, sw h a f') ∧ Sl f' 0 (t ++ pos (cdl t c1 c2 c3 c4 c5 c6)) := by
  obtain ⟨r, e1, f', e2, e3⟩ := itr_for (F := fL_says_B6 (some a) (nI t.length) c1 c2 c3 c4 c5 c6) (R := fun r => ∃ f', r = (nI (t ++ pos (cdl t c1 c2 c3 c4 c5 c6)).length, sw h a f') ∧ Sl f' 0 (t ++ pos (cdl t c1 c2 c3 c4 c5 c6))) (fun j q => ∃ f', q = (nI (t ++ pos ((cdl t c1 c2 c3 c4 c5 c6).take j)).length, nI j, sw h a f') ∧ Sl f' 0 (t ++ pos ((cdl t c1 c2 c3 c4 c5 c6).take j))) 7 (fun j q hj hX => by
    obtain ⟨g, rfl, hg⟩ := hX
    have hjl : j < (cdl t c1 c2 c3 c4 c5 c6).length := hj
    have et : (cdl t c1 c2 c3 c4 c5 c6).take (j + 1) = (cdl t c1 c2 c3 c4 c5 c6).take j ++ [ge (cdl t c1 c2 c3 c4 c5 c6) j] := take_succ_ge hjl
    have hpl : (pos ((cdl t c1 c2 c3 c4 c5 c6).take j)).length ≤ j := Nat.le_trans (pos_len _) (by rw [List.length_take]; omega)
    unfold fL_says_B6
    rw [if_neg (show ¬ (7 : Int32) ≤ nI j from nI_ge (b := 7) hj (by decide)), says_code (by omega) c1 c2 c3 c4 c5 c6 hj, sb, et, pos_app]
    by_cases w : ge (cdl t c1 c2 c3 c4 c5 c6) j ≤ 0
    · have ep : pos [ge (cdl t c1 c2 c3 c4 c5 c6) j] = [] := by
        unfold pos
        rw [List.filter_cons, if_neg (by simp [Int32.not_lt.mpr w])]; rfl
      rw [if_pos w, ep, List.append_nil]
      exact ⟨_, rfl, g, by rw [nI_1], hg⟩
    · have ep : pos [ge (cdl t c1 c2 c3 c4 c5 c6) j] = [ge (cdl t c1 c2 c3 c4 c5 c6) j] := by
        unfold pos
        rw [List.filter_cons, if_pos (by simp [Int32.not_le.mp w])]; rfl
      have hk : (t ++ pos ((cdl t c1 c2 c3 c4 c5 c6).take j)).length < 64 := by rw [List.length_append]; omega
      rw [if_neg w, ep, pSW ht hk (by decide), sb, ← List.append_assoc]
      refine ⟨_, rfl, _, by rw [nI_1, nI_1, List.length_append (bs := [ge (cdl t c1 c2 c3 c4 c5 c6) j])]; rfl, ?_⟩
      refine Sl_push hg ?_ (fun k hk2 => ?_)
      · show (if 0 + (t ++ pos ((cdl t c1 c2 c3 c4 c5 c6).take j)).length = (t ++ pos ((cdl t c1 c2 c3 c4 c5 c6).take j)).length then _ else _) = _
        rw [if_pos (by omega)]
      · show (if 0 + k = (t ++ pos ((cdl t c1 c2 c3 c4 c5 c6).take j)).length then _ else _) = _
        rw [if_neg (by omega)]) (fun q hX => by
    obtain ⟨g, rfl, hg⟩ := hX
    have et : (cdl t c1 c2 c3 c4 c5 c6).take 7 = cdl t c1 c2 c3 c4 c5 c6 := rfl
    rw [et] at hg ⊢
    refine ⟨_, ?_, g, rfl, hg⟩
    unfold fL_says_B6
    rw [if_pos (show (7 : Int32) ≤ nI 7 by decide)]) (fu := FU) (a := (nI t.length, 0, sw h a f)) (by unfold FU; omega) ⟨f, by rw [List.take_zero, show pos [] = [] from rfl, List.append_nil]; rfl, by rw [List.take_zero, show pos [] = [] from rfl, List.append_nil]; exact hf⟩
  subst e2
  refine ⟨f', ?_, e3⟩
  unfold fL_says
  rw [e1]; rfl
/-- a part comes behind a text -/
theorem says_pt {t p : List Int32} {c1 c2 c3 c4 c5 c6 : Int32} (hp : pos [c1, c2, c3, c4, c5, c6] = p) (h0 : 0 < p.length) : t ++ pos (cdl t c1 c2 c3 c4 c5 c6) = pt t p := by
  unfold pt cdl sep
  have e : pos ((if t.length = 0 then 0 else 32) :: [c1, c2, c3, c4, c5, c6]) = pos [if t.length = 0 then 0 else 32] ++ pos [c1, c2, c3, c4, c5, c6] := pos_app [_] _
  rw [e, hp]
  congr 2
  by_cases q : t.length = 0
  · rw [if_pos q, if_pos (Or.inl q)]; decide
  · rw [if_neg q, if_neg (fun z => z.elim q (fun z => by omega))]; decide
theorem r_says {h : hp} {a : Nat} {t p : List Int32} {f : Nat → Int32} (ht : hT h a = (20, 64)) (hl : t.length + 7 ≤ 64) (hf : Sl f 0 t) {c1 c2 c3 c4 c5 c6 : Int32} (hp : pos [c1, c2, c3, c4, c5, c6] = p) (h0 : 0 < p.length) : ∃ f', fL_says (some a) (nI t.length) c1 c2 c3 c4 c5 c6 (sw h a f) = some (nI (pt t p).length, sw h a f') ∧ Sl f' 0 (pt t p) := by
  have := says_l ht hl hf c1 c2 c3 c4 c5 c6
  rw [says_pt hp h0] at this
  exact this
theorem r_sKind {h : hp} {a : Nat} {t : List Int32} {f : Nat → Int32} (ht : hT h a = (20, 64)) (hl : t.length + 7 ≤ 64) (hf : Sl f 0 t) {k : Nat} (hk : k ≤ 6) : ∃ f', fL_saysKind (some a) (nI t.length) (nI k) (sw h a f) = some (nI (pt t (kw (nI k))).length, sw h a f') ∧ Sl f' 0 (pt t (kw (nI k))) := by
  unfold fL_saysKind
  rcases (show k = 0 ∨ k = 1 ∨ k = 2 ∨ k = 3 ∨ k = 4 ∨ k = 5 ∨ k = 6 by omega) with rfl | rfl | rfl | rfl | rfl | rfl | rfl
  · rw [if_neg (by decide), if_pos (by decide)]
    obtain ⟨g, e1, e2⟩ := r_says ht hl hf (c1 := 103) (c2 := 114) (c3 := 111) (c4 := 117) (c5 := 112) (c6 := 0) (p := kw (nI 0)) (by decide) (by decide)
    exact ⟨g, by rw [e1]; rfl, e2⟩
  · rw [if_pos (by decide)]
    refine ⟨f, ?_, ?_⟩
    · rw [show pt t (kw (nI 1)) = t by unfold pt sep; rw [show kw (nI 1) = [] by decide]; simp]
    · rw [show pt t (kw (nI 1)) = t by unfold pt sep; rw [show kw (nI 1) = [] by decide]; simp]; exact hf
  · rw [if_neg (by decide), if_neg (by decide), if_pos (by decide)]
    obtain ⟨g, e1, e2⟩ := r_says ht hl hf (c1 := 98) (c2 := 117) (c3 := 116) (c4 := 116) (c5 := 111) (c6 := 110) (p := kw (nI 2)) (by decide) (by decide)
    exact ⟨g, by rw [e1]; rfl, e2⟩
  · rw [if_neg (by decide), if_neg (by decide), if_neg (by decide), if_pos (by decide)]
    obtain ⟨g, e1, e2⟩ := r_says ht hl hf (c1 := 99) (c2 := 104) (c3 := 101) (c4 := 99) (c5 := 107) (c6 := 0) (p := kw (nI 3)) (by decide) (by decide)
    exact ⟨g, by rw [e1]; rfl, e2⟩
  · rw [if_neg (by decide), if_neg (by decide), if_neg (by decide), if_neg (by decide), if_pos (by decide)]
    obtain ⟨g, e1, e2⟩ := r_says ht hl hf (c1 := 101) (c2 := 100) (c3 := 105) (c4 := 116) (c5 := 0) (c6 := 0) (p := kw (nI 4)) (by decide) (by decide)
    exact ⟨g, by rw [e1]; rfl, e2⟩
  · rw [if_neg (by decide), if_neg (by decide), if_neg (by decide), if_neg (by decide), if_neg (by decide), if_pos (by decide)]
    obtain ⟨g, e1, e2⟩ := r_says ht hl hf (c1 := 116) (c2 := 97) (c3 := 98) (c4 := 108) (c5 := 101) (c6 := 0) (p := kw (nI 5)) (by decide) (by decide)
    exact ⟨g, by rw [e1]; rfl, e2⟩
  · rw [if_neg (by decide), if_neg (by decide), if_neg (by decide), if_neg (by decide), if_neg (by decide), if_neg (by decide)]
    obtain ⟨g, e1, e2⟩ := r_says ht hl hf (c1 := 114) (c2 := 111) (c3 := 119) (c4 := 0) (c5 := 0) (c6 := 0) (p := kw (nI 6)) (by decide) (by decide)
    exact ⟨g, by rw [e1]; rfl, e2⟩
section WRD
variable {B : Nat} {h : hp} {m : LY} {S : SS}
theorem take_all {l : List Int32} : l.take l.length = l := List.take_of_length_le (Nat.le_refl _)
theorem take_all' {l : List Nat} : l.take l.length = l := List.take_of_length_le (Nat.le_refl _)
/-- the name's characters -/
theorem w_name (x : RD B h m S) {i a : Nat} (hi : i < made S) (ha : B + 95 ≤ a) (ht : hT h a = (20, 64)) (f : Nat → Int32) (v1 v2 : Int32) : ∃ f', itr (fL_words_B23 (some (B + 90)) (some (B + 91)) (some (B + 92)) (some (B + 93)) (some (B + 94)) (nI i) (some a) v1 v2) FU (0, 0, sw h a f) = some (nI (sL S 6 i).length, sw h a f') ∧ Sl f' 0 (sL S 6 i) := by
  have hn := (x.ok6 hi).1
  obtain ⟨r, e1, f', e2, e3⟩ := itr_for (F := fL_words_B23 (some (B + 90)) (some (B + 91)) (some (B + 92)) (some (B + 93)) (some (B + 94)) (nI i) (some a) v1 v2) (R := fun r => ∃ f', r = (nI (sL S 6 i).length, sw h a f') ∧ Sl f' 0 (sL S 6 i)) (fun j q => ∃ f', q = (nI j, nI j, sw h a f') ∧ Sl f' 0 ((sL S 6 i).take j)) (sL S 6 i).length (fun j q hj hX => by
    obtain ⟨g, rfl, hg⟩ := hX
    have y := x.sw ha g
    unfold fL_words_B23
    rw [y.nm hi, sb, r_nmany (x.ok6 hi).1 (x.ok6 hi).2, sb, if_neg (show ¬ nI (sL S 6 i).length ≤ nI j from nI_ge hj (by omega)), sb, nm_at (x.ok6 hi).1 (x.ok6 hi).2 hj, pSW ht (by omega) (by decide), sb]
    refine ⟨_, rfl, _, by rw [nI_1], ?_⟩
    rw [take_succ_ge hj]
    have hl : ((sL S 6 i).take j).length = j := by rw [List.length_take]; omega
    refine Sl_push hg ?_ (fun k hk2 => ?_)
    · show (if 0 + ((sL S 6 i).take j).length = j then _ else _) = _
      rw [if_pos (by omega)]
    · show (if 0 + k = j then _ else _) = _
      rw [if_neg (by omega)]) (fun q hX => by
    obtain ⟨g, rfl, hg⟩ := hX
    have y := x.sw ha g
    rw [take_all] at hg
    refine ⟨_, ?_, g, rfl, hg⟩
    unfold fL_words_B23
    rw [y.nm hi, sb, r_nmany (x.ok6 hi).1 (x.ok6 hi).2, sb, if_pos (nI_le (Nat.le_refl _) (by omega))]) (fu := FU) (a := (0, 0, sw h a f)) (by unfold FU; omega) ⟨f, rfl, Sl_nil⟩
  subst e2
  exact ⟨f', e1, e3⟩
/-- the content's characters, behind a space -/
theorem w_cont (x : RD B h m S) {i a : Nat} (hi : i < made S) (h12 : (sL S 8 i).length ≤ 12) (ha : B + 95 ≤ a) (ht : hT h a = (20, 64)) {t : List Int32} (hl : t.length + 14 ≤ 64) {f : Nat → Int32} (hf : Sl f 0 t) (v2 : Int32) : ∃ f', itr (fL_words_B158 (some (B + 90)) (some (B + 91)) (some (B + 93)) (some (B + 94)) (nI i) (some a) v2) FU (nI t.length, 0, sw h a f) = some (nI (pt t (sL S 8 i)).length, sw h a f') ∧ Sl f' 0 (pt t (sL S 8 i)) := by
  obtain ⟨r, e1, f', e2, e3⟩ := itr_for (F := fL_words_B158 (some (B + 90)) (some (B + 91)) (some (B + 93)) (some (B + 94)) (nI i) (some a) v2) (R := fun r => ∃ f', r = (nI (pt t (sL S 8 i)).length, sw h a f') ∧ Sl f' 0 (pt t (sL S 8 i))) (fun j q => ∃ f', q = (nI (pt t ((sL S 8 i).take j)).length, nI j, sw h a f') ∧ Sl f' 0 (pt t ((sL S 8 i).take j))) (sL S 8 i).length (fun j q hj hX => by
    obtain ⟨g, rfl, hg⟩ := hX
    have y := x.sw ha g
    have htl : ((sL S 8 i).take j).length = j := by rw [List.length_take]; omega
    have hpl : (pt t ((sL S 8 i).take j)).length ≤ t.length + 1 + j := by
      unfold pt sep
      rw [List.length_append, List.length_append, htl]
      split <;> simp <;> omega
    unfold fL_words_B158
    rw [y.ct hi, sb, if_neg (show ¬ nI (sL S 8 i).length ≤ nI j from nI_ge hj (by omega))]
    rcases Nat.eq_zero_or_pos j with z | z
    · subst z
      have e0 : pt t ((sL S 8 i).take 0) = t := by unfold pt sep; rw [List.take_zero]; simp
      have e1 : pt t ((sL S 8 i).take (0 + 1)) = (t ++ (if t.length = 0 then [] else [32])) ++ [ge (sL S 8 i) 0] := by
        rw [take_succ_ge hj, List.take_zero, List.nil_append]
        unfold pt sep
        by_cases w : t.length = 0
        · rw [if_pos (Or.inl w), if_pos w, List.nil_append, List.append_nil]
        · rw [if_neg (fun q => q.elim w (by simp)), if_neg w, List.append_assoc]
      rw [e0] at hg ⊢
      rw [if_pos (show nI 0 = 0 from rfl), e1]
      by_cases w : t.length = 0
      · rw [if_pos (show nI t.length ≤ 0 by rw [w]; decide), sb, rl_typed y hi h12 hj, sb, pSW ht (by omega) (by decide), sb, if_pos w, List.append_nil]
        refine ⟨_, rfl, _, by rw [nI_1, nI_1, List.length_append]; rfl, ?_⟩
        refine Sl_push hg ?_ (fun k hk2 => ?_)
        · show (if 0 + t.length = t.length then _ else _) = _
          rw [if_pos (by omega)]
        · show (if 0 + k = t.length then _ else _) = _
          rw [if_neg (by omega)]
      · rw [if_neg (nI_nle (by omega) (by omega)), pSW ht (by omega) (by decide), sb, sb]
        have y2 := x.sw ha (fun j => if j = t.length then 32 else g j)
        rw [rl_typed y2 hi h12 hj, sb, nI_1, pSW ht (by omega) (by decide), sb, if_neg w]
        refine ⟨_, rfl, _, by rw [nI_1, nI_1, List.length_append, List.length_append]; rfl, ?_⟩
        have s1 : Sl (fun j => if j = t.length then 32 else g j) 0 (t ++ [32]) := by
          refine Sl_push hg ?_ (fun k hk2 => ?_)
          · show (if 0 + t.length = t.length then _ else _) = _
            rw [if_pos (by omega)]
          · show (if 0 + k = t.length then _ else _) = _
            rw [if_neg (by omega)]
        refine Sl_push s1 ?_ (fun k hk2 => ?_)
        · show (if 0 + (t ++ [32]).length = t.length + 1 then _ else _) = _
          rw [if_pos (by rw [List.length_append, List.length_singleton]; omega)]
        · rw [List.length_append, List.length_singleton] at hk2
          show (if 0 + k = t.length + 1 then _ else _) = _
          rw [if_neg (by omega)]
    · rw [if_neg (show ¬ nI j = 0 from nI_ne0 z (by omega)), sb, rl_typed y hi h12 hj, sb, pSW ht (by omega) (by decide), sb]
      have e1 : pt t ((sL S 8 i).take (j + 1)) = pt t ((sL S 8 i).take j) ++ [ge (sL S 8 i) j] := by
        rw [take_succ_ge hj]
        unfold pt sep
        rw [List.append_assoc, List.append_assoc, List.length_append, htl]
        by_cases w : t.length = 0
        · rw [if_pos (Or.inl w), if_pos (Or.inl w)]
        · rw [if_neg (fun q => q.elim w (by simp)), if_neg (fun q => q.elim w (by omega))]
      rw [e1]
      refine ⟨_, rfl, _, by rw [nI_1, nI_1, List.length_append (bs := [ge (sL S 8 i) j])]; rfl, ?_⟩
      refine Sl_push hg ?_ (fun k hk2 => ?_)
      · show (if 0 + (pt t ((sL S 8 i).take j)).length = (pt t ((sL S 8 i).take j)).length then _ else _) = _
        rw [if_pos (by omega)]
      · show (if 0 + k = (pt t ((sL S 8 i).take j)).length then _ else _) = _
        rw [if_neg (by omega)]) (fun q hX => by
    obtain ⟨g, rfl, hg⟩ := hX
    have y := x.sw ha g
    rw [take_all] at hg ⊢
    refine ⟨_, ?_, g, rfl, hg⟩
    unfold fL_words_B158
    rw [y.ct hi, sb, if_pos (nI_le (Nat.le_refl _) (by omega))]) (fu := FU) (a := (nI t.length, 0, sw h a f)) (by unfold FU; omega) ⟨f, by rw [show pt t ((sL S 8 i).take 0) = t by unfold pt sep; rw [List.take_zero]; simp]; rfl, by rw [show pt t ((sL S 8 i).take 0) = t by unfold pt sep; rw [List.take_zero]; simp]; exact hf⟩
  subst e2
  exact ⟨f', e1, e3⟩
theorem mem_tk {l : List Nat} (hn : l.Nodup) {n x : Nat} : x ∈ l.take (n + 1) ↔ x ∈ l ∧ l.idxOf x ≤ n := by
  constructor
  · intro hx
    obtain ⟨k, hk, rfl⟩ := List.getElem_of_mem hx
    have hk' := hk
    rw [List.length_take] at hk'
    rw [List.getElem_take]
    exact ⟨List.getElem_mem _, by rw [hn.idxOf_getElem k (by omega)]; omega⟩
  · rintro ⟨h1, h2⟩
    have h3 := List.idxOf_lt_length_of_mem h1
    exact List.mem_take_iff_getElem.mpr ⟨l.idxOf x, by omega, List.getElem_idxOf h3⟩
/-- siblings that are shown, and those of them as far as the element -/
def sbA (S : SS) (p t : Nat) : Bool := decide (t ∈ sK S p) && !hid S t
def sbB (S : SS) (p n t : Nat) : Bool := sbA S p t && decide (plc S t ≤ n)
theorem w_q3 (x : RD B h m S) {i j : Nat} (i0 : 0 < i) (hi : th S i) (hj : j < made S) : ∃ x2, fL_isThere (some (B + 91)) (nI j) h = some x2 ∧ (if x2 = 0 then
  (some (0 : Int32))
  else
  (fL_isHidden (some (B + 91)) (nI j) h).bind fun x5 =>
  if x5 = 0 then
  ((oIL (some (B + 91)) (((6 : Int32) * nI j) + (1 : Int32)) h).bind fun x6 =>
  (oIL (some (B + 91)) (((6 : Int32) * nI i) + (1 : Int32)) h).bind fun x7 =>
  if x6 = x7 then
  (some (1 : Int32))
  else
  some (0 : Int32))
  else
  some (0 : Int32)) = some (if sbA S (dpar S i) j = true then 1 else 0) := by
  have l10 := x.m10
  have hp := (x.t.up i0 hi).1
  by_cases t : th S j
  · refine ⟨1, r_thereY x t, ?_⟩
    rw [if_neg (show ¬ (1 : Int32) = 0 by decide), r_hid x t, sb]
    cases hh : hid S j
    · rw [if_pos (show bI false = 0 from rfl), x.pr hj, sb, x.pr hi.lt, sb, (x.pp i0 hi.lt).1]
      have hpl := hp.lt
      by_cases e : sI S 3 j = nI (dpar S i)
      · have j0 : 0 < j := by
          rcases Nat.eq_zero_or_pos j with z | z
          · subst z
            rw [x.p0] at e
            exact absurd e.symm (nI_m1 (by omega))
          · exact z
        have hd : dpar S j = dpar S i := by
          rw [(x.pp j0 hj).1] at e
          exact (nI_eq (by have := (x.pp j0 hj).2; omega) (by omega)).mp e
        rw [if_pos e, if_pos (by unfold sbA; rw [hh]; simp; exact (kid_iff x.t hp).mpr ⟨t, j0, hd⟩)]
      · rw [if_neg e, if_neg (fun z => e ?_)]
        unfold sbA at z
        rw [hh] at z
        simp at z
        obtain ⟨z1, z2, z3⟩ := (kid_iff x.t hp).mp z
        rw [(x.pp z2 hj).1, z3]
    · rw [if_neg (show ¬ bI true = 0 by decide), if_neg (by unfold sbA; rw [hh]; simp)]
  · refine ⟨0, r_thereN x hj t, ?_⟩
    rw [if_pos rfl, if_neg (fun z => t ?_)]
    unfold sbA at z
    simp at z
    exact ((kid_iff x.t hp).mp z.1).1
theorem w_cnt (x : RD B h m S) {i : Nat} (i0 : 0 < i) (hi : th S i) (c6 : Option Nat) (v7 : Int32) : itr (fL_words_B230 (some (B + 90)) (some (B + 91)) (nI i) c6 v7 h) FU (0, 0, 0) = some (nI (vis S (sK S (dpar S i))), nI (vis S ((sK S (dpar S i)).take (plc S i + 1)))) := by
  have l10 := x.m10
  have hp := (x.t.up i0 hi).1
  obtain ⟨c, e1, e2⟩ := itr_for (F := fL_words_B230 (some (B + 90)) (some (B + 91)) (nI i) c6 v7 h) (R := fun c => c = (nI ((List.range (made S)).countP (sbA S (dpar S i))), nI ((List.range (made S)).countP (sbB S (dpar S i) (plc S i))))) (fun j q => q = (nI ((List.range j).countP (sbA S (dpar S i))), nI ((List.range j).countP (sbB S (dpar S i) (plc S i))), nI j)) (made S) (fun j q hj hX => by
    subst hX
    obtain ⟨x2, w1, w2⟩ := w_q3 x i0 hi hj
    refine ⟨_, ?_, rfl⟩
    unfold fL_words_B230
    rw [x.n0, sb, if_neg (show ¬ nI (made S) ≤ nI j from nI_ge hj (by omega)), w1, sb, w2, sb, List.range_succ, List.countP_append, List.countP_append, List.countP_singleton, List.countP_singleton]
    unfold sbB
    cases q : sbA S (dpar S i) j
    · rw [if_neg (show ¬ false = true by decide), if_pos rfl, sb, if_pos rfl, nI_1]
      simp
    · have qj : j ∈ sK S (dpar S i) := by unfold sbA at q; simp at q; exact q.1
      obtain ⟨t1, t2, t3⟩ := (kid_iff x.t hp).mp qj
      have p1 := plc_10 x.t t2 t1
      have p2 := plc_10 x.t i0 hi
      rw [if_pos (show true = true from rfl), if_neg (show ¬ (1 : Int32) = 0 by decide), sb, if_neg (show ¬ (1 : Int32) = 0 by decide), x.pl t2 t1, sb, x.pl i0 hi, sb]
      by_cases w : plc S j ≤ plc S i
      · rw [if_neg (fun z => by have := (nI_ltI (by omega) (by omega)).mp z; omega)]
        simp [w, nI_1]
      · rw [if_pos ((nI_ltI (by omega) (by omega)).mpr (by omega))]
        simp [w, nI_1]) (fun q hX => by
    subst hX
    refine ⟨_, ?_, rfl⟩
    unfold fL_words_B230
    rw [x.n0, sb, if_pos (nI_le (Nat.le_refl _) (by omega))]) (fu := FU) (a := (0, 0, 0)) (by unfold FU; omega) rfl
  have hN := (x.t.kids hp).1
  have k1 : (List.range (made S)).countP (sbA S (dpar S i)) = vis S (sK S (dpar S i)) := cnt_eq (P := fun j => !hid S j) hN (fun i hi => ((kid_iff x.t hp).mp hi).1.lt) (fun t _ => by unfold sbA; simp)
  have k2 : (List.range (made S)).countP (sbB S (dpar S i) (plc S i)) = vis S ((sK S (dpar S i)).take (plc S i + 1)) := cnt_eq (P := fun j => !hid S j) (List.Nodup.sublist (List.take_sublist _ _) hN) (fun i hi => ((kid_iff x.t hp).mp (List.mem_of_mem_take hi)).1.lt) (fun t _ => by
    unfold sbB sbA
    rw [mem_tk hN]
    by_cases q : t ∈ sK S (dpar S i)
    · rw [plc_of ((kid_iff x.t hp).mp q).2.2]
      cases hid S t <;> simp [q]
    · simp [q])
  rw [e1, e2, k1, k2]
theorem vis_10 (hW : WT S) {i : Nat} (i0 : 0 < i) (hi : th S i) (n : Nat) : vis S ((sK S (dpar S i)).take n) ≤ 10 := by
  unfold vis
  have h1 := (hW.kids (hW.up i0 hi).1).2.1
  have h2 : ((sK S (dpar S i)).take n).countP (fun j => !hid S j) ≤ ((sK S (dpar S i)).take n).length := List.countP_le_length
  rw [List.length_take] at h2
  omega
theorem pt_nil (p : List Int32) : pt [] p = p := by unfold pt sep; simp
theorem q_pt (t p : List Int32) : (pt t p).length ≤ t.length + 1 + p.length := by
  unfold pt sep
  rw [List.length_append, List.length_append]
  split <;> simp <;> omega
theorem q_kw {k : Nat} (hk : k ≤ 6) : (kw (nI k)).length ≤ 6 := by
  rcases (show k = 0 ∨ k = 1 ∨ k = 2 ∨ k = 3 ∨ k = 4 ∨ k = 5 ∨ k = 6 by omega) with rfl | rfl | rfl | rfl | rfl | rfl | rfl <;> decide
theorem q_wd1 (x : RD B h m S) {i : Nat} (hi : i < made S) : (wd1 S i []).length ≤ 10 := by
  obtain ⟨k, k1, k2⟩ := (x.k.2 i hi).1
  have hn := (x.ok6 hi).1
  have h1 := q_kw k1
  rw [← k2] at h1
  unfold wd1
  rw [pt_nil]
  split
  · have := q_pt (sL S 6 i) (kw (sI S 2 i)); omega
  · omega
theorem q_wd2 {S : SS} (i : Nat) (t : List Int32) : (wd2 S i t).length ≤ t.length + 4 := by
  unfold wd2
  split
  · have h1 := q_pt t (onw (sI S 10 i))
    have h2 : (onw (sI S 10 i)).length ≤ 3 := by unfold onw; split <;> decide
    omega
  · omega
theorem q_dg (n : Nat) : (dg n).length ≤ 2 := by unfold dg; split <;> simp
theorem w_1 (x : RD B h m S) {i a : Nat} (hi : i < made S) {h' : hp} (ht : hT h' a = (20, 64)) {f : Nat → Int32} (hf : Sl f 0 (sL S 6 i)) : ∃ f', (if 0 < lvl S i then
  (o2 (fL_saysKind (some a) (nI (sL S 6 i).length) (sI S 2 i) (sw h' a f)) fun x6 h7 =>
  some (x6, h7))
  else
  if nI (sL S 6 i).length = 0 then
  (o2 (fL_saysKind (some a) (nI (sL S 6 i).length) (sI S 2 i) (sw h' a f)) fun x8 h9 =>
  some (x8, h9))
  else
  some (nI (sL S 6 i).length, sw h' a f)) = some (nI (wd1 S i []).length, sw h' a f') ∧ Sl f' 0 (wd1 S i []) := by
  obtain ⟨k, k1, k2⟩ := (x.k.2 i hi).1
  have hn := (x.ok6 hi).1
  obtain ⟨g, e1, e2⟩ := r_sKind ht (show (sL S 6 i).length + 7 ≤ 64 by omega) hf k1
  rw [← k2] at e1 e2
  unfold wd1
  rw [pt_nil]
  by_cases q : lvl S i = 0
  · rw [if_neg (show ¬ (0 : Int32) < lvl S i by rw [q]; decide)]
    by_cases w : (sL S 6 i).length = 0
    · rw [if_pos (show nI (sL S 6 i).length = 0 by rw [w]; rfl), if_pos (show lvl S i ≠ 0 ∨ (sL S 6 i).length = 0 from Or.inr w)]
      exact ⟨g, by rw [e1]; rfl, e2⟩
    · rw [if_neg (show ¬ nI (sL S 6 i).length = 0 from nI_ne0 (by omega) (by omega)), if_neg (show ¬ (lvl S i ≠ 0 ∨ (sL S 6 i).length = 0) from fun z => z.elim (fun z => z q) w)]
      exact ⟨f, rfl, hf⟩
  · have h0 : 0 < lvl S i := by
      rcases lvl_rng x.k x.t.pw hi with z | z | z
      · exact absurd z q
      · rw [z]; decide
      · rw [z]; decide
    rw [if_pos h0, if_pos (show lvl S i ≠ 0 ∨ (sL S 6 i).length = 0 from Or.inl q)]
    exact ⟨g, by rw [e1]; rfl, e2⟩
theorem w_2 (x : RD B h m S) {i a : Nat} (hi : th S i) (ha : B + 95 ≤ a) (ht : hT h a = (20, 64)) {t : List Int32} (hl : t.length + 7 ≤ 64) {f : Nat → Int32} (hf : Sl f 0 t) : ∃ f', (if sI S 2 i = (3 : Int32) then
  ((oIL (some (B + 91)) (((6 : Int32) * nI i) + (3 : Int32)) (sw h a f)).bind fun x12 =>
  Option.bind (α := Int32)
  (if (x12 &&& (4 : Int32)) = (4 : Int32) then
  (some (1 : Int32))
  else
  some (0 : Int32))
  fun q13 =>
  Option.bind (α := Int32)
  (if q13 = 0 then
  (some (102 : Int32))
  else
  some (110 : Int32))
  fun q15 =>
  Option.bind (α := Int32)
  (if q13 = 0 then
  (some (102 : Int32))
  else
  some (0 : Int32))
  fun q17 =>
  o2 (fL_says (some a) (nI t.length) (111 : Int32) q15 q17 (0 : Int32) (0 : Int32) (0 : Int32) (sw h a f)) fun x19 h20 =>
  some (x19, h20))
  else
  some (nI t.length, sw h a f)) = some (nI (wd2 S i t).length, sw h a f') ∧ Sl f' 0 (wd2 S i t) := by
  unfold wd2
  by_cases q : sI S 2 i = 3
  · rw [if_pos q, if_pos q, (x.sw ha f).fg hi.lt, sb, fl_4 S hi.2]
    unfold onw
    by_cases w : sI S 10 i = 0
    · obtain ⟨g, e1, e2⟩ := r_says ht hl hf (c1 := 111) (c2 := 102) (c3 := 102) (c4 := 0) (c5 := 0) (c6 := 0) (p := [111, 102, 102]) (by decide) (by decide)
      rw [if_pos w, if_pos w]
      refine ⟨g, ?_, e2⟩
      show (o2 (fL_says (some a) (nI t.length) 111 102 102 0 0 0 (sw h a f)) fun x19 h20 => some (x19, h20)) = _
      rw [e1]; rfl
    · obtain ⟨g, e1, e2⟩ := r_says ht hl hf (c1 := 111) (c2 := 110) (c3 := 0) (c4 := 0) (c5 := 0) (c6 := 0) (p := [111, 110]) (by decide) (by decide)
      rw [if_neg w, if_neg w]
      refine ⟨g, ?_, e2⟩
      show (o2 (fL_says (some a) (nI t.length) 111 110 0 0 0 0 (sw h a f)) fun x19 h20 => some (x19, h20)) = _
      rw [e1]; rfl
  · rw [if_neg q, if_neg q]
    exact ⟨f, rfl, hf⟩
theorem w_dg : ∀ n, n < 11 → (if nI n ≤ (9 : Int32) then some (0 : Int32) else (oNz (10 : Int32)).bind fun _ => some ((48 : Int32) + (nI n / (10 : Int32)))) = some (if n ≤ 9 then 0 else nI (48 + n / 10)) ∧ pos [if n ≤ 9 then 0 else nI (48 + n / 10), (48 : Int32) + (nI n - nI n / (10 : Int32) * (10 : Int32)), 0, 0, 0, 0] = dg n ∧ 0 < (dg n).length := by decide +kernel
/-- WORDS -/
theorem rl_words (x : RD B h m S) {i a : Nat} (hi : th S i) (h12 : (sL S 8 i).length ≤ 12) (ha : B + 95 ≤ a) (ht : hT h a = (20, 64)) (f : Nat → Int32) : ∃ f', fL_words (some (B + 90)) (some (B + 91)) (some (B + 92)) (some (B + 93)) (some (B + 94)) (nI i) (some a) (sw h a f) = some (nI (wd S i []).length, sw h a f') ∧ Sl f' 0 (wd S i []) := by
  have l10 := Nat.lt_of_lt_of_le hi.lt x.m10
  have n1 := q_wd1 x hi.lt
  have n2 := q_wd2 (S := S) i (wd1 S i [])
  have n3 := q_pt (wd2 S i (wd1 S i [])) (sL S 8 i)
  obtain ⟨f1, a1, a2⟩ := w_name x hi.lt ha ht f (sI S 2 i) (lvl S i)
  obtain ⟨f2, b1, b2⟩ := w_1 x hi.lt ht a2
  obtain ⟨f3, c1, c2⟩ := w_2 x hi ha ht (by omega) b2
  obtain ⟨f4, d1, d2⟩ := w_cont x hi.lt h12 ha ht (by omega) c2 (lvl S i)
  unfold fL_words
  rw [(x.sw ha f).kd hi.lt, sb, r_lev (x.sw ha f) hi.lt, sb, a1, sb]
  dsimp only
  rw [b1, sb]
  dsimp only
  rw [c1, sb]
  dsimp only
  rw [d1, sb]
  dsimp only
  unfold wd
  by_cases q : lvl S i = 2
  · rw [if_pos q]
    rcases Nat.eq_zero_or_pos i with z | z
    · rw [if_pos (show nI i ≤ 0 by rw [z]; decide), if_neg (show ¬ (lvl S i = 2 ∧ i ≠ 0) from fun w => w.2 z)]
      exact ⟨f4, rfl, d2⟩
    · rw [if_neg (nI_nle (by omega) (by omega)), if_pos (show lvl S i = 2 ∧ i ≠ 0 from ⟨q, by omega⟩), w_cnt (x.sw ha f4) z hi, sb]
      dsimp only
      have v1 : vis S (sK S (dpar S i)) ≤ 10 := by
        have := vis_10 x.t z hi (sK S (dpar S i)).length
        rw [take_all'] at this
        exact this
      have v2 := vis_10 x.t z hi (plc S i + 1)
      obtain ⟨p1, p2, p3⟩ := w_dg _ (show vis S ((sK S (dpar S i)).take (plc S i + 1)) < 11 by omega)
      obtain ⟨r1, r2, r3⟩ := w_dg _ (show vis S (sK S (dpar S i)) < 11 by omega)
      have m1 := q_pt (pt (wd2 S i (wd1 S i [])) (sL S 8 i)) (dg (vis S ((sK S (dpar S i)).take (plc S i + 1))))
      have m2 := q_pt (pt (pt (wd2 S i (wd1 S i [])) (sL S 8 i)) (dg (vis S ((sK S (dpar S i)).take (plc S i + 1))))) [111, 102]
      have m3 := q_dg (vis S ((sK S (dpar S i)).take (plc S i + 1)))
      have m4 : ([111, 102] : List Int32).length = 2 := rfl
      obtain ⟨f5, g1, g2⟩ := r_says ht (show (pt (wd2 S i (wd1 S i [])) (sL S 8 i)).length + 7 ≤ 64 by omega) d2 p2 p3
      obtain ⟨f6, i1, i2⟩ := r_says ht (show (pt (pt (wd2 S i (wd1 S i [])) (sL S 8 i)) (dg (vis S ((sK S (dpar S i)).take (plc S i + 1))))).length + 7 ≤ 64 by omega) g2 (c1 := 111) (c2 := 102) (c3 := 0) (c4 := 0) (c5 := 0) (c6 := 0) (p := [111, 102]) (by decide) (by decide)
      obtain ⟨f7, j1, j2⟩ := r_says ht (show (pt (pt (pt (wd2 S i (wd1 S i [])) (sL S 8 i)) (dg (vis S ((sK S (dpar S i)).take (plc S i + 1))))) [111, 102]).length + 7 ≤ 64 by omega) i2 r2 r3
      rw [o10] at p1 r1 ⊢
      rw [p1, sb, sb, g1, o2s, i1, o2s, r1, sb, sb, j1, o2s]
      exact ⟨f7, rfl, j2⟩
  · rw [if_neg q, if_neg (show ¬ (lvl S i = 2 ∧ i ≠ 0) from fun w => q w.1)]
    exact ⟨f4, rfl, d2⟩
end WRD

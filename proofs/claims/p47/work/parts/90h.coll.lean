/-! ===== the class's order is made anew ===== -/
theorem oAS_el {h : hp} {a i n v : Nat} (ht : hT h a = (22, n)) (hi : i < n) (hn : n < 1000) (hv : (hT h v).1 = 2) : oAS 22 2 (some a) (nI i) (some v) h = some (wR h a i (some v)) := by
  show (if (hT h a).1 = 22 ∧ inb (nI i) (hT h a).2 = true ∧ tyV h 2 (some v) = true then some (wR h a (nI i).toNatClampNeg (some v)) else none) = _
  rw [ht, if_pos ⟨rfl, inb_nI hi (by show n < 2 ^ 31; omega), decide_eq_true hv⟩, nI_clamp (by omega)]
theorem oAS_no {h : hp} {a i n : Nat} (ht : hT h a = (22, n)) (hi : i < n) (hn : n < 1000) : oAS 22 2 (some a) (nI i) none h = some (wR h a i none) := by
  show (if (hT h a).1 = 22 ∧ inb (nI i) (hT h a).2 = true ∧ tyV h 2 none = true then some (wR h a (nI i).toNatClampNeg none) else none) = _
  rw [ht, if_pos ⟨rfl, inb_nI hi (by show n < 2 ^ 31; omega), rfl⟩, nI_clamp (by omega)]
theorem ES.ag1 {S : SS} {E : Nat → Nat} {h h' : hp} {R : Nat} (x : ES S E h) (y : Ag [R] h h') (ho : ∀ j, j < made S → R < E j ∨ E j + 8 ≤ R) : ES S E h' :=
  ⟨fun i hi => (x.1 i hi).ag y (fun a ha => by rw [List.mem_singleton.mp ha]; exact ho i hi), x.2⟩
theorem e_size {S : SS} {E : Nat → Nat} {h : hp} (x : ES S E h) {i : Nat} (hi : i < made S) : fX2_size (E i) h = some (nI (sK S i).length) := by
  unfold fX2_size
  rw [x.cnt hi, sb]
theorem t_coll {S : SS} {E : Nat → Nat} (hW : WT S) (R : Nat) (ho : ∀ j, j < made S → R < E j ∨ E j + 8 ≤ R) : ∀ (n i : Nat), 40 - i ≤ n → th S i → ∀ (r d cnt : Nat) (h : hp), d ≤ i → 41 ≤ r + d → cnt + (ordF S 40 i).length ≤ 40 → ES S E h → hT h R = (22, 40) → ∃ h', fX7_collect r (some (E i)) (some R) (nI cnt) (nI d) h = some (nI (cnt + (ordF S 40 i).length), h') ∧ Ag [R] h h' ∧ (∀ k, k < cnt → hR h' R k = hR h R k) ∧ ∀ k, k < (ordF S 40 i).length → hR h' R (cnt + k) = some (E (gn (ordF S 40 i) k)) := by
  intro n
  induction n with
  | zero => intro i hn hi; have := hi.l40 hW; omega
  | succ n ih =>
    intro i hn hi r d cnt h hd hr hc x hR0
    have h40 := hi.l40 hW
    obtain ⟨r, rfl⟩ : ∃ r', r = r' + 1 := ⟨r - 1, by omega⟩
    show ∃ h', fX7_collect_b (fX7_collect r) (some (E i)) (some R) (nI cnt) (nI d) h = _ ∧ _
    have eo := ord_eq hW hi
    unfold fX7_collect_b
    rw [x.hid hi.lt, sb]
    by_cases q : sI S 12 i = 0
    · have hh : ¬ hid S i = true := fun z => of_decide_eq_true z q
      rw [if_neg hh] at eo
      rw [eo] at hc ⊢
      have h10 := (hW.kids hi).2.1
      have hln : (i :: (sK S i).flatMap (ordF S 40)).length = 1 + ((sK S i).flatMap (ordF S 40)).length := by rw [List.length_cons]; omega
      rw [hln] at hc
      rw [if_pos q, if_neg (show ¬ (40 : Int32) ≤ nI d from nI_ge (b := 40) (by omega) (by decide)), if_neg (nI_pos (by omega)), hgL hR0 (by decide), sb, if_pos (show nI cnt < nI 40 from nI_lt (by omega) (by decide)), oAS_el hR0 (show cnt < 40 by omega) (by decide) (x.t hi.lt), sb, nI_1]
      have g0 : Ag [R] h (wR h R cnt (some (E i))) := Ag.wR (List.mem_singleton.mpr rfl)
      have key : ∃ q, itr (fX7_collect_B37 (fX7_collect r) (some (E i)) (some R) (nI d)) FU (nI (cnt + 1), nI 0, wR h R cnt (some (E i))) = some q ∧ ∃ h', q = (nI (cnt + (i :: (sK S i).flatMap (ordF S 40)).length), h') ∧ Ag [R] h h' ∧ (∀ k, k < cnt → hR h' R k = hR h R k) ∧ ∀ k, k < (i :: (sK S i).flatMap (ordF S 40)).length → hR h' R (cnt + k) = some (E (gn (i :: (sK S i).flatMap (ordF S 40)) k)) := by
        refine itr_for (R := fun q => ∃ h', q = (nI (cnt + (i :: (sK S i).flatMap (ordF S 40)).length), h') ∧ Ag [R] h h' ∧ (∀ k, k < cnt → hR h' R k = hR h R k) ∧ ∀ k, k < (i :: (sK S i).flatMap (ordF S 40)).length → hR h' R (cnt + k) = some (E (gn (i :: (sK S i).flatMap (ordF S 40)) k))) (fun j a => ∃ h', a = (nI (cnt + (i :: ((sK S i).take j).flatMap (ordF S 40)).length), nI j, h') ∧ Ag [R] h h' ∧ (∀ k, k < cnt → hR h' R k = hR h R k) ∧ ∀ k, k < (i :: ((sK S i).take j).flatMap (ordF S 40)).length → hR h' R (cnt + k) = some (E (gn (i :: ((sK S i).take j).flatMap (ordF S 40)) k))) (sK S i).length (fun j a hj hX => ?_) (fun a hX => ?_) (FU_lt (by omega)) ⟨_, rfl, g0, fun k hk => hR_n _ _ _ (by omega), fun k hk => ?_⟩
        · obtain ⟨h1, rfl, g1, b1, b2⟩ := hX
          have x1 := x.ag1 g1 ho
          have hkid : gn (sK S i) j ∈ sK S i := gn_mem hj
          obtain ⟨k1, k2⟩ := hW.kid_gt hi hkid
          have hsplit : ((sK S i).take (j + 1)).flatMap (ordF S 40) = ((sK S i).take j).flatMap (ordF S 40) ++ ordF S 40 (gn (sK S i) j) := by
            rw [take_gn hj, List.flatMap_append, List.flatMap_singleton]
          have hle : (((sK S i).take (j + 1)).flatMap (ordF S 40)).length ≤ ((sK S i).flatMap (ordF S 40)).length := by
            have : (sK S i).flatMap (ordF S 40) = ((sK S i).take (j + 1)).flatMap (ordF S 40) ++ ((sK S i).drop (j + 1)).flatMap (ordF S 40) := by
              rw [← List.flatMap_append, List.take_append_drop]
            rw [this, List.length_append]; omega
          rw [hsplit, List.length_append] at hle
          generalize hP : ((sK S i).take j).flatMap (ordF S 40) = P at *
          obtain ⟨h2, a2, g2, c1, c2⟩ := ih (gn (sK S i) j) (by omega) k2 r (d + 1) (cnt + (i :: P).length) h1 (by omega) (by omega) (by rw [List.length_cons]; omega) x1 (by rw [g1.T]; exact hR0)
          refine ⟨(nI (cnt + (i :: (P ++ ordF S 40 (gn (sK S i) j))).length), nI (j + 1), h2), ?_, h2, by rw [hsplit], g1.tr g2, fun k hk => by rw [c1 k (by omega)]; exact b1 k hk, fun k hk => ?_⟩
          · unfold fX7_collect_B37
            rw [x1.ob hi.lt, sb]
            show (fX2_size (E i) h1).bind _ = _
            rw [e_size x1 hi.lt, sb, if_neg (show ¬ nI (sK S i).length ≤ nI j from nI_ge hj (by omega)), sb]
            show (fX2_child (E i) (nI j) h1).bind _ = _
            rw [e_child x1 hi.lt h10 hj, sb, if_neg (Option.some_ne_none _)]
            show o2 (fX7_collect r (some (E (gn (sK S i) j))) (some R) (nI (cnt + (i :: P).length)) (nI d + 1) h1) _ = _
            rw [nI_1 d, a2, o2s]
            show some (Sum.inl (nI _, nI j + 1, h2)) = _
            rw [nI_1, List.length_cons, List.length_cons, List.length_append, show cnt + (P.length + 1) + (ordF S 40 (gn (sK S i) j)).length = cnt + (P.length + (ordF S 40 (gn (sK S i) j)).length + 1) by omega]
          · rw [hsplit] at hk ⊢
            rw [← List.cons_append] at hk ⊢
            by_cases w : k < (i :: P).length
            · rw [gn_app w, c1 _ (by omega)]
              exact b2 k w
            · rw [List.length_append] at hk
              have hk2 := c2 (k - (i :: P).length) (by omega)
              rw [show cnt + (i :: P).length + (k - (i :: P).length) = cnt + k by omega] at hk2
              rw [hk2, ← gn_app2 (l := i :: P), show (i :: P).length + (k - (i :: P).length) = k by omega]
        · obtain ⟨h1, rfl, g1, b1, b2⟩ := hX
          have x1 := x.ag1 g1 ho
          rw [List.take_length] at b2
          refine ⟨_, ?_, h1, rfl, g1, b1, b2⟩
          unfold fX7_collect_B37
          rw [x1.ob hi.lt, sb]
          show (fX2_size (E i) h1).bind _ = _
          rw [e_size x1 hi.lt, sb, if_pos (show nI (sK S i).length ≤ nI (sK S i).length from Int32.le_refl _), List.take_length]
        · have k0 : k = 0 := by simpa using hk
          rw [k0, Nat.add_zero, hR_s]; rfl
      obtain ⟨q1, k1, h', rfl, k3, k4, k5⟩ := key
      refine ⟨h', ?_, k3, k4, k5⟩
      rw [show (0 : Int32) = nI 0 from rfl, k1, sb]
    · have hh : hid S i = true := decide_eq_true q
      rw [if_pos hh] at eo
      rw [if_neg q, eo]
      exact ⟨h, rfl, Ag.rf, fun k _ => rfl, fun k hk => absurd hk (Nat.not_lt_zero k)⟩
section RO
variable {B : Nat} {E : Nat → Nat} {S : SS} {li : List Int32} {od : List Nat} {h h' : hp}
/-- the tree's object and the row of the order are written anew -/
theorem RW.odr (x : RW B E S li od h) {l : List Nat} (y : Ag [B + 1, B + 11] h h') (hR1 : hR h' (B + 1) = hR h (B + 1)) (hI1 : ∀ f, f ≠ 5 → hI h' (B + 1) f = hI h (B + 1) f) (o : TO B l E h') : RW B E S li l h' := by
  obtain ⟨a1, a2, a3, a4, a5, a6, a7, a8, ⟨⟨l1, s1⟩, ⟨l2, s2⟩, ⟨l3, s3⟩⟩, a10, a11, a12⟩ := x
  have m : ∀ a ∈ [B + 1, B + 11], a = B + 1 ∨ a = B + 11 := by
    intro a ha
    simp only [List.mem_cons, List.not_mem_nil, or_false] at ha
    exact ha
  have nn : ∀ a, a ≠ B + 1 → a ≠ B + 11 → a ∉ [B + 1, B + 11] := fun a q1 q2 z => by have := m a z; omega
  refine ⟨⟨fun p hp => by rw [y.T]; exact a1.1 p hp, fun p hp => by rw [y.T]; exact a1.2.1 p hp, fun p hp => ?_⟩, by rw [y.1]; exact a2, a3.ag y (fun a ha => by have := m a ha; omega), fun i hi => (a4 i hi).ag y (fun a ha => ?_), ?_, o, a7.ag y (fun a ha => by have := m a ha; omega), a8.ag y (nn _ (by omega) (by omega)), ⟨⟨l1, s1.ag y (nn _ (by omega) (by omega)) (nn _ (by omega) (by omega))⟩, ⟨l2, s2.ag y (nn _ (by omega) (by omega)) (nn _ (by omega) (by omega))⟩, ⟨l3, s3.ag y (nn _ (by omega) (by omega)) (nn _ (by omega) (by omega))⟩⟩, a10.ag y (nn _ (by omega) (by omega)) (nn _ (by omega) (by omega)), a11.ag y (nn _ (by omega) (by omega)) (nn _ (by omega) (by omega)), a12.ag y (fun a ha => by have := m a ha; omega) (fun _ _ => rfl)⟩
  · by_cases q : p.1 = 1
    · rw [q, hR1, ← q]
      exact a1.2.2 p hp
    · have h2 : ∀ p ∈ fxP, p.1 = 0 ∨ p.1 = 1 ∨ p.1 = 12 ∨ p.1 = 13 ∨ p.1 = 27 ∨ p.1 = 76 ∨ p.1 = 79 ∨ p.1 = 80 := by decide
      have := h2 p hp
      rw [y.R (nn _ (by omega) (by omega))]
      exact a1.2.2 p hp
  · rcases m a ha with rfl | rfl
    · rcases Nat.eq_zero_or_pos i with z | z
      · subst z
        have := a2.1
        omega
      · have := (a2.2.2.1 i z hi).1
        omega
    · exact a2.far hi (by omega) (by omega)
  · obtain ⟨t1, t2, t3, t4⟩ := a5
    refine ⟨by rw [hI1 _ (by decide)]; exact t1, by rw [hI1 _ (by decide)]; exact t2, fun i hi => by rw [y.R (nn _ (by omega) (by omega))]; exact t3 i hi, fun i hi hj => by rw [y.R (nn _ (by omega) (by omega))]; exact t4 i hi hj⟩
theorem t_reorder (x : RW B E S li od h) (hW : WT S) : ∃ h', fX7_reorder (B + 1) h = some ((), h') ∧ RW B E S li (ord S) h' ∧ Ag [B + 1, B + 11] h h' := by
  have e0 : oGR 6 0 (some (B + 1)) h = some (some (B + 2)) := x.fp (by decide) (by decide)
  have e4 : oGR 6 4 (some (B + 1)) h = some (some (B + 11)) := x.fp (by decide) (by decide)
  have hl := ord_len hW
  obtain ⟨h1, a1, g1, b1, b2⟩ := t_coll hW (B + 11) (fun j hj => x.2.1.far hj (by omega) (by omega)) 40 0 (by omega) hW.2.1 51 0 0 h (Nat.le_refl _) (by omega) (by rw [Nat.zero_add]; exact hl) x.es (x.1.a 11 22 40 (by decide))
  rw [x.2.1.1, Nat.zero_add] at a1
  have t1 : (hT h1 (B + 1)).1 = 6 + 1 := by rw [g1.T]; exact x.1.t 1 7 (by decide)
  have g2 : Ag [B + 1, B + 11] h (wI h1 (B + 1) 5 (nI (ord S).length)) := (g1.mono (by simp)).tr (Ag.wI (by simp))
  refine ⟨wI h1 (B + 1) 5 (nI (ord S).length), ?_, x.odr g2 ?_ (fun f hf => ?_) ⟨hI_s _ _ _ _, fun k hk => ?_⟩, g2⟩
  · unfold fX7_reorder
    rw [e0, sb, e4, sb, show (0 : Int32) = nI 0 from rfl, a1, o2s]
    show (oPI 6 5 (some (B + 1)) (nI (ord S).length) h1).bind _ = _
    rw [oPI_ok t1, sb]
  · exact g1.R (by simp)
  · rw [hI_n _ _ _ hf]
    have : hI h1 (B + 1) = hI h (B + 1) := g1.I (by simp)
    rw [this]
  · have := b2 k hk
    rw [Nat.zero_add] at this
    exact this
end RO

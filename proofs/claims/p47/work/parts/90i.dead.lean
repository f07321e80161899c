/-! ===== the class's elements are taken out ===== -/
theorem up2_cc {α : Type} (f : Nat → Nat → α) {a b : Nat} (k j : Nat) (v w : α) (hb : a ≠ b) : up2 (up2 f a k v) b j w = up2 (up2 f b j w) a k v := by
  funext c i
  rw [up2_g, up2_g, up2_g, up2_g]
  by_cases q : c = b ∧ i = j
  · rw [if_pos q, if_neg (fun z => hb (z.1.symm.trans q.1)), if_pos q]
  · rw [if_neg q]
    by_cases q2 : c = a ∧ i = k
    · rw [if_pos q2, if_pos q2]
    · rw [if_neg q2, if_neg q2, if_neg q]
theorem wSI_cc (S : SS) {a b : Nat} (k j : Nat) (v w : Int32) (hb : a ≠ b) : wSI (wSI S a k v) b j w = wSI (wSI S b j w) a k v := by
  show (up2 (up2 S.1 a k v) b j w, S.2) = (up2 (up2 S.1 b j w) a k v, S.2)
  rw [up2_cc S.1 k j v w hb]
def dd1 (x : Nat) (S : SS) (j : Nat) : SS := if sI S 1 j ≠ 0 ∧ wthn S j x = true then wSI S 1 j 0 else S
def ddF (S : SS) (x n : Nat) : SS := (List.range n).foldl (dd1 x) S
theorem ddF_s (S : SS) (x n : Nat) : ddF S x (n + 1) = dd1 x (ddF S x n) n := by
  unfold ddF
  rw [List.range_succ, List.foldl_append]; rfl
theorem sd_dd1 (S : SS) (x j : Nat) : Sd [1] [] [] S (dd1 x S j) := Sd.if (Sd.I (by decide)) Sd.rf
theorem sd_ddF (S : SS) (x : Nat) : ∀ n, Sd [1] [] [] S (ddF S x n)
  | 0 => Sd.rf
  | n + 1 => by rw [ddF_s]; exact (sd_ddF S x n).tr (sd_dd1 _ _ _)
theorem ddF_n (S : SS) (x : Nat) : ∀ n j, n ≤ j → sI (ddF S x n) 1 j = sI S 1 j
  | 0, _, _ => rfl
  | n + 1, j, hj => by
    rw [ddF_s]
    unfold dd1
    split
    · rw [sI_I, if_neg (fun z => by have := z.2; omega)]
      exact ddF_n S x n j (by omega)
    · exact ddF_n S x n j (by omega)
theorem dd1_swl (T : SS) (x r j : Nat) : dd1 x (swl T r) j = swl (dd1 x T j) r := by
  unfold dd1
  rw [(sd_swl T r).i 1 rfl, wthn_cg ((sd_swl T r).i 3 rfl)]
  by_cases q : sI T 1 j ≠ 0 ∧ wthn T j x = true
  · rw [if_pos q, if_pos q]
    unfold swl
    by_cases w : (sL T 17 r).length = 0
    · rw [if_pos w, if_pos (show (sL (wSI T 1 j 0) 17 r).length = 0 from w)]
    · rw [if_neg w, if_neg (show ¬ (sL (wSI T 1 j 0) 17 r).length = 0 from w), sI_N (show (45 : Nat) ≠ 1 by decide)]
      show wSL (wSI (wSI T 45 0 (sI T 45 0 + 1)) 1 j 0) 17 r [] = _
      rw [wSI_cc T 0 j _ _ (show (45 : Nat) ≠ 1 by decide)]
  · rw [if_neg q, if_neg q]
theorem ddF_swl (T : SS) (x r : Nat) : ∀ n, ddF (swl T r) x n = swl (ddF T x n) r
  | 0 => rfl
  | n + 1 => by rw [ddF_s, ddF_s, ddF_swl T x r n, dd1_swl]
theorem rmF_eq (S : SS) (x : Nat) : ∀ n, rmF S x n = ddF (fgF S x n) x n
  | 0 => rfl
  | n + 1 => by
    rw [rmF_s, rmF_eq S x n, fgF_s, ddF_s]
    have hs := sd_ddF (fgF S x n) x n
    have e1 := ddF_n (fgF S x n) x n n (Nat.le_refl _)
    have e2 : wthn (ddF (fgF S x n) x n) n x = wthn (fgF S x n) n x := wthn_cg (hs.i 3 rfl) n x
    unfold rm1 fg1
    rw [e1, e2]
    by_cases q : sI (fgF S x n) 1 n ≠ 0 ∧ wthn (fgF S x n) n x = true
    · rw [if_pos q, if_pos q, ddF_swl, dd1_swl]
      unfold dd1
      rw [e1, e2, if_pos q]
    · rw [if_neg q, if_neg q]
      unfold dd1
      rw [e1, e2, if_neg q]
theorem cnt_off {p p' : Nat → Bool} {j : Nat} (hj : p j = true) (hj' : p' j = false) (he : ∀ k, k ≠ j → p' k = p k) : ∀ n, (List.range n).countP p = (List.range n).countP p' + (if j < n then 1 else 0)
  | 0 => rfl
  | n + 1 => by
    rw [List.range_succ, List.countP_append, List.countP_append, cnt_off hj hj' he n, List.countP_singleton, List.countP_singleton]
    by_cases q : n = j
    · rw [q, hj, hj', if_neg (Nat.lt_irrefl j), if_pos (Nat.lt_succ_self j)]; rfl
    · rw [he n q]
      by_cases w : j < n
      · rw [if_pos w, if_pos (show j < n + 1 by omega)]; omega
      · rw [if_neg w, if_neg (show ¬ j < n + 1 by omega)]; omega
theorem nTh_off {S : SS} {j : Nat} (hj : j < made S) (h1 : sI S 1 j ≠ 0) : nTh S = nTh (wSI S 1 j 0) + 1 := by
  unfold nTh
  have hs : Sd [1] [] [] S (wSI S 1 j 0) := Sd.I (by decide)
  rw [made_cg (hs.i 0 rfl)]
  have := cnt_off (p := fun k => decide (sI S 1 k ≠ 0)) (p' := fun k => decide (sI (wSI S 1 j 0) 1 k ≠ 0)) (j := j) (decide_eq_true h1) (by
    show decide (sI (wSI S 1 j 0) 1 j ≠ 0) = false
    rw [sI_I, if_pos ⟨rfl, rfl⟩]; rfl) (fun k hk => by
    show decide (sI (wSI S 1 j 0) 1 k ≠ 0) = _
    rw [sI_I, if_neg (fun z => hk z.2)]) (made S)
  rw [if_pos hj] at this
  exact this
theorem nTh_dd {S : SS} (x : Nat) : ∀ n, n ≤ made S → nTh (ddF S x n) + (List.range n).countP (fun j => decide (sI S 1 j ≠ 0) && wthn S j x) = nTh S
  | 0, _ => rfl
  | n + 1, hn => by
    have ih := nTh_dd (S := S) x n (by omega)
    have hs := sd_ddF S x n
    have e1 := ddF_n S x n n (Nat.le_refl _)
    rw [ddF_s, List.range_succ, List.countP_append, List.countP_singleton]
    unfold dd1
    rw [e1, wthn_cg (hs.i 3 rfl)]
    by_cases q : sI S 1 n ≠ 0 ∧ wthn S n x = true
    · have h2 := nTh_off (S := ddF S x n) (j := n) (by rw [made_cg (hs.i 0 rfl)]; omega) (by rw [e1]; exact q.1)
      rw [if_pos q, decide_eq_true q.1, q.2, Bool.true_and, if_pos rfl]
      omega
    · have hb : (decide (sI S 1 n ≠ 0) && wthn S n x) = false := by
        cases hc : (decide (sI S 1 n ≠ 0) && wthn S n x) with
        | true =>
          rw [Bool.and_eq_true] at hc
          exact absurd ⟨of_decide_eq_true hc.1, hc.2⟩ q
        | false => rfl
      rw [if_neg q, hb, if_neg (by decide)]
      omega
section TX
variable {B : Nat} {E : Nat → Nat} {S : SS} {li : List Int32} {od : List Nat} {h h' : hp}
/-- the tree's numbers and the row of the elements are written anew -/
theorem RW.tre (x : RW B E S li od h) {S' : SS} (y : Ag [B + 1, B + 10] h h') (hR1 : hR h' (B + 1) = hR h (B + 1)) (hI1 : ∀ f, f ≠ 2 → f ≠ 3 → hI h' (B + 1) f = hI h (B + 1) f) (hs : Sd [1] [] [] S S') (t : TR B S' E h') : RW B E S' li od h' := by
  obtain ⟨a1, a2, a3, a4, a5, a6, a7, a8, ⟨⟨l1, s1⟩, ⟨l2, s2⟩, ⟨l3, s3⟩⟩, a10, a11, a12⟩ := x
  have m : ∀ a ∈ [B + 1, B + 10], a = B + 1 ∨ a = B + 10 := by
    intro a ha
    simp only [List.mem_cons, List.not_mem_nil, or_false] at ha
    exact ha
  have nn : ∀ a, a ≠ B + 1 → a ≠ B + 10 → a ∉ [B + 1, B + 10] := fun a q1 q2 z => by have := m a z; omega
  refine ⟨⟨fun p hp => by rw [y.T]; exact a1.1 p hp, fun p hp => by rw [y.T]; exact a1.2.1 p hp, fun p hp => ?_⟩, by rw [made_cg (hs.i 0 rfl), y.1]; exact a2, ⟨fun p hp => ?_, fun z => ?_, fun z => ?_, fun k hk => ?_⟩, fun i hi => ?_, t, ⟨by rw [hI1 _ (by decide) (by decide)]; exact a6.1, fun k hk => by rw [y.R (nn _ (by omega) (by omega))]; exact a6.2 k hk⟩, (a7.ag y (fun a ha => by have := m a ha; omega)).sd (fun k hk => hs.1 k ?_) (fun k _ => hs.2.1 k List.not_mem_nil) (fun k _ => hs.2.2.1 k List.not_mem_nil), (a8.ag y (nn _ (by omega) (by omega))).sd (hs.i 20 rfl) (hs.i 21 rfl), ⟨⟨l1, s1.ag y (nn _ (by omega) (by omega)) (nn _ (by omega) (by omega))⟩, ⟨l2, s2.ag y (nn _ (by omega) (by omega)) (nn _ (by omega) (by omega))⟩, ⟨l3, s3.ag y (nn _ (by omega) (by omega)) (nn _ (by omega) (by omega))⟩⟩, a10.ag y (nn _ (by omega) (by omega)) (nn _ (by omega) (by omega)), ?_, a12.ag y (fun a ha => by have := m a ha; omega) (hs.big rfl)⟩
  · by_cases q : p.1 = 1
    · rw [q, hR1, ← q]
      exact a1.2.2 p hp
    · have h2 : ∀ p ∈ fxP, p.1 = 0 ∨ p.1 = 1 ∨ p.1 = 12 ∨ p.1 = 13 ∨ p.1 = 27 ∨ p.1 = 76 ∨ p.1 = 79 ∨ p.1 = 80 := by decide
      have := h2 p hp
      rw [y.R (nn _ (by omega) (by omega))]
      exact a1.2.2 p hp
  · have : ∀ p ∈ fxI, p.1 ≠ 1 ∧ p.1 ≠ 10 ∧ p.2.2 ∉ [1] := by decide
    obtain ⟨u1, u2, u3⟩ := this p hp
    rw [y.I (nn _ (by omega) (by omega)), hs.1 _ u3]
    exact a3.1 p hp
  · rw [hs.i 22 rfl] at z
    rw [y.I (nn _ (by omega) (by omega)), hs.i 23 rfl, hs.i 24 rfl]
    exact a3.2.1 z
  · rw [hs.i 26 rfl] at z
    rw [y.I (nn _ (by omega) (by omega)), hs.i 27 rfl]
    exact a3.2.2.1 z
  · rw [y.I (nn _ (by omega) (by omega)), hs.i 42 rfl]
    exact a3.2.2.2 k hk
  · rw [made_cg (hs.i 0 rfl)] at hi
    refine ((a4 i hi).ag y (fun a ha => ?_)).sd (fun k hk => hs.1 k ?_) (fun k _ => hs.2.1 k List.not_mem_nil) hs.2.2.2
    · rcases m a ha with rfl | rfl
      · rcases Nat.eq_zero_or_pos i with z | z
        · subst z
          have := a2.1
          omega
        · have := (a2.2.2.1 i z hi).1
          omega
      · exact a2.far hi (by omega) (by omega)
    · simp only [List.mem_cons, List.not_mem_nil, or_false] at hk ⊢
      omega
  · simp only [List.mem_cons, List.not_mem_nil, or_false] at hk ⊢
    omega
  · rw [hs.l 18 rfl]
    exact a11.ag y (nn _ (by omega) (by omega)) (nn _ (by omega) (by omega))
theorem RW.dead (x : RW B E S li od h) {j : Nat} (hj : j < made S) (h1 : sI S 1 j ≠ 0) (hm : made S ≤ 40) : RW B E (wSI S 1 j 0) li od (wI (wR h (B + 10) j none) (B + 1) 3 (nI (nTh S) - 1)) := by
  have y : Ag [B + 1, B + 10] h (wI (wR h (B + 10) j none) (B + 1) 3 (nI (nTh S) - 1)) := (Ag.wR (by simp)).tr (Ag.wI (by simp))
  have hs : Sd [1] [] [] S (wSI S 1 j 0) := Sd.I (by decide)
  obtain ⟨t1, t2, t3, t4⟩ := x.2.2.2.2.1
  have hRo : ∀ a, a ≠ B + 10 → hR (wI (wR h (B + 10) j none) (B + 1) 3 (nI (nTh S) - 1)) a = hR h a := fun a ha => hR_o h j none ha
  have hR10 : ∀ i : Nat, hR (wI (wR h (B + 10) j none) (B + 1) 3 (nI (nTh S) - 1)) (B + 10) i = if i = j then none else hR h (B + 10) i := fun i => by
    by_cases q : i = j
    · rw [if_pos q, q]
      exact hR_s h (B + 10) j none
    · rw [if_neg q]
      exact hR_n h (B + 10) none q
  refine x.tre y (hRo _ (by omega)) (fun f q1 q2 => hI_n _ _ _ q2) hs ⟨?_, ?_, fun i hi => ?_, fun i hi hi2 => ?_⟩
  · rw [hI_n _ _ _ (by decide), made_cg (hs.i 0 rfl)]
    exact t1
  · rw [hI_s, nTh_off hj h1, show (1 : Int32) = nI 1 from rfl, nI_sub (by omega), Nat.add_sub_cancel]
  · rw [made_cg (hs.i 0 rfl)] at hi
    rw [hR10 i]
    by_cases q : i = j
    · rw [if_pos q, q, sI_I, if_pos (show 1 = 1 ∧ j = j from ⟨rfl, rfl⟩), if_pos rfl]
    · rw [if_neg q, sI_I, if_neg (show ¬ (1 = 1 ∧ i = j) from fun z => q z.2)]
      exact t3 i hi
  · rw [made_cg (hs.i 0 rfl)] at hi
    rw [hR10 i, if_neg (by omega)]
    exact t4 i hi hi2
theorem t_dead (x : RW B E S li od h) (hP : PW S) {y : Nat} (hy : y < made S) (c2 : Int32) : ∃ h', itr (fX7_takeOut_B7 (B + 1) (some (E y)) c2) FU (nI 0, h) = some h' ∧ RW B E (ddF S y (made S)) li od h' := by
  have h40 := hP.2.1
  refine itr_for (R := fun h' => RW B E (ddF S y (made S)) li od h') (fun j a => ∃ h', a = (nI j, h') ∧ RW B E (ddF S y (min j (made S))) li od h') 40 (fun j a hj hX => ?_) (fun a hX => ?_) (FU_lt (by omega)) ⟨h, rfl, by rw [Nat.zero_min]; exact x⟩
  · obtain ⟨h', rfl, x1⟩ := hX
    have hs := sd_ddF S y (min j (made S))
    have hm : made (ddF S y (min j (made S))) = made S := made_cg (hs.i 0 rfl)
    have e1 : oGR 6 1 (some (B + 1)) h' = some (some (B + 10)) := x1.fp (by decide) (by decide)
    have ht := x1.1.a 10 22 40 (by decide)
    obtain ⟨t1, t2, t3, t4⟩ := x1.2.2.2.2.1
    unfold fX7_takeOut_B7
    show ∃ a', ((oGR 6 1 (some (B + 1)) h').bind _ = _) ∧ _
    rw [e1, sb]
    show ∃ a', ((oLen (some (B + 10)) h').bind _ = _) ∧ _
    rw [hgL ht (by decide), sb, if_neg (show ¬ nI 40 ≤ nI j from nI_ge hj (by decide)), sb]
    show ∃ a', ((oAL 22 (some (B + 10)) (nI j) h').bind _ = _) ∧ _
    rw [hgA ht hj (by decide), sb]
    by_cases q : j < made S ∧ sI S 1 j ≠ 0
    · have hmin : min j (made S) = j := Nat.min_eq_left (by omega)
      have hmin2 : min (j + 1) (made S) = j + 1 := Nat.min_eq_left (by omega)
      rw [hmin] at x1 hs hm t1 t2 t3 t4
      have hj1 : j < made (ddF S y j) := by rw [hm]; exact q.1
      have h1j := ddF_n S y j j (Nat.le_refl _)
      have ej : hR h' (B + 10) j = some (E j) := by rw [t3 j hj1, h1j, if_neg q.2]
      rw [ej, if_neg (Option.some_ne_none _)]
      show ∃ a', ((oOb 1 (some (E j)) h').bind _ = _) ∧ _
      rw [x1.es.ob hj1, sb]
      show ∃ a', ((fX2_isWithin (E j) (some (E y)) h').bind _ = _) ∧ _
      rw [e_within x1.es (PW.cg (hs.i 0 rfl) (hs.i 3 rfl) hP) hj1 (by rw [hm]; exact hy), sb, bI_i, wthn_cg (hs.i 3 rfl), hmin2, ddF_s]
      unfold dd1
      rw [h1j, wthn_cg (hs.i 3 rfl)]
      by_cases w : wthn S j y = true
      · have x2 := x1.dead hj1 (by rw [h1j]; exact q.2) (by rw [hm]; exact h40)
        rw [if_pos w, if_pos ⟨q.2, w⟩, sb]
        refine ⟨(nI (j + 1), _), ?_, _, rfl, x2⟩
        show (oAS 22 2 (some (B + 10)) (nI j) none h').bind _ = _
        rw [oAS_no ht hj (by decide), sb]
        show (oGI 6 3 (some (B + 1)) (wR h' (B + 10) j none)).bind _ = _
        rw [hgI (show (hT (wR h' (B + 10) j none) (B + 1)).1 = 6 + 1 from x1.1.t 1 7 (by decide)) (show hI (wR h' (B + 10) j none) (B + 1) 3 = nI (nTh (ddF S y j)) from t2), sb]
        show (oPI 6 3 (some (B + 1)) (nI (nTh (ddF S y j)) - 1) (wR h' (B + 10) j none)).bind _ = _
        rw [oPI_ok (show (hT (wR h' (B + 10) j none) (B + 1)).1 = 6 + 1 from x1.1.t 1 7 (by decide)), sb]
        show some (Sum.inl (nI j + 1, _)) = _
        rw [nI_1]
      · rw [if_neg w, if_neg (fun z => w z.2)]
        refine ⟨(nI (j + 1), h'), ?_, h', rfl, x1⟩
        show some (Sum.inl (nI j + 1, h')) = _
        rw [nI_1]
    · have ej : hR h' (B + 10) j = none := by
        by_cases w : j < made S
        · have w0 : sI S 1 j = 0 := Classical.byContradiction (fun z => q ⟨w, z⟩)
          rw [t3 j (by rw [hm]; exact w), Nat.min_eq_left (show j ≤ made S by omega), ddF_n S y j j (Nat.le_refl _), if_pos w0]
        · exact t4 j (by rw [hm]; omega) hj
      rw [ej, if_pos rfl]
      refine ⟨(nI (j + 1), h'), ?_, h', rfl, ?_⟩
      · show some (Sum.inl (nI j + 1, h')) = _
        rw [nI_1]
      · by_cases w : j < made S
        · have w0 : sI S 1 j = 0 := Classical.byContradiction (fun z => q ⟨w, z⟩)
          have hmin : min j (made S) = j := Nat.min_eq_left (by omega)
          have hmin2 : min (j + 1) (made S) = j + 1 := Nat.min_eq_left (by omega)
          rw [hmin] at x1
          rw [hmin2, ddF_s]
          unfold dd1
          rw [ddF_n S y j j (Nat.le_refl _), if_neg (fun z => z.1 w0)]
          exact x1
        · rw [Nat.min_eq_right (show made S ≤ j + 1 by omega)]
          rw [Nat.min_eq_right (show made S ≤ j by omega)] at x1
          exact x1
  · obtain ⟨h', rfl, x1⟩ := hX
    rw [Nat.min_eq_right h40] at x1
    have e1 : oGR 6 1 (some (B + 1)) h' = some (some (B + 10)) := x1.fp (by decide) (by decide)
    refine ⟨h', ?_, x1⟩
    unfold fX7_takeOut_B7
    show (oGR 6 1 (some (B + 1)) h').bind _ = _
    rw [e1, sb]
    show (oLen (some (B + 10)) h').bind _ = _
    rw [hgL (x1.1.a 10 22 40 (by decide)) (by decide), sb, if_pos (show nI 40 ≤ nI 40 from Int32.le_refl _)]
/-- an element's children are written anew -/
theorem RW.wkids (x : RW B E S li od h) {p : Nat} (hp : p < made S) {l : List Nat} (y : Ag [E p, E p + 1] h h') (hR1 : hR h' (E p) = hR h (E p)) (hI1 : ∀ f, f ≠ 4 → hI h' (E p) f = hI h (E p) f) (h4 : hI h' (E p) 4 = nI l.length) (hk : ∀ k, k < l.length → hR h' (E p + 1) k = some (E (gn l k))) : RW B E (wSK S p l) li od h' := by
  have m : ∀ a ∈ [E p, E p + 1], a = E p ∨ a = E p + 1 := by
    intro a ha
    simp only [List.mem_cons, List.not_mem_nil, or_false] at ha
    exact ha
  have nn : ∀ a, a ≠ E p → a ≠ E p + 1 → a ∉ [E p, E p + 1] := fun a q1 q2 z => by have := m a z; omega
  refine x.elm hp (y.toE (fun a ha => by have := m a ha; omega)) AtE.K ?_
  obtain ⟨a1, a2, ⟨b1, b2, b3, b4, b5, b6, b7, b8, b9⟩, ⟨c1, c2, c3, c4, c5, c6⟩, a5, a6, a7⟩ := x.2.2.2.1 p hp
  have hK : sK (wSK S p l) p = l := if_pos rfl
  refine ⟨by rw [y.T]; exact a1, by rw [y.T]; exact a2, ?_, ?_, a5.ag y (nn _ (by omega) (by omega)) (nn _ (by omega) (by omega)), a6.ag y (nn _ (by omega) (by omega)) (nn _ (by omega) (by omega)), a7.ag y (nn _ (by omega) (by omega)) (nn _ (by omega) (by omega))⟩
  · unfold EI
    rw [hK, hI1 0 (by decide), hI1 1 (by decide), hI1 7 (by decide), hI1 8 (by decide), hI1 9 (by decide), hI1 10 (by decide), hI1 11 (by decide), hI1 13 (by decide), hI1 14 (by decide)]
    exact ⟨b1, b2, b3, b4, b5, b6, b7, h4, b9⟩
  · unfold ER
    rw [hK, hR1]
    exact ⟨c1, c2, c3, c4, c5, hk⟩
end TX

/-! ===== the law goes on in the reading order, back, and seeks in it ===== -/
theorem sub_flatMap {f g : Nat → List Nat} : ∀ {l : List Nat}, (∀ x ∈ l, (f x).Sublist (g x)) → (l.flatMap f).Sublist (l.flatMap g)
  | [], _ => by simp
  | a :: l, h => by
    rw [List.flatMap_cons, List.flatMap_cons]
    exact (h a List.mem_cons_self).append (sub_flatMap (fun x hx => h x (List.mem_cons_of_mem _ hx)))
theorem ord_sub (S : SS) : ∀ (f i : Nat), (ordF S f i).Sublist (allF S f i)
  | 0, i => by exact List.nil_sublist _
  | f + 1, i => by
    show (if hid S i = true then [] else i :: (sK S i).flatMap (ordF S f)).Sublist (i :: (sK S i).flatMap (allF S f))
    split
    · exact List.nil_sublist _
    · exact (sub_flatMap (fun x _ => ord_sub S f x)).cons_cons i
theorem ord_nd {S : SS} (h : WT S) : (ord S).Nodup := List.Nodup.sublist (ord_sub S 40 0) (all_nodup h 40 0 h.2.1)
theorem idx_gk {l : List Nat} (h : l.Nodup) {k : Nat} (hk : k < l.length) : l.idxOf (gn l k) = k := by
  rw [gn_of hk]
  exact h.idxOf_getElem k hk
theorem ord_0 {S : SS} (h : WT S) : 0 < (ord S).length ∧ gn (ord S) 0 = 0 := by
  have e : ord S = if hid S 0 = true then [] else 0 :: (sK S 0).flatMap (ordF S 40) := ord_eq h h.2.1
  have hh : hid S 0 = false := by unfold hid; rw [h.2.2.2.1]; rfl
  rw [hh, if_neg (by decide)] at e
  rw [e]
  exact ⟨by simp, rfl⟩
theorem fnd_head {S : SS} (h : WT S) : ∀ {l : List Nat}, (∀ j ∈ l, th S j) → (l.flatMap (ordF S 40)).head? = fnd S l ∧ (fnd S l = none → l.flatMap (ordF S 40) = [])
  | [], _ => ⟨rfl, fun _ => rfl⟩
  | a :: l, hl => by
    have ih := fnd_head h (l := l) (fun j hj => hl j (List.mem_cons_of_mem _ hj))
    have ha := ord_eq h (hl a List.mem_cons_self)
    unfold fnd at ih ⊢
    rw [List.flatMap_cons, ha, List.find?_cons]
    cases hh : hid S a
    · rw [if_neg (by decide)]
      exact ⟨rfl, fun z => nomatch z⟩
    · rw [if_pos rfl]
      exact ih
/-- what stands in the reading order right behind i -/
def nxO (S : SS) (i : Nat) : Option Nat := ((ord S).drop ((ord S).idxOf i + 1)).head?
section ORD
variable {B : Nat} {h : hp} {m : LY} {S : SS}
theorem kidL_fnd (S : SS) (p n : Nat) : kidL S p n 0 = fnd S ((sK S p).drop n) := by
  unfold kidL fnd
  congr 1
theorem nx_l (x : RD B h m S) : ∀ (n i : Nat), i < n → th S i → shn S i = true → ∃ A R, ord S = A ++ (ordF S 40 i ++ R) ∧ ∀ fu, i + 2 ≤ fu → itr (fL_next_B12 (some (B + 90)) (some (B + 91)) h) fu (nI i, -1) = some (rI R.head?) := by
  intro n
  induction n with
  | zero => intro i hi; exact absurd hi (Nat.not_lt_zero i)
  | succ n ih =>
    intro i hi ht hs
    have l10 := Nat.lt_of_lt_of_le ht.lt x.m10
    rcases Nat.eq_zero_or_pos i with z | z
    · subst z
      refine ⟨[], [], by rw [List.append_nil]; rfl, fun fu hfu => ?_⟩
      obtain ⟨f1, rfl⟩ : ∃ f1, fu = f1 + 1 := ⟨fu - 1, by omega⟩
      refine itr_end ?_ f1
      unfold fL_next_B12
      dsimp only
      rw [if_neg (by decide), if_pos (by decide)]
      rfl
    · obtain ⟨u1, u2⟩ := x.t.up z ht
      obtain ⟨w1, w2⟩ := shn_up x.t z ht hs
      have hlt := (x.pp z ht.lt).2
      obtain ⟨A, R, e1, e2⟩ := ih (dpar S i) (by omega) u1 w1
      have hp : hid S (dpar S i) = false := by
        rcases Nat.eq_zero_or_pos (dpar S i) with y | y
        · rw [y]; unfold hid; rw [x.t.2.2.2.1]; rfl
        · exact (shn_up x.t y u1 w1).2
      have o1 := ord_eq x.t u1
      rw [hp, if_neg (by decide)] at o1
      have pl := plc_gn x.t z ht
      have hsp : sK S (dpar S i) = (sK S (dpar S i)).take (plc S i) ++ (i :: (sK S (dpar S i)).drop (plc S i + 1)) := by
        conv => lhs; rw [← List.take_append_drop (plc S i) (sK S (dpar S i))]
        congr 1
        rw [List.drop_eq_getElem_cons pl.1]
        congr 1
        rw [← gn_of pl.1]; exact pl.2
      have o2 : (sK S (dpar S i)).flatMap (ordF S 40) = ((sK S (dpar S i)).take (plc S i)).flatMap (ordF S 40) ++ (ordF S 40 i ++ ((sK S (dpar S i)).drop (plc S i + 1)).flatMap (ordF S 40)) := by
        conv => lhs; rw [hsp]
        rw [List.flatMap_append, List.flatMap_cons]
      refine ⟨A ++ (dpar S i :: ((sK S (dpar S i)).take (plc S i)).flatMap (ordF S 40)), ((sK S (dpar S i)).drop (plc S i + 1)).flatMap (ordF S 40) ++ R, ?_, fun fu hfu => ?_⟩
      · rw [e1, o1, o2]
        simp [List.append_assoc]
      · obtain ⟨f1, rfl⟩ : ∃ f1, fu = f1 + 1 := ⟨fu - 1, by omega⟩
        have p10 := plc_10 x.t z ht
        have e : fL_next_B12 (some (B + 90)) (some (B + 91)) h (nI i, -1) = some (.inl (nI (dpar S i), rI (kidL S (dpar S i) (plc S i + 1) 0))) := by
          unfold fL_next_B12
          dsimp only
          rw [if_neg (by decide), if_neg (nI_nle z (by omega)), x.pr ht.lt, sb, x.pl z ht, sb, (x.pp z ht.lt).1, nI_1, r_kid x u1 (by omega), sb, sb]
        rw [itr_step e, kidL_fnd]
        have hk := fnd_head x.t (l := (sK S (dpar S i)).drop (plc S i + 1)) (fun j hj => ((x.t.kids u1).2.2 j (List.mem_of_mem_drop hj)).1)
        cases hf : fnd S ((sK S (dpar S i)).drop (plc S i + 1)) with
        | none =>
          rw [hk.2 hf, List.nil_append]
          exact e2 f1 (by omega)
        | some j =>
          obtain ⟨f2, rfl⟩ : ∃ f2, f1 = f2 + 1 := ⟨f1 - 1, by omega⟩
          have hj : j < 2 ^ 31 := by
            have : j ∈ (sK S (dpar S i)).drop (plc S i + 1) := List.mem_of_find?_eq_some hf
            have := ((x.t.kids u1).2.2 j (List.mem_of_mem_drop this)).1.lt
            have := x.m10
            omega
          have e3 : fL_next_B12 (some (B + 90)) (some (B + 91)) h (nI (dpar S i), rI (some j)) = some (.inr (nI j)) := by
            unfold fL_next_B12
            dsimp only
            rw [if_pos (show (0 : Int32) ≤ rI (some j) from nI_pos' hj)]
            rfl
          rw [itr_end e3, List.head?_append, hk.1, hf]
          rfl
theorem r_nextA (x : RD B h m S) {i : Nat} (ht : th S i) (hs : shn S i = true) : fL_next (some (B + 90)) (some (B + 91)) (nI i) h = some (rI (nxO S i)) := by
  have l10 := Nat.lt_of_lt_of_le ht.lt x.m10
  obtain ⟨A, R, e1, e2⟩ := nx_l x (i + 1) i (by omega) ht hs
  have hh : hid S i = false := by
    rcases Nat.eq_zero_or_pos i with y | y
    · rw [y]; unfold hid; rw [x.t.2.2.2.1]; rfl
    · exact (shn_up x.t y ht hs).2
  have o1 := ord_eq x.t ht
  rw [hh, if_neg (by decide)] at o1
  rw [o1] at e1
  have hnd := ord_nd x.t
  rw [e1] at hnd
  have hA : i ∉ A := fun hm => (List.nodup_append.mp hnd).2.2 i hm i (by simp) rfl
  have hnx : nxO S i = ((sK S i).flatMap (ordF S 40) ++ R).head? := by
    unfold nxO
    rw [e1, idx_app hA, List.cons_append, List.idxOf_cons_self, Nat.add_zero]
    rw [show A ++ i :: ((sK S i).flatMap (ordF S 40) ++ R) = (A ++ [i]) ++ ((sK S i).flatMap (ordF S 40) ++ R) by simp, List.drop_append_of_le_length (by simp), List.drop_of_length_le (by simp), List.nil_append]
  have hk := fnd_head x.t (l := sK S i) (fun j hj => ((x.t.kids ht).2.2 j hj).1)
  unfold fL_next
  have rk := r_kid x (n := 0) (a := 0) ht (by decide)
  rw [show nI 0 = 0 from rfl] at rk
  rw [rk, sb, kidL_fnd, List.drop_zero, hnx, List.head?_append, hk.1]
  cases hf : fnd S (sK S i) with
  | none =>
    rw [show rI none = -1 from rfl, e2 FU (by unfold FU; omega), sb]
    rfl
  | some j =>
    have hj : j < 2 ^ 31 := by
      have : j ∈ sK S i := List.mem_of_find?_eq_some hf
      have := ((x.t.kids ht).2.2 j this).1.lt
      have := x.m10
      omega
    have e3 : fL_next_B12 (some (B + 90)) (some (B + 91)) h (nI i, rI (some j)) = some (.inr (nI j)) := by
      unfold fL_next_B12
      dsimp only
      rw [if_pos (show (0 : Int32) ≤ rI (some j) from nI_pos' hj)]
      rfl
    rw [show FU = 4999 + 1 from rfl, itr_end e3, sb]
    rfl
/-- the element at a place of the reading order, none behind its end -/
def oIx (S : SS) (k : Nat) : Int32 := if k < (ord S).length then nI (gn (ord S) k) else -1
theorem r_next (x : RD B h m S) {k : Nat} (hk : k < (ord S).length) : fL_next (some (B + 90)) (some (B + 91)) (nI (gn (ord S) k)) h = some (oIx S (k + 1)) := by
  obtain ⟨t, s⟩ := ord_at x.t hk
  rw [r_nextA x t s]
  congr 1
  unfold nxO oIx
  rw [idx_gk (ord_nd x.t) hk, List.head?_drop]
  by_cases q : k + 1 < (ord S).length
  · rw [if_pos q, List.getElem?_eq_getElem q, gn_of q]; rfl
  · rw [if_neg q, List.getElem?_eq_none (by omega)]; rfl
theorem oI_0 (x : RD B h m S) : oIx S 0 = 0 := by
  unfold oIx
  rw [if_pos (ord_0 x.t).1, (ord_0 x.t).2]; rfl
theorem ord_l40 (x : RD B h m S) {k : Nat} (hk : k < (ord S).length) : gn (ord S) k < 10 := Nat.lt_of_lt_of_le (ord_at x.t hk).1.lt x.m10
theorem cur_at (hC : Core S) : cpl S < (ord S).length ∧ gn (ord S) (cpl S) = cur S := by
  have h1 := cpl_lt hC
  exact ⟨h1, gn_idx (ord_shn hC.t _ hC.c.2.lt hC.c.2 hC.xs)⟩
theorem r_before (x : RD B h m S) (hC : Core S) : fL_before (some (B + 90)) (some (B + 91)) (nI (cur S)) h = some (rI (if cpl S = 0 then none else some (gn (ord S) (cpl S - 1)))) := by
  obtain ⟨c1, c2⟩ := cur_at hC
  have o40 := ord_len x.t
  have lc := Nat.lt_of_lt_of_le hC.c.2.lt x.m10
  obtain ⟨r, e1, e2⟩ := itr_for (F := fL_before_B5 (some (B + 90)) (some (B + 91)) (nI (cur S)) h) (R := fun r => r = rI (if cpl S = 0 then none else some (gn (ord S) (cpl S - 1)))) (fun j q => q = (oIx S j, rI (if j = 0 then none else some (gn (ord S) (j - 1))))) (cpl S) (fun j q hj hX => by
    subst hX
    have hjl : j < (ord S).length := by omega
    have e : oIx S j = nI (gn (ord S) j) := if_pos hjl
    unfold fL_before_B5
    dsimp only
    rw [e, if_neg (fun z => ?_), r_next x hjl, sb]
    · exact ⟨_, rfl, by rw [if_neg (Nat.succ_ne_zero j), Nat.add_sub_cancel]; rfl⟩
    · have z2 := (nI_eq (by have := ord_l40 x hjl; omega) (by omega)).mp z
      exact gn_lt_idx hj z2) (fun q hX => by
    subst hX
    refine ⟨_, ?_, rfl⟩
    unfold fL_before_B5
    dsimp only
    rw [show oIx S (cpl S) = nI (cur S) by unfold oIx; rw [if_pos c1, c2], if_pos rfl]) (fu := FU) (a := (0, -1)) (by unfold FU; omega) (by rw [oI_0 x, if_pos rfl]; rfl)
  unfold fL_before
  rw [e1, sb, e2]
theorem r_canF (x : RD B h m S) {j : Nat} (hj : j < made S) : fL_canFocus (some (B + 91)) (nI j) h = some (bI (canF (sI S 2 j))) := by
  unfold fL_canFocus
  obtain ⟨k, k1, k2⟩ := (x.k.2 j hj).1
  rw [x.kd hj, sb, sb, k2]
  rcases (show k = 0 ∨ k = 1 ∨ k = 2 ∨ k = 3 ∨ k = 4 ∨ k = 5 ∨ k = 6 by omega) with rfl | rfl | rfl | rfl | rfl | rfl | rfl <;> decide
/-- what the law looks for -/
def skP (S : SS) (kd : Int32) (j : Nat) : Bool := if kd < 0 then canF (sI S 2 j) else decide (sI S 2 j = kd)
theorem sk1 (x : RD B h m S) (kd c3 : Int32) : ∀ (d k : Nat), k + d = (ord S).length → ∀ fu, d + 2 ≤ fu → itr (fL_seeks_B13 (some (B + 90)) (some (B + 91)) kd c3 h) fu (-1, oIx S k) = some (rI (((ord S).drop k).find? (skP S kd))) := by
  intro d
  induction d with
  | zero =>
    intro k hk fu hfu
    obtain ⟨f1, rfl⟩ : ∃ f1, fu = f1 + 1 := ⟨fu - 1, by omega⟩
    have e : fL_seeks_B13 (some (B + 90)) (some (B + 91)) kd c3 h (-1, oIx S k) = some (.inr (-1)) := by
      unfold fL_seeks_B13 oIx
      dsimp only
      rw [if_neg (show ¬ k < (ord S).length by omega), if_pos (by decide)]
    rw [itr_end e, List.drop_of_length_le (by omega)]; rfl
  | succ d ih =>
    intro k hk fu hfu
    obtain ⟨f1, rfl⟩ : ∃ f1, fu = f1 + 1 := ⟨fu - 1, by omega⟩
    have hkl : k < (ord S).length := by omega
    have g10 := ord_l40 x hkl
    have tg := (ord_at x.t hkl).1
    have e0 : oIx S k = nI (gn (ord S) k) := if_pos hkl
    have e : fL_seeks_B13 (some (B + 90)) (some (B + 91)) kd c3 h (-1, oIx S k) = some (.inl (if skP S kd (gn (ord S) k) = true then nI (gn (ord S) k) else -1, oIx S (k + 1))) := by
      unfold fL_seeks_B13
      dsimp only
      rw [e0, if_neg (nI_pos (by omega)), if_neg (by decide)]
      by_cases q : (0 : Int32) ≤ kd
      · rw [if_pos q, x.kd tg.lt, sb]
        by_cases w : sI S 2 (gn (ord S) k) = kd
        · rw [if_pos w, sb, r_next x hkl, sb, if_pos (by unfold skP; rw [if_neg (Int32.not_lt.mpr q)]; exact decide_eq_true w)]
        · rw [if_neg w, sb, r_next x hkl, sb, if_neg (by unfold skP; rw [if_neg (Int32.not_lt.mpr q)]; simp [w])]
      · rw [if_neg q, r_canF x tg.lt, sb]
        have q' : kd < 0 := Int32.not_le.mp q
        unfold skP
        rw [if_pos q']
        cases canF (sI S 2 (gn (ord S) k))
        · rw [if_pos (show bI false = 0 from rfl), sb, r_next x hkl, sb]; rfl
        · rw [if_neg (show ¬ bI true = 0 by decide), sb, r_next x hkl, sb]; rfl
    rw [itr_step e, List.drop_eq_getElem_cons hkl, List.find?_cons, ← gn_of hkl]
    cases hp : skP S kd (gn (ord S) k)
    · rw [if_neg (by decide)]
      exact ih (k + 1) (by omega) f1 (by omega)
    · rw [if_pos rfl]
      obtain ⟨f2, rfl⟩ : ∃ f2, f1 = f2 + 1 := ⟨f1 - 1, by omega⟩
      refine itr_end ?_ f2
      unfold fL_seeks_B13
      dsimp only
      by_cases w : oIx S (k + 1) < 0
      · rw [if_pos w]; rfl
      · rw [if_neg w, if_pos (show (0 : Int32) ≤ nI (gn (ord S) k) from nI_pos' (by omega))]; rfl
theorem sk2 (x : RD B h m S) : ∀ (d k : Nat), k + d = (ord S).length → ∀ fu, d + 2 ≤ fu → itr (fL_seeks_B79 (some (B + 90)) (some (B + 91)) 1 h) fu (-1, oIx S k) = some (rI (((ord S).drop k).find? (fun j => canF (sI S 2 j)))) := by
  intro d
  induction d with
  | zero =>
    intro k hk fu hfu
    obtain ⟨f1, rfl⟩ : ∃ f1, fu = f1 + 1 := ⟨fu - 1, by omega⟩
    have e : fL_seeks_B79 (some (B + 90)) (some (B + 91)) 1 h (-1, oIx S k) = some (.inr (-1)) := by
      unfold fL_seeks_B79 oIx
      dsimp only
      rw [if_neg (show ¬ k < (ord S).length by omega), if_pos (by decide)]
    rw [itr_end e, List.drop_of_length_le (by omega)]; rfl
  | succ d ih =>
    intro k hk fu hfu
    obtain ⟨f1, rfl⟩ : ∃ f1, fu = f1 + 1 := ⟨fu - 1, by omega⟩
    have hkl : k < (ord S).length := by omega
    have g10 := ord_l40 x hkl
    have tg := (ord_at x.t hkl).1
    have e0 : oIx S k = nI (gn (ord S) k) := if_pos hkl
    have e : fL_seeks_B79 (some (B + 90)) (some (B + 91)) 1 h (-1, oIx S k) = some (.inl (if canF (sI S 2 (gn (ord S) k)) = true then nI (gn (ord S) k) else -1, oIx S (k + 1))) := by
      unfold fL_seeks_B79
      dsimp only
      rw [e0, if_neg (nI_pos (by omega)), if_neg (by decide), if_neg (by decide), r_canF x tg.lt, sb]
      cases canF (sI S 2 (gn (ord S) k))
      · rw [if_pos (show bI false = 0 from rfl), sb, r_next x hkl, sb]; rfl
      · rw [if_neg (show ¬ bI true = 0 by decide), sb, r_next x hkl, sb]; rfl
    rw [itr_step e, List.drop_eq_getElem_cons hkl, List.find?_cons, ← gn_of hkl]
    cases hp : canF (sI S 2 (gn (ord S) k))
    · rw [if_neg (by decide)]
      exact ih (k + 1) (by omega) f1 (by omega)
    · rw [if_pos rfl]
      obtain ⟨f2, rfl⟩ : ∃ f2, f1 = f2 + 1 := ⟨f1 - 1, by omega⟩
      refine itr_end ?_ f2
      unfold fL_seeks_B79
      dsimp only
      by_cases w : oIx S (k + 1) < 0
      · rw [if_pos w]; rfl
      · rw [if_neg w, if_pos (show (0 : Int32) ≤ nI (gn (ord S) k) from nI_pos' (by omega))]; rfl
theorem sk2_end (x : RD B h m S) {f : Nat} (hf : f < 2 ^ 31) : itr (fL_seeks_B79 (some (B + 90)) (some (B + 91)) 1 h) FU (nI f, 0) = some (nI f) := by
  rw [show FU = 4999 + 1 from rfl]
  refine itr_end ?_ _
  unfold fL_seeks_B79
  dsimp only
  rw [if_neg (by decide), if_pos (nI_pos' hf)]
theorem sk0_end (x : RD B h m S) {f : Option Nat} (hf : ∀ j, f = some j → j < 2 ^ 31) : itr (fL_seeks_B79 (some (B + 90)) (some (B + 91)) 0 h) FU (rI f, 0) = some (rI f) := by
  rw [show FU = 4999 + 1 from rfl]
  refine itr_end ?_ _
  unfold fL_seeks_B79
  dsimp only
  rw [if_neg (by decide)]
  cases f with
  | none => rw [if_neg (show ¬ (0 : Int32) ≤ rI none by decide), if_pos rfl]
  | some j => rw [if_pos (show (0 : Int32) ≤ rI (some j) from nI_pos' (hf j rfl))]
/-- TAB -/
theorem r_tab (x : RD B h m S) (hC : Core S) : fL_seeks (some (B + 90)) (some (B + 91)) (-1) 1 h = some (rI (tbF S)) := by
  obtain ⟨c1, c2⟩ := cur_at hC
  have o40 := ord_len x.t
  have h1 := x.l.2.1
  rw [hC.c.1, ← c2] at h1
  unfold fL_seeks
  rw [x.q.n1, h1, sb, r_next x c1, sb, sk1 x (-1) 1 ((ord S).length - (cpl S + 1)) (cpl S + 1) (by omega) FU (by unfold FU; omega), sb]
  have eP : skP S (-1) = fun j => canF (sI S 2 j) := funext fun j => if_pos (by decide)
  rw [eP]
  unfold tbF
  rw [List.find?_append]
  cases hf : ((ord S).drop (cpl S + 1)).find? (fun j => canF (sI S 2 j)) with
  | some f =>
    have hm := List.mem_of_find?_eq_some hf
    have hl : f < 2 ^ 31 := by
      have := (ord_in x.t (List.mem_of_mem_drop hm)).1.lt
      have := x.m10
      omega
    rw [show rI (some f) = nI f from rfl, sk2_end x hl, sb]
    rfl
  | none =>
    have s2 := sk2 x (ord S).length 0 (by omega) FU (by unfold FU; omega)
    rw [oI_0 x] at s2
    rw [show rI none = -1 from rfl, s2, sb, List.drop_zero]
    congr 1
    have e : (ord S).find? (fun j => canF (sI S 2 j)) = ((ord S).take (cpl S + 1)).find? (fun j => canF (sI S 2 j)) := by
      conv => lhs; rw [← List.take_append_drop (cpl S + 1) (ord S)]
      rw [List.find?_append, hf, Option.or_none]
    rw [e, Option.none_or]
/-- a letter -/
theorem r_sekK (x : RD B h m S) (hC : Core S) {kd : Int32} (hk : 0 ≤ kd) : fL_seeks (some (B + 90)) (some (B + 91)) kd 0 h = some (rI (((ord S).drop (cpl S + 1)).find? (fun j => decide (sI S 2 j = kd)))) := by
  obtain ⟨c1, c2⟩ := cur_at hC
  have o40 := ord_len x.t
  have h1 := x.l.2.1
  rw [hC.c.1, ← c2] at h1
  unfold fL_seeks
  rw [x.q.n1, h1, sb, r_next x c1, sb, sk1 x kd 0 ((ord S).length - (cpl S + 1)) (cpl S + 1) (by omega) FU (by unfold FU; omega), sb]
  have eP : skP S kd = fun j => decide (sI S 2 j = kd) := funext fun j => if_neg (Int32.not_lt.mpr hk)
  rw [eP, sk0_end x (fun j hj => ?_), sb]
  have := (ord_in x.t (List.mem_of_mem_drop (List.mem_of_find?_eq_some hj))).1.lt
  have := x.m10
  omega
end ORD

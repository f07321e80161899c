/-! ===== the law finds children and goes on in the reading order ===== -/
theorem len_sub : ∀ {l r : List Nat}, l.Nodup → (∀ x ∈ l, x ∈ r) → l.length ≤ r.length := by
  intro l
  induction l with
  | nil => intro r _ _; exact Nat.zero_le _
  | cons a l ih =>
    intro r hn hs
    have ha : a ∈ r := hs a List.mem_cons_self
    have hn2 := List.nodup_cons.mp hn
    have h1 : l.length ≤ (r.erase a).length := ih hn2.2 (fun x hx => (List.mem_erase_of_ne (fun e => hn2.1 (by rw [← e]; exact hx))).mpr (hs x (List.mem_cons_of_mem _ hx)))
    have h2 := List.length_erase_of_mem ha
    have h3 := List.length_pos_of_mem ha
    rw [List.length_cons]
    omega
theorem cnt_eq {n : Nat} {l : List Nat} {P : Nat → Bool} (hn : l.Nodup) (hl : ∀ i ∈ l, i < n) {R : Nat → Bool} (hR : ∀ i, i < n → (R i = true ↔ i ∈ l ∧ P i = true)) : (List.range n).countP R = l.countP P := by
  rw [List.countP_eq_length_filter, List.countP_eq_length_filter]
  apply Nat.le_antisymm
  · refine len_sub (List.Nodup.sublist List.filter_sublist List.nodup_range) (fun x hx => ?_)
    obtain ⟨h1, h2⟩ := List.mem_filter.mp hx
    obtain ⟨h3, h4⟩ := (hR x (List.mem_range.mp h1)).mp h2
    exact List.mem_filter.mpr ⟨h3, h4⟩
  · refine len_sub (List.Nodup.sublist List.filter_sublist hn) (fun x hx => ?_)
    obtain ⟨h1, h2⟩ := List.mem_filter.mp hx
    exact List.mem_filter.mpr ⟨List.mem_range.mpr (hl x h1), (hR x (hl x h1)).mpr ⟨h1, h2⟩⟩
theorem idx_app {l r : List Nat} {x : Nat} (hx : x ∉ l) : (l ++ r).idxOf x = l.length + r.idxOf x := by
  rw [List.idxOf_append, if_neg hx, Nat.add_comm]
/-- the first one from a place on of which P holds, by places -/
theorem find_min {l : List Nat} (hn : l.Nodup) {n f : Nat} {P : Nat → Bool} (hf : f ∈ l) (hp : P f = true) (h0 : n ≤ l.idxOf f) (hm : ∀ i ∈ l, P i = true → n ≤ l.idxOf i → l.idxOf f ≤ l.idxOf i) : (l.drop n).find? P = some f := by
  have hi := List.idxOf_lt_length_of_mem hf
  have hg : gn l (l.idxOf f) = f := gn_idx hf
  have e : l.drop n = (l.drop n).take (l.idxOf f - n) ++ (f :: l.drop (l.idxOf f + 1)) := by
    conv => lhs; rw [← List.take_append_drop (l.idxOf f - n) (l.drop n)]
    congr 1
    rw [List.drop_drop, show n + (l.idxOf f - n) = l.idxOf f by omega, List.drop_eq_getElem_cons hi]
    congr 1
    rw [← gn_of hi]; exact hg
  rw [e, List.find?_append]
  have h1 : ((l.drop n).take (l.idxOf f - n)).find? P = none := by
    rw [List.find?_eq_none]
    intro a ha hpa
    obtain ⟨k, hk, rfl⟩ := List.getElem_of_mem ha
    have hk' := hk
    rw [List.length_take, List.length_drop] at hk'
    have ea : ((l.drop n).take (l.idxOf f - n))[k] = l[n + k]'(by omega) := by
      rw [List.getElem_take, List.getElem_drop]
    rw [ea] at hpa
    have h2 := hm _ (List.getElem_mem (by omega)) hpa
    have h3 : l.idxOf (l[n + k]'(by omega)) = n + k := hn.idxOf_getElem (n + k) (by omega)
    rw [h3] at h2
    have := h2 (by omega)
    omega
  rw [h1, List.find?_cons, hp]
  rfl
theorem find_none {l : List Nat} {n : Nat} {P : Nat → Bool} (hn : l.Nodup) (h : ∀ i ∈ l, P i = true → ¬ n ≤ l.idxOf i) : (l.drop n).find? P = none := by
  rw [List.find?_eq_none]
  intro a ha hpa
  obtain ⟨k, hk, rfl⟩ := List.getElem_of_mem ha
  have hk' := hk
  rw [List.length_drop] at hk'
  rw [List.getElem_drop] at hpa
  have h3 : l.idxOf (l[n + k]'(by omega)) = n + k := hn.idxOf_getElem (n + k) (by omega)
  exact h _ (List.getElem_mem (by omega)) hpa (by rw [h3]; omega)
/-- a child of p that will do -/
def anyB (S : SS) (a : Int32) (j : Nat) : Bool := decide (a ≠ 0) || !hid S j
def kidL (S : SS) (p n : Nat) (a : Int32) : Option Nat := ((sK S p).drop n).find? (anyB S a)
abbrev cand (S : SS) (p n : Nat) (a : Int32) (j : Nat) : Prop := j ∈ sK S p ∧ n ≤ plc S j ∧ anyB S a j = true
section KID
variable {B : Nat} {h : hp} {m : LY} {S : SS}
theorem kid_iff (hW : WT S) {p j : Nat} (hp : th S p) : j ∈ sK S p ↔ th S j ∧ 0 < j ∧ dpar S j = p := by
  constructor
  · intro hj; exact (hW.kids hp).2.2 j hj
  · rintro ⟨h1, h2, h3⟩
    have := (hW.up h2 h1).2
    rw [h3] at this
    exact this
theorem plc_of {p j : Nat} (hj : dpar S j = p) : plc S j = (sK S p).idxOf j := by unfold plc; rw [hj]
theorem plc_lt (hW : WT S) {p j : Nat} (hp : th S p) (hj : j ∈ sK S p) : plc S j < (sK S p).length := by
  rw [plc_of ((kid_iff hW hp).mp hj).2.2]
  exact List.idxOf_lt_length_of_mem hj
theorem plc_10 (hW : WT S) {j : Nat} (h0 : 0 < j) (hj : th S j) : plc S j < 10 := by
  obtain ⟨h1, h2⟩ := hW.up h0 hj
  exact Nat.lt_of_lt_of_le (plc_lt hW h1 h2) (hW.kids h1).2.1
/-- whether the law takes j -/
theorem kid_can (x : RD B h m S) {p n j : Nat} {a : Int32} (hp : th S p) (hn : n < 2 ^ 31) (hj : j < made S) : (fL_isThere (some (B + 91)) (nI j) h).bind (fun x2 => (Option.bind (α := Int32)
  (if x2 = 0 then
  (some (0 : Int32))
  else
  (oIL (some (B + 91)) (((6 : Int32) * nI j) + (1 : Int32)) h).bind fun x5 =>
  if x5 = nI p then
  ((oIL (some (B + 91)) (((6 : Int32) * nI j) + (2 : Int32)) h).bind fun x6 =>
  if x6 < nI n then
  (some (0 : Int32))
  else
  if a = 0 then
  ((fL_isHidden (some (B + 91)) (nI j) h).bind fun x7 =>
  if x7 = 0 then
  (some (1 : Int32))
  else
  some (0 : Int32))
  else
  some (1 : Int32))
  else
  some (0 : Int32)) some)) = some (if cand S p n a j then 1 else 0) := by
  have l10 := x.m10
  by_cases t : th S j
  · rw [r_thereY x t, sb, if_neg (by decide), x.pr hj, sb]
    by_cases e : sI S 3 j = nI p
    · rw [if_pos e]
      have j0 : 0 < j := by
        rcases Nat.eq_zero_or_pos j with z | z
        · subst z
          rw [x.p0] at e
          exact absurd e.symm (nI_m1 (by have := hp.lt; omega))
        · exact z
      have hd : dpar S j = p := by
        rw [(x.pp j0 hj).1] at e
        exact (nI_eq (by have := (x.pp j0 hj).2; omega) (by have := hp.lt; omega)).mp e
      have hk : j ∈ sK S p := (kid_iff x.t hp).mpr ⟨t, j0, hd⟩
      have pl := plc_10 x.t j0 t
      rw [x.pl j0 t, sb]
      by_cases w : plc S j < n
      · rw [if_pos ((nI_ltI (by omega) hn).mpr w), if_neg (fun z => by have := z.2.1; omega)]; rfl
      · rw [if_neg (fun z => w ((nI_ltI (by omega) hn).mp z))]
        by_cases aa : a = 0
        · rw [if_pos aa, r_hid x t, sb]
          cases hh : hid S j
          · rw [if_pos (show bI false = 0 from rfl), if_pos ⟨hk, by omega, by unfold anyB; rw [hh]; simp⟩]; rfl
          · rw [if_neg (show ¬ bI true = 0 by decide), if_neg (fun z => by have := z.2.2; unfold anyB at this; rw [hh, aa] at this; simp at this)]; rfl
        · rw [if_neg aa, if_pos ⟨hk, by omega, by unfold anyB; simp [aa]⟩]; rfl
    · rw [if_neg e, if_neg (fun z => e ?_)]
      · rfl
      · obtain ⟨z1, z2, z3⟩ := (kid_iff x.t hp).mp z.1
        rw [(x.pp z2 hj).1, z3]
  · rw [r_thereN x hj t, sb, if_pos rfl, if_neg (fun z => t ((kid_iff x.t hp).mp z.1).1)]; rfl
/-- the law's search as far as j -/
def KJ (S : SS) (p n : Nat) (a : Int32) (j : Nat) (f : Int32) : Prop := (f = -1 ∧ ∀ i, i < j → ¬ cand S p n a i) ∨ ∃ g, g < j ∧ f = nI g ∧ cand S p n a g ∧ ∀ i, i < j → cand S p n a i → plc S g ≤ plc S i
theorem cand_th (hW : WT S) {p n j : Nat} {a : Int32} (hp : th S p) (hc : cand S p n a j) : th S j ∧ 0 < j := ⟨((kid_iff hW hp).mp hc.1).1, ((kid_iff hW hp).mp hc.1).2.1⟩
theorem kid_step (x : RD B h m S) {p n j : Nat} {a f : Int32} (hp : th S p) (hn : n < 2 ^ 31) (hj : j < made S) (hJ : KJ S p n a j f) : ∃ f', fL_kid_B6 (some (B + 90)) (some (B + 91)) (nI p) (nI n) a h (f, nI j) = some (.inl (f', nI (j + 1))) ∧ KJ S p n a (j + 1) f' := by
  have l10 := x.m10
  have hc := kid_can x (a := a) hp hn hj
  unfold fL_kid_B6
  rw [x.n0, sb, if_neg (show ¬ nI (made S) ≤ nI j from nI_ge hj (by omega))]
  obtain ⟨x2, e1, e2⟩ : ∃ x2, fL_isThere (some (B + 91)) (nI j) h = some x2 ∧ True := by
    by_cases t : th S j
    · exact ⟨1, r_thereY x t, trivial⟩
    · exact ⟨0, r_thereN x hj t, trivial⟩
  rw [e1, sb] at hc
  rw [e1, sb]
  generalize hq : (if x2 = 0 then
  (some (0 : Int32))
  else
  (oIL (some (B + 91)) (((6 : Int32) * nI j) + (1 : Int32)) h).bind fun x5 =>
  if x5 = nI p then
  ((oIL (some (B + 91)) (((6 : Int32) * nI j) + (2 : Int32)) h).bind fun x6 =>
  if x6 < nI n then
  (some (0 : Int32))
  else
  if a = 0 then
  ((fL_isHidden (some (B + 91)) (nI j) h).bind fun x7 =>
  if x7 = 0 then
  (some (1 : Int32))
  else
  some (0 : Int32))
  else
  some (1 : Int32))
  else
  some (0 : Int32)) = oq at hc ⊢
  have hq2 : oq = some (if cand S p n a j then 1 else 0) := by
    cases oq with
    | none => cases hc
    | some v => exact hc
  rw [hq2, sb]
  by_cases c : cand S p n a j
  · rw [if_pos c, if_neg (by decide)]
    obtain ⟨tj, j0⟩ := cand_th x.t hp c
    rcases hJ with ⟨rfl, h2⟩ | ⟨g, g1, rfl, g2, g3⟩
    · rw [if_pos (show (-1 : Int32) < 0 by decide)]
      refine ⟨nI j, by rw [nI_1], Or.inr ⟨j, by omega, rfl, c, fun i hi ci => ?_⟩⟩
      rcases Nat.lt_succ_iff_lt_or_eq.mp hi with w | w
      · exact absurd ci (h2 i w)
      · rw [w]; exact Nat.le_refl _
    · obtain ⟨tg, g0⟩ := cand_th x.t hp g2
      have pj := plc_10 x.t j0 tj
      have pg := plc_10 x.t g0 tg
      rw [if_neg (nI_pos (by omega)), x.pl j0 tj, sb, x.pl g0 tg, sb]
      by_cases w : plc S g ≤ plc S j
      · rw [if_pos ((nI_leI (by omega) (by omega)).mpr w)]
        refine ⟨nI g, by rw [nI_1], Or.inr ⟨g, by omega, rfl, g2, fun i hi ci => ?_⟩⟩
        rcases Nat.lt_succ_iff_lt_or_eq.mp hi with v | v
        · exact g3 i v ci
        · rw [v]; exact w
      · rw [if_neg (fun z => w ((nI_leI (by omega) (by omega)).mp z))]
        refine ⟨nI j, by rw [nI_1], Or.inr ⟨j, by omega, rfl, c, fun i hi ci => ?_⟩⟩
        rcases Nat.lt_succ_iff_lt_or_eq.mp hi with v | v
        · have := g3 i v ci; omega
        · rw [v]; exact Nat.le_refl _
  · rw [if_neg c, if_pos rfl]
    refine ⟨f, by rw [nI_1], ?_⟩
    rcases hJ with ⟨rfl, h2⟩ | ⟨g, g1, rfl, g2, g3⟩
    · refine Or.inl ⟨rfl, fun i hi ci => ?_⟩
      rcases Nat.lt_succ_iff_lt_or_eq.mp hi with v | v
      · exact h2 i v ci
      · rw [v] at ci; exact c ci
    · refine Or.inr ⟨g, by omega, rfl, g2, fun i hi ci => ?_⟩
      rcases Nat.lt_succ_iff_lt_or_eq.mp hi with v | v
      · exact g3 i v ci
      · rw [v] at ci; exact absurd ci c
theorem r_kid (x : RD B h m S) {p n : Nat} {a : Int32} (hp : th S p) (hn : n < 2 ^ 31) : fL_kid (some (B + 90)) (some (B + 91)) (nI p) (nI n) a h = some (rI (kidL S p n a)) := by
  have l10 := x.m10
  obtain ⟨f, e1, e2⟩ := itr_for (F := fL_kid_B6 (some (B + 90)) (some (B + 91)) (nI p) (nI n) a h) (R := fun f => KJ S p n a (made S) f) (fun j q => q.2 = nI j ∧ KJ S p n a j q.1) (made S) (fun j q hj hX => by
    obtain ⟨f, g⟩ := q
    obtain ⟨rfl, hX⟩ := hX
    obtain ⟨f', e1, e2⟩ := kid_step x hp hn hj hX
    exact ⟨_, e1, rfl, e2⟩) (fun q hX => by
    obtain ⟨f, g⟩ := q
    obtain ⟨rfl, hX⟩ := hX
    refine ⟨f, ?_, hX⟩
    unfold fL_kid_B6
    rw [x.n0, sb, if_pos (nI_le (Nat.le_refl _) (by omega))]) (fu := FU) (a := (-1, 0)) (by unfold FU; omega) ⟨rfl, Or.inl ⟨rfl, fun i hi => absurd hi (Nat.not_lt_zero i)⟩⟩
  unfold fL_kid
  rw [e1, sb]
  congr 1
  have hN := (x.t.kids hp).1
  rcases e2 with ⟨rfl, h2⟩ | ⟨g, g1, rfl, g2, g3⟩
  · have : kidL S p n a = none := find_none hN (fun i hi hpi hle => by
      obtain ⟨t1, t2, t3⟩ := (kid_iff x.t hp).mp hi
      exact h2 i t1.lt ⟨hi, by rw [plc_of t3]; exact hle, hpi⟩)
    rw [this]; rfl
  · have : kidL S p n a = some g := find_min hN g2.1 g2.2.2 (by rw [← plc_of ((kid_iff x.t hp).mp g2.1).2.2]; exact g2.2.1) (fun i hi hpi hle => by
      obtain ⟨t1, t2, t3⟩ := (kid_iff x.t hp).mp hi
      have := g3 i t1.lt ⟨hi, by rw [plc_of t3]; exact hle, hpi⟩
      rw [plc_of t3, plc_of ((kid_iff x.t hp).mp g2.1).2.2] at this
      exact this)
    rw [this]; rfl
theorem r_kids (x : RD B h m S) {p : Nat} (hp : th S p) : fL_kids (some (B + 90)) (some (B + 91)) (nI p) h = some (nI (sK S p).length) := by
  have l10 := x.m10
  obtain ⟨c, e1, e2⟩ := itr_for (F := fL_kids_B5 (some (B + 90)) (some (B + 91)) (nI p) h) (R := fun c => c = nI ((List.range (made S)).countP (fun i => decide (i ∈ sK S p)))) (fun j q => q.2 = nI j ∧ q.1 = nI ((List.range j).countP (fun i => decide (i ∈ sK S p)))) (made S) (fun j q hj hX => by
    obtain ⟨f, g⟩ := q
    obtain ⟨rfl, hX⟩ := hX
    have hX : f = _ := hX
    subst hX
    unfold fL_kids_B5
    rw [x.n0, sb, if_neg (show ¬ nI (made S) ≤ nI j from nI_ge hj (by omega)), List.range_succ, List.countP_append, List.countP_singleton]
    by_cases t : th S j
    · rw [r_thereY x t, sb, if_neg (by decide), x.pr hj, sb]
      by_cases e : sI S 3 j = nI p
      · have j0 : 0 < j := by
          rcases Nat.eq_zero_or_pos j with z | z
          · subst z
            rw [x.p0] at e
            exact absurd e.symm (nI_m1 (by have := hp.lt; omega))
          · exact z
        have hd : dpar S j = p := by
          rw [(x.pp j0 hj).1] at e
          exact (nI_eq (by have := (x.pp j0 hj).2; omega) (by have := hp.lt; omega)).mp e
        have hk : j ∈ sK S p := (kid_iff x.t hp).mpr ⟨t, j0, hd⟩
        rw [if_pos e]
        exact ⟨_, rfl, by show nI j + 1 = _; rw [nI_1], by rw [if_pos (decide_eq_true hk)]; exact nI_1 _⟩
      · rw [if_neg e]
        have hk : j ∉ sK S p := fun z => by
          obtain ⟨z1, z2, z3⟩ := (kid_iff x.t hp).mp z
          exact e (by rw [(x.pp z2 hj).1, z3])
        exact ⟨_, rfl, by show nI j + 1 = _; rw [nI_1], by rw [if_neg (by simp [hk])]; exact nI_add _ 0⟩
    · have hk : j ∉ sK S p := fun z => t ((kid_iff x.t hp).mp z).1
      rw [r_thereN x hj t, sb, if_pos rfl]
      exact ⟨_, rfl, by show nI j + 1 = _; rw [nI_1], by rw [if_neg (by simp [hk])]; exact nI_add _ 0⟩) (fun q hX => by
    obtain ⟨f, g⟩ := q
    obtain ⟨rfl, hX⟩ := hX
    refine ⟨f, ?_, hX⟩
    unfold fL_kids_B5
    rw [x.n0, sb, if_pos (nI_le (Nat.le_refl _) (by omega))]) (fu := FU) (a := (0, 0)) (by unfold FU; omega) ⟨rfl, rfl⟩
  unfold fL_kids
  rw [e1, sb, e2]
  congr 2
  have := cnt_eq (n := made S) (l := sK S p) (P := fun _ => true) (R := fun i => decide (i ∈ sK S p)) (x.t.kids hp).1 (fun i hi => ((kid_iff x.t hp).mp hi).1.lt) (fun i _ => by simp)
  rw [this]
  simp
end KID

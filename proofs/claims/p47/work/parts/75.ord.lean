/-! ===== the reading order ===== -/
def allF (S : SS) : Nat → Nat → List Nat
  | 0, _ => []
  | f + 1, i => i :: (sK S i).flatMap (allF S f)
theorem flatMap_cg {α β : Type} {f g : α → List β} : ∀ {l : List α}, (∀ x ∈ l, f x = g x) → l.flatMap f = l.flatMap g
  | [], _ => rfl
  | a :: l, h => by
    rw [List.flatMap_cons, List.flatMap_cons, h a List.mem_cons_self, flatMap_cg (fun x hx => h x (List.mem_cons_of_mem _ hx))]
theorem flatMap_le {α β : Type} {f g : α → List β} : ∀ {l : List α}, (∀ x ∈ l, (f x).length ≤ (g x).length) → (l.flatMap f).length ≤ (l.flatMap g).length
  | [], _ => Nat.le_refl _
  | a :: l, h => by
    rw [List.flatMap_cons, List.flatMap_cons, List.length_append, List.length_append]
    have h1 := h a List.mem_cons_self
    have h2 := flatMap_le (f := f) (g := g) (l := l) (fun x hx => h x (List.mem_cons_of_mem _ hx))
    omega
theorem nodup_flatMap {f : Nat → List Nat} : ∀ {l : List Nat}, l.Nodup → (∀ x ∈ l, (f x).Nodup) → (∀ x ∈ l, ∀ y ∈ l, ∀ z, z ∈ f x → z ∈ f y → x = y) → (l.flatMap f).Nodup
  | [], _, _, _ => List.nodup_nil
  | a :: l, h1, h2, h3 => by
    rw [List.flatMap_cons]
    rw [List.nodup_cons] at h1
    refine List.nodup_append.mpr ⟨h2 a List.mem_cons_self, nodup_flatMap h1.2 (fun x hx => h2 x (List.mem_cons_of_mem _ hx)) (fun x hx y hy z => h3 x (List.mem_cons_of_mem _ hx) y (List.mem_cons_of_mem _ hy) z), fun z hz w hw e => ?_⟩
    subst e
    obtain ⟨y, hy, hz2⟩ := List.mem_flatMap.mp hw
    have := h3 a List.mem_cons_self y (List.mem_cons_of_mem _ hy) z hz hz2
    subst this
    exact h1.1 hy
section OR
variable {S : SS}
theorem WT.kid_gt (h : WT S) {i j : Nat} (hi : th S i) (hj : j ∈ sK S i) : i < j ∧ th S j := by
  obtain ⟨a, b, c⟩ := (h.kids hi).2.2 j hj
  have := (h.pw.par b a.lt).1
  exact ⟨by omega, a⟩
theorem ordF_f (h : WT S) : ∀ (n i f f' : Nat), th S i → 40 - i ≤ n → 40 - i ≤ f → 40 - i ≤ f' → ordF S f i = ordF S f' i := by
  intro n
  induction n with
  | zero =>
    intro i f f' hi hn
    have := hi.l40 h
    omega
  | succ n ih =>
    intro i f f' hi hn hf hf'
    have h40 := hi.l40 h
    obtain ⟨f, rfl⟩ : ∃ g, f = g + 1 := ⟨f - 1, by omega⟩
    obtain ⟨f', rfl⟩ : ∃ g, f' = g + 1 := ⟨f' - 1, by omega⟩
    show (if hid S i = true then [] else i :: (sK S i).flatMap (ordF S f)) = (if hid S i = true then [] else i :: (sK S i).flatMap (ordF S f'))
    rw [flatMap_cg (f := ordF S f) (g := ordF S f') (fun j hj => by
      obtain ⟨h1, h2⟩ := h.kid_gt hi hj
      have := h2.l40 h
      exact ih j f f' h2 (by omega) (by omega) (by omega))]
theorem allF_f (h : WT S) : ∀ (n i f f' : Nat), th S i → 40 - i ≤ n → 40 - i ≤ f → 40 - i ≤ f' → allF S f i = allF S f' i := by
  intro n
  induction n with
  | zero =>
    intro i f f' hi hn
    have := hi.l40 h
    omega
  | succ n ih =>
    intro i f f' hi hn hf hf'
    have h40 := hi.l40 h
    obtain ⟨f, rfl⟩ : ∃ g, f = g + 1 := ⟨f - 1, by omega⟩
    obtain ⟨f', rfl⟩ : ∃ g, f' = g + 1 := ⟨f' - 1, by omega⟩
    show i :: (sK S i).flatMap (allF S f) = i :: (sK S i).flatMap (allF S f')
    rw [flatMap_cg (f := allF S f) (g := allF S f') (fun j hj => by
      obtain ⟨h1, h2⟩ := h.kid_gt hi hj
      have := h2.l40 h
      exact ih j f f' h2 (by omega) (by omega) (by omega))]
theorem ord_eq (h : WT S) {i : Nat} (hi : th S i) : ordF S 40 i = if hid S i = true then [] else i :: (sK S i).flatMap (ordF S 40) := by
  have h40 := hi.l40 h
  show (if hid S i = true then [] else i :: (sK S i).flatMap (ordF S 39)) = _
  rw [flatMap_cg (f := ordF S 39) (g := ordF S 40) (fun j hj => by
    obtain ⟨h1, h2⟩ := h.kid_gt hi hj
    have := h2.l40 h
    exact ordF_f h 40 j 39 40 h2 (by omega) (by omega) (by omega))]
theorem all_eq (h : WT S) {i : Nat} (hi : th S i) : allF S 40 i = i :: (sK S i).flatMap (allF S 40) := by
  have h40 := hi.l40 h
  show i :: (sK S i).flatMap (allF S 39) = _
  rw [flatMap_cg (f := allF S 39) (g := allF S 40) (fun j hj => by
    obtain ⟨h1, h2⟩ := h.kid_gt hi hj
    have := h2.l40 h
    exact allF_f h 40 j 39 40 h2 (by omega) (by omega) (by omega))]
theorem ord_le (f : Nat) : ∀ i, (ordF S f i).length ≤ (allF S f i).length := by
  induction f with
  | zero => intro i; exact Nat.le_refl _
  | succ f ih =>
    intro i
    show (if hid S i = true then [] else i :: (sK S i).flatMap (ordF S f)).length ≤ (i :: (sK S i).flatMap (allF S f)).length
    split
    · exact Nat.zero_le _
    · rw [List.length_cons, List.length_cons]
      have := flatMap_le (f := ordF S f) (g := allF S f) (l := sK S i) (fun x _ => ih x)
      omega
/-- descendants have it among those above them -/
theorem all_an (h : WT S) : ∀ (f i x : Nat), th S i → x ∈ allF S f i → th S x ∧ i ∈ an S x := by
  intro f
  induction f with
  | zero => intro i x _ hx; exact absurd hx List.not_mem_nil
  | succ f ih =>
    intro i x hi hx
    have hself : i ∈ an S i := by
      by_cases e : i = 0
      · subst e; rw [an_0 h.pw]; exact List.mem_singleton.mpr rfl
      · rw [an_s h.pw (by omega) hi.lt]; exact List.mem_cons_self
    rcases List.mem_cons.mp (show x ∈ i :: (sK S i).flatMap (allF S f) from hx) with e | hx
    · subst e
      exact ⟨hi, hself⟩
    · obtain ⟨j, hj, hxj⟩ := List.mem_flatMap.mp hx
      obtain ⟨a, b, c⟩ := (h.kids hi).2.2 j hj
      obtain ⟨d, e⟩ := ih j x a hxj
      refine ⟨d, ?_⟩
      -- i is above j, j above x
      have key : ∀ y, y < made S → j ∈ an S y → i ∈ an S y := by
        refine an_ind h.pw (fun hy => ?_) (fun y y0 yl ihy hy => ?_)
        · rw [an_0 h.pw] at hy
          have := List.mem_singleton.mp hy
          omega
        · rw [an_s h.pw y0 yl] at hy ⊢
          rcases List.mem_cons.mp hy with e | hy
          · refine List.mem_cons_of_mem _ ?_
            rw [← e, c]
            exact hself
          · exact List.mem_cons_of_mem _ (ihy hy)
      exact key x d.lt e
theorem an_lin (h : PW S) {a b : Nat} : ∀ x, x < made S → a ∈ an S x → b ∈ an S x → a ∈ an S b ∨ b ∈ an S a := by
  refine an_ind h (fun ha hb => ?_) (fun x x0 xl ih ha hb => ?_)
  · rw [an_0 h] at ha hb
    rw [List.mem_singleton.mp ha, List.mem_singleton.mp hb, an_0 h]
    exact Or.inl (List.mem_singleton.mpr rfl)
  · rw [an_s h x0 xl] at ha hb
    rcases List.mem_cons.mp ha with e | ha
    · refine Or.inr ?_
      rw [e, an_s h x0 xl]; exact hb
    · rcases List.mem_cons.mp hb with e | hb
      · refine Or.inl ?_
        rw [e, an_s h x0 xl]; exact List.mem_cons_of_mem _ ha
      · exact ih ha hb
theorem an_sib (h : PW S) {a b : Nat} (ha : 0 < a) (hb : 0 < b) (hal : a < made S) (hbl : b < made S) (he : dpar S a = dpar S b) (hm : a ∈ an S b) : a = b := by
  rw [an_s h hb hbl] at hm
  rcases List.mem_cons.mp hm with e | hm
  · exact e
  · obtain ⟨p1, p2⟩ := h.par hb hbl
    obtain ⟨q1, q2⟩ := h.par ha hal
    have := an_mem h (i := dpar S b) (by omega) a hm
    omega
theorem all_nodup (h : WT S) : ∀ (f i : Nat), th S i → (allF S f i).Nodup := by
  intro f
  induction f with
  | zero => intro i _; exact List.nodup_nil
  | succ f ih =>
    intro i hi
    show (i :: (sK S i).flatMap (allF S f)).Nodup
    obtain ⟨k1, k2, k3⟩ := h.kids hi
    rw [List.nodup_cons]
    refine ⟨fun hm => ?_, nodup_flatMap k1 (fun x hx => ih x (k3 x hx).1) (fun x hx y hy z hz1 hz2 => ?_)⟩
    · obtain ⟨j, hj, hx⟩ := List.mem_flatMap.mp hm
      obtain ⟨a, b⟩ := all_an h f j i (k3 j hj).1 hx
      have := an_mem h.pw a.lt j b
      have := (h.kid_gt hi hj).1
      omega
    · obtain ⟨a, b⟩ := all_an h f x z (k3 x hx).1 hz1
      obtain ⟨-, b2⟩ := all_an h f y z (k3 y hy).1 hz2
      have he : dpar S x = dpar S y := by rw [(k3 x hx).2.2, (k3 y hy).2.2]
      rcases an_lin h.pw z a.lt b b2 with q | q
      · exact an_sib h.pw (k3 x hx).2.1 (k3 y hy).2.1 (k3 x hx).1.lt (k3 y hy).1.lt he q
      · exact (an_sib h.pw (k3 y hy).2.1 (k3 x hx).2.1 (k3 y hy).1.lt (k3 x hx).1.lt he.symm q).symm
theorem all_len (h : WT S) {i : Nat} (hi : th S i) : (allF S 40 i).length ≤ 40 := by
  have := List.Nodup.length_le_of_subset (all_nodup h 40 i hi) (l₂ := List.range 40) (fun x hx => List.mem_range.mpr ((all_an h 40 i x hi hx).1.l40 h))
  rw [List.length_range] at this
  exact this
theorem ord_len (h : WT S) : (ord S).length ≤ 40 := Nat.le_trans (ord_le 40 0) (all_len h h.2.1)
theorem ord_th (h : WT S) : ∀ (f i x : Nat), th S i → x ∈ ordF S f i → th S x := by
  intro f
  induction f with
  | zero => intro i x _ hx; exact absurd hx List.not_mem_nil
  | succ f ih =>
    intro i x hi hx
    have hx : x ∈ (if hid S i = true then [] else i :: (sK S i).flatMap (ordF S f)) := hx
    split at hx
    · exact absurd hx List.not_mem_nil
    · rcases List.mem_cons.mp hx with e | hx
      · subst e; exact hi
      · obtain ⟨j, hj, hxj⟩ := List.mem_flatMap.mp hx
        exact ih j x (h.kid_gt hi hj).2 hxj
/-- what is shown is in the order -/
theorem ord_shn (h : WT S) : ∀ i, i < made S → th S i → shn S i = true → i ∈ ord S := by
  have key : ∀ i, i < made S → th S i → shn S i = true → ∀ r, r ∈ ordF S 40 i → r ∈ ord S := by
    refine an_ind h.pw (fun _ _ r hr => hr) (fun i i0 il ih hi hs r hr => ?_)
    rw [shn_s h.pw i0 il, Bool.and_eq_true] at hs
    obtain ⟨u1, u2⟩ := h.up i0 hi
    refine ih u1 hs.2 r ?_
    rw [ord_eq h u1, if_neg (fun z => ?_)]
    · exact List.mem_cons_of_mem _ (List.mem_flatMap.mpr ⟨i, u2, hr⟩)
    · have : shn S (dpar S i) = true := hs.2
      by_cases e : dpar S i = 0
      · rw [e, shn_0 h.pw] at this
        rw [e] at z
        rw [z] at this; cases this
      · rw [shn_s h.pw (by omega) u1.lt, z] at this
        cases this
  intro i il hi hs
  refine key i il hi hs i ?_
  rw [ord_eq h hi, if_neg (fun z => ?_)]
  · exact List.mem_cons_self
  · by_cases e : i = 0
    · subst e
      rw [shn_0 h.pw, z] at hs; cases hs
    · rw [shn_s h.pw (by omega) il, z] at hs; cases hs
theorem gn_app2 {l r : List Nat} {k : Nat} : gn (l ++ r) (l.length + k) = gn r k := by
  unfold gn
  rw [List.getD_eq_getElem?_getD, List.getD_eq_getElem?_getD, List.getElem?_append_right (by omega), Nat.add_sub_cancel_left]
theorem gn_app {l r : List Nat} {k : Nat} (h : k < l.length) : gn (l ++ r) k = gn l k := by
  rw [gn_of h, gn_of (by rw [List.length_append]; omega), List.getElem_append_left h]
/-- f bears numbers l from o on -/
def Sn (f : Nat → Int32) (o : Nat) (l : List Nat) : Prop := ∀ k, k < l.length → f (o + k) = nI (gn l k)
end OR
section MO
variable {S : SS} {m : mm}
def osc : List Nat := [49, 50, 51]
/-- the stack's row: the first of st on top -/
def Stk (m : mm) (st : List Nat) : Prop := ∀ k, k < st.length → m 51 (st.length - 1 - k) = nI (gn st k)
/-- a turn of the walk -/
def OX (S : SS) (m0 : mm) (st done : List Nat) (m : mm) : Prop := Stk m st ∧ Sn (m 49) 0 done ∧ m 50 0 = nI done.length ∧ done ++ st.flatMap (ordF S 40) = ord S ∧ (∀ x ∈ st, th S x) ∧ (st.flatMap (allF S 40)).length + done.length ≤ 40 ∧ Sm osc m0 m
theorem flatMap_pos (h : WT S) {st : List Nat} (hst : ∀ x ∈ st, th S x) : st.length ≤ (st.flatMap (allF S 40)).length := by
  induction st with
  | nil => exact Nat.le_refl _
  | cons a st ih =>
    have h1 := ih (fun x hx => hst x (List.mem_cons_of_mem _ hx))
    have h2 := hst a List.mem_cons_self
    rw [List.flatMap_cons, List.length_append, all_eq h h2, List.length_cons, List.length_cons]
    omega
end MO

/-! ===== the reading order ===== -/
def allF (S : SS) : Nat → Nat → List Nat
  | 0, _ => []
  | f + 1, i => i :: (sK S i).flatMap (allF S f)
theorem flatMap_cg {α β : Type} {f g : α → List β} : ∀ {l : List α}, (∀ x ∈ l, f x = g x) → l.flatMap f = l.flatMap g
  | [], _ => rfl
  | a :: l, h => by
    rw [List.flatMap_cons, List.flatMap_cons, h a List.mem_cons_self, flatMap_cg (fun x hx => h x (List.mem_cons_of_mem _ hx))]
theorem flatMap_le {α β : Type} {f g : α → List β} : ∀ {l : List α}, (∀ x ∈ l, (f x).length ≤ (g x).length) → (l.flatMap f).length ≤ (l.flatMap g).length
  | [], _ => Nat.le_refl _
  | a :: l, h => by
    rw [List.flatMap_cons, List.flatMap_cons, List.length_append, List.length_append]
    have h1 := h a List.mem_cons_self
    have h2 := flatMap_le (f := f) (g := g) (l := l) (fun x hx => h x (List.mem_cons_of_mem _ hx))
    omega
theorem nodup_flatMap {f : Nat → List Nat} : ∀ {l : List Nat}, l.Nodup → (∀ x ∈ l, (f x).Nodup) → (∀ x ∈ l, ∀ y ∈ l, ∀ z, z ∈ f x → z ∈ f y → x = y) → (l.flatMap f).Nodup
  | [], _, _, _ => List.nodup_nil
  | a :: l, h1, h2, h3 => by
    rw [List.flatMap_cons]
    rw [List.nodup_cons] at h1
    refine List.nodup_append.mpr ⟨h2 a List.mem_cons_self, nodup_flatMap h1.2 (fun x hx => h2 x (List.mem_cons_of_mem _ hx)) (fun x hx y hy z => h3 x (List.mem_cons_of_mem _ hx) y (List.mem_cons_of_mem _ hy) z), fun z hz w hw e => ?_⟩
    subst e
    obtain ⟨y, hy, hz2⟩ := List.mem_flatMap.mp hw
    have := h3 a List.mem_cons_self y (List.mem_cons_of_mem _ hy) z hz hz2
    subst this
    exact h1.1 hy
section OR
variable {S : SS}
theorem WT.kid_gt (h : WT S) {i j : Nat} (hi : th S i) (hj : j ∈ sK S i) : i < j ∧ th S j := by
  obtain ⟨a, b, c⟩ := (h.kids hi).2.2 j hj
  have := (h.pw.par b a.lt).1
  exact ⟨by omega, a⟩
theorem ordF_f (h : WT S) : ∀ (n i f f' : Nat), th S i → 40 - i ≤ n → 40 - i ≤ f → 40 - i ≤ f' → ordF S f i = ordF S f' i := by
  intro n
  induction n with
  | zero =>
    intro i f f' hi hn
    have := hi.l40 h
    omega
  | succ n ih =>
    intro i f f' hi hn hf hf'
    have h40 := hi.l40 h
    obtain ⟨f, rfl⟩ : ∃ g, f = g + 1 := ⟨f - 1, by omega⟩
    obtain ⟨f', rfl⟩ : ∃ g, f' = g + 1 := ⟨f' - 1, by omega⟩
    show (if hid S i = true then [] else i :: (sK S i).flatMap (ordF S f)) = (if hid S i = true then [] else i :: (sK S i).flatMap (ordF S f'))
    rw [flatMap_cg (f := ordF S f) (g := ordF S f') (fun j hj => by
      obtain ⟨h1, h2⟩ := h.kid_gt hi hj
      have := h2.l40 h
      exact ih j f f' h2 (by omega) (by omega) (by omega))]
theorem allF_f (h : WT S) : ∀ (n i f f' : Nat), th S i → 40 - i ≤ n → 40 - i ≤ f → 40 - i ≤ f' → allF S f i = allF S f' i := by
  intro n
  induction n with
  | zero =>
    intro i f f' hi hn
    have := hi.l40 h
    omega
  | succ n ih =>
    intro i f f' hi hn hf hf'
    have h40 := hi.l40 h
    obtain ⟨f, rfl⟩ : ∃ g, f = g + 1 := ⟨f - 1, by omega⟩
    obtain ⟨f', rfl⟩ : ∃ g, f' = g + 1 := ⟨f' - 1, by omega⟩
    show i :: (sK S i).flatMap (allF S f) = i :: (sK S i).flatMap (allF S f')
    rw [flatMap_cg (f := allF S f) (g := allF S f') (fun j hj => by
      obtain ⟨h1, h2⟩ := h.kid_gt hi hj
      have := h2.l40 h
      exact ih j f f' h2 (by omega) (by omega) (by omega))]
theorem ord_eq (h : WT S) {i : Nat} (hi : th S i) : ordF S 40 i = if hid S i = true then [] else i :: (sK S i).flatMap (ordF S 40) := by
  have h40 := hi.l40 h
  show (if hid S i = true then [] else i :: (sK S i).flatMap (ordF S 39)) = _
  rw [flatMap_cg (f := ordF S 39) (g := ordF S 40) (fun j hj => by
    obtain ⟨h1, h2⟩ := h.kid_gt hi hj
    have := h2.l40 h
    exact ordF_f h 40 j 39 40 h2 (by omega) (by omega) (by omega))]
theorem all_eq (h : WT S) {i : Nat} (hi : th S i) : allF S 40 i = i :: (sK S i).flatMap (allF S 40) := by
  have h40 := hi.l40 h
  show i :: (sK S i).flatMap (allF S 39) = _
  rw [flatMap_cg (f := allF S 39) (g := allF S 40) (fun j hj => by
    obtain ⟨h1, h2⟩ := h.kid_gt hi hj
    have := h2.l40 h
    exact allF_f h 40 j 39 40 h2 (by omega) (by omega) (by omega))]
theorem ord_le (f : Nat) : ∀ i, (ordF S f i).length ≤ (allF S f i).length := by
  induction f with
  | zero => intro i; exact Nat.le_refl _
  | succ f ih =>
    intro i
    show (if hid S i = true then [] else i :: (sK S i).flatMap (ordF S f)).length ≤ (i :: (sK S i).flatMap (allF S f)).length
    split
    · exact Nat.zero_le _
    · rw [List.length_cons, List.length_cons]
      have := flatMap_le (f := ordF S f) (g := allF S f) (l := sK S i) (fun x _ => ih x)
      omega
/-- descendants have it among those above them -/
theorem all_an (h : WT S) : ∀ (f i x : Nat), th S i → x ∈ allF S f i → th S x ∧ i ∈ an S x := by
  intro f
  induction f with
  | zero => intro i x _ hx; exact absurd hx List.not_mem_nil
  | succ f ih =>
    intro i x hi hx
    have hself : i ∈ an S i := by
      by_cases e : i = 0
      · subst e; rw [an_0 h.pw]; exact List.mem_singleton.mpr rfl
      · rw [an_s h.pw (by omega) hi.lt]; exact List.mem_cons_self
    rcases List.mem_cons.mp (show x ∈ i :: (sK S i).flatMap (allF S f) from hx) with e | hx
    · subst e
      exact ⟨hi, hself⟩
    · obtain ⟨j, hj, hxj⟩ := List.mem_flatMap.mp hx
      obtain ⟨a, b, c⟩ := (h.kids hi).2.2 j hj
      obtain ⟨d, e⟩ := ih j x a hxj
      refine ⟨d, ?_⟩
      -- i is above j, j above x
      have key : ∀ y, y < made S → j ∈ an S y → i ∈ an S y := by
        refine an_ind h.pw (fun hy => ?_) (fun y y0 yl ihy hy => ?_)
        · rw [an_0 h.pw] at hy
          have := List.mem_singleton.mp hy
          omega
        · rw [an_s h.pw y0 yl] at hy ⊢
          rcases List.mem_cons.mp hy with e | hy
          · refine List.mem_cons_of_mem _ ?_
            rw [← e, c]
            exact hself
          · exact List.mem_cons_of_mem _ (ihy hy)
      exact key x d.lt e
theorem an_lin (h : PW S) {a b : Nat} : ∀ x, x < made S → a ∈ an S x → b ∈ an S x → a ∈ an S b ∨ b ∈ an S a := by
  refine an_ind h (fun ha hb => ?_) (fun x x0 xl ih ha hb => ?_)
  · rw [an_0 h] at ha hb
    rw [List.mem_singleton.mp ha, List.mem_singleton.mp hb, an_0 h]
    exact Or.inl (List.mem_singleton.mpr rfl)
  · rw [an_s h x0 xl] at ha hb
    rcases List.mem_cons.mp ha with e | ha
    · refine Or.inr ?_
      rw [e, an_s h x0 xl]; exact hb
    · rcases List.mem_cons.mp hb with e | hb
      · refine Or.inl ?_
        rw [e, an_s h x0 xl]; exact List.mem_cons_of_mem _ ha
      · exact ih ha hb
theorem an_sib (h : PW S) {a b : Nat} (ha : 0 < a) (hb : 0 < b) (hal : a < made S) (hbl : b < made S) (he : dpar S a = dpar S b) (hm : a ∈ an S b) : a = b := by
  rw [an_s h hb hbl] at hm
  rcases List.mem_cons.mp hm with e | hm
  · exact e
  · obtain ⟨p1, p2⟩ := h.par hb hbl
    obtain ⟨q1, q2⟩ := h.par ha hal
    have := an_mem h (i := dpar S b) (by omega) a hm
    omega
theorem all_nodup (h : WT S) : ∀ (f i : Nat), th S i → (allF S f i).Nodup := by
  intro f
  induction f with
  | zero => intro i _; exact List.nodup_nil
  | succ f ih =>
    intro i hi
    show (i :: (sK S i).flatMap (allF S f)).Nodup
    obtain ⟨k1, k2, k3⟩ := h.kids hi
    rw [List.nodup_cons]
    refine ⟨fun hm => ?_, nodup_flatMap k1 (fun x hx => ih x (k3 x hx).1) (fun x hx y hy z hz1 hz2 => ?_)⟩
    · obtain ⟨j, hj, hx⟩ := List.mem_flatMap.mp hm
      obtain ⟨a, b⟩ := all_an h f j i (k3 j hj).1 hx
      have := an_mem h.pw a.lt j b
      have := (h.kid_gt hi hj).1
      omega
    · obtain ⟨a, b⟩ := all_an h f x z (k3 x hx).1 hz1
      obtain ⟨-, b2⟩ := all_an h f y z (k3 y hy).1 hz2
      have he : dpar S x = dpar S y := by rw [(k3 x hx).2.2, (k3 y hy).2.2]
      rcases an_lin h.pw z a.lt b b2 with q | q
      · exact an_sib h.pw (k3 x hx).2.1 (k3 y hy).2.1 (k3 x hx).1.lt (k3 y hy).1.lt he q
      · exact (an_sib h.pw (k3 y hy).2.1 (k3 x hx).2.1 (k3 y hy).1.lt (k3 x hx).1.lt he.symm q).symm
theorem all_len (h : WT S) {i : Nat} (hi : th S i) : (allF S 40 i).length ≤ 40 := by
  have := List.Nodup.length_le_of_subset (all_nodup h 40 i hi) (l₂ := List.range 40) (fun x hx => List.mem_range.mpr ((all_an h 40 i x hi hx).1.l40 h))
  rw [List.length_range] at this
  exact this
theorem ord_len (h : WT S) : (ord S).length ≤ 40 := Nat.le_trans (ord_le 40 0) (all_len h h.2.1)
theorem ord_th (h : WT S) : ∀ (f i x : Nat), th S i → x ∈ ordF S f i → th S x := by
  intro f
  induction f with
  | zero => intro i x _ hx; exact absurd hx List.not_mem_nil
  | succ f ih =>
    intro i x hi hx
    have hx : x ∈ (if hid S i = true then [] else i :: (sK S i).flatMap (ordF S f)) := hx
    split at hx
    · exact absurd hx List.not_mem_nil
    · rcases List.mem_cons.mp hx with e | hx
      · subst e; exact hi
      · obtain ⟨j, hj, hxj⟩ := List.mem_flatMap.mp hx
        exact ih j x (h.kid_gt hi hj).2 hxj
/-- what is shown is in the order -/
theorem ord_shn (h : WT S) : ∀ i, i < made S → th S i → shn S i = true → i ∈ ord S := by
  have key : ∀ i, i < made S → th S i → shn S i = true → ∀ r, r ∈ ordF S 40 i → r ∈ ord S := by
    refine an_ind h.pw (fun _ _ r hr => hr) (fun i i0 il ih hi hs r hr => ?_)
    rw [shn_s h.pw i0 il, Bool.and_eq_true] at hs
    obtain ⟨u1, u2⟩ := h.up i0 hi
    refine ih u1 hs.2 r ?_
    rw [ord_eq h u1, if_neg (fun z => ?_)]
    · exact List.mem_cons_of_mem _ (List.mem_flatMap.mpr ⟨i, u2, hr⟩)
    · have : shn S (dpar S i) = true := hs.2
      by_cases e : dpar S i = 0
      · rw [e, shn_0 h.pw] at this
        rw [e] at z
        rw [z] at this; cases this
      · rw [shn_s h.pw (by omega) u1.lt, z] at this
        cases this
  intro i il hi hs
  refine key i il hi hs i ?_
  rw [ord_eq h hi, if_neg (fun z => ?_)]
  · exact List.mem_cons_self
  · by_cases e : i = 0
    · subst e
      rw [shn_0 h.pw, z] at hs; cases hs
    · rw [shn_s h.pw (by omega) il, z] at hs; cases hs
theorem gn_app2 {l r : List Nat} {k : Nat} : gn (l ++ r) (l.length + k) = gn r k := by
  unfold gn
  rw [List.getD_eq_getElem?_getD, List.getD_eq_getElem?_getD, List.getElem?_append_right (by omega), Nat.add_sub_cancel_left]
theorem gn_app {l r : List Nat} {k : Nat} (h : k < l.length) : gn (l ++ r) k = gn l k := by
  rw [gn_of h, gn_of (by rw [List.length_append]; omega), List.getElem_append_left h]
/-- f bears numbers l from o on -/
def Sn (f : Nat → Int32) (o : Nat) (l : List Nat) : Prop := ∀ k, k < l.length → f (o + k) = nI (gn l k)
end OR
section MO
variable {S : SS} {m : mm}
def osc : List Nat := [49, 50, 51]
/-- the stack's row: the first of st on top -/
def Stk (m : mm) (st : List Nat) : Prop := ∀ k, k < st.length → m 51 (st.length - 1 - k) = nI (gn st k)
theorem m_push_kids (hM : RM S m) (h : WT S) {x : Nat} (hx : th S x) (st : List Nat) (hst : st.length + (sK S x).length ≤ 40) (hS : Stk m st) : ∀ (n : Nat), n ≤ (sK S x).length → ∀ (m1 : mm), Sm osc m m1 → (m1 49 = m 49 ∧ m1 50 = m 50) → Stk m1 ((sK S x).drop n ++ st) → ∀ fu, n < fu → ∃ m2, itr (fX11_layOrder_B66 (nI x)) fu (nI (((sK S x).drop n ++ st).length), (nI n - 1), m1) = some (nI ((sK S x ++ st).length), m2) ∧ Stk m2 (sK S x ++ st) ∧ Sm osc m m2 ∧ (m2 49 = m 49 ∧ m2 50 = m 50) := by
  have hx40 := hx.l40 h
  obtain ⟨k1, k2, k3⟩ := h.kids hx
  intro n
  induction n with
  | zero =>
    intro _ m1 s1 e1 S1 fu hf
    obtain ⟨fu, rfl⟩ : ∃ g, fu = g + 1 := ⟨fu - 1, by omega⟩
    rw [List.drop_zero] at S1 ⊢
    refine ⟨m1, itr_end ?_ fu, S1, s1, e1⟩
    unfold fX11_layOrder_B66
    rw [if_pos (show (nI 0 - 1 : Int32) < 0 by decide)]
  | succ n ih =>
    intro hn m1 s1 e1 S1 fu hf
    obtain ⟨fu, rfl⟩ : ∃ g, fu = g + 1 := ⟨fu - 1, by omega⟩
    have hlen : ((sK S x).drop (n + 1) ++ st).length = (sK S x).length - (n + 1) + st.length := by rw [List.length_append, List.length_drop]
    have hM1 : RM S m1 := hM.sm (s1.mono (by decide))
    have hd : (sK S x).drop n = gn (sK S x) n :: (sK S x).drop (n + 1) := by
      rw [List.drop_eq_getElem_cons (by omega), gn_of (by omega)]
    have hlen2 : ((sK S x).drop n ++ st).length = ((sK S x).drop (n + 1) ++ st).length + 1 := by
      rw [hd]; rfl
    have hF : fX11_layOrder_B66 (nI x) (nI (((sK S x).drop (n + 1) ++ st).length), (nI (n + 1) - 1), m1) = some (.inl (nI (((sK S x).drop n ++ st).length), nI n - 1, up2 m1 51 (((sK S x).drop (n + 1) ++ st).length) (nI (gn (sK S x) n)))) := by
      unfold fX11_layOrder_B66
      simp only []
      rw [nI_pred, if_neg (nI_pos (by omega)), m_kid hM1 hx40 (by omega) k2, sb, mS_ok rfl (show _ < 40 by omega), sb, nI_1, hlen2]
      rw [show nI n + (-1 : Int32) = nI n - 1 from by rw [Int32.sub_eq_add_neg]]
    rw [itr_step hF]
    refine ih (by omega) _ (s1.tr (Sm.up (by decide))) ⟨by rw [up_f _ _ _ (by decide)]; exact e1.1, by rw [up_f _ _ _ (by decide)]; exact e1.2⟩ (fun k hk => ?_) fu (by omega)
    rw [hlen2] at hk ⊢
    rw [Nat.add_sub_cancel]
    cases k with
    | zero =>
      rw [Nat.sub_zero, up_s, hd]; rfl
    | succ k =>
      rw [up_n _ _ _ (by omega), show ((sK S x).drop (n + 1) ++ st).length - (k + 1) = ((sK S x).drop (n + 1) ++ st).length - 1 - k by omega, S1 k (by omega), hd]
      rfl
/-- a turn of the walk -/
def OX (S : SS) (m0 : mm) (st done : List Nat) (m : mm) : Prop := Stk m st ∧ Sn (m 49) 0 done ∧ m 50 0 = nI done.length ∧ done ++ st.flatMap (ordF S 40) = ord S ∧ (∀ x ∈ st, th S x) ∧ (st.flatMap (allF S 40)).length + done.length ≤ 40 ∧ Sm osc m0 m
theorem flatMap_pos (h : WT S) {st : List Nat} (hst : ∀ x ∈ st, th S x) : st.length ≤ (st.flatMap (allF S 40)).length := by
  induction st with
  | nil => exact Nat.le_refl _
  | cons a st ih =>
    have h1 := ih (fun x hx => hst x (List.mem_cons_of_mem _ hx))
    have h2 := hst a List.mem_cons_self
    rw [List.flatMap_cons, List.length_append, all_eq h h2, List.length_cons, List.length_cons]
    omega
theorem m_lay_s (hM : RM S m) (h : WT S) {x : Nat} {st done : List Nat} {m1 : mm} (hX : OX S m (x :: st) done m1) : ∃ st' done' m2, fX11_layOrder_B14 (nI (x :: st).length, m1) = some (.inl (nI st'.length, m2)) ∧ OX S m st' done' m2 ∧ (st'.flatMap (allF S 40)).length < ((x :: st).flatMap (allF S 40)).length := by
  obtain ⟨x1, x2, x3, x4, x5, x6, x7⟩ := hX
  have hx := x5 x List.mem_cons_self
  have hx40 := hx.l40 h
  have hst : ∀ y ∈ st, th S y := fun y hy => x5 y (List.mem_cons_of_mem _ hy)
  have hM1 : RM S m1 := hM.sm (x7.mono (by decide))
  obtain ⟨k1, k2, k3⟩ := h.kids hx
  have hsl := flatMap_pos h x5
  rw [List.length_cons] at hsl
  have hall : ((x :: st).flatMap (allF S 40)) = x :: ((sK S x).flatMap (allF S 40) ++ st.flatMap (allF S 40)) := by
    rw [List.flatMap_cons, all_eq h hx]; rfl
  have hkl := flatMap_pos h (st := sK S x) (fun y hy => (k3 y hy).1)
  have hsz : ((x :: st).flatMap (allF S 40)).length = ((sK S x).flatMap (allF S 40)).length + (st.flatMap (allF S 40)).length + 1 := by rw [hall, List.length_cons, List.length_append]
  rw [hsz] at x6 hsl ⊢
  have hsl2 := flatMap_pos h hst
  have htop : m1 51 st.length = nI x := by
    have := x1 0 (by simp)
    simp only [List.length_cons, Nat.add_sub_cancel, Nat.sub_zero] at this
    exact this
  have hS1 : Stk m1 st := fun k hk => by
    have := x1 (k + 1) (by simp; omega)
    simp only [List.length_cons, Nat.add_sub_cancel] at this
    rw [show st.length - (k + 1) = st.length - 1 - k by omega] at this
    exact this
  have pre : ∀ r, (mL 51 (nI (x :: st).length + (-1 : Int32)) m1).bind r = (r (nI x) : Option ((Int32 × mm) ⊕ mm)) := by
    intro r
    rw [List.length_cons, nI_dec, mL_ok rfl (show st.length < 40 by omega), htop, sb]
  unfold fX11_layOrder_B14
  show ∃ st' done' m2, (if nI (x :: st).length ≤ 0 then _ else _) = _ ∧ _
  rw [if_neg (nI_nle (by simp) (by simp; omega))]
  simp only [pre]
  rw [m_hid hM1 hx40, sb]
  rw [List.flatMap_cons, ord_eq h hx] at x4
  have hh : hid S x = decide (sI S 12 x ≠ 0) := rfl
  by_cases e : sI S 12 x = 0
  · rw [if_pos e]
    have hx0 : hid S x = false := by rw [hh]; simp [e]
    rw [hx0] at x4
    simp only [Bool.false_eq_true, if_false] at x4
    rw [x3, mS_ok rfl (show done.length < 40 by omega), sb, up_f _ _ _ (show (50 : Nat) ≠ 49 by decide), x3, mPIs, sb]
    have s3 : Sm osc m1 (up2 (up2 m1 49 done.length (nI x)) 50 0 (nI done.length + 1)) := (Sm.up (by decide)).tr (Sm.up (by decide))
    have hM3 : RM S (up2 (up2 m1 49 done.length (nI x)) 50 0 (nI done.length + 1)) := hM1.sm (s3.mono (by decide))
    rw [m_kidn hM3 hx40, sb]
    obtain ⟨m4, a1, a2, a3, a4, a5⟩ := m_push_kids hM3 h hx st (by omega) (fun k hk => by rw [up_f _ _ _ (by decide), up_f _ _ _ (by decide)]; exact hS1 k hk) (sK S x).length (Nat.le_refl _) _ Sm.rf ⟨rfl, rfl⟩ (by rw [List.drop_length, List.nil_append]; intro k hk; rw [up_f _ _ _ (by decide), up_f _ _ _ (by decide)]; exact hS1 k hk) FU (FU_lt (by omega))
    rw [List.drop_length, List.nil_append] at a1
    rw [List.length_cons, nI_dec, a1, sb]
    refine ⟨sK S x ++ st, done ++ [x], m4, rfl, ⟨a2, ?_, ?_, ?_, ?_, ?_, (x7.tr s3).tr a3⟩, ?_⟩
    · intro k hk
      rw [List.length_append, List.length_singleton] at hk
      rw [a4, up_f _ _ _ (by decide)]
      by_cases ek : k = done.length
      · subst ek
        rw [Nat.zero_add, up_s]
        have := gn_app2 (l := done) (r := [x]) (k := 0)
        rw [Nat.add_zero] at this
        rw [this]; rfl
      · rw [up_n _ _ _ (by omega), gn_app (by omega)]
        exact x2 k (by omega)
    · rw [a5, up_s, List.length_append, List.length_singleton, nI_1]
    · rw [← x4, List.append_assoc, List.flatMap_append]; rfl
    · intro y hy
      rcases List.mem_append.mp hy with q | q
      · exact (k3 y q).1
      · exact hst y q
    · rw [List.flatMap_append, List.length_append, List.length_append, List.length_singleton]; omega
    · rw [List.flatMap_append, List.length_append]; omega
  · rw [if_neg e, List.length_cons, nI_dec]
    have hx1 : hid S x = true := by rw [hh]; simp [e]
    rw [hx1] at x4
    simp only [if_true, List.nil_append] at x4
    exact ⟨st, done, m1, rfl, ⟨hS1, x2, x3, x4, hst, by omega, x7⟩, by omega⟩
theorem m_order (hM : RM S m) (h : WT S) : ∃ m', fX11_layOrder m = some ((), m') ∧ Sn (m' 49) 0 (ord S) ∧ m' 50 0 = nI (ord S).length ∧ Sm osc m m' := by
  have h0 : th S 0 := h.2.1
  have hal := all_len h h0
  have key : ∃ m', itr (fX11_layOrder_B14) FU ((1 : Int32), up2 (up2 m 51 0 0) 50 0 0) = some m' ∧ (Sn (m' 49) 0 (ord S) ∧ m' 50 0 = nI (ord S).length ∧ Sm osc m m') := by
    refine itr_run (X := fun n a => ∃ st done, a.1 = nI st.length ∧ OX S m st done a.2 ∧ (st.flatMap (allF S 40)).length ≤ n) (fun n a hX => ?_) FU 40 _ (FU_lt (by omega)) ⟨[0], [], rfl, ⟨?_, fun k hk => absurd hk (Nat.not_lt_zero k), (show up2 (up2 m 51 0 0) 50 0 0 50 0 = 0 from up_s _ _ _ _), ?_, ?_, ?_, (Sm.up (by decide)).tr (Sm.up (by decide))⟩, ?_⟩
    · obtain ⟨st, done, e1, hO, hn⟩ := hX
      obtain ⟨i, m1⟩ := a
      simp only at e1 hO
      subst e1
      cases st with
      | nil =>
        obtain ⟨x1, x2, x3, x4, x5, x6, x7⟩ := hO
        refine Or.inr ⟨m1, ?_, ?_⟩
        · unfold fX11_layOrder_B14
          show (if nI ([] : List Nat).length ≤ 0 then _ else _) = _
          rw [if_pos (show nI ([] : List Nat).length ≤ 0 by decide)]
        · rw [List.flatMap_nil, List.append_nil] at x4
          rw [← x4]
          exact ⟨x2, x3, x7⟩
      | cons x st =>
        obtain ⟨st', done', m2, a1, a2, a3⟩ := m_lay_s hM h hO
        exact Or.inl ⟨_, (st'.flatMap (allF S 40)).length, a1, by omega, st', done', rfl, a2, Nat.le_refl _⟩
    · intro k hk
      have : k = 0 := by simp at hk; omega
      subst this
      show up2 (up2 m 51 0 0) 50 0 0 51 0 = nI 0
      rw [up_f _ _ _ (by decide), up_s]; rfl
    · rw [List.flatMap_cons, List.flatMap_nil, List.append_nil, List.nil_append]; rfl
    · intro x hx
      rw [List.mem_singleton.mp hx]; exact h0
    · rw [List.flatMap_cons, List.flatMap_nil, List.append_nil, List.length_nil]; omega
    · rw [List.flatMap_cons, List.flatMap_nil, List.append_nil]; exact hal
  obtain ⟨m', a1, a2⟩ := key
  refine ⟨m', ?_, a2⟩
  unfold fX11_layOrder
  rw [show (0 : Int32) = nI 0 from rfl, mS_ok rfl (show 0 < 40 by decide), sb, mPIs, sb]
  rw [show (nI 0 : Int32) = 0 from rfl, a1]; rfl
end MO

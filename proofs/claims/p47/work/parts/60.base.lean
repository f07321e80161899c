/-! ===== numbers, lists, loops: what the functions' proofs stand on ===== -/
theorem nI_mul (a b : Nat) : nI a * nI b = nI (a * b) := (Int32.ofNat_mul a b).symm
theorem nI_sub {a b : Nat} (h : b ≤ a) : nI a - nI b = nI (a - b) := (Int32.ofNat_sub a b h).symm
theorem nI_div {a b : Nat} (ha : a < 2 ^ 31) (hb : b < 2 ^ 31) : nI a / nI b = nI (a / b) := (Int32.ofNat_div ha hb).symm
theorem nI_m1 {a : Nat} (h : a < 2 ^ 31) : ¬ nI a = -1 := by
  intro e
  have h2 := congrArg Int32.toInt e
  rw [nI_toInt h] at h2
  have h3 : (-1 : Int32).toInt = -1 := by decide
  omega
theorem inb_nI {a n : Nat} (h : a < n) (hn : n < 2 ^ 31) : inb (nI a) n = true := by
  unfold inb
  rw [nI_toInt (by omega)]
  exact decide_eq_true ⟨by omega, by omega⟩
theorem nI_dec (a : Nat) : nI (a + 1) + (-1 : Int32) = nI a := by
  rw [nI_succ, Int32.add_assoc]
  show nI a + (1 + -1) = nI a
  rw [show (1 : Int32) + -1 = 0 from by decide, Int32.add_zero]
theorem nI_rem {a b : Nat} (ha : a < 2 ^ 31) (hb : b < 2 ^ 31) : nI a - nI a / nI b * nI b = nI (a % b) := by
  rw [nI_div ha hb, nI_mul, nI_sub (Nat.div_mul_le_self a b)]
  congr 1
  have := Nat.div_add_mod a b
  rw [Nat.mul_comm]
  omega
theorem ml_lt (k : Nat) : ml k < 4001 := by
  rcases Nat.lt_or_ge k 54 with q | q
  · have : ∀ k, k < 54 → ml k < 4001 := by decide +kernel
    exact this k q
  · rw [ml_big q]; omega
theorem mL_ok {k a : Nat} {m : mm} (h1 : mk k = 20) (h2 : a < ml k) : mL k (nI a) m = some (m k a) := by
  have := ml_lt k
  unfold mL
  rw [if_pos ⟨h1, inb_nI h2 (by omega)⟩, nI_clamp (by omega)]
theorem mLZ_ok {k a : Nat} {m : mm} (h1 : mk k = 21) (h2 : a < ml k) : mLZ k (nI a) m = some (m k a) := by
  have := ml_lt k
  unfold mLZ
  rw [if_pos ⟨h1, inb_nI h2 (by omega)⟩, nI_clamp (by omega)]
theorem mS_ok {k a : Nat} {x : Int32} {m : mm} (h1 : mk k = 20) (h2 : a < ml k) : mS k (nI a) x m = some (up2 m k a x) := by
  have := ml_lt k
  unfold mS
  rw [if_pos ⟨h1, inb_nI h2 (by omega)⟩, nI_clamp (by omega)]
theorem mSZ_ok {k a : Nat} {x : Int32} {m : mm} (h1 : mk k = 21) (h2 : a < ml k) (hx : x = 0 ∨ x = 1) : mSZ k (nI a) x m = some (up2 m k a x) := by
  have := ml_lt k
  unfold mSZ
  rw [if_pos ⟨h1, inb_nI h2 (by omega), hx⟩, nI_clamp (by omega)]
theorem mPZ_ok {k : Nat} {x : Int32} {m : mm} (hx : x = 0 ∨ x = 1) : mPZ k x m = some (up2 m k 0 x) := by
  unfold mPZ
  rw [if_pos hx]
theorem sb {α β : Type} (a : α) (f : α → Option β) : (some a).bind f = f a := rfl
theorem oMs {ρ β : Type} (x : ρ) (m : mm) (f : ρ → mm → Option β) : oM (some (x, m)) f = f x m := rfl
theorem o2s {ρ β : Type} (x : ρ) (h : hp) (f : ρ → hp → Option β) : o2 (some (x, h)) f = f x h := rfl
theorem oRr {τ σ : Type} (x : σ) (f : σ → Option τ) : oR (some (.inr x)) f = f x := rfl
theorem oRl {τ σ : Type} (x : τ) (f : σ → Option τ) : oR (some (.inl x)) f = some x := rfl
theorem mPIs (k : Nat) (x : Int32) (m : mm) : mPI k x m = some (up2 m k 0 x) := rfl
theorem o10 : oNz (10 : Int32) = some () := rfl
/-! lists -/
def ge (l : List Int32) (k : Nat) : Int32 := l.getD k 0
def gn (l : List Nat) (k : Nat) : Nat := l.getD k 0
theorem ge_of {l : List Int32} {k : Nat} (h : k < l.length) : ge l k = l[k] := by
  unfold ge
  rw [List.getD_eq_getElem?_getD, List.getElem?_eq_getElem h]
  rfl
theorem gn_of {l : List Nat} {k : Nat} (h : k < l.length) : gn l k = l[k] := by
  unfold gn
  rw [List.getD_eq_getElem?_getD, List.getElem?_eq_getElem h]
  rfl
theorem ge_app {l r : List Int32} {k : Nat} (h : k < l.length) : ge (l ++ r) k = ge l k := by
  rw [ge_of h, ge_of (by rw [List.length_append]; omega), List.getElem_append_left h]
theorem ge_app2 {l r : List Int32} {k : Nat} : ge (l ++ r) (l.length + k) = ge r k := by
  unfold ge
  rw [List.getD_eq_getElem?_getD, List.getD_eq_getElem?_getD, List.getElem?_append_right (by omega), Nat.add_sub_cancel_left]
theorem ge_last {l : List Int32} {x : Int32} : ge (l ++ [x]) l.length = x := by
  have := ge_app2 (l := l) (r := [x]) (k := 0)
  rw [Nat.add_zero] at this
  rw [this]
  rfl
theorem ge_take {l : List Int32} {k n : Nat} (h : k < n) : ge (l.take n) k = ge l k := by
  unfold ge
  rw [List.getD_eq_getElem?_getD, List.getD_eq_getElem?_getD, List.getElem?_take, if_pos h]
theorem ge_drop {l : List Int32} {k n : Nat} : ge (l.drop n) k = ge l (n + k) := by
  unfold ge
  rw [List.getD_eq_getElem?_getD, List.getD_eq_getElem?_getD, List.getElem?_drop]
theorem ge_ext {l r : List Int32} (h1 : l.length = r.length) (h2 : ∀ k, k < l.length → ge l k = ge r k) : l = r := by
  apply List.ext_getElem h1
  intro k ha hb
  rw [← ge_of ha, ← ge_of hb]
  exact h2 k ha
theorem ge_mem {l : List Int32} {k : Nat} (h : k < l.length) : ge l k ∈ l := by rw [ge_of h]; exact List.getElem_mem h
theorem gn_mem {l : List Nat} {k : Nat} (h : k < l.length) : gn l k ∈ l := by rw [gn_of h]; exact List.getElem_mem h
theorem take_succ_ge {l : List Int32} {k : Nat} (h : k < l.length) : l.take (k + 1) = l.take k ++ [ge l k] := by
  rw [List.take_add_one, List.getElem?_eq_getElem h, ge_of h]
  rfl
/-- f bears l from o on -/
def Sl (f : Nat → Int32) (o : Nat) (l : List Int32) : Prop := ∀ k, k < l.length → f (o + k) = ge l k
theorem Sl_nil {f : Nat → Int32} {o : Nat} : Sl f o [] := fun k h => absurd h (Nat.not_lt_zero k)
theorem Sl_push {f g : Nat → Int32} {o : Nat} {l : List Int32} {x : Int32} (h : Sl f o l) (h1 : g (o + l.length) = x) (h2 : ∀ k, k < l.length → g (o + k) = f (o + k)) : Sl g o (l ++ [x]) := by
  intro k hk
  rw [List.length_append, List.length_singleton] at hk
  rcases Nat.lt_or_ge k l.length with q | q
  · rw [ge_app q, h2 k q]; exact h k q
  · have : k = l.length := by omega
    subst this
    rw [ge_last]; exact h1
theorem Sl_eq {f g : Nat → Int32} {o : Nat} {l : List Int32} (h : Sl f o l) (h2 : ∀ k, k < l.length → g (o + k) = f (o + k)) : Sl g o l := fun k hk => (h2 k hk).trans (h k hk)
theorem Sl_take {f : Nat → Int32} {o n : Nat} {l : List Int32} (h : Sl f o l) : Sl f o (l.take n) := by
  intro k hk
  rw [List.length_take] at hk
  rw [ge_take (by omega)]
  exact h k (by omega)
theorem Sl_drop {f : Nat → Int32} {o n : Nat} {l : List Int32} (h : Sl f o l) : Sl f (o + n) (l.drop n) := by
  intro k hk
  rw [List.length_drop] at hk
  rw [ge_drop, Nat.add_assoc]
  exact h (n + k) (by omega)
/-! stores that differ at some fields alone -/
def Sm (ks : List Nat) (m m' : mm) : Prop := ∀ k, k ∉ ks → m' k = m k
theorem Sm.rf {ks : List Nat} {m : mm} : Sm ks m m := fun _ _ => rfl
theorem Sm.tr {ks : List Nat} {m m1 m2 : mm} (h1 : Sm ks m m1) (h2 : Sm ks m1 m2) : Sm ks m m2 := fun k hk => (h2 k hk).trans (h1 k hk)
theorem Sm.mono {ks ks' : List Nat} {m m' : mm} (h : Sm ks m m') (hs : ks.all (fun k => decide (k ∈ ks')) = true) : Sm ks' m m' := fun k hk => h k (fun hm => hk (of_decide_eq_true (List.all_eq_true.mp hs k hm)))
theorem Sm.up {ks : List Nat} {m : mm} {k i : Nat} {x : Int32} (hk : k ∈ ks) : Sm ks m (up2 m k i x) := fun _ hj => up2_ne _ _ _ (fun e => hj (by rw [e]; exact hk))
theorem Sm.at {ks : List Nat} {m m' : mm} (h : Sm ks m m') (k : Nat) (hk : decide (k ∉ ks) = true) : m' k = m k := h k (of_decide_eq_true hk)
theorem up_s (m : mm) (k i : Nat) (x : Int32) : up2 m k i x k i = x := by rw [up2_at, if_pos rfl]
theorem up_n (m : mm) (k : Nat) {i j : Nat} (x : Int32) (h : j ≠ i) : up2 m k i x k j = m k j := by rw [up2_at, if_neg h]
theorem up_f (m : mm) {k k' : Nat} (i : Nat) (x : Int32) (h : k' ≠ k) : up2 m k i x k' = m k' := up2_ne m i x h
/-! loops -/
theorem itr_step {α β : Type} {F : α → Option (α ⊕ β)} {a a' : α} (h : F a = some (.inl a')) (n : Nat) : itr F (n + 1) a = itr F n a' := by
  show (F a).bind _ = _
  rw [h]; rfl
theorem itr_end {α β : Type} {F : α → Option (α ⊕ β)} {a : α} {b : β} (h : F a = some (.inr b)) (n : Nat) : itr F (n + 1) a = some b := by
  show (F a).bind _ = _
  rw [h]; rfl
theorem itr_run {α β : Type} {F : α → Option (α ⊕ β)} {R : β → Prop} (X : Nat → α → Prop) (hs : ∀ n a, X n a → (∃ a' n', F a = some (.inl a') ∧ n' < n ∧ X n' a') ∨ ∃ b, F a = some (.inr b) ∧ R b) : ∀ (fu n : Nat) (a : α), n < fu → X n a → ∃ b, itr F fu a = some b ∧ R b
  | 0, _, _, h, _ => absurd h (Nat.not_lt_zero _)
  | fu + 1, n, a, h, hX => by
    rcases hs n a hX with ⟨a', n', h1, h2, h3⟩ | ⟨b, h1, h2⟩
    · rw [itr_step h1]
      exact itr_run X hs fu n' a' (by omega) h3
    · exact ⟨b, itr_end h1 fu, h2⟩
theorem itr_for {α β : Type} {F : α → Option (α ⊕ β)} {R : β → Prop} (X : Nat → α → Prop) (N : Nat) (hs : ∀ j a, j < N → X j a → ∃ a', F a = some (.inl a') ∧ X (j + 1) a') (he : ∀ a, X N a → ∃ b, F a = some (.inr b) ∧ R b) {fu : Nat} {a : α} (hf : N < fu) (h0 : X 0 a) : ∃ b, itr F fu a = some b ∧ R b := by
  refine itr_run (R := R) (fun n a => n ≤ N ∧ X (N - n) a) (fun n a hX => ?_) fu N a hf ⟨Nat.le_refl _, by rw [Nat.sub_self]; exact h0⟩
  obtain ⟨h1, h2⟩ := hX
  cases n with
  | zero => exact Or.inr (he a h2)
  | succ n =>
    obtain ⟨a', g1, g2⟩ := hs (N - (n + 1)) a (by omega) h2
    exact Or.inl ⟨a', n, g1, by omega, by omega, by rw [show N - n = N - (n + 1) + 1 by omega]; exact g2⟩
theorem itr_brk {α β : Type} {F : α → Option (α ⊕ β)} {R : β → Prop} (X : Nat → α → Prop) (N : Nat) (hs : ∀ j a, j < N → X j a → (∃ a', F a = some (.inl a') ∧ X (j + 1) a') ∨ ∃ b, F a = some (.inr b) ∧ R b) (he : ∀ a, X N a → ∃ b, F a = some (.inr b) ∧ R b) {fu : Nat} {a : α} (hf : N < fu) (h0 : X 0 a) : ∃ b, itr F fu a = some b ∧ R b := by
  refine itr_run (R := R) (fun n a => n ≤ N ∧ X (N - n) a) (fun n a hX => ?_) fu N a hf ⟨Nat.le_refl _, by rw [Nat.sub_self]; exact h0⟩
  obtain ⟨h1, h2⟩ := hX
  cases n with
  | zero => exact Or.inr (he a h2)
  | succ n =>
    rcases hs (N - (n + 1)) a (by omega) h2 with ⟨a', g1, g2⟩ | ⟨b, g1, g2⟩
    · exact Or.inl ⟨a', n, g1, by omega, by omega, by rw [show N - n = N - (n + 1) + 1 by omega]; exact g2⟩
    · exact Or.inr ⟨b, g1, g2⟩
theorem FU_lt {n : Nat} (h : n < 5000) : n < FU := h

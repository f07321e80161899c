/-! ===== the reference's public calls: what is asked ===== -/
def z0 (S : SS) : SS := wSI S 48 0 0
/-- the call answers, throws and leaves the desk as r says (what was thrown stands in 48) -/
def MC (S : SS) (m : mm) (f : Option (Int32 × mm)) (r : SS → aS) : Prop := ∃ m', f = some ((r S).2.1, m') ∧ RM (wSI (r (z0 S)).2.2 48 0 (r S).1) m'
theorem wSI_two (S : SS) (k i : Nat) (v w : Int32) : wSI (wSI S k i v) k i w = wSI S k i w := by
  unfold wSI
  have : up2 (up2 S.1 k i v) k i w = up2 S.1 k i w := by
    funext a j
    rw [up2_g, up2_g, up2_g]
    by_cases q : a = k ∧ j = i
    · rw [if_pos q, if_pos q]
    · rw [if_neg q, if_neg q, if_neg q]
  rw [this]
theorem inb_le (x : Int32) {n : Nat} (h1 : 1 ≤ n) (hn : n < 2 ^ 31) : inb x n = decide ((0 : Int32) ≤ x ∧ x ≤ nI n - 1) := by
  obtain ⟨n, rfl⟩ : ∃ k, n = k + 1 := ⟨n - 1, by omega⟩
  rw [nI_pred]
  unfold inb
  have h0 : (0 : Int32).toInt = 0 := by decide
  rw [decide_eq_decide, Int32.le_iff_toInt_le, Int32.le_iff_toInt_le, nI_toInt (by omega), h0]
  omega
theorem inb_le0 (x : Int32) {n : Nat} (hn : n < 2 ^ 31) : inb x n = decide ((0 : Int32) ≤ x ∧ x ≤ nI n - 1) := by
  rcases Nat.eq_zero_or_pos n with q | q
  · subst q
    unfold inb
    have h0 : (0 : Int32).toInt = 0 := by decide
    have h1 : (nI 0 - 1 : Int32).toInt = -1 := by decide
    rw [decide_eq_decide, Int32.le_iff_toInt_le, Int32.le_iff_toInt_le, h0, h1]
    omega
  · exact inb_le x q hn
theorem inb_of {x : Int32} {n : Nat} (h : inb x n = true) (hn : n < 2 ^ 31) : ∃ i, i < n ∧ x = nI i := by
  have h1 := of_decide_eq_true h
  have h0 : (0 : Int32).toInt = 0 := by decide
  obtain ⟨j, h2, h3⟩ := nI_of (x := x) (fun z => by rw [Int32.lt_iff_toInt_lt, h0] at z; omega)
  subst h3
  rw [nI_toInt h2] at h1
  exact ⟨j, by omega, rfl⟩
theorem nth_nI {i : Nat} (h : i < 2 ^ 31) : nth (nI i) = i := nI_clamp h
theorem bF : bI false = 0 := rfl
section MQ
variable {S : SS} {m : mm}
theorem m_elt (hM : RM S m) (h : PW S) (x : Int32) : fX11_isElement x m = some (bI (elt S x)) := by
  have := h.1
  have := h.2.1
  unfold fX11_isElement elt
  rw [m_in, sb, hM.made h, ← inb_le x h.1 (by omega)]
  by_cases e : inb x (made S) = true
  · obtain ⟨i, h1, rfl⟩ := inb_of e (by omega)
    rw [e, if_neg (by decide), mLZ_ok rfl (show i < 40 by omega), sb, hM.p 1 rfl, nI_clamp (by omega)]
    by_cases q : sI S 1 i = 0
    · rw [if_pos q, decide_eq_false (fun z => z q)]; rfl
    · rw [if_neg q, decide_eq_true q]; rfl
  · rw [Bool.not_eq_true] at e
    rw [e, if_pos bF]; rfl
theorem elt_th (h : PW S) {x : Int32} (e : elt S x = true) : ∃ i, x = nI i ∧ th S i := by
  have := h.2.1
  unfold elt at e
  rw [Bool.and_eq_true] at e
  obtain ⟨i, h1, rfl⟩ := inb_of e.1 (by omega)
  have h2 := of_decide_eq_true e.2
  rw [nI_clamp (by omega)] at h2
  exact ⟨i, rfl, h1, h2⟩
theorem RM.z (hM : RM S m) : RM (z0 S) (up2 m 48 0 0) := hM.wI0 rfl
theorem MC.thr {f : Option (Int32 × mm)} {r : SS → aS} {k : Int32} {X : SS} (hM : RM S m) (h1 : r S = tw k X) (h2 : (r (z0 S)).2.2 = z0 S) (hf : f = some (0, up2 m 48 0 k)) : MC S m f r := by
  refine ⟨_, by rw [h1]; exact hf, ?_⟩
  rw [h2, h1]
  show RM (wSI (wSI S 48 0 0) 48 0 k) _
  rw [wSI_two]
  exact hM.wI0 rfl
theorem MC.okr {f : Option (Int32 × mm)} {r : SS → aS} {a : Int32} {X S' : SS} (h1 : r S = rt a X) (h2 : (r (z0 S)).2.2 = S') (h48 : sI S' 48 0 = 0) (hf : ∃ m', f = some (a, m') ∧ RM S' m') : MC S m f r := by
  obtain ⟨m', g1, g2⟩ := hf
  refine ⟨m', by rw [h1]; exact g1, ?_⟩
  rw [h2, h1]
  show RM (wSI S' 48 0 0) m'
  rw [wSI_same h48]
  exact g2
theorem elt_z (S : SS) (x : Int32) : elt (z0 S) x = elt S x := rfl
theorem m_ask {x : Int32} {G : mm → Option (Int32 × mm)} {g : SS → Nat → Int32} (hM : RM S m) (h : PW S) (hg : ∀ (i : Nat) (m' : mm), x = nI i → th S i → RM (z0 S) m' → G m' = some (g S i, m')) : MC S m (oM (fX11_asksFor x m) fun x1 m2 => if x1 = 0 then some ((0 : Int32), m2) else G m2) (fun S => ask S x (g S)) := by
  unfold fX11_asksFor
  rw [m_elt hM h, sb]
  by_cases e : elt S x = true
  · obtain ⟨i, rfl, hi⟩ := elt_th h e
    have : i < 2 ^ 31 := by have := hi.1; have := h.2.1; omega
    refine MC.okr (a := g S i) (X := S) (S' := z0 S) ?_ ?_ rfl ⟨up2 m 48 0 0, ?_, hM.z⟩
    · show ask S _ _ = _
      unfold ask
      rw [if_neg (by rw [e]; decide), nth_nI this]
    · show (ask (z0 S) _ _).2.2 = _
      unfold ask
      rw [if_neg (by rw [elt_z, e]; decide)]; rfl
    · rw [e, if_neg (by decide), sb, mPIs, sb, up_s, if_pos rfl, oMs, if_neg (by decide)]
      exact hg i _ rfl hi hM.z
  · rw [Bool.not_eq_true] at e
    refine MC.thr (k := 1) (X := S) hM ?_ ?_ ?_
    · show ask S _ _ = _
      unfold ask
      rw [if_pos e]
    · show (ask (z0 S) _ _).2.2 = _
      unfold ask
      rw [if_pos (by rw [elt_z, e])]; rfl
    · rw [e, if_pos bF, sb, mPIs, sb, up_s, if_neg (by decide), oMs, if_pos rfl]
theorem th.l40' (h : PW S) {i : Nat} (hi : th S i) : i < 40 := by have := hi.1; have := h.2.1; omega
theorem m_kind (hM : RM S m) (h : PW S) (x : Int32) : MC S m (fX11_kind x m) (fun S => ask S x (fun i => sI S 2 i)) :=
  m_ask (g := fun S i => sI S 2 i) hM h (fun i m' e hi hM' => by rw [e, m_plain hM' rfl rfl (show i < 40 from hi.l40' h), sb]; rfl)
theorem m_parent (hM : RM S m) (h : PW S) (x : Int32) : MC S m (fX11_parent x m) (fun S => ask S x (fun i => sI S 3 i)) :=
  m_ask (g := fun S i => sI S 3 i) hM h (fun i m' e hi hM' => by rw [e, m_plain hM' rfl rfl (show i < 40 from hi.l40' h), sb]; rfl)
theorem m_presses (hM : RM S m) (h : PW S) (x : Int32) : MC S m (fX11_presses x m) (fun S => ask S x (fun i => sI S 11 i)) :=
  m_ask (g := fun S i => sI S 11 i) hM h (fun i m' e hi hM' => by rw [e, m_plain hM' rfl rfl (show i < 40 from hi.l40' h), sb]; rfl)
theorem m_children (hM : RM S m) (h : PW S) (x : Int32) : MC S m (fX11_children x m) (fun S => ask S x (fun i => nI (sK S i).length)) :=
  m_ask (g := fun S i => nI (sK S i).length) hM h (fun i m' e hi hM' => by rw [e, m_kidn hM' (hi.l40' h), sb]; rfl)
theorem m_nameLen (hM : RM S m) (h : PW S) (x : Int32) : MC S m (fX11_nameLength x m) (fun S => ask S x (fun i => nI (sL S 6 i).length)) :=
  m_ask (g := fun S i => nI (sL S 6 i).length) hM h (fun i m' e hi hM' => by rw [e, mL_ok rfl (show i < 40 from hi.l40' h), sb, (hM'.2.1 i (hi.l40' h)).1]; rfl)
theorem m_contLen (hM : RM S m) (h : PW S) (x : Int32) : MC S m (fX11_contentLength x m) (fun S => ask S x (fun i => nI (sL S 8 i).length)) :=
  m_ask (g := fun S i => nI (sL S 8 i).length) hM h (fun i m' e hi hM' => by rw [e, mL_ok rfl (show i < 40 from hi.l40' h), sb, (hM'.2.2.1 i (hi.l40' h)).1]; rfl)
theorem m_isOn (hM : RM S m) (h : PW S) (x : Int32) : MC S m (fX11_isOn x m) (fun S => ask S x (fun i => if sI S 10 i = 0 then 0 else 1)) :=
  m_ask (g := fun S i => if sI S 10 i = 0 then 0 else 1) hM h (fun i m' e hi hM' => by
    rw [e, mLZ_ok rfl (show i < 40 from hi.l40' h), sb, hM'.p 10 rfl]
    show (if sI S 10 i = 0 then _ else _) = _
    by_cases q : sI S 10 i = 0
    · rw [if_pos q, if_pos q]
    · rw [if_neg q, if_neg q])
theorem m_isShown (hM : RM S m) (h : PW S) (x : Int32) : MC S m (fX11_isShown x m) (fun S => ask S x (fun i => bI (shn S i))) :=
  m_ask (g := fun S i => bI (shn S i)) hM h (fun i m' e hi hM' => by
    rw [e, m_shows hM' h hi.1, sb]
    show (if bI (shn S i) = 0 then _ else _) = _
    by_cases q : shn S i = true
    · rw [q]; rfl
    · rw [Bool.not_eq_true] at q
      rw [q]; rfl)
theorem m_lev (hM : RM S m) (h : PW S) (x : Int32) : MC S m (fX11_level x m) (fun S => ask S x (fun i => lvl S i)) :=
  m_ask (g := fun S i => lvl S i) hM h (fun i m' e hi hM' => by rw [e, m_level hM' h hi.1, sb]; rfl)
/-- one of the texts or children at a place -/
theorem m_ask2 {x y : Int32} {N G : mm → Option Int32} {n : SS → Nat → Nat} {g : SS → Nat → Nat → Int32} (hM : RM S m) (h : PW S) (hn : ∀ i, n (z0 S) i = n S i) (hN : ∀ (i : Nat), x = nI i → th S i → N m = some (nI (n S i)) ∧ n S i < 1000) (hg : ∀ (i k : Nat) (m' : mm), x = nI i → y = nI k → th S i → k < n S i → RM (z0 S) m' → G m' = some (g S i k)) : MC S m ((fX11_isElement x m).bind fun x1 => Option.bind (α := Int32) (if x1 = 0 then (some (1 : Int32)) else (N m).bind fun x4 => (fX11_in y (0 : Int32) (x4 - (1 : Int32))).bind fun x5 => if x5 = 0 then (some (1 : Int32)) else some (0 : Int32)) fun q2 => (mPI 48 q2 m).bind fun m6 => if (m6 48 0) = 0 then ((G m6).bind fun x7 => some ((x7, m6))) else some (((0 : Int32), m6))) (fun S => ask2 S x y (n S) (g S)) := by
  rw [m_elt hM h, sb]
  by_cases e : elt S x = true
  · obtain ⟨i, rfl, hi⟩ := elt_th h e
    have i31 : i < 2 ^ 31 := by have := hi.1; have := h.2.1; omega
    obtain ⟨n1, n2⟩ := hN i rfl hi
    rw [e, if_neg (by decide), n1, sb, m_in, sb, ← inb_le0 y (show n S i < 2 ^ 31 by omega)]
    by_cases q : inb y (n S i) = true
    · obtain ⟨k, k1, rfl⟩ := inb_of q (by omega)
      refine MC.okr (a := g S i k) (X := S) (S' := z0 S) ?_ ?_ rfl ⟨up2 m 48 0 0, ?_, hM.z⟩
      · show ask2 S _ _ _ _ = _
        unfold ask2
        rw [nth_nI i31, nth_nI (by omega), if_pos ⟨e, q⟩]
      · show (ask2 (z0 S) _ _ _ _).2.2 = _
        unfold ask2
        rw [nth_nI i31, hn, if_pos ⟨by rw [elt_z, e], q⟩]; rfl
      · rw [q, if_neg (by decide), sb, mPIs, sb, up_s, if_pos rfl, hg i k _ rfl rfl hi k1 hM.z, sb]
    · rw [Bool.not_eq_true] at q
      refine MC.thr (k := 1) (X := S) hM ?_ ?_ ?_
      · show ask2 S _ _ _ _ = _
        unfold ask2
        rw [nth_nI i31, if_neg (fun z => by rw [q] at z; cases z.2)]
      · show (ask2 (z0 S) _ _ _ _).2.2 = _
        unfold ask2
        rw [nth_nI i31, hn, if_neg (fun z => by rw [q] at z; cases z.2)]; rfl
      · rw [q, if_pos bF, sb, mPIs, sb, up_s, if_neg (by decide)]
  · rw [Bool.not_eq_true] at e
    refine MC.thr (k := 1) (X := S) hM ?_ ?_ ?_
    · show ask2 S _ _ _ _ = _
      unfold ask2
      rw [if_neg (fun z => by rw [e] at z; cases z.1)]
    · show (ask2 (z0 S) _ _ _ _).2.2 = _
      unfold ask2
      rw [if_neg (fun z => by rw [elt_z, e] at z; cases z.1)]; rfl
    · rw [e, if_pos bF, sb, mPIs, sb, up_s, if_neg (by decide)]
theorem m_childAt (hM : RM S m) (h : WT S) (x y : Int32) : MC S m (fX11_childAt x y m) (fun S => ask2 S x y (fun i => (sK S i).length) (fun i k => nI (gn (sK S i) k))) :=
  m_ask2 (N := fun m => mL 5 x m) (G := fun m => mL 4 ((10 : Int32) * x + y) m) (n := fun S i => (sK S i).length) (g := fun S i k => nI (gn (sK S i) k)) hM h.pw (fun i => rfl) (fun i e hi => ⟨by rw [e, m_kidn hM (hi.l40 h)], by have := (h.2.2.2.2.2 i hi).2.1; omega⟩) (fun i k m' e1 e2 hi hk hM' => by rw [e1, e2, m_kid hM' (hi.l40 h) hk (h.2.2.2.2.2 i hi).2.1]; rfl)
theorem TxA.at {f fl w i k : Nat} {l : List Int32} (hT : TxA m f fl w i l) (hf : mk f = 20) (hb : w * i + l.length ≤ ml f) (hk : k < l.length) : mL f (nI w * nI i + nI k) m = some (ge l k) := by
  rw [nI_mul, nI_add, mL_ok hf (by omega), hT.2 k hk]
theorem m_nameAt (hM : RM S m) (h : PW S) (hL : WL S) (x y : Int32) : MC S m (fX11_nameAt x y m) (fun S => ask2 S x y (fun i => (sL S 6 i).length) (fun i k => ge (sL S 6 i) k)) :=
  m_ask2 (N := fun m => mL 7 x m) (G := fun m => mL 6 ((12 : Int32) * x + y) m) (n := fun S i => (sL S 6 i).length) (g := fun S i k => ge (sL S 6 i) k) hM h (fun i => rfl) (fun i e hi => ⟨by rw [e, mL_ok rfl (show i < 40 from hi.l40' h), (hM.2.1 i (hi.l40' h)).1], by have := (hL i).1; omega⟩) (fun i k m' e1 e2 hi hk hM' => by
    have := hi.l40' h
    have := (hL i).1
    rw [e1, e2]
    exact (hM'.2.1 i (hi.l40' h)).at rfl (show 12 * i + (sL S 6 i).length ≤ 480 by omega) hk)
theorem m_contAt (hM : RM S m) (h : PW S) (hL : WL S) (x y : Int32) : MC S m (fX11_contentAt x y m) (fun S => ask2 S x y (fun i => (sL S 8 i).length) (fun i k => ge (sL S 8 i) k)) :=
  m_ask2 (N := fun m => mL 9 x m) (G := fun m => mL 8 ((12 : Int32) * x + y) m) (n := fun S i => (sL S 8 i).length) (g := fun S i k => ge (sL S 8 i) k) hM h (fun i => rfl) (fun i e hi => ⟨by rw [e, mL_ok rfl (show i < 40 from hi.l40' h), (hM.2.2.1 i (hi.l40' h)).1], by have := (hL i).2.1; omega⟩) (fun i k m' e1 e2 hi hk hM' => by
    have := hi.l40' h
    have := (hL i).2.1
    rw [e1, e2]
    exact (hM'.2.2.1 i (hi.l40' h)).at rfl (show 12 * i + (sL S 8 i).length ≤ 480 by omega) hk)
/-- what is asked of the desk as a whole -/
theorem MC.one {f : Option (Int32 × mm)} {g : SS → Int32} (hM : RM S m) (hf : ∀ m', RM (z0 S) m' → m' = up2 m 48 0 0 → ∃ m2, f = some (g S, m2) ∧ RM (z0 S) m2) : MC S m f (fun S => rt (g S) S) :=
  MC.okr (a := g S) (X := S) (S' := z0 S) rfl rfl rfl (hf _ hM.z rfl)
theorem m_pl (hM : RM S m) {k : Nat} (hk : plain k = true) (h48 : k ≠ 48) : MC S m ((mPI 48 (0 : Int32) m).bind fun m1 => some ((m1 k 0, m1))) (fun S => rt (sI S k 0) S) :=
  MC.one (g := fun S => sI S k 0) hM (fun m' hM' e => ⟨m', by rw [mPIs, sb, ← e, hM'.p k hk]; unfold z0; rw [sI_I, if_neg (fun z => h48 z.1)], hM'⟩)
theorem m_cursor (hM : RM S m) : MC S m (fX11_cursor m) (fun S => rt (sI S 20 0) S) := m_pl hM rfl (by decide)
theorem m_focus (hM : RM S m) : MC S m (fX11_focus m) (fun S => rt (sI S 21 0) S) := m_pl hM rfl (by decide)
theorem m_offset (hM : RM S m) : MC S m (fX11_offset m) (fun S => rt (sI S 25 0) S) := m_pl hM rfl (by decide)
theorem m_time (hM : RM S m) : MC S m (fX11_time m) (fun S => rt (sI S 46 0) S) := m_pl hM rfl (by decide)
theorem m_speaking (hM : RM S m) : MC S m (fX11_speaking m) (fun S => rt (sI S 38 0) S) := m_pl hM rfl (by decide)
theorem m_heard (hM : RM S m) : MC S m (fX11_heard m) (fun S => rt (sI S 43 0) S) := m_pl hM rfl (by decide)
theorem m_dropped (hM : RM S m) : MC S m (fX11_dropped m) (fun S => rt (sI S 44 0) S) := m_pl hM rfl (by decide)
theorem m_swallowed (hM : RM S m) : MC S m (fX11_swallowed m) (fun S => rt (sI S 45 0) S) := m_pl hM rfl (by decide)
theorem m_isTyping (hM : RM S m) (hB : WB S) : MC S m (fX11_isTyping m) (fun S => rt (sI S 22 0) S) :=
  MC.one (g := fun S => sI S 22 0) hM (fun m' hM' e => ⟨m', by
    unfold fX11_isTyping
    rw [mPIs, sb, ← e, hM'.p 22 rfl]
    show (oBo (sI S 22 0)).bind _ = _
    unfold oBo
    rw [if_pos (hB 22 (by decide) 0), sb]; rfl, hM'⟩)
theorem m_left (hM : RM S m) : MC S m (fX11_left m) (fun S => (cLeft S)) :=
  MC.one (g := fun S => (cLeft S).2.1) hM (fun m' hM' e => ⟨m', by
    unfold fX11_left
    rw [mPIs, sb, ← e, hM'.p 38 rfl, hM'.p 41 rfl, hM'.spo.1]
    show (if sI S 38 0 = -1 then _ else _) = some ((if sI S 38 0 = -1 then _ else _), _)
    by_cases q : sI S 38 0 = -1
    · rw [if_pos q, if_pos q]
    · rw [if_neg q, if_neg q]; rfl, hM'⟩)
end MQ

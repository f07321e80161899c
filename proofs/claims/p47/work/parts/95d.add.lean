/-! ===== the law makes an element ===== -/
theorem wPs {ρ : Type} {x : ρ} {K : ρ → Prop} : wP (some x) K = K x := propext ⟨fun h => okB_some (P := K) h, fun h => ⟨x, rfl, h⟩⟩
theorem wMs {σ : Type} {F : (σ → Prop) → Prop} {K : σ → Prop} : wM F K = F K := rfl
theorem wHs {ρ : Type} {x : ρ} {h : hp} {K : ρ → hp → Prop} : wH (some (x, h)) K = K x h := propext ⟨fun z => okB_some (P := fun p : ρ × hp => K p.1 p.2) (b := (x, h)) z, fun z => ⟨(x, h), rfl, z⟩⟩
theorem itrW_run {α β : Type} {F : α → (α → Prop) → (β → Prop) → Prop} {K : β → Prop} (X : Nat → α → Prop) (hs : ∀ n a, X n a → ∀ P1 : α → Prop, (∀ a' n', n' < n → X n' a' → P1 a') → F a P1 K) : ∀ (fu n : Nat) (a : α), n < fu → X n a → itrW F fu a K
  | 0, _, _, h, _ => absurd h (Nat.not_lt_zero _)
  | fu + 1, n, a, h, hX => hs n a hX _ (fun a' n' h1 h2 => itrW_run X hs fu n' a' (by omega) h2)
theorem itrW_for {α β : Type} {F : α → (α → Prop) → (β → Prop) → Prop} {K : β → Prop} (X : Nat → α → Prop) (N : Nat) (hs : ∀ j a, j < N → X j a → ∀ P1 : α → Prop, (∀ a', X (j + 1) a' → P1 a') → F a P1 K) (he : ∀ a, X N a → ∀ P1 : α → Prop, F a P1 K) {fu : Nat} {a : α} (hf : N < fu) (h0 : X 0 a) : itrW F fu a K := by
  refine itrW_run (fun n a => n ≤ N ∧ X (N - n) a) (fun n a hX P1 hP => ?_) fu N a hf ⟨Nat.le_refl _, by rw [Nat.sub_self]; exact h0⟩
  obtain ⟨h1, h2⟩ := hX
  cases n with
  | zero => exact he a h2 P1
  | succ n =>
    refine hs (N - (n + 1)) a (by omega) h2 P1 (fun a' ha' => hP a' n (by omega) ⟨by omega, ?_⟩)
    rw [show N - n = N - (n + 1) + 1 by omega]; exact ha'
section ADD
variable {B : Nat} {h : hp} {m : LY} {S : SS}
/-- places from the gap on, of elements below k -/
def incM (S : SS) (P : Int32) (pl : Nat) (m : LY) (k : Nat) : LY := (fun a b => if a = 1 ∧ b % 6 = 2 ∧ 1 ≤ b / 6 ∧ b / 6 < k ∧ sI S 3 (b / 6) = P ∧ ¬ m.1 1 b < nI pl then m.1 1 b + 1 else m.1 a b, m.2)
theorem inc_o {P : Int32} {pl k a b : Nat} (hn : ¬ (a = 1 ∧ b % 6 = 2)) : (incM S P pl m k).1 a b = m.1 a b := if_neg (fun z => hn ⟨z.1, z.2.1⟩)
theorem inc_s {P : Int32} {pl k j : Nat} : (incM S P pl m k).1 1 (6 * j + 2) = if 1 ≤ j ∧ j < k ∧ sI S 3 j = P ∧ ¬ m.1 1 (6 * j + 2) < nI pl then m.1 1 (6 * j + 2) + 1 else m.1 1 (6 * j + 2) := by
  have e1 : (6 * j + 2) % 6 = 2 := by omega
  have e2 : (6 * j + 2) / 6 = j := by omega
  show (if 1 = 1 ∧ (6 * j + 2) % 6 = 2 ∧ 1 ≤ (6 * j + 2) / 6 ∧ (6 * j + 2) / 6 < k ∧ sI S 3 ((6 * j + 2) / 6) = P ∧ ¬ m.1 1 (6 * j + 2) < nI pl then m.1 1 (6 * j + 2) + 1 else m.1 1 (6 * j + 2)) = _
  rw [e1, e2]
  by_cases q : 1 ≤ j ∧ j < k ∧ sI S 3 j = P ∧ ¬ m.1 1 (6 * j + 2) < nI pl
  · rw [if_pos ⟨rfl, rfl, q⟩, if_pos q]
  · rw [if_neg (fun z => q z.2.2), if_neg q]
theorem inc_step {P : Int32} {pl k : Nat} (hk : 1 ≤ k) (v : Int32) (hv : v = if sI S 3 k = P ∧ ¬ m.1 1 (6 * k + 2) < nI pl then m.1 1 (6 * k + 2) + 1 else m.1 1 (6 * k + 2)) : lu (incM S P pl m k) 1 (6 * k + 2) v = incM S P pl m (k + 1) := by
  refine ly_ext (fun a b => ?_) rfl
  rw [lu_1]
  by_cases q : a = 1 ∧ b = 6 * k + 2
  · rw [if_pos q, q.1, q.2, inc_s, hv]
    by_cases z : sI S 3 k = P ∧ ¬ m.1 1 (6 * k + 2) < nI pl
    · rw [if_pos z, if_pos ⟨hk, by omega, z⟩]
    · rw [if_neg z, if_neg (fun w => z w.2.2)]
  · rw [if_neg q]
    by_cases r : a = 1 ∧ b % 6 = 2
    · have eb : b = 6 * (b / 6) + 2 := by omega
      have nk : b / 6 ≠ k := fun w => q ⟨r.1, by omega⟩
      rw [r.1, eb, inc_s, inc_s]
      by_cases z : 1 ≤ b / 6 ∧ b / 6 < k ∧ sI S 3 (b / 6) = P ∧ ¬ m.1 1 (6 * (b / 6) + 2) < nI pl
      · rw [if_pos z, if_pos ⟨z.1, by omega, z.2.2⟩]
      · rw [if_neg z, if_neg (fun w => z ⟨w.1, by omega, w.2.2⟩)]
    · rw [inc_o r, inc_o r]
theorem add_loop (t : LT6 B h) (h10 : made S ≤ 10) (h1 : 1 ≤ made S) (e0 : m.1 0 0 = nI (made S)) (e3 : ∀ j, j < made S → m.1 1 (6 * j + 1) = sI S 3 j) (P : Int32) (pl : Nat) (c3 : Option Nat) (c5 : Int32) (c13 : Int64) (c15 : Int32) {K : hp → Prop} (hK : K (lw B h (incM S P pl m (made S)))) : itrW (fL_isAdded_B190 (some (B + 90)) (some (B + 91)) c3 P c5 (nI pl) c13 c15) FU (1, lw B h m) K := by
  refine itrW_for (fun j a => a = (nI (1 + j), lw B h (incM S P pl m (1 + j)))) (made S - 1) (fun j a hj hX P1 hP => ?_) (fun a hX P1 => ?_) (by unfold FU; omega) ?_
  · subst hX
    have hk : 1 + j < made S := by omega
    have hP' : P1 (nI (1 + (j + 1)), lw B h (incM S P pl m (1 + (j + 1)))) := hP _ rfl
    have rp : (incM S P pl m (1 + j)).1 1 (6 * (1 + j) + 2) = m.1 1 (6 * (1 + j) + 2) := by rw [inc_s, if_neg (by omega)]
    unfold fL_isAdded_B190
    dsimp only
    rw [(t.lq _).n0, inc_o (by omega), e0, wPs, if_neg (show ¬ nI (made S) ≤ nI (1 + j) from nI_ge hk (by omega)), (t.lq _).e2 (by omega), rp, wPs, (t.lq _).e1 (by omega), inc_o (by omega), e3 _ hk, wPs]
    have en : nI (1 + j) + (1 : Int32) = nI (1 + (j + 1)) := nI_1 (1 + j)
    by_cases c1 : sI S 3 (1 + j) = P
    · rw [if_pos c1, wPs]
      by_cases c2 : m.1 1 (6 * (1 + j) + 2) < nI pl
      · rw [if_pos c2, t.pe2 (by omega), wPs, en, inc_step (by omega) _ (by rw [if_neg (fun z => z.2 c2), Int32.add_zero])]
        exact hP'
      · rw [if_neg c2, t.pe2 (by omega), wPs, en, inc_step (by omega) _ (by rw [if_pos ⟨c1, c2⟩])]
        exact hP'
    · rw [if_neg c1, t.pe2 (by omega), wPs, en, inc_step (by omega) _ (by rw [if_neg (fun z => c1 z.1), Int32.add_zero])]
      exact hP'
  · subst hX
    have e1 : 1 + (made S - 1) = made S := by omega
    rw [e1]
    unfold fL_isAdded_B190
    dsimp only
    rw [(t.lq _).n0, inc_o (by omega), e0, wPs, if_pos (nI_le (Nat.le_refl _) (by omega))]
    exact hK
  · have ec : incM S P pl m (1 + 0) = m := ly_ext (fun a b => if_neg (fun z => by have := z.2.2.1; have := z.2.2.2.1; omega)) rfl
    rw [ec]; rfl
theorem idx_in {l : List Nat} (hn : l.Nodup) {x : Nat} (hx : x ∉ l) {pl : Nat} (hp : pl ≤ l.length) {j : Nat} (hj : j ∈ l) : (insA l pl x).idxOf j = if l.idxOf j < pl then l.idxOf j else l.idxOf j + 1 := by
  have hi := List.idxOf_lt_length_of_mem hj
  have hn' := insA_nodup (p := pl) hn hx
  have hl := ins_len l pl x hp
  have hg : gn l (l.idxOf j) = j := gn_idx hj
  by_cases q : l.idxOf j < pl
  · rw [if_pos q]
    have e : gn (insA l pl x) (l.idxOf j) = j := by rw [gn_ins l pl x _ hp, if_pos q, hg]
    have := idx_gk hn' (k := l.idxOf j) (by omega)
    rw [e] at this
    exact this
  · rw [if_neg q]
    have e : gn (insA l pl x) (l.idxOf j + 1) = j := by rw [gn_ins l pl x _ hp, if_neg (by omega), if_neg (by omega), Nat.add_sub_cancel, hg]
    have := idx_gk hn' (k := l.idxOf j + 1) (by omega)
    rw [e] at this
    exact this
theorem idx_in' {l : List Nat} (hn : l.Nodup) {x : Nat} (hx : x ∉ l) {pl : Nat} (hp : pl ≤ l.length) : (insA l pl x).idxOf x = pl := by
  have hn' := insA_nodup (p := pl) hn hx
  have hl := ins_len l pl x hp
  have e : gn (insA l pl x) pl = x := by rw [gn_ins l pl x _ hp, if_neg (by omega), if_pos rfl]
  have := idx_gk hn' (k := pl) (by omega)
  rw [e] at this
  exact this
/-- what the law writes for the new element -/
def newM (S : SS) (p pl : Nat) (k : Int32) (v : Int64) (m : LY) : LY := lu (lv (lu (lu (lu (lu (incM S (nI p) pl m (made S)) 1 (6 * made S) k) 1 (6 * made S + 1) (nI p)) 1 (6 * made S + 2) (nI pl)) 1 (6 * made S + 3) 1) 2 (made S) v) 0 0 (nI (made S) + 1)
theorem newM_2 {p pl : Nat} {k : Int32} {v : Int64} {a b : Nat} : (newM S p pl k v m).2 a b = if a = 2 ∧ b = made S then v else m.2 a b := lv_2 _ _ _ _ _ _
theorem LB.add (x : LB S m) (hC : Core S) (h10 : made S < 10) {p pl : Nat} (hp : th S p) (hpl : pl ≤ (sK S p).length) (k : Int32) : LB (add1 S p pl k) (newM S p pl k (lN (pkF 20 (sL S 18 0))) m) := by
  have hW := hC.t
  have hP := hW.pw
  have m40 : made S < 40 := by omega
  have hz := hC.xz
  obtain ⟨k1, k2, k3⟩ := hW.kids hp
  have hn := fun j (hj : j ∈ sK S p) => (k3 j hj).1.lt
  have nx : made S ∉ sK S p := fun z => by have := hn _ z; omega
  have hmd := a1_made m40 p pl k
  have z := hz (made S) (Nat.le_refl _)
  have a0 : ∀ i, i ≠ 0 → (newM S p pl k (lN (pkF 20 (sL S 18 0))) m).1 0 i = m.1 0 i := fun i hi => by
    unfold newM
    rw [lu_f (by omega)]
    show (lu (lu (lu (lu (incM S (nI p) pl m (made S)) 1 (6 * made S) k) 1 (6 * made S + 1) (nI p)) 1 (6 * made S + 2) (nI pl)) 1 (6 * made S + 3) 1).1 0 i = _
    rw [lu_f (by omega), lu_f (by omega), lu_f (by omega), lu_f (by omega), inc_o (by omega)]
  have a4 : ∀ i, (newM S p pl k (lN (pkF 20 (sL S 18 0))) m).1 4 i = m.1 4 i := fun i => by
    unfold newM
    rw [lu_f (by omega)]
    show (lu (lu (lu (lu (incM S (nI p) pl m (made S)) 1 (6 * made S) k) 1 (6 * made S + 1) (nI p)) 1 (6 * made S + 2) (nI pl)) 1 (6 * made S + 3) 1).1 4 i = _
    rw [lu_f (by omega), lu_f (by omega), lu_f (by omega), lu_f (by omega), inc_o (by omega)]
  have a1 : ∀ i, (newM S p pl k (lN (pkF 20 (sL S 18 0))) m).1 1 i = (lu (lu (lu (lu (incM S (nI p) pl m (made S)) 1 (6 * made S) k) 1 (6 * made S + 1) (nI p)) 1 (6 * made S + 2) (nI pl)) 1 (6 * made S + 3) 1).1 1 i := fun i => by
    unfold newM
    rw [lu_f (by omega)]; rfl
  have b2 : ∀ i, (newM S p pl k (lN (pkF 20 (sL S 18 0))) m).2 3 i = m.2 3 i := fun i => by
    rw [newM_2, if_neg (by omega)]
  have b1 : ∀ i, i ≠ made S → (newM S p pl k (lN (pkF 20 (sL S 18 0))) m).2 2 i = m.2 2 i := fun i hi => by
    rw [newM_2, if_neg (by omega)]
  have f20 : ∀ f, f ∈ [20, 21, 22, 23, 24, 25] → sI (add1 S p pl k) f 0 = sI S f 0 := fun f hf => a1_f p pl k (fun w => by revert hf w; revert f; decide)
  refine ⟨?_, by rw [a0 _ (by decide), f20 20 (by decide)]; exact x.2.1, by rw [a0 _ (by decide), f20 21 (by decide)]; exact x.2.2.1, by rw [a0 _ (by decide), f20 25 (by decide)]; exact x.2.2.2.1, by rw [a0 _ (by decide), f20 22 (by decide)]; exact x.2.2.2.2.1, fun w => ?_, fun j hj => ?_, fun j hj hj2 => ?_⟩
  · unfold newM
    rw [lu_s, hmd, nI_1]
  · rw [f20 22 (by decide)] at w
    rw [a0 _ (by decide), a0 _ (by decide), f20 23 (by decide), f20 24 (by decide)]
    exact x.2.2.2.2.2.1 w
  · rw [hmd] at hj
    by_cases q : j = made S
    · subst q
      obtain ⟨n1, n2, n3, n4, n5, n6⟩ := a1_n p pl k (S := S)
      obtain ⟨c0, c1, c2, c3, c4⟩ := x.2.2.2.2.2.2.2 (made S) (Nat.le_refl _) (by omega)
      have d10 : sI (add1 S p pl k) 10 (made S) = 0 := by rw [a1_f p pl k (by decide)]; exact z.2.2.1
      have d11 : sI (add1 S p pl k) 11 (made S) = 0 := by rw [a1_f p pl k (by decide)]; exact z.2.2.2.1
      have d12 : sI (add1 S p pl k) 12 (made S) = 0 := by rw [a1_f p pl k (by decide)]; exact z.2.2.2.2.1
      have d8 : sL (add1 S p pl k) 8 (made S) = [] := by rw [a1_L p pl k (by decide) (by decide)]; exact z.1
      have d6 : sL (add1 S p pl k) 6 (made S) = sL S 18 0 := by rw [a1_L6, if_pos rfl]
      refine ⟨?_, ?_, fun _ _ => ?_, ?_, ?_, ?_, ?_, ?_, ?_, ?_⟩
      · rw [a1, lu_f (by omega), lu_f (by omega), lu_f (by omega), lu_s, n2]
      · rw [a1, lu_f (by omega), lu_f (by omega), lu_s, n3]
      · have ed : dpar (add1 S p pl k) (made S) = p := by rw [a1_dpar m40 hp.lt, if_pos rfl]
        have ep : plc (add1 S p pl k) (made S) = pl := by
          show (sK (add1 S p pl k) (dpar (add1 S p pl k) (made S))).idxOf (made S) = pl
          rw [ed, a1_K, if_pos rfl]
          exact idx_in' k1 nx hpl
        rw [a1, lu_f (by omega), lu_s, ep]
      · rw [a1, lu_s]
        unfold fl3
        rw [n1, d12, d10]; decide
      · rw [a1, lu_f (by omega), lu_f (by omega), lu_f (by omega), lu_f (by omega), inc_o (by omega), c0, n4]; decide
      · rw [a1, lu_f (by omega), lu_f (by omega), lu_f (by omega), lu_f (by omega), inc_o (by omega), c1, d11]
      · rw [newM_2, if_pos ⟨rfl, rfl⟩, d6]
      · rw [b2, c3, d8]; rfl
      · rw [b2, c4, d8]; rfl
      · rw [a4, c2, d8]; rfl
    · have jl : j < made S := by omega
      obtain ⟨c0, c1, c2, c3, c4, c5, c6, c7, c8, c9⟩ := x.e jl
      have fo : ∀ f, f ≠ 0 → sI (add1 S p pl k) f j = sI S f j := fun f hf => a1_o p pl k q (Or.inl hf)
      have nn : ∀ r, r < 6 → (newM S p pl k (lN (pkF 20 (sL S 18 0))) m).1 1 (6 * j + r) = (incM S (nI p) pl m (made S)).1 1 (6 * j + r) := fun r hr => by
        rw [a1, lu_f (by omega), lu_f (by omega), lu_f (by omega), lu_f (by omega)]
      have nn0 := nn 0 (by decide)
      rw [Nat.add_zero] at nn0
      have ef : fl3 (add1 S p pl k) j = fl3 S j := by unfold fl3; rw [fo 1 (by decide), fo 12 (by decide), fo 10 (by decide)]
      have d8 : sL (add1 S p pl k) 8 j = sL S 8 j := a1_L p pl k (by decide) (by decide) j
      have d6 : sL (add1 S p pl k) 6 j = sL S 6 j := by rw [a1_L6, if_neg q]
      refine ⟨by rw [nn0, inc_o (by omega), fo 2 (by decide)]; exact c0, by rw [nn 1 (by decide), inc_o (by omega), fo 3 (by decide)]; exact c1, fun j0 tj => ?_, by rw [nn 3 (by decide), inc_o (by omega), ef]; exact c3, by rw [nn 4 (by decide), inc_o (by omega), fo 13 (by decide)]; exact c4, by rw [nn 5 (by decide), inc_o (by omega), fo 11 (by decide)]; exact c5, by rw [b1 j q, d6]; exact c6, by rw [b2, d8]; exact c7, by rw [b2, d8]; exact c8, by rw [a4, d8]; exact c9⟩
      have tj' : th S j := ((a1_th m40 p pl k j).mp tj).resolve_right q
      have pj := plc_10 hW j0 tj'
      obtain ⟨u1, u2⟩ := hW.up j0 tj'
      have pk := (hW.kids hp).2.1
      have pp := hP.par j0 jl
      rw [nn 2 (by decide), inc_s, c2 j0 tj', pp.2]
      have ed : dpar (add1 S p pl k) j = dpar S j := by rw [a1_dpar m40 hp.lt, if_neg q]
      have ep : plc (add1 S p pl k) j = if dpar S j = p then (insA (sK S p) pl (made S)).idxOf j else plc S j := by
        show (sK (add1 S p pl k) (dpar (add1 S p pl k) j)).idxOf j = _
        rw [ed, a1_K]
        split <;> rfl
      rw [ep]
      by_cases r : dpar S j = p
      · have hjl : j ∈ sK S p := by rw [← r]; exact u2
        have ei : (sK S p).idxOf j = plc S j := (plc_of r).symm
        rw [if_pos r, idx_in k1 nx hpl hjl, ei, r]
        by_cases w : plc S j < pl
        · rw [if_pos w, if_neg (fun y => y.2.2.2 ((nI_ltI (by omega) (by omega)).mpr w))]
        · rw [if_neg w, if_pos ⟨by omega, jl, rfl, fun y => w ((nI_ltI (by omega) (by omega)).mp y)⟩, nI_1]
      · rw [if_neg r, if_neg (fun y => r ((nI_eq (by have := u1.lt; omega) (by have := hp.lt; omega)).mp y.2.2.1))]
  · rw [hmd] at hj
    obtain ⟨c0, c1, c2, c3, c4⟩ := x.2.2.2.2.2.2.2 j (by omega) hj2
    have nn : ∀ r, r < 6 → r ≠ 2 → (newM S p pl k (lN (pkF 20 (sL S 18 0))) m).1 1 (6 * j + r) = m.1 1 (6 * j + r) := fun r hr h2 => by
      rw [a1, lu_f (by omega), lu_f (by omega), lu_f (by omega), lu_f (by omega), inc_o (by omega)]
    exact ⟨by rw [nn 4 (by decide) (by decide)]; exact c0, by rw [nn 5 (by decide) (by decide)]; exact c1, by rw [a4]; exact c2, by rw [b2]; exact c3, by rw [b2]; exact c4⟩
theorem VK.add (x : VK S) (hC : Core S) (h10 : made S < 10) (hd3 : (sL S 18 0).length ≤ 3) (hd : okC 20 (sL S 18 0)) {p pl kk : Nat} (hk : kk ≤ 6) : VK (add1 S p pl (nI kk)) := by
  have hmd := a1_made (show made S < 40 by omega) p pl (nI kk)
  have z := hC.xz (made S) (Nat.le_refl _)
  refine ⟨by rw [hmd]; omega, fun j hj => ?_⟩
  rw [hmd] at hj
  by_cases q : j = made S
  · subst q
    obtain ⟨n1, n2, n3, n4, n5, n6⟩ := a1_n p pl (nI kk) (S := S)
    refine ⟨⟨kk, hk, n2⟩, ⟨0, by decide, by rw [n4]; decide⟩, ?_, ?_, ?_⟩
    · rw [a1_L6, if_pos rfl]; exact hd3
    · rw [a1_L6, if_pos rfl]; exact hd
    · rw [a1_L p pl _ (by decide) (by decide), z.1]
      exact fun c hc => absurd hc List.not_mem_nil
  · obtain ⟨b1, b2, b3, b4, b5⟩ := x.2 j (by omega)
    refine ⟨by rw [a1_o p pl _ q (Or.inl (by decide))]; exact b1, by rw [a1_o p pl _ q (Or.inl (by decide))]; exact b2, ?_, ?_, ?_⟩
    · rw [a1_L6, if_neg q]; exact b3
    · rw [a1_L6, if_neg q]; exact b4
    · rw [a1_L p pl _ (by decide) (by decide)]; exact b5
end ADD

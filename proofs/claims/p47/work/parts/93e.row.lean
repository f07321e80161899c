/-! ===== the law goes to the same place of another row ===== -/
section ROW
variable {B : Nat} {h : hp} {m : LY} {S : SS}
theorem kidL_any (x : WT S) {p n : Nat} {a : Int32} (ha : a ≠ 0) : kidL S p n a = if n < (sK S p).length then some (gn (sK S p) n) else none := by
  unfold kidL
  by_cases q : n < (sK S p).length
  · rw [if_pos q, List.drop_eq_getElem_cons q, List.find?_cons, ← gn_of q]
    have : anyB S a (gn (sK S p) n) = true := by unfold anyB; simp [ha]
    rw [this]
  · rw [if_neg q, List.drop_of_length_le (by omega)]; rfl
/-- one row: as far as it goes -/
theorem row_1 (x : RD B h m S) {t c k : Nat} {by_ : Int32} (ht : th S t) (hc : th S c) (c0 : 0 < c) (hk : k < (sK S t).length) : fL_rows_B66 (some (B + 90)) (some (B + 91)) by_ (nI c) (nI t) (nI (sK S t).length) h (nI k) = some (if rwB S (plc S c) (gn (sK S t) k) = true then .inr (.inl (nI (kid S (gn (sK S t) k) (plc S c)))) else .inl (nI k + by_)) := by
  have l10 := x.m10
  have k10 := (x.t.kids ht).2.1
  obtain ⟨t1, t2, t3⟩ := (x.t.kids ht).2.2 _ (gn_mem hk)
  have p10 := plc_10 x.t c0 hc
  unfold fL_rows_B66
  try dsimp only
  rw [if_neg (nI_pos (by omega)), if_neg (show ¬ nI (sK S t).length ≤ nI k from nI_ge hk (by omega)), r_kid x ht (by omega), sb, kidL_any x.t (by decide), if_pos hk, x.pl c0 hc, sb]
  show ((fL_kid (some (B + 90)) (some (B + 91)) (nI (gn (sK S t) k)) (nI (plc S c)) 1 h).bind fun x3 => (fL_isHidden (some (B + 91)) (nI (gn (sK S t) k)) h).bind fun x4 => _) = _
  rw [r_kid x t1 (by omega), sb, kidL_any x.t (by decide), r_hid x t1, sb]
  unfold rwB
  cases hh : hid S (gn (sK S t) k)
  · rw [if_pos (show bI false = 0 from rfl)]
    by_cases q : plc S c < (sK S (gn (sK S t) k)).length
    · obtain ⟨u1, u2, u3⟩ := (x.t.kids t1).2.2 _ (gn_mem q)
      have ul := u1.lt
      rw [if_pos q]
      show (if nI (gn (sK S (gn (sK S t) k)) (plc S c)) < 0 then _ else _) = _
      rw [if_neg (nI_pos (by omega))]
      show ((oIL (some (B + 91)) (((6 : Int32) * nI (gn (sK S (gn (sK S t) k)) (plc S c))) + (2 : Int32)) h).bind fun x5 => _) = _
      have ep : plc S (gn (sK S (gn (sK S t) k)) (plc S c)) = plc S c := by
        rw [plc_of u3, idx_gk (x.t.kids t1).1 q]
      rw [x.pl u2 u1, sb, ep, sb, if_pos rfl]
      show ((fL_isHidden (some (B + 91)) (nI (gn (sK S (gn (sK S t) k)) (plc S c))) h).bind fun x7 => _) = _
      rw [r_hid x u1, sb]
      show _ = some (if (!false && (decide (plc S c < (sK S (gn (sK S t) k)).length) && !hid S (gn (sK S (gn (sK S t) k)) (plc S c)))) = true then _ else _)
      cases hid S (gn (sK S (gn (sK S t) k)) (plc S c))
      · rw [if_pos (show bI false = 0 from rfl), if_pos (by simp [q])]; rfl
      · rw [if_neg (show ¬ bI true = 0 by decide), if_neg (by simp)]
    · rw [if_neg q, if_pos (show rI none < 0 by decide), if_neg (by simp [q])]
  · rw [if_neg (show ¬ bI true = 0 by decide), if_neg (by simp)]
theorem row_out (x : RD B h m S) {t c n : Nat} {by_ v : Int32} (hv : v < 0 ∨ (nI n ≤ v ∧ ¬ v < 0)) : fL_rows_B66 (some (B + 90)) (some (B + 91)) by_ (nI c) (nI t) (nI n) h v = some (.inr (.inr ())) := by
  unfold fL_rows_B66
  try dsimp only
  rcases hv with hv | ⟨h1, h2⟩
  · rw [if_pos hv]
  · rw [if_neg h2, if_pos h1]
/-- what the search over rows comes to -/
def rwR (o : Option Nat) : Int32 ⊕ Unit := match o with
  | some j => .inl (nI j)
  | none => .inr ()
theorem rwF_cons (S : SS) (j : Nat) (l : List Nat) : rwF S (j :: l) = if rwB S (plc S (cur S)) j = true then some (kid S j (plc S (cur S))) else rwF S l := by
  unfold rwF
  rw [List.find?_cons]
  cases rwB S (plc S (cur S)) j <;> rfl
theorem row_dn (x : RD B h m S) (hC : Core S) (c0 : 0 < cur S) {t : Nat} (ht : th S t) : ∀ (d k : Nat), k + d = (sK S t).length → ∀ fu, d + 1 ≤ fu → itr (fL_rows_B66 (some (B + 90)) (some (B + 91)) 1 (nI (cur S)) (nI t) (nI (sK S t).length) h) fu (nI k) = some (rwR (rwF S ((sK S t).drop k))) := by
  have k10 := (x.t.kids ht).2.1
  intro d
  induction d with
  | zero =>
    intro k hk fu hfu
    obtain ⟨f1, rfl⟩ : ∃ f1, fu = f1 + 1 := ⟨fu - 1, by omega⟩
    rw [itr_end (row_out x (Or.inr ⟨nI_le (by omega) (by omega), nI_pos (by omega)⟩)), List.drop_of_length_le (by omega)]; rfl
  | succ d ih =>
    intro k hk fu hfu
    obtain ⟨f1, rfl⟩ : ∃ f1, fu = f1 + 1 := ⟨fu - 1, by omega⟩
    have hkl : k < (sK S t).length := by omega
    have e := row_1 x (by_ := 1) ht hC.c.2 c0 hkl
    rw [List.drop_eq_getElem_cons hkl, ← gn_of hkl, rwF_cons]
    by_cases q : rwB S (plc S (cur S)) (gn (sK S t) k) = true
    · rw [if_pos q] at e ⊢
      exact itr_end e f1
    · rw [if_neg q] at e ⊢
      rw [itr_step e, nI_1]
      exact ih (k + 1) (by omega) f1 (by omega)
theorem row_up (x : RD B h m S) (hC : Core S) (c0 : 0 < cur S) {t : Nat} (ht : th S t) : ∀ (k : Nat), k ≤ (sK S t).length → ∀ fu, k + 1 ≤ fu → itr (fL_rows_B66 (some (B + 90)) (some (B + 91)) (-1) (nI (cur S)) (nI t) (nI (sK S t).length) h) fu (nI k - 1) = some (rwR (rwF S ((sK S t).take k).reverse)) := by
  have k10 := (x.t.kids ht).2.1
  intro k
  induction k with
  | zero =>
    intro hk fu hfu
    obtain ⟨f1, rfl⟩ : ∃ f1, fu = f1 + 1 := ⟨fu - 1, by omega⟩
    rw [itr_end (row_out x (Or.inl (by decide)))]; rfl
  | succ k ih =>
    intro hk fu hfu
    obtain ⟨f1, rfl⟩ : ∃ f1, fu = f1 + 1 := ⟨fu - 1, by omega⟩
    have hkl : k < (sK S t).length := by omega
    have e := row_1 x (by_ := -1) ht hC.c.2 c0 hkl
    rw [nI_pred, take_succ_gn hkl, List.reverse_append, List.reverse_singleton, List.singleton_append, rwF_cons]
    by_cases q : rwB S (plc S (cur S)) (gn (sK S t) k) = true
    · rw [if_pos q] at e ⊢
      exact itr_end e f1
    · rw [if_neg q] at e ⊢
      rw [itr_step e, nI_sub1]
      exact ih (by omega) f1 (by omega)
/-- UP and DOWN -/
theorem r_rows (x : RD B h m S) (hC : Core S) (dn : Bool) : fL_rows (some (B + 90)) (some (B + 91)) (if dn = true then 1 else -1) h = some (rI (if inRow S = true then rwF S (if dn = true then (rws S).drop (plc S (dpar S (cur S)) + 1) else ((rws S).take (plc S (dpar S (cur S)))).reverse) else none)) := by
  have l10 := x.m10
  have h1 := x.l.2.1
  rw [hC.c.1] at h1
  have lc := hC.c.2.lt
  unfold fL_rows inRow
  rw [x.q.n1, h1, sb, x.pr lc, sb]
  rcases Nat.eq_zero_or_pos (cur S) with z | z
  · rw [z, x.p0, if_pos (by decide), if_neg (by simp)]; rfl
  · obtain ⟨u1, u2⟩ := x.t.up z hC.c.2
    rw [(x.pp z lc).1, if_neg (nI_pos (by have := (x.pp z lc).2; omega)), x.kd u1.lt, sb]
    by_cases q : sI S 2 (dpar S (cur S)) = 6
    · have r0 : 0 < dpar S (cur S) := by
        rcases Nat.eq_zero_or_pos (dpar S (cur S)) with y | y
        · rw [y, x.t.2.2.1] at q
          exact absurd q (by decide)
        · exact y
      obtain ⟨v1, v2⟩ := x.t.up r0 u1
      have p10 := plc_10 x.t r0 u1
      have pl := plc_lt x.t v1 v2
      have k10 := (x.t.kids v1).2.1
      rw [if_pos q, x.pr u1.lt, sb, (x.pp r0 u1.lt).1, r_kids x v1, sb, x.pl r0 u1, sb, if_pos (show decide (cur S ≠ 0 ∧ sI S 2 (dpar S (cur S)) = 6) = true from decide_eq_true ⟨by omega, q⟩)]
      unfold rws
      cases dn
      · rw [if_neg (show ¬ false = true by decide), if_neg (show ¬ false = true by decide), nI_sub1, row_up x hC z v1 _ (by omega) FU (by unfold FU; omega)]
        cases rwF S ((sK S (dpar S (dpar S (cur S)))).take (plc S (dpar S (cur S)))).reverse <;> rfl
      · rw [if_pos (show true = true from rfl), if_pos (show true = true from rfl), nI_1, row_dn x hC z v1 ((sK S (dpar S (dpar S (cur S)))).length - (plc S (dpar S (cur S)) + 1)) _ (by omega) FU (by unfold FU; omega)]
        cases rwF S ((sK S (dpar S (dpar S (cur S)))).drop (plc S (dpar S (cur S)) + 1)) <;> rfl
    · rw [if_neg q, if_neg (by simp [q])]; rfl
end ROW

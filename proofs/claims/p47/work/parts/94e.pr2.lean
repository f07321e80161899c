/-! ===== the law presses any set of keys ===== -/
section PR2
variable {B : Nat} {h : hp} {m : LY} {S : SS}
theorem find_7 (hk : VK S) (l : List Nat) (hl : ∀ j ∈ l, j < made S) : l.find? (fun j => decide (sI S 2 j = 7)) = none := by
  rw [List.find?_eq_none]
  intro j hj
  obtain ⟨k, k1, k2⟩ := (hk.2 j (hl j hj)).1
  rw [k2]
  have : ∀ k, k ≤ 6 → ¬ decide (nI k = 7) = true := by decide
  exact this k k1
theorem q_kind (t : LT6 B h) (x : RD B (lw B h m) m S) (hC : Core S) {k : Int32} (hk : 0 ≤ k) (h1 : k ≠ -1) : ∃ m', ((fL_seeks (some (B + 90)) (some (B + 91)) k (0 : Int32) (lw B h m)).bind fun x4 =>
  o2 (fL_goes (some (B + 90)) x4 (lw B h m)) fun _ h6 =>
  some (((), h6))) = some ((), lw B h m') ∧ LB (gKind S k) m' := by
  rw [r_sekK x hC hk, sb]
  unfold gKind
  rw [if_neg h1]
  exact q_goes t x hC (fun y hy => (ord_in x.t (List.mem_of_mem_drop (List.mem_of_find?_eq_some hy))).1) wNone
/-- PRESSES -/
theorem q_prs (t : LT6 B h) (x : RD B (lw B h m) m S) (hC : Core S) (p : Int32) : ∃ m', fL_presses (some (B + 90)) (some (B + 91)) (some (B + 93)) (some (B + 94)) (nI (ln S).length) p (lw B h m) = some ((), lw B h m') ∧ LB (chd0 S p) m' := by
  unfold fL_presses chd0
  by_cases c1 : p ≤ 256
  · rw [if_pos c1, if_pos c1, x.q.n4, x.l.2.2.2.2.1, sb]
    rcases x.b 22 (by decide) 0 with z | z
    · rw [z, if_neg (show ¬ (0 : Int32) = 1 by decide), if_pos (show (0 : Int32) = 0 from rfl)]
      have non : ∃ m', (o2 (fL_goes (some (B + 90)) (-1 : Int32) (lw B h m)) fun _ h8 => some ((), h8)) = some ((), lw B h m') ∧ m' = m := by
        refine ⟨m, ?_, rfl⟩
        unfold fL_goes
        rw [if_pos (show (-1 : Int32) < 0 by decide)]
        rfl
      by_cases c2 : (256 : Int32) ≤ p
      · have e : p = 256 := Int32.le_antisymm c1 c2
        obtain ⟨m', n1, n2⟩ := non
        subst n2
        rw [if_pos c2, if_neg (show ¬ p = 27 by rw [e]; decide), if_neg (show ¬ p = 3 by rw [e]; decide), if_neg (show ¬ p = 9 by rw [e]; decide), if_neg (show ¬ p = 17 by rw [e]; decide), if_neg (show ¬ p = 30 by rw [e]; decide), if_neg (show ¬ p = 23 by rw [e]; decide), sb, if_neg (show ¬ (0 : Int32) ≤ -1 by decide)]
        exact ⟨_, n1, x.l⟩
      rw [if_neg c2]
      unfold kos
      by_cases k0 : p = 27
      · rw [if_pos k0, if_pos k0, sb, if_pos (show (0 : Int32) ≤ 0 by decide)]
        exact q_kind t x hC (by decide) (by decide)
      rw [if_neg k0, if_neg k0]
      by_cases k2 : p = 3
      · rw [if_pos k2, if_pos k2, sb, if_pos (show (0 : Int32) ≤ 2 by decide)]
        exact q_kind t x hC (by decide) (by decide)
      rw [if_neg k2, if_neg k2]
      by_cases k3 : p = 9
      · rw [if_pos k3, if_pos k3, sb, if_pos (show (0 : Int32) ≤ 3 by decide)]
        exact q_kind t x hC (by decide) (by decide)
      rw [if_neg k3, if_neg k3]
      by_cases k4 : p = 17
      · rw [if_pos k4, if_pos k4, sb, if_pos (show (0 : Int32) ≤ 4 by decide)]
        exact q_kind t x hC (by decide) (by decide)
      rw [if_neg k4, if_neg k4]
      by_cases k5 : p = 30
      · rw [if_pos k5, if_pos k5, sb, if_pos (show (0 : Int32) ≤ 5 by decide)]
        exact q_kind t x hC (by decide) (by decide)
      rw [if_neg k5, if_neg k5]
      by_cases k6 : p = 23
      · rw [if_pos k6, if_pos k6, sb, if_pos (show (0 : Int32) ≤ 6 by decide)]
        exact q_kind t x hC (by decide) (by decide)
      rw [if_neg k6, if_neg k6, sb, if_neg (show ¬ (0 : Int32) ≤ -1 by decide)]
      obtain ⟨m', n1, n2⟩ := non
      subst n2
      refine ⟨_, n1, ?_⟩
      by_cases k7 : p = 7
      · rw [if_pos k7]
        unfold gKind
        rw [if_neg (show ¬ (7 : Int32) = -1 by decide), find_7 x.k _ (fun j hj => (ord_in x.t (List.mem_of_mem_drop hj)).1.lt)]
        exact x.l.cAns _
      · rw [if_neg k7]
        unfold gKind
        rw [if_pos (show (-1 : Int32) = -1 from rfl)]
        exact x.l
    · rw [z, if_pos (show (1 : Int32) = 1 from rfl), if_neg (show ¬ (1 : Int32) = 0 by decide)]
      obtain ⟨m', n1, n2⟩ := q_typ t x hC (by rw [z]; decide) p
      exact ⟨m', by rw [n1]; rfl, n2⟩
  · rw [if_neg c1, if_neg c1]
    obtain ⟨m', n1, n2⟩ := q_cmd t x hC (p - 256)
    exact ⟨m', by rw [n1]; rfl, n2⟩
/-! names, contents stay what the law can pack -/
theorem VK.sd {S' : SS} {ki kl kq : List Nat} (x : VK S) (hs : Sd ki kl kq S S') (h1 : (dsj [0, 2, 13] ki && dsj [6, 8] kl) = true) : VK S' := by
  rw [Bool.and_eq_true] at h1
  have e : ∀ k, decide (k ∈ [0, 2, 13]) = true → sI S' k = sI S k := fun k hk => hs.i k (dsj_of h1.1 (of_decide_eq_true hk))
  have el : ∀ k, decide (k ∈ [6, 8]) = true → sL S' k = sL S k := fun k hk => hs.l k (dsj_of h1.2 (of_decide_eq_true hk))
  unfold VK
  rw [made_cg (e 0 rfl), e 2 rfl, e 13 rfl, el 6 rfl, el 8 rfl]
  exact x
theorem VK.w8 (x : VK S) {c : Nat} {l : List Int32} (hl : okC 7 l) : VK (wSL S 8 c l) := by
  refine ⟨x.1, fun j hj => ?_⟩
  obtain ⟨a, b, d, e, f⟩ := x.2 j hj
  refine ⟨a, b, d, e, ?_⟩
  rw [sL_L]
  split
  · exact hl
  · exact f
theorem VK.kty (x : VK S) (hc : cur S < made S) {n : Nat} (n0 : 0 < n) (n7 : n < 128) : VK (typ S (nI n)) := by
  unfold typ
  split
  · exact x.sd (sd_cAns _ _) rfl
  · exact (x.w8 (okC_app (x.2 _ hc).2.2.2.2 ⟨n, n0, n7, rfl⟩)).sd (sd_sayC _ _) rfl
theorem VK.i (x : VK S) {k i : Nat} {v : Int32} (hk : decide (k ∉ [0, 2, 13]) = true) : VK (wSI S k i v) := by
  have h := of_decide_eq_true hk
  refine x.sd (Sd.I (ki := [k]) (kl := []) (kq := []) (List.mem_singleton.mpr rfl)) ?_
  simp only [List.mem_cons, not_or] at h
  simp [dsj, Ne.symm h.1, Ne.symm h.2.1, Ne.symm h.2.2.1]
theorem VK.kgo (x : VK S) (o : Option Nat) (w : List Int32) : VK (goO S o w) := by
  cases o with
  | none => exact x.sd (sd_cAns _ _) rfl
  | some y => exact (((x.i (by decide)).i (by decide)).i (by decide)).sd (sd_cAns _ _) rfl
theorem VK.kAn (x : VK S) (w : List Int32) : VK (cAns S w) := x.sd (sd_cAns _ _) rfl
theorem VK.kcm (x : VK S) (p : Int32) : VK (cmd S p) := by
  unfold cmd
  split
  · exact x.kgo _ _
  split
  · exact x.kgo _ _
  split
  · exact x.kgo _ _
  split
  · exact x.kgo _ _
  split
  · unfold gUp
    split
    · exact x.kgo _ _
    · exact x.kAn _
  split
  · unfold gDown
    split
    · exact x.kgo _ _
    · exact x.kAn _
  split
  · unfold gTab
    split
    · exact VK.kgo (S := wSI S 21 0 _) (x.i (by decide)) (some _) []
    · exact x.kAn _
  split
  · unfold act act2
    split
    · split
      · exact ((x.i (by decide)).i (by decide)).kAn _
      split
      · exact ((x.i (by decide)).i (by decide)).kAn _
      · exact ((((x.i (by decide)).i (by decide)).i (by decide)).i (by decide)).kAn _
    · exact x.kAn _
  split
  · exact x.sd (sd_hush S) rfl
  split
  · exact x.i (by decide)
  split
  · exact x.i (by decide)
  split
  · exact x.kAn _
  · exact x
theorem VK.ktS (x : VK S) (hW : WB S) (hc : cur S < made S) (p : Int32) : VK (typS S p) := by
  unfold typS
  split
  · rename_i j hl
    have j1 := lto_lt hl
    unfold typL
    split
    · split
      · exact x.kty hc (n := 48) (by decide) (by decide)
      · rename_i q _
        exact x.kty hc (n := 49 + j) (by omega) (by omega)
    · split
      · rename_i q
        have : typ S 0 = cAns S [102, 117, 108, 108] := typ_f (of_decide_eq_true q)
        rw [this]
        exact x.kAn _
      · have : ∃ n, 0 < n ∧ n < 128 ∧ (if sI S 23 0 = 0 then (97 : Int32) else 65) + nI j = nI n := by
          split
          · exact ⟨97 + j, by omega, by omega, by rw [show (97 : Int32) = nI 97 from rfl, nI_add]⟩
          · exact ⟨65 + j, by omega, by omega, by rw [show (65 : Int32) = nI 65 from rfl, nI_add]⟩
        obtain ⟨n, n0, n7, e⟩ := this
        rw [e]
        exact ((x.kty hc n0 n7).i (by decide)).i (by decide)
  · split
    · exact x.i (by decide)
    split
    · exact x.i (by decide)
    split
    · exact x.i (by decide)
    split
    · exact x.kty hc (n := 46) (by decide) (by decide)
    split
    · exact x.kty hc (n := 44) (by decide) (by decide)
    split
    · exact x.kty hc (n := 63) (by decide) (by decide)
    split
    · exact x.kty hc (n := 45) (by decide) (by decide)
    split
    · split
      · exact x.kty hc (n := 32) (by decide) (by decide)
      · exact (x.kty hc (n := 32) (by decide) (by decide)).i (by decide)
    split
    · unfold tkB
      split
      · exact x.kAn _
      · exact (x.w8 (okC_take (x.2 _ hc).2.2.2.2)).sd (sd_sayC _ _) rfl
    split
    · exact (x.i (by decide)).kAn _
    · exact x
theorem VK.kch (x : VK S) (hC : Core S) (p : Int32) : VK (chd0 S p) := by
  unfold chd0
  split
  · split
    · split
      · exact x
      · unfold gKind
        split
        · exact x
        · exact x.kgo _ _
    · exact x.ktS hC.b hC.c.2.lt p
  · exact x.kcm _
end PR2

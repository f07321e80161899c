/-! ===== what was thrown, and the reference's cells, changed behind a call ===== -/
def Lo8 (S S' : SS) : Prop := (∀ k, k < 1000 → k ≠ 48 → sI S' k = sI S k) ∧ sL S' = sL S ∧ sQ S' = sQ S ∧ sK S' = sK S
def Bg (S S' : SS) : Prop := ∀ k, 1000 ≤ k → sI S' k = sI S k
theorem Bg.mst {S S' : SS} (h : Bg S S') : mSt S' = mSt S := funext fun k => funext fun i => by
  show sI S' (1000 + k) i = sI S (1000 + k) i
  rw [h _ (by omega)]
theorem Bg.tr {S S1 S2 : SS} (x : Bg S S1) (y : Bg S1 S2) : Bg S S2 := fun k hk => (y k hk).trans (x k hk)
theorem z0_bg (S : SS) : Bg S (z0 S) := (sd_z S).big rfl
theorem lo8_z (S : SS) : Lo8 S (z0 S) := ⟨fun k _ hk => (sd_z S).1 k (by simpa using hk), rfl, rfl, rfl⟩
theorem lo8_m (S : SS) (v : Int32) (m : mm) : Lo8 S (wm (wSI S 48 0 v) m) := ⟨fun k hk h8 => ((wm_lo (wSI S 48 0 v) m).1 k hk).trans ((Sd.I (ki := [48]) (kl := []) (kq := []) (S := S) (i := 0) (v := v) (by decide)).1 k (by simpa using h8)), rfl, rfl, rfl⟩
section L8
variable {B : Nat} {E : Nat → Nat} {S S' : SS} {li : List Int32} {od : List Nat} {h h' : hp} {c : Nat}
theorem Lo8.e (l : Lo8 S S') (k : Nat) (hk : (decide (k < 1000) && decide (k ≠ 48)) = true) : sI S' k = sI S k := by
  simp only [Bool.and_eq_true, decide_eq_true_eq] at hk
  exact l.1 k hk.1 hk.2
theorem Lo8.l (l : Lo8 S S') (k : Nat) : sL S' k = sL S k := by rw [l.2.1]
theorem Lo8.q (l : Lo8 S S') (k : Nat) : sQ S' k = sQ S k := by rw [l.2.2.1]
theorem RW0.lo8 (x : RW0 B E S li od h) (l : Lo8 S S') (hp' : PD B S' h) : RW B E S' li od h := by
  obtain ⟨a1, a2, a3, a4, a5, a6, a7, a8, a9, a10, a11⟩ := x
  have e := l.e
  refine ⟨a1, by rw [made_cg (e 0 rfl)]; exact a2, ⟨fun p hp => ?_, fun z => ?_, fun z => ?_, fun k hk => ?_⟩, fun i hi => ?_, a5.sd (e 0 rfl) (e 1 rfl), a6, a7.sd (fun k hk => l.1 k ?_ ?_) (fun k _ => l.l k) (fun k _ => l.q k), a8.sd (e 20 rfl) (e 21 rfl), a9, a10, by rw [l.2.1]; exact a11, hp'⟩
  · have : ∀ p ∈ fxI, p.2.2 < 1000 ∧ p.2.2 ≠ 48 := by decide
    rw [l.1 _ (this p hp).1 (this p hp).2]
    exact a3.1 p hp
  · rw [e 22 rfl] at z
    rw [e 23 rfl, e 24 rfl]
    exact a3.2.1 z
  · rw [e 26 rfl] at z
    rw [e 27 rfl]
    exact a3.2.2.1 z
  · rw [e 42 rfl]
    exact a3.2.2.2 k hk
  · rw [made_cg (e 0 rfl)] at hi
    refine (a4 i hi).sd (fun k hk => l.1 k ?_ ?_) (fun k _ => l.l k) l.2.2.2 <;>
    · simp only [List.mem_cons, List.not_mem_nil, or_false] at hk
      omega
  · simp only [List.mem_cons, List.not_mem_nil, or_false] at hk
    omega
  · simp only [List.mem_cons, List.not_mem_nil, or_false] at hk
    omega
theorem RW0.ag {as : List Nat} (x : RW0 B E S li od h) (y : Ag as h h') (ha : ∀ a ∈ as, B + 90 ≤ a ∧ a ≤ B + 120) : RW0 B E S li od h' := by
  obtain ⟨a1, a2, a3, a4, a5, a6, a7, a8, a9, a10, a11⟩ := x
  have hP' : ∀ p ∈ fxP, p.1 < 90 := by decide
  have nn : ∀ b, b < B + 90 → b ∉ as := fun b hb z => by have := ha b z; omega
  have el : ∀ i, i < made S → ∀ a ∈ as, a < E i ∨ E i + 8 ≤ a := fun i hi a hz => by
    have := ha a hz
    rcases Nat.eq_zero_or_pos i with z | z
    · subst z
      have := a2.1
      omega
    · have := (a2.2.2.1 i z hi).1
      omega
  exact ⟨a1.ag y (fun a hz p hp => by have := ha a hz; have := hP' p hp; omega), by rw [y.1]; exact a2, a3.ag y (fun a hz => by have := ha a hz; omega), fun i hi => (a4 i hi).ag y (el i hi), a5.ag y (fun a hz => by have := ha a hz; omega), a6.ag y (fun a hz => by have := ha a hz; omega), a7.ag y (fun a hz => by have := ha a hz; omega), a8.ag y (nn _ (by omega)), a9.ag y (fun a hz => by have := ha a hz; omega), a10.ag y (nn _ (by omega)) (nn _ (by omega)), a11.ag y (nn _ (by omega)) (nn _ (by omega))⟩
theorem ln_lo8 (l : Lo8 S S') : ln S' = ln S := ln_cg (l.e 2 rfl) (l.e 3 rfl) (l.e 10 rfl) (l.e 13 rfl) (l.e 20 rfl) (l.e 22 rfl) (l.l 6) (l.l 8)
theorem ord_lo8 (l : Lo8 S S') : ord S' = ord S := ord_cg (l.e 12 rfl) l.2.2.2
theorem RC.lo8 (x : RC B E S h) (l : Lo8 S S') (hb : Bg S S') : RC B E S' h := by
  unfold RC
  rw [ln_lo8 l, ord_lo8 l]
  refine x.to0.lo8 l ?_
  have := x.2.2.2.2.2.2.2.2.2.2.2
  exact ⟨by rw [hb.mst]; exact this.1, this.2⟩
theorem Inv.lo8 (h : Inv S c) (l : Lo8 S S') : Inv S' c := by
  obtain ⟨⟨⟨a1, a2, a3, a4, a5, a6, a7, a8, a9, a10, a11, a12, a13, a14⟩, b1, b2, b3⟩, c1, c2⟩ := h
  have e := l.e
  have g := l.l
  refine ⟨⟨⟨a1.cg (e 0 rfl) (e 1 rfl) (e 2 rfl) (e 3 rfl) (e 12 rfl) l.2.2.2, a2.cg (g 6) (g 8) (g 17), a3.cg (e 0 rfl) (e 1 rfl) (e 2 rfl), a4.cg (e 0 rfl) (e 1 rfl) (e 20 rfl), a5.cg (fun k hk => l.1 k ?_ ?_), a6.cg (e 3 rfl) (e 12 rfl) (e 20 rfl), a7.cg (e 0 rfl) (e 1 rfl) (e 2 rfl) (e 3 rfl) (e 12 rfl) (e 21 rfl), a8.cg (e 2 rfl) (e 20 rfl) (e 21 rfl) (e 22 rfl), a9.cg (e 2 rfl) (g 8), a10.cg (e 0 rfl) (e 1 rfl) (e 2 rfl) (g 17), ?_, ?_, a13.cg (e 26 rfl) (e 27 rfl), a14.cg (e 0 rfl) (e 10 rfl) (e 11 rfl) (e 12 rfl) (g 8) (g 17) l.2.2.2⟩, b1.cg (l.q 30) (l.q 35) (g 33) (g 39) (e 38 rfl) (e 41 rfl), ?_, ?_⟩, fit_keep c1 (ln_lo8 l) (e 25 rfl), ?_⟩
  · simp only [List.mem_cons, List.not_mem_nil, or_false] at hk
    omega
  · simp only [List.mem_cons, List.not_mem_nil, or_false] at hk
    omega
  · unfold WXd; rw [g 18]; exact a11
  · unfold WXo; rw [e 25 rfl]; exact a12
  · unfold WN; rw [e 46 rfl, e 43 rfl, e 15 rfl]; exact b2
  · rw [l.q 35]; exact b3
  · rw [l.q 35]; exact c2
theorem RM.wm {m : mm} (h : RM S m) : RM (wm S m) m := by
  obtain ⟨a, b⟩ := h
  refine ⟨fun k hk => ?_, b⟩
  have : k < 1000 := by
    have := of_decide_eq_true hk
    simp only [List.mem_cons, List.not_mem_nil, or_false] at this
    omega
  rw [a k hk]
  exact ((wm_lo S m).1 k this).symm
theorem WKM.cg (h : WKM S) (h0 : sI S' 0 = sI S 0) (hK : sK S' = sK S) : WKM S' := by
  unfold WKM
  rw [made_cg h0, hK]
  exact h
theorem WKM.sd {ki kl kq : List Nat} (h : WKM S) (hs : Sd ki kl kq S S') (h1 : decide (0 ∉ ki) = true) : WKM S' := h.cg (hs.i 0 h1) hs.2.2.2
/-- the class after its call, the reference after its: both bear one state -/
theorem couple8 (x : RC B E S h) (v : Int32) (m' : mm) : RC B E (wm (wSI S 48 0 v) m') (jn (B + 90) h m') := by
  have l := lo8_m S v m'
  have pd := x.2.2.2.2.2.2.2.2.2.2.2
  unfold RC
  rw [ln_lo8 l, ord_lo8 l]
  have eT : ∀ a, hT (jn (B + 90) h m') a = hT h a := fun a => by
    by_cases q : B + 90 ≤ a ∧ a ≤ B + 90 + 30
    · rw [(jn_at (jn_jn (B + 90) h m') q.1 q.2).1, (jn_at pd.1 q.1 q.2).1]
    · show (if a = B + 90 then _ else if B + 90 < a ∧ a ≤ B + 90 + 30 then _ else _) = _
      rw [if_neg (by omega), if_neg (by omega)]; rfl
  have hag : Ag ((List.range 31).map (fun i => B + 90 + i)) h (jn (B + 90) h m') := by
    refine ⟨rfl, funext fun a => eT a, rfl, fun a ha => ?_⟩
    have q : ¬ (B + 90 ≤ a ∧ a ≤ B + 90 + 30) := fun q => ha (List.mem_map.mpr ⟨a - (B + 90), List.mem_range.mpr (by omega), by omega⟩)
    constructor
    · funext k
      show (if a = B + 90 then _ else if B + 90 < a ∧ a ≤ B + 90 + 30 then _ else _) = _
      rw [if_neg (by omega), if_neg (by omega)]; rfl
    · funext k
      show (if a = B + 90 then _ else if B + 90 < a ∧ a ≤ B + 90 + 30 then _ else _) = _
      rw [if_neg (by omega), if_neg (by omega)]; rfl
  refine (x.to0.ag hag (fun a ha => ?_)).lo8 l ⟨?_, ?_⟩
  · obtain ⟨i, hi, rfl⟩ := List.mem_map.mp ha
    have := List.mem_range.mp hi
    omega
  · rw [wm_mSt]
    exact jn_jn _ _ _
  · rw [eT]; exact pd.2
end L8

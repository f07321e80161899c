/-! ===== what was thrown, and the reference's cells, changed behind a call ===== -/
def Lo8 (S S' : SS) : Prop := (∀ k, k < 1000 → k ≠ 48 → sI S' k = sI S k) ∧ sL S' = sL S ∧ sQ S' = sQ S ∧ sK S' = sK S
def Bg (S S' : SS) : Prop := ∀ k, 1000 ≤ k → sI S' k = sI S k
theorem Bg.lst {S S' : SS} (h : Bg S S') : (∀ j k, (lSt S').1 j k = (lSt S).1 j k) ∧ ∀ j k, (lSt S').2 j k = (lSt S).2 j k := by
  refine ⟨fun j k => ?_, fun j k => ?_⟩
  · show sI S' (1000 + j) k = sI S (1000 + j) k
    rw [h _ (by omega)]
  · show dJ (sI S' (1010 + j) k) (sI S' (1020 + j) k) = dJ (sI S (1010 + j) k) (sI S (1020 + j) k)
    rw [h _ (by omega), h _ (by omega)]
theorem Bg.tr {S S1 S2 : SS} (x : Bg S S1) (y : Bg S1 S2) : Bg S S2 := fun k hk => (y k hk).trans (x k hk)
theorem z0_bg (S : SS) : Bg S (z0 S) := (sd_z S).big rfl
theorem lo8_z (S : SS) : Lo8 S (z0 S) := ⟨fun k _ hk => (sd_z S).1 k (by simpa using hk), rfl, rfl, rfl⟩
theorem lo8_m (S : SS) (m : LY) : Lo8 S (wml S m) := ⟨fun k hk _ => (wm_lo S m).1 k hk, rfl, rfl, rfl⟩
section L8
variable {B : Nat} {E : Nat → Nat} {S S' : SS} {li : List Int32} {od : List Nat} {h h' : hp} {c : Nat}
theorem Lo8.e (l : Lo8 S S') (k : Nat) (hk : (decide (k < 1000) && decide (k ≠ 48)) = true) : sI S' k = sI S k := by
  simp only [Bool.and_eq_true, decide_eq_true_eq] at hk
  exact l.1 k hk.1 hk.2
theorem Lo8.l (l : Lo8 S S') (k : Nat) : sL S' k = sL S k := by rw [l.2.1]
theorem Lo8.q (l : Lo8 S S') (k : Nat) : sQ S' k = sQ S k := by rw [l.2.2.1]
theorem RW0.lo8 (x : RW0 B E S li od h) (l : Lo8 S S') (hp' : PD B S' h) : RW B E S' li od h := by
  obtain ⟨a1, a2, a3, a4, a5, a6, a7, a8, a9, a10, a11⟩ := x
  have e := l.e
  refine ⟨a1, by rw [made_cg (e 0 rfl)]; exact a2, ⟨fun p hp => ?_, fun z => ?_, fun z => ?_, fun k hk => ?_⟩, fun i hi => ?_, a5.sd (e 0 rfl) (e 1 rfl), a6, a7.sd (fun k hk => l.1 k ?_ ?_) (fun k _ => l.l k) (fun k _ => l.q k), a8.sd (e 20 rfl) (e 21 rfl), a9, a10, by rw [l.2.1]; exact a11, hp'⟩
  · have : ∀ p ∈ fxI, p.2.2 < 1000 ∧ p.2.2 ≠ 48 := by decide
    rw [l.1 _ (this p hp).1 (this p hp).2]
    exact a3.1 p hp
  · rw [e 22 rfl] at z
    rw [e 23 rfl, e 24 rfl]
    exact a3.2.1 z
  · rw [e 26 rfl] at z
    rw [e 27 rfl]
    exact a3.2.2.1 z
  · rw [e 42 rfl]
    exact a3.2.2.2 k hk
  · rw [made_cg (e 0 rfl)] at hi
    refine (a4 i hi).sd (fun k hk => l.1 k ?_ ?_) (fun k _ => l.l k) l.2.2.2 <;>
    · simp only [List.mem_cons, List.not_mem_nil, or_false] at hk
      omega
  · simp only [List.mem_cons, List.not_mem_nil, or_false] at hk
    omega
  · simp only [List.mem_cons, List.not_mem_nil, or_false] at hk
    omega
theorem RW0.lwp (x : RW0 B E S li od h) (m : LY) : RW0 B E S li od (lw B h m) := by
  have hag : Ag ((List.range 6).map (fun i => B + 90 + i)) h (h.1, h.2.1, (lw B h m).2.2.1, h.2.2.2.1, h.2.2.2.2) := by
    refine ⟨rfl, rfl, rfl, fun a ha => ⟨funext fun k => ?_, rfl⟩⟩
    have q : ¬ (B + 90 ≤ a ∧ a < B + 96) := fun q => ha (List.mem_map.mpr ⟨a - (B + 90), List.mem_range.mpr (by omega), by omega⟩)
    exact if_neg q
  have ha : ∀ a ∈ (List.range 6).map (fun i => B + 90 + i), B + 90 ≤ a ∧ a < B + 96 := fun a ha => by
    obtain ⟨i, hi, rfl⟩ := List.mem_map.mp ha
    have := List.mem_range.mp hi
    omega
  generalize hH : ((h.1, h.2.1, (lw B h m).2.2.1, h.2.2.2.1, h.2.2.2.2) : hp) = h1 at hag
  have y := hag
  have key : RW0 B E S li od h1 := by
    obtain ⟨a1, a2, a3, a4, a5, a6, a7, a8, a9, a10, a11⟩ := x
    have hP' : ∀ p ∈ fxP, p.1 < 90 := by decide
    have nn : ∀ b, b < B + 90 → b ∉ (List.range 6).map (fun i => B + 90 + i) := fun b hb z => by have := ha b z; omega
    have el : ∀ i, i < made S → ∀ a ∈ (List.range 6).map (fun i => B + 90 + i), a < E i ∨ E i + 8 ≤ a := fun i hi a hz => by
      have := ha a hz
      rcases Nat.eq_zero_or_pos i with z | z
      · subst z
        have := a2.1
        omega
      · have := (a2.2.2.1 i z hi).1
        omega
    exact ⟨a1.ag y (fun a hz p hp => by have := ha a hz; have := hP' p hp; omega), by rw [y.1]; exact a2, a3.ag y (fun a hz => by have := ha a hz; omega), fun i hi => (a4 i hi).ag y (el i hi), a5.ag y (fun a hz => by have := ha a hz; omega), a6.ag y (fun a hz => by have := ha a hz; omega), a7.ag y (fun a hz => by have := ha a hz; omega), a8.ag y (nn _ (by omega)), a9.ag y (fun a hz => by have := ha a hz; omega), a10.ag y (nn _ (by omega)) (nn _ (by omega)), a11.ag y (nn _ (by omega)) (nn _ (by omega))⟩
  rw [← hH] at key
  exact key
theorem ln_lo8 (l : Lo8 S S') : ln S' = ln S := ln_cg (l.e 2 rfl) (l.e 3 rfl) (l.e 10 rfl) (l.e 13 rfl) (l.e 20 rfl) (l.e 22 rfl) (l.l 6) (l.l 8)
theorem ord_lo8 (l : Lo8 S S') : ord S' = ord S := ord_cg (l.e 12 rfl) l.2.2.2
theorem RC.lo8 (x : RC B E S h) (l : Lo8 S S') (hb : Bg S S') : RC B E S' h := by
  unfold RC
  rw [ln_lo8 l, ord_lo8 l]
  refine x.to0.lo8 l (fun j hj => ?_)
  obtain ⟨u1, u2, u3⟩ := x.2.2.2.2.2.2.2.2.2.2.2 j hj
  exact ⟨u1, fun k => by rw [hb.lst.1]; exact u2 k, fun k => by rw [hb.lst.2]; exact u3 k⟩
/-- the law writes its arrays -/
theorem RC.lwp (x : RC B E S h) (m : LY) : RC B E (wml S m) (lw B h m) := by
  have l := lo8_m S m
  unfold RC
  rw [ln_lo8 l, ord_lo8 l]
  refine (x.to0.lwp m).lo8 l (fun j hj => ?_)
  obtain ⟨u1, -, -⟩ := x.2.2.2.2.2.2.2.2.2.2.2 j hj
  exact ⟨by rw [lw_T]; exact u1, fun k => by rw [lw_I h m hj, wm_1 S m hj], fun k => by rw [lw_J h m hj, wm_2 S m hj]⟩
theorem Inv.lo8 (h : Inv S c) (l : Lo8 S S') : Inv S' c := by
  obtain ⟨⟨⟨a1, a2, a3, a4, a5, a6, a7, a8, a9, a10, a11, a12, a13, a14⟩, b1, b2, b3⟩, c1, c2⟩ := h
  have e := l.e
  have g := l.l
  refine ⟨⟨⟨a1.cg (e 0 rfl) (e 1 rfl) (e 2 rfl) (e 3 rfl) (e 12 rfl) l.2.2.2, a2.cg (g 6) (g 8) (g 17), a3.cg (e 0 rfl) (e 1 rfl) (e 2 rfl), a4.cg (e 0 rfl) (e 1 rfl) (e 20 rfl), a5.cg (fun k hk => l.1 k ?_ ?_), a6.cg (e 3 rfl) (e 12 rfl) (e 20 rfl), a7.cg (e 0 rfl) (e 1 rfl) (e 2 rfl) (e 3 rfl) (e 12 rfl) (e 21 rfl), a8.cg (e 2 rfl) (e 20 rfl) (e 21 rfl) (e 22 rfl), a9.cg (e 2 rfl) (g 8), a10.cg (e 0 rfl) (e 1 rfl) (e 2 rfl) (g 17), ?_, ?_, a13.cg (e 26 rfl) (e 27 rfl), a14.cg (e 0 rfl) (e 10 rfl) (e 11 rfl) (e 12 rfl) (g 8) (g 17) l.2.2.2⟩, b1.cg (l.q 30) (l.q 35) (g 33) (g 39) (e 38 rfl) (e 41 rfl), ?_, ?_⟩, fit_keep c1 (ln_lo8 l) (e 25 rfl), ?_⟩
  · simp only [List.mem_cons, List.not_mem_nil, or_false] at hk
    omega
  · simp only [List.mem_cons, List.not_mem_nil, or_false] at hk
    omega
  · unfold WXd; rw [g 18]; exact a11
  · unfold WXo; rw [e 25 rfl]; exact a12
  · unfold WN; rw [e 46 rfl, e 43 rfl, e 15 rfl]; exact b2
  · rw [l.q 35]; exact b3
  · rw [l.q 35]; exact c2
theorem WKM.cg (h : WKM S) (h0 : sI S' 0 = sI S 0) (hK : sK S' = sK S) : WKM S' := by
  unfold WKM
  rw [made_cg h0, hK]
  exact h
theorem WKM.sd {ki kl kq : List Nat} (h : WKM S) (hs : Sd ki kl kq S S') (h1 : decide (0 ∉ ki) = true) : WKM S' := h.cg (hs.i 0 h1) hs.2.2.2
end L8

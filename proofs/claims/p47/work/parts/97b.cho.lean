/-! ===== one turn: what holds, the line, a chord ===== -/
theorem Lo8.rf {S : SS} : Lo8 S S := ⟨fun _ _ _ => rfl, rfl, rfl, rfl⟩
section TB
variable {B c : Nat} {E : Nat → Nat} {S S' : SS} {h : hp} {m m' : LY}
theorem LB.ag5 (x : LB S m) (e : ∀ j, j < 5 → (∀ k, m'.1 j k = m.1 j k) ∧ ∀ k, m'.2 j k = m.2 j k) : LB S m' := by
  obtain ⟨a1, a2, a3, a4, a5, a6, a7, a8⟩ := x
  have n := (e 0 (by decide)).1
  refine ⟨by rw [n]; exact a1, by rw [n]; exact a2, by rw [n]; exact a3, by rw [n]; exact a4, by rw [n]; exact a5, by rw [n, n]; exact a6, fun j hj => ?_, fun j h1 h2 => ?_⟩
  · exact (a7 j hj).cg rfl rfl rfl rfl rfl rfl rfl rfl rfl rfl rfl (fun k => (e 1 (by decide)).1 _) ((e 2 (by decide)).2 _) ((e 3 (by decide)).2 _) ((e 3 (by decide)).2 _) ((e 4 (by decide)).1 _)
  · exact (a8 j h1 h2).cg (fun k => (e 1 (by decide)).1 _) ((e 3 (by decide)).2 _) ((e 3 (by decide)).2 _) ((e 4 (by decide)).1 _)
theorem lw_inj (e : lw B h m = lw B h m') : ∀ j, j < 6 → (∀ k, m'.1 j k = m.1 j k) ∧ ∀ k, m'.2 j k = m.2 j k := fun j hj => by
  refine ⟨fun k => ?_, fun k => ?_⟩
  · rw [← lw_I (B := B) h m hj k, e, lw_I h m' hj k]
  · rw [← lw_J (B := B) h m hj k, e, lw_J h m' hj k]
theorem LB.lo8 (x : LB S m) (l : Lo8 S S') : LB S' m := by
  obtain ⟨a1, a2, a3, a4, a5, a6, a7, a8⟩ := x
  have e := l.e
  have hm := made_cg (e 0 rfl)
  refine ⟨by rw [hm]; exact a1, by rw [e 20 rfl]; exact a2, by rw [e 21 rfl]; exact a3, by rw [e 25 rfl]; exact a4, by rw [e 22 rfl]; exact a5, by rw [e 22 rfl, e 23 rfl, e 24 rfl]; exact a6, fun j hj => ?_, fun j hj => a8 j (by rw [← hm]; exact hj)⟩
  exact (a7 j (by rw [← hm]; exact hj)).cg (e 0 rfl) (e 1 rfl) (e 2 rfl) (e 3 rfl) (by rw [e 10 rfl]) (by rw [e 11 rfl]) (by rw [e 12 rfl]) (by rw [e 13 rfl]) (by rw [l.l 6]) (by rw [l.l 8]) l.2.2.2 (fun _ => rfl) rfl rfl rfl rfl
theorem VK.lo8 (x : VK S) (l : Lo8 S S') : VK S' := by
  unfold VK
  rw [made_cg (l.e 0 rfl), l.e 2 rfl, l.e 13 rfl, l.l 6, l.l 8]
  exact x
theorem RD.lo8 (x : RD B h m S) (l : Lo8 S S') (hI : Inv S c) : RD B h m S' := ⟨x.q, x.l.lo8 l, (hI.lo8 l).1.1.t, (hI.lo8 l).1.1.b, x.k.lo8 l⟩
theorem Qt.lo8 (x : Qt S) (l : Lo8 S S') : Qt S' := ⟨fun i => by rw [l.l 17]; exact x.1 i, by rw [l.q 30]; exact x.2.1, by rw [l.q 35]; exact x.2.2.1, by rw [l.e 38 rfl]; exact x.2.2.2⟩
/-- the law's step tells its arrays: they may already stand behind in the state that it speaks of -/
theorem sim {ρ : Type} {f : SS → SS} {r : SS → ρ} {F : Option (ρ × hp)} (H : ∀ S', Lo8 S S' → ∃ m', F = some (r S', lw B h m') ∧ LB (f S') m') : ∃ m', F = some (r S, lw B h m') ∧ r (wml S m') = r S ∧ LB (f (wml S m')) m' := by
  obtain ⟨m1, e1, -⟩ := H S Lo8.rf
  obtain ⟨m2, e2, e3⟩ := H (wml S m1) (lo8_m S m1)
  have e := e1.symm.trans e2
  have e' := Prod.mk.inj (Option.some.inj e)
  exact ⟨m1, e1, e'.1.symm, e3.ag5 (fun j hj => lw_inj e'.2.symm j (by omega))⟩
/-- what holds of the desk between the law's steps -/
def JC (B c : Nat) (S : SS) (h : hp) : Prop := (∃ E, RC B E S h) ∧ Inv S c ∧ VK S ∧ WKN S ∧ WKM S ∧ sL S 18 0 = [] ∧ sI S 26 0 = 0
def JJ (B c : Nat) (S : SS) (h : hp) : Prop := JC B c S h ∧ LB S (lSt S) ∧ Qt S
/-- the call is done, the law has not yet fitted the place on the line -/
def Md (B c : Nat) (S : SS) (h : hp) : Prop := JC B c S h ∧ ∃ S0, LB S0 (lSt S) ∧ fit S0 = S
theorem lSt_w (S : SS) (m : LY) : ∀ j, j < 6 → (∀ k, (lSt (wml S m)).1 j k = m.1 j k) ∧ ∀ k, (lSt (wml S m)).2 j k = m.2 j k := fun j hj => ⟨fun k => wm_1 S m hj k, fun k => wm_2 S m hj k⟩
theorem JJ.rd (x : JJ B c S h) : ∃ E, RC B E S h ∧ RD B h (lSt S) S := by
  obtain ⟨⟨⟨E, x1⟩, x2, x3, -⟩, x4, -⟩ := x
  exact ⟨E, x1, RW.lq x1, x4, x2.1.1.t, x2.1.1.b, x3⟩
theorem JJ.md (x : JJ B c S h) : Md B c S h := ⟨x.1, S, x.2.1, x.1.2.1.2.1⟩
theorem JC.gw (x : JC B c S h) {h' : hp} (g : Gw h h') : JC B c S h' := by
  obtain ⟨⟨E, x1⟩, x2⟩ := x
  exact ⟨⟨E, RW.grow x1 g⟩, x2⟩
theorem JC.of (x : JC B c S h) {E : Nat → Nat} {h' : hp} (y : RC B E S h') : JC B c S h' := ⟨⟨E, y⟩, x.2⟩
/-- a row of the law's that is the sixth array -/
theorem sw_95 (h : hp) (f : Nat → Int32) : ∃ m' : LY, sw h (B + 95) f = lw B h m' ∧ ∀ j, j < 5 → (∀ k, m'.1 j k = hI h (B + 90 + j) k) ∧ ∀ k, m'.2 j k = hJ h (B + 90 + j) k := by
  refine ⟨(fun j k => if j = 5 then f k else hI h (B + 90 + j) k, fun j k => hJ h (B + 90 + j) k), ?_, fun j hj => ⟨fun k => if_neg (by omega), fun k => rfl⟩⟩
  refine Prod.ext rfl (Prod.ext rfl (Prod.ext (funext fun b => funext fun k => ?_) (Prod.ext rfl (funext fun b => funext fun k => ?_))))
  · show (if b = B + 95 then f k else h.2.2.1 b k) = if B + 90 ≤ b ∧ b < B + 96 then (if b - (B + 90) = 5 then f k else hI h (B + 90 + (b - (B + 90))) k) else h.2.2.1 b k
    by_cases q : b = B + 95
    · rw [if_pos q, if_pos (by omega), if_pos (by omega)]
    · rw [if_neg q]
      by_cases w : B + 90 ≤ b ∧ b < B + 96
      · rw [if_pos w, if_neg (by omega), show B + 90 + (b - (B + 90)) = b by omega]; rfl
      · rw [if_neg w]
  · show h.2.2.2.2 b k = if B + 90 ≤ b ∧ b < B + 96 then hJ h (B + 90 + (b - (B + 90))) k else h.2.2.2.2 b k
    by_cases w : B + 90 ≤ b ∧ b < B + 96
    · rw [if_pos w, show B + 90 + (b - (B + 90)) = b by omega]; rfl
    · rw [if_neg w]
/-- the line, laid into the law's own row -/
theorem t_line (x : RC B E S h) {S0 : SS} (hl : LB S0 (lSt S)) (hs : Sd [25] [] [] S S0) (hI : Inv S c) (hv : VK S) : ∃ m1 H0, fL_line (some (B + 90)) (some (B + 91)) (some (B + 92)) (some (B + 93)) (some (B + 94)) (some (B + 95)) h = some (nI (ln S).length, lw B H0 m1) ∧ RC B E S H0 ∧ ∀ j, j < 5 → (∀ k, m1.1 j k = (lSt S).1 j k) ∧ ∀ k, m1.2 j k = (lSt S).2 j k := by
  have hb := RW.hb x
  have hC := hI.1.1
  have y : RD B h (lSt S) S0 := ⟨RW.lq x, hl, hC.t.sdI hs rfl, hC.b.sdI hs rfl, hv.sd hs rfl⟩
  have hc0 : WC S0 := hC.c.cg (hs.i 0 rfl) (hs.i 1 rfl) (hs.i 20 rfl)
  have hl0 : WL S0 := hC.l.cg (hs.l 6 rfl) (hs.l 8 rfl) (hs.l 17 rfl)
  have eln : ln S0 = ln S := ln_sd hs rfl
  obtain ⟨f', g', e1, -⟩ := rl_line y hc0 hl0 (a := B + 95) (Nat.le_refl _) (RW.lt6 x 5 (by decide)) (by omega) (by omega)
  have gw : Gw h (sw (wN h (20, 12)) (hN h) g') := ⟨Nat.le_succ _, fun b hb => by
    have nb : ¬ b = hN h := by omega
    exact ⟨if_neg nb, fun k => (sw_Io (wN h (20, 12)) g' nb k).trans (if_neg nb), fun k => if_neg nb⟩, fun b hb k => if_neg (show ¬ b = hN h by omega)⟩
  have x2 : RC B E S (sw (wN h (20, 12)) (hN h) g') := RW.grow x gw
  obtain ⟨m1, e2, e3⟩ := sw_95 (B := B) (sw (wN h (20, 12)) (hN h) g') f'
  refine ⟨m1, sw (wN h (20, 12)) (hN h) g', by rw [e1, eln, e2], x2, fun j hj => ?_⟩
  obtain ⟨u1, u2, u3⟩ := RW.lq x2 j hj
  exact ⟨fun k => by rw [(e3 j hj).1]; exact u2 k, fun k => by rw [(e3 j hj).2]; exact u3 k⟩
/-! what a chord keeps -/
theorem Qt.cAns (x : Qt S) (w : List Int32) : Qt (cAns S w) := by
  have hs := sd_cAns S w
  refine ⟨fun i => by rw [hs.l 17 rfl]; exact x.1 i, by rw [hs.q 30 rfl]; exact x.2.1, by rw [hs.q 35 rfl]; exact x.2.2.1, ?_⟩
  unfold Jvm.Pilot.CBrailleDeskLaw_law_r3561_cb6334.cAns
  split
  · exact x.2.2.2
  · rw [sI_L]
    unfold hshS
    have e : sI (hshA S) 38 0 = sI S 38 0 := by rw [(sd_hshA S).i 38 rfl]
    split
    · unfold drop1
      rw [sI_N (by decide), sI_I, if_pos ⟨rfl, rfl⟩]; decide
    · rw [e]; exact x.2.2.2
theorem Qt.i (x : Qt S) {k i : Nat} {v : Int32} (hk : k ≠ 38) : Qt (wSI S k i v) := ⟨x.1, x.2.1, x.2.2.1, by rw [sI_N (Ne.symm hk)]; exact x.2.2.2⟩
theorem Qt.w8 (x : Qt S) (i : Nat) (l : List Int32) : Qt (wSL S 8 i l) := ⟨fun j => by rw [sL_L, if_neg (fun z => absurd z.1 (by decide))]; exact x.1 j, x.2.1, x.2.2.1, x.2.2.2⟩
theorem Qt.hush (x : Qt S) : Qt (hush S) := by
  have hs := sd_hush S
  refine ⟨fun i => by rw [hs.l 17 rfl]; exact x.1 i, ?_, by rw [hs.q 35 rfl]; exact x.2.2.1, ?_⟩
  · unfold Jvm.Pilot.CBrailleDeskLaw_law_r3561_cb6334.hush
    show (if (30 : Nat) = 30 then ([] : List (List Int32)) else sQ S 30) = []
    exact if_pos rfl
  · unfold Jvm.Pilot.CBrailleDeskLaw_law_r3561_cb6334.hush
    rw [sI_I, if_pos ⟨rfl, rfl⟩, if_neg x.2.2.2]; decide
theorem Qt.kgo (x : Qt S) (o : Option Nat) (w : List Int32) : Qt (goO S o w) := by
  cases o with
  | none => exact x.cAns _
  | some y => exact (((x.i (by decide)).i (by decide)).i (by decide)).cAns _
theorem Qt.kty (x : Qt S) (v : Int32) : Qt (typ S v) := by
  unfold typ sayC
  split
  · exact x.cAns _
  · exact (x.w8 _ _).cAns _
theorem Qt.kcm (x : Qt S) (p : Int32) : Qt (cmd S p) := by
  unfold cmd
  split
  · exact x.kgo _ _
  split
  · exact x.kgo _ _
  split
  · exact x.kgo _ _
  split
  · exact x.kgo _ _
  split
  · unfold gUp
    split
    · exact x.kgo _ _
    · exact x.cAns _
  split
  · unfold gDown
    split
    · exact x.kgo _ _
    · exact x.cAns _
  split
  · unfold gTab
    split
    · exact Qt.kgo (S := wSI S 21 0 _) (x.i (by decide)) (some _) []
    · exact x.cAns _
  split
  · unfold act act2
    split
    · split
      · exact ((x.i (by decide)).i (by decide)).cAns _
      split
      · exact ((x.i (by decide)).i (by decide)).cAns _
      · exact ((((x.i (by decide)).i (by decide)).i (by decide)).i (by decide)).cAns _
    · exact x.cAns _
  split
  · exact x.hush
  split
  · exact x.i (by decide)
  split
  · exact x.i (by decide)
  split
  · exact x.cAns _
  · exact x
theorem Qt.ktS (x : Qt S) (p : Int32) : Qt (typS S p) := by
  unfold typS
  split
  · unfold typL
    split
    · exact x.kty _
    · split
      · exact x.kty _
      · exact ((x.kty _).i (by decide)).i (by decide)
  · split
    · exact x.i (by decide)
    split
    · exact x.i (by decide)
    split
    · exact x.i (by decide)
    split
    · exact x.kty _
    split
    · exact x.kty _
    split
    · exact x.kty _
    split
    · exact x.kty _
    split
    · split
      · exact x.kty _
      · exact (x.kty _).i (by decide)
    split
    · unfold tkB sayC
      split
      · exact x.cAns _
      · exact (x.w8 _ _).cAns _
    split
    · exact (x.i (by decide)).cAns _
    · exact x
theorem Qt.kch (x : Qt S) (p : Int32) : Qt (chd0 S p) := by
  unfold chd0
  split
  · split
    · split
      · exact x
      · unfold gKind
        split
        · exact x
        · exact x.kgo _ _
    · exact x.ktS p
  · exact x.kcm _
theorem Qt.fit (x : Qt S) : Qt (fit S) := by
  unfold Jvm.Pilot.CBrailleDeskLaw_law_r3561_cb6334.fit
  split
  · exact x.i (by decide)
  · exact x
/-- A CHORD -/
theorem t_chord (j : JJ B c S h) {p : Int32} (hpp : 1 ≤ p ∧ p ≤ 511) {K6 : Int32 × hp → Prop} (hK : ∀ S' h', Md B c S' h' → Qt S' → K6 (1, h')) : wH (fL_line (some (B + 90)) (some (B + 91)) (some (B + 92)) (some (B + 93)) (some (B + 94)) (some (B + 95)) h) fun x14 h15 =>
  wH (fL_presses (some (B + 90)) (some (B + 91)) (some (B + 93)) (some (B + 94)) x14 p h15) fun _ h16 =>
  wX ((oOb 9 (some B) h16).bind fun b => fX10_chord b p h16) fun x17 h18 =>
  wP (oIL (some (B + 90)) (1 : Int32) h18) fun x19 =>
  if x17 = x19 then
  (K6 ((1 : Int32), h18))
  else
  K6 ((0 : Int32), h18) := by
  obtain ⟨⟨⟨E, x⟩, hI, hv, hn, hm, h18, h26⟩, hl, hq⟩ := j
  obtain ⟨m1, H0, e1, x0, ag⟩ := t_line x hl Sd.rf hI hv
  have y0 : RD B (lw B H0 m1) m1 S := ⟨(RW.lt6 x0).lq m1, hl.ag5 ag, hI.1.1.t, hI.1.1.b, hv⟩
  obtain ⟨m2, e2, -, lb⟩ := sim (S := S) (f := fun S => chd0 S p) (r := fun _ => ()) (F := fL_presses (some (B + 90)) (some (B + 91)) (some (B + 93)) (some (B + 94)) (nI (ln S).length) p (lw B H0 m1)) (fun S' l => by
    have := q_prs (RW.lt6 x0) (y0.lo8 l hI) (hI.lo8 l).1.1 p
    rw [ln_lo8 l] at this
    exact this)
  rw [e1, wHs, e2, wHs]
  have l2 := lo8_m S m2
  have I2 := hI.lo8 l2
  have x2 : RC B E (wml S m2) (lw B H0 m2) := RC.lwp x0 m2
  have h26' : sI (wml S m2) 26 0 = 0 := by rw [l2.e 26 rfl]; exact h26
  have hr : cChord (wml S m2) p = rt (sI (chd (wml S m2) p) 20 0) (chd (wml S m2) p) := by
    unfold cChord
    rw [if_neg (fun z => z hpp), if_neg (show ¬ 0 < sI (wml S m2) 26 0 by rw [h26']; decide)]
  obtain ⟨E', h', e3, x3⟩ := (C_chord x2 I2 p).w (by decide) (by rw [hr]; rfl)
  have k3 := kChord (S := wml S m2) (WKN.cg hn (l2.e 15 rfl) (l2.l 17)) (hm.cg (l2.e 0 rfl) l2.2.2.2) p
  have I3 := iChord I2 p
  rw [hr] at e3 x3 k3 I3
  have x3 : RC B E' (chd (wml S m2) p) h' := x3
  have k3 : KP (wml S m2) (chd (wml S m2) p) := k3
  have I3 : Inv (chd (wml S m2) p) c := I3
  have sdc := sd_chd (wml S m2) p
  have lst : ∀ j, j < 6 → (∀ k, (lSt (chd (wml S m2) p)).1 j k = m2.1 j k) ∧ ∀ k, (lSt (chd (wml S m2) p)).2 j k = m2.2 j k := fun j hj => ⟨fun k => by rw [k3.1.lst.1]; exact (lSt_w S m2 j hj).1 k, fun k => by rw [k3.1.lst.2]; exact (lSt_w S m2 j hj).2 k⟩
  have lb' : LB (chd0 (wml S m2) p) (lSt (chd (wml S m2) p)) := lb.ag5 (fun j hj => lst j (by omega))
  rw [RW.ob0 x2, sb, e3, wXs, (RW.lq x3).n1, wPs, lb'.2.1]
  have e20 : sI (chd (wml S m2) p) 20 0 = sI (chd0 (wml S m2) p) 20 0 := by
    show sI (fit (chd0 (wml S m2) p)) 20 0 = _
    rw [(sd_fit _).i 20 rfl]
  rw [show (rt (sI (chd (wml S m2) p) 20 0) (chd (wml S m2) p)).2.1 = sI (chd (wml S m2) p) 20 0 from rfl, e20, if_pos rfl]
  refine hK _ h' ⟨⟨⟨E', x3⟩, I3, ?_, k3.2.1, k3.2.2, ?_, ?_⟩, _, lb', rfl⟩ ?_
  · exact ((hv.lo8 l2).kch I2.1.1 p).sd (sd_fit _) rfl
  · show sL (chd (wml S m2) p) 18 0 = []
    rw [sdc.l 18 rfl, l2.l 18]; exact h18
  · show sI (chd (wml S m2) p) 26 0 = 0
    rw [sdc.i 26 rfl]; exact h26'
  · exact ((hq.lo8 l2).kch p).fit
end TB

/-! ===== one call of the law: what holds ahead of it holds behind it ===== -/
/-- class and reference bear one desk at h -/
def JJ (B : Nat) (h : hp) (c : Nat) : Prop := ∃ (E : Nat → Nat) (T : SS), RC B E T h ∧ RM T (mSt T) ∧ Inv T c ∧ WKN T ∧ WKM T
theorem RC.pd {B : Nat} {E : Nat → Nat} {S : SS} {h : hp} (x : RC B E S h) : PD B S h := x.2.2.2.2.2.2.2.2.2.2.2
theorem RC.tx {B : Nat} {E : Nat → Nat} {S : SS} {h : hp} (x : RC B E S h) : (hT h B).1 = 10 := x.1.1 (0, 10) (by decide)
theorem PD.tm {B : Nat} {S : SS} {h : hp} (x : PD B S h) : (hT h (B + 90)).1 = 11 := by
  rw [← x.1, jn_T0]
theorem gw_wS {h : hp} {n : Nat} (hn : hN h ≤ n) : Gw h (wS h n) := ⟨hn, fun _ _ => ⟨rfl, fun _ => rfl, fun _ => rfl⟩⟩
theorem gw_wJ {h : hp} {o k : Nat} {v : Int64} : Gw h (wJ h o k v) := ⟨Nat.le_refl _, fun _ _ => ⟨rfl, fun _ => rfl, fun _ => rfl⟩⟩
theorem HH.gw {h' h2 : hp} {o : Nat} {cv : Int32 → Int64} {a : Int32 ⊕ String} (x : HH h' o cv a h2) : Gw h' h2 := by
  rcases a with b | E
  · have : h2 = wJ h' o 0 (cv b) := x
    rw [this]; exact gw_wJ
  · obtain ⟨n, hn, rfl⟩ := x
    exact gw_wS hn
theorem okB_of {β : Type} {f : Option β} {P : β → Prop} {b : β} (e : f = some b) (h : P b) : okB f P := ⟨b, e, h⟩
/-- how the class's call ends -/
def CG (G : gG) (N : gM) (d k n : Nat) (as : List sv) (B : Nat) (es : List String) (h : hp) (r : aS) : Prop := ∃ (E' : Nat → Nat) (a : Int32 ⊕ String) (h' : hp), (∀ Q1 : hQ, Q1 (oA a) h' → gS G N d k n as h Q1) ∧ An es a r ∧ RC B E' r.2.2 h'
theorem CS.gs {G : gG} {N : gM} {d k n : Nat} {as : List sv} {B : Nat} {es : List String} {h : hp} {f : Option ((Int32 ⊕ String) × hp)} {r : aS} (x : CS B es f r) (t : ∀ Q1 : hQ, okB f (pX gI Q1) → gS G N d k n as h Q1) : CG G N d k n as B es h r := by
  obtain ⟨E', a, h', e, x1, x2⟩ := x
  refine ⟨E', a, h', fun Q1 q => t Q1 (okB_of e ?_), x1, x2⟩
  rcases a with a | a <;> exact q
theorem CQ.gs {G : gG} {N : gM} {d k n : Nat} {as : List sv} {B : Nat} {E : Nat → Nat} {S : SS} {es : List String} {h : hp} {f : Option (Int32 ⊕ String)} {r : aS} (x : CQ S es f r) (y : RC B E S h) (t : ∀ Q1 : hQ, okB f (pC gI Q1 h) → gS G N d k n as h Q1) : CG G N d k n as B es h r := by
  obtain ⟨⟨a, e, x1⟩, x2⟩ := x
  refine ⟨E, a, h, fun Q1 q => t Q1 (okB_of e ?_), x1, by rw [x2]; exact y⟩
  rcases a with a | a <;> exact q
/-- what holds at T, told of z0 T -/
theorem JJ.z {B : Nat} {E : Nat → Nat} {T : SS} {h : hp} {c : Nat} (x : RC B E T h) (i : Inv T c) (n : WKN T) (k : WKM T) : RC B E (z0 T) h ∧ Inv (z0 T) c ∧ WKN (z0 T) ∧ WKM (z0 T) :=
  ⟨x.lo8 (lo8_z T) (z0_bg T), i.lo8 (lo8_z T), n.sd (sd_z T) rfl, k.sd (sd_z T) rfl⟩
theorem JJ.next {B : Nat} {E : Nat → Nat} {S : SS} {h : hp} {c : Nat} {v : Int32} {m' : mm} (x : RC B E S h) (i : Inv S c) (n : WKN S) (k : WKM S) (hm : RM (wSI S 48 0 v) m') : JJ B (jn (B + 90) h m') c := by
  have l := lo8_m S v m'
  refine ⟨E, wm (wSI S 48 0 v) m', couple8 x v m', by rw [wm_mSt]; exact hm.wm, i.lo8 l, n.cg (l.e 15 rfl) (l.l 17), k.cg (l.e 0 rfl) l.2.2.2⟩
theorem step_X {G : gG} {N10 N11 : gM} {d k n d11 : Nat} {as ar : List sv} {B : Nat} {es : List String} {h : hp} {T : SS} {c' : Nat} {f : mm → Option (Int32 × mm)} {r : SS → aS} {cv : Int32 → Int64}
    (cl : CG G N10 d k n as B es h (r (z0 T))) (rf : MF T (mSt T) (f (mSt T)) r) (kp : KP (z0 T) (r (z0 T)).2.2) (iv : Inv (r (z0 T)).2.2 c')
    (tr : ∀ (h : hp) (m : mm) (Q : hQ), okB (f m) (pM gI Q (B + 90) h) → gS G N11 d11 0 0 (sr (some (B + 90)) :: ar) (jn (B + 90) h m) Q) :
    ∃ (a : Int32 ⊕ String) (h' : hp) (M : hp → hp), hT h' (B + 121) = (24, 1) ∧ (∀ Q1 : hQ, Q1 (oA a) h' → gS G N10 d k n as h Q1) ∧ An es a (r (z0 T)) ∧ (∀ h2, HH h' (B + 121) cv a h2 → MM G N11 d11 ar (B + 90) (B + 121) (r (z0 T)) M h2) ∧ ∀ h2, HH h' (B + 121) cv a h2 → JJ B (M h2) c' := by
  obtain ⟨E', a, h', hS, hA, hC⟩ := cl
  obtain ⟨m', e1, e2⟩ := rf
  have hmz : mSt (r (z0 T)).2.2 = mSt T := (kp.1.mst).trans (z0_bg T).mst
  have hg : ∀ h2, HH h' (B + 121) cv a h2 → RC B E' (r (z0 T)).2.2 h2 := fun h2 q => hC.grow q.gw
  refine ⟨a, h', fun h2 => jn (B + 90) h2 m', hC.pd.2, hS, hA, fun h2 q => ?_, fun h2 q => JJ.next (hg h2 q) iv kp.2.1 kp.2.2 e2⟩
  have p2 := (hg h2 q).pd
  have p3 := couple8 (hg h2 q) (r (z0 T)).1 m'
  refine ⟨p2.tm, fun Q1 w => ?_, p3.pd.tm, fun Q1 w => ?_, p3.pd.2, rfl⟩
  · have t := tr h2 (mSt T) Q1 (okB_of e1 w)
    rw [← hmz, p2.1] at t
    exact t
  · refine tX11_thrown (B + 90) h2 m' Q1 ?_
    refine okB_of (b := m' 48 0) rfl ?_
    have : m' 48 0 = (r (z0 T)).1 := by
      rw [e2.p 48 rfl]
      show up2 (r (z0 T)).2.2.1 48 0 (r (z0 T)).1 48 0 = _
      rw [up2_g, if_pos ⟨rfl, rfl⟩]
    show Q1 (.inl (some (si (m' 48 0)))) _
    rw [this]
    exact w
theorem step_P {G : gG} {N10 N11 : gM} {d d11 : Nat} {B : Nat} {E : Nat → Nat} {h : hp} {T : SS} {c : Nat} {f : mm → Option (Int32 × mm)} {v : SS → Int32} {fc : Option Int32}
    (x : RC B E (z0 T) h) (iv : Inv (z0 T) c) (kn : WKN (z0 T)) (km : WKM (z0 T)) (cl : fc = some (v (z0 T))) (tc : ∀ Q1 : hQ, okB fc (pP gI Q1 h) → gS G N10 d 0 0 [sr (some B)] h Q1) (rf : MF T (mSt T) (f (mSt T)) (fun S => rt (v S) S))
    (tr : ∀ (h : hp) (m : mm) (Q : hQ), okB (f m) (pM gI Q (B + 90) h) → gS G N11 d11 0 0 [sr (some (B + 90))] (jn (B + 90) h m) Q) :
    ∃ (h2 : hp), (∀ Q1 : hQ, Q1 (.inl (some (si (v (z0 T))))) h → gS G N10 d 0 0 [sr (some B)] h Q1) ∧ (hT h (B + 90)).1 = 11 ∧ (∀ Q1 : hQ, Q1 (.inl (some (si (v (z0 T))))) h2 → gS G N11 d11 0 0 [sr (some (B + 90))] h Q1) ∧ JJ B h2 c := by
  obtain ⟨m', e1, e2⟩ := rf
  refine ⟨jn (B + 90) h m', fun Q1 q => tc Q1 (okB_of cl q), x.pd.tm, fun Q1 w => ?_, JJ.next x iv kn km e2⟩
  have t := tr h (mSt T) Q1 (okB_of e1 w)
  rw [← (z0_bg T).mst, x.pd.1] at t
  exact t

/-! ===== rows for the law: longs, its script, methods that catch, calls that never throw ===== -/
def oJL (r : Option Nat) (i : Int32) (h : hp) : Option Int64 := match r with
  | some a => if (hT h a).1 = 24 ∧ inb i (hT h a).2 = true then some (hJ h a i.toNatClampNeg) else none
  | none => none
def oJS (r : Option Nat) (i : Int32) (x : Int64) (h : hp) : Option hp := match r with
  | some a => if (hT h a).1 = 24 ∧ inb i (hT h a).2 = true then some (wJ h a i.toNatClampNeg x) else none
  | none => none
/-- a part of a body that goes on in any way that is told it -/
def wM {σ : Type} (F : (σ → Prop) → Prop) (K : σ → Prop) : Prop := F K
def wP {ρ : Type} (o : Option ρ) (K : ρ → Prop) : Prop := okB o K
def wH {ρ : Type} (o : Option (ρ × hp)) (K : ρ → hp → Prop) : Prop := okB o (fun p => K p.1 p.2)
def wC {ρ : Type} (o : Option (ρ ⊕ String)) (K : ρ → Prop) : Prop := okB o (fun q => match q with
  | .inl x => K x
  | .inr _ => False)
def wX {ρ : Type} (o : Option ((ρ ⊕ String) × hp)) (K : ρ → hp → Prop) : Prop := okB o (fun p => match p.1 with
  | .inl x => K x p.2
  | .inr _ => False)
/-- what the law's method that catches tells of what was thrown -/
def thC (E : String) : Int32 := if E = exI then -11 else if E = exA then -12 else -13
/-- a call that is caught: behind a throw some cells more are somebody's -/
def wE (o : Option ((Int32 ⊕ String) × hp)) (K : Int32 → hp → Prop) : Prop := okB o (fun p => match p.1 with
  | .inl x => K x p.2
  | .inr E => (E = exI ∨ E = exA ∨ E = exS) ∧ ∀ n, hN p.2 ≤ n → K (thC E) (wS p.2 n))
def itrW {α β : Type} (F : α → (α → Prop) → (β → Prop) → Prop) : Nat → α → (β → Prop) → Prop
  | 0, _, _ => False
  | n + 1, a, K => F a (fun a' => itrW F n a' K) K
theorem ifP {c : Prop} [Decidable c] {A B : Prop} (h : if c then A else B) : (c → A) ∧ (¬ c → B) := ⟨fun hc => by rw [if_pos hc] at h; exact h, fun hc => by rw [if_neg hc] at h; exact h⟩
theorem okB_bs {β : Type} {o : Option β} {K : β → Prop} (h : okB o K) : okB (o.bind some) K := by
  obtain ⟨b, h1, h2⟩ := h
  exact ⟨b, by rw [h1]; rfl, h2⟩
theorem mgW {σ : Type} {F : (σ → Prop) → Prop} {K X : σ → Prop} {A : Prop} (hF : wM F K) (kk : ∀ P' : σ → Prop, (∀ q, P' q → X q) → F P' → A) (kJ : ∀ q, K q → X q) : A := kk K kJ hF
theorem lpW {α β : Type} {F : α → (α → Prop) → (β → Prop) → Prop} {K : β → Prop} {X : Nat → α → Prop} (hb : ∀ (m : Nat) (a : α) (P1 : α → Prop), (∀ a', P1 a' → X m a') → F a P1 K → X (m + 1) a) : ∀ (n : Nat) (a : α), itrW F n a K → X n a
  | 0, _, hF => hF.elim
  | n + 1, a, hF => hb n a (fun a' => itrW F n a' K) (fun a' h => lpW hb n a' h) hF
section VNL
variable {G : gG} {M : gM} {d : Nat} {Q : hQ} {pc : Nat} {ls : lc} {st : List sv} {k n : Nat} {h : hp} {β : Type} {P : β → Prop}
theorem v_lor {x y : Int64} (hd : decode M.2.1 pc = .ok (.lor, 1)) (kk : gV G M d Q (pc + 1) ls (sl (x ||| y) :: st) k n h) : gV G M d Q pc ls (sl y :: sl x :: st) k n h :=
  fun p e R s m args below meth c H locs cells slots mc ms C hr hs hk hn a hl => lv_lor C.1 C.2.1 hd (kk p e R s m args below meth c H locs cells slots mc ms C hr hs hk hn a hl)
theorem v_lxor {x y : Int64} (hd : decode M.2.1 pc = .ok (.lxor, 1)) (kk : gV G M d Q (pc + 1) ls (sl (x ^^^ y) :: st) k n h) : gV G M d Q pc ls (sl y :: sl x :: st) k n h :=
  fun p e R s m args below meth c H locs cells slots mc ms C hr hs hk hn a hl => lv_lxor C.1 C.2.1 hd (kk p e R s m args below meth c H locs cells slots mc ms C hr hs hk hn a hl)
theorem v_lshl {x : Int64} {y : Int32} (hd : decode M.2.1 pc = .ok (.lshl, 1)) (kk : gV G M d Q (pc + 1) ls (sl (x <<< (y.toInt64 &&& 63)) :: st) k n h) : gV G M d Q pc ls (si y :: sl x :: st) k n h :=
  fun p e R s m args below meth c H locs cells slots mc ms C hr hs hk hn a hl => lv_lshl C.1 C.2.1 hd rfl (kk p e R s m args below meth c H locs cells slots mc ms C hr hs hk hn a hl)
theorem s_lald {r : Option Nat} {i : Int32} {f : Int64 → Option β} (hd : decode M.2.1 pc = .ok (.laload, 1)) (hF : okB ((oJL r i h).bind f) P) (kk : ∀ x : Int64, okB (f x) P → gV G M d Q (pc + 1) ls (sl x :: st) k n h) : gV G M d Q pc ls (si i :: sr r :: st) k n h := by
  obtain ⟨x, hx, hF⟩ := okB_bind hF
  cases r with
  | none => cases hx
  | some a =>
    simp only [oJL] at hx
    split at hx
    · rename_i hc
      cases hx; exact v_lald hd hc.1 (inb_in hc.2) (kk _ hF)
    · cases hx
theorem s_last {r : Option Nat} {i : Int32} {x : Int64} {f : hp → Option β} (hd : decode M.2.1 pc = .ok (.lastore, 1)) (hF : okB ((oJS r i x h).bind f) P) (kk : ∀ h' : hp, okB (f h') P → gV G M d Q (pc + 1) ls st k n h') : gV G M d Q pc ls (sl x :: si i :: sr r :: st) k n h := by
  obtain ⟨h', hx, hF⟩ := okB_bind hF
  cases r with
  | none => cases hx
  | some a =>
    simp only [oJS] at hx
    split at hx
    · rename_i hc
      cases hx; exact v_last hd hc.1 (inb_in hc.2) (kk _ hF)
    · cases hx
/-! the script -/
theorem cx_X {p : Program} {R : Room} {s : State} {m : MethodId} {args : Array Value} {meth : Method} {c : Code} {mc ms : Nat} (C : cx G M d p R s m args meth c mc ms) : va_X (gxb G) (gxL G) (gxx G) s s.heap ∧ ¬ gA G (gxb G) := (cx_sw C).1.2.2.2.2.2.2
theorem v_sld {i : Int32} (hd : decode M.2.1 pc = .ok (.iaload, 1)) (hin : vp_in i (gxL G)) (kk : gV G M d Q (pc + 1) ls (si (gxx G i.toNatClampNeg) :: st) k n h) : gV G M d Q pc ls (si i :: sr (some (gxb G)) :: st) k n h :=
  fun p e R s m args below meth c H locs cells slots mc ms C hr hs hk hn a hl => va_sld C.1 C.2.1 (cx_X C).1 (va_X_lt (cx_X C).1) (cx_X C).2 hs hin hd (kk p e R s m args below meth c H locs cells slots mc ms C hr hs hk hn a hl)
theorem v_slen (hd : decode M.2.1 pc = .ok (.arraylength, 1)) (kk : gV G M d Q (pc + 1) ls (si (nI (gxL G)) :: st) k n h) : gV G M d Q pc ls (sr (some (gxb G)) :: st) k n h :=
  fun p e R s m args below meth c H locs cells slots mc ms C hr hs hk hn a hl => va_slen C.1 C.2.1 (cx_X C).1 (va_X_lt (cx_X C).1) (cx_X C).2 hs hd (kk p e R s m args below meth c H locs cells slots mc ms C hr hs hk hn a hl)
/-! calls that never throw, of a body whose handlers aren't told -/
theorem y_run {p : Program} {e : Env} {R : Room} {s : State} {m : MethodId} {args : Array Value} {below : List Frame} {meth : Method} {c : Code} {H : Heap} {locs : List Loc} {cells slots mc ms k1 n1 : Nat} {a' : Array Slot} {stk : List Value} {Q1 : hQ} {ar : Array Value} (C : cx G M d p R s m args meth c mc ms) (hs : va_S (gA G) s.heap H locs) (hk : cells + (k1 + k) ≤ mc) (hn : slots + (n1 + n) ≤ ms) (hl : hasL a' M.2.2.1 ls)
    (run : vx_Run p (gl G) e R s m args below meth c H locs cells slots k1 n1 (F0 m pc a' stk) (st.map tv) (QC G Q1 ar) (XC G Q1) (gA G))
    (kk : ∀ (v : Option sv) (h' : hp), Q1 (.inl v) h' → gV G M d Q (pc + 3) ls (v.toList ++ st) k n h') (kx : ∀ (E : String) (h' : hp), ¬ Q1 (.inr E) h') :
    W p (gl G) e R s m args below meth c H locs cells slots (vx_MQ below (QC G Q) (XC G Q) args s mc ms (gA G)) (F0 m pc a' stk) := by
  intro T hT X
  rcases run T hT X with ⟨v, st₀, t, T', L, h0, X', hL, e1, e2, ⟨v', h', hv, hq, hrep, hF⟩, stp⟩ | ⟨q, st₀, t, T', L, E, ce, h0, X', hL, e1, e2, ⟨h', n', hn', hq, hrep, hF⟩, hce, hcv, hcl, stp⟩
  · cases hv
    obtain ⟨k1', k2', k3'⟩ := vx_keep h0 e1 hs (fun q _ hq => hq) (fun q hq => hq) hL hF
    obtain ⟨t2, a1, b1⟩ := kk v' h' hq p e R s m args below meth c T'.heap (locs ++ L) (cells + k1) (slots + n1) mc ms C (by rw [e1]; exact hrep) k3' (by omega) (by omega) a' hl T' rfl X'
    refine ⟨t2, stp t2 ?_, b1⟩
    have : (v'.map tv).toList ++ st.map tv = (v'.toList ++ st).map tv := by cases v' <;> rfl
    show Steps p.tables e below (T'.setTop { method := m, pc := pc + 3, locals := a', stack := (v'.map tv).toList ++ st.map tv, locked := none }) t2
    rw [this]
    exact a1
  · exact absurd hq (kx E h')
theorem y_V {idx np ci b d1 k1 n1 : Nat} {N : gM} {as : List sv} {Q1 : hQ} (hd : decode M.2.1 pc = .ok (.invokevirtual idx, 3)) (hlk : Cond.methodLink M.1.cls idx N.1 ∈ XW) (hcal : cal N np) (hcv : calV N) (hnp : as.length = np) (hci : ci < 11) (hC : N.1.cls = hk_C ci) (hb : (hT h b).1 = ci + 1)
    (hS : gS G N d1 k1 n1 (sr (some b) :: as) h Q1) (hdd : d1 + 1 ≤ d ∧ N.2.2.1 ≤ 21) (hst : st.length ≤ 4)
    (kk : ∀ (v : Option sv) (h' : hp), Q1 (.inl v) h' → gV G M d Q (pc + 3) ls (v.toList ++ st) k n h') (kx : ∀ (E : String) (h' : hp), ¬ Q1 (.inr E) h') : gV G M d Q pc ls (as.reverse ++ sr (some b) :: st) (k1 + k) (n1 + n) h := by
  intro p e R s m args below meth c H locs cells slots mc ms C hr hs hk hn a' hl
  have hRm := cx_R C
  have hrecv : ∃ cellB : Cell, H[b]? = some cellB ∧ cellB.vm.isStatics = false ∧ s.vm.findClass N.1.cls = some cellB.cls := by
    have hat := (hr.2 b (by rw [hb]; exact Nat.succ_ne_zero _)).2
    rw [enc_obj hb hci] at hat
    rw [hC]
    exact va_recv (cx_K C) (one_P hat) (q0 := 0) (cls_at hci) rfl
  have hcat := cat_le st
  refine y_run (k1 := k1) (n1 := n1) C hs hk hn hl (vx_runV (cc := M.2.1) (nL := M.2.2.1) (Ts := []) (own := M.1.cls) (C := N.1.cls) (b := b) (As := as.map tv) (n := np) ⟨C.1, C.2.1, C.2.2.1, cx_own C, fun w hw => nomatch hw⟩ hS ⟨cal_B C hcal hlk hdd, cx_w C _ hcv.1, cx_w C _ hcv.2⟩ ⟨gP_blind, hrecv, gP_at C hr hs⟩ rfl (by rw [List.length_map]; exact hnp) hl.1 (map_stk as b st) (lv_room (by omega)) hd ⟨by omega, by omega⟩) kk kx
theorem y_I {idx np b d1 k1 n1 : Nat} {N : gM} {as : List sv} {Q1 : hQ} (hd : decode M.2.1 pc = .ok (.invokespecial idx, 3)) (hlk : Cond.methodLink M.1.cls idx N.1 ∈ XW) (hcal : cal N np) (hci : Cond.instanceMethod N.1 ∈ XW) (hin : N.1.name = "<init>") (hvoid : N.2.2.2.1 = none) (hnp : as.length = np)
    (hS : gS G N d1 k1 n1 (sr (some b) :: as) h Q1) (hdd : d1 + 1 ≤ d ∧ N.2.2.1 ≤ 21) (hst : st.length ≤ 4)
    (kk : ∀ (v : Option sv) (h' : hp), Q1 (.inl v) h' → gV G M d Q (pc + 3) ls (v.toList ++ st) k n h') (kx : ∀ (E : String) (h' : hp), ¬ Q1 (.inr E) h') : gV G M d Q pc ls (as.reverse ++ sr (some b) :: st) (k1 + k) (n1 + n) h := by
  intro p e R s m args below meth c H locs cells slots mc ms C hr hs hk hn a' hl
  have hRm := cx_R C
  have hcat := cat_le st
  have hB := cal_B (k1 := k1) (n1 := n1) C hcal hlk hdd
  have hS' := hS
  unfold gS at hS'
  rw [hvoid] at hB
  refine y_run (k1 := k1) (n1 := n1) C hs hk hn hl (vx_runI (cc := M.2.1) (nL := M.2.2.1) (Ts := []) (own := M.1.cls) (b := b) (As := as.map tv) (n := np) ⟨C.1, C.2.1, C.2.2.1, cx_own C, fun w hw => nomatch hw⟩ hS' ⟨hB, hin, cx_w C _ hci⟩ ⟨gP_blind, gP_at (as := sr (some b) :: as) C hr hs⟩ rfl (by rw [List.length_map]; exact hnp) hl.1 (map_stk as b st) (lv_room (by omega)) hd ⟨by omega, by omega⟩) kk kx
theorem y_S {idx np d1 k1 n1 : Nat} {N : gM} {as : List sv} {Q1 : hQ} (hd : decode M.2.1 pc = .ok (.invokestatic idx, 3)) (hlk : Cond.methodLink M.1.cls idx N.1 ∈ XW) (hcal : cal N np) (hcs : Cond.static N.1 ∈ XW) (hnp : as.length = np)
    (hS : gS G N d1 k1 n1 as h Q1) (hdd : d1 + 1 ≤ d ∧ N.2.2.1 ≤ 21) (hst : st.length ≤ 4)
    (kk : ∀ (v : Option sv) (h' : hp), Q1 (.inl v) h' → gV G M d Q (pc + 3) ls (v.toList ++ st) k n h') (kx : ∀ (E : String) (h' : hp), ¬ Q1 (.inr E) h') : gV G M d Q pc ls (as.reverse ++ st) (k1 + k) (n1 + n) h := by
  intro p e R s m args below meth c H locs cells slots mc ms C hr hs hk hn a' hl
  have hRm := cx_R C
  have hcat := cat_le st
  exact y_run (k1 := k1) (n1 := n1) C hs hk hn hl (vx_runS (cc := M.2.1) (nL := M.2.2.1) (Ts := []) (own := M.1.cls) (As := as.map tv) (n := np) ⟨C.1, C.2.1, C.2.2.1, cx_own C, fun w hw => nomatch hw⟩ hS ⟨cal_B C hcal hlk hdd, cx_w C _ hcs⟩ ⟨gP_blind, gP_at C hr hs⟩ rfl (by rw [List.length_map]; exact hnp) hl.1 (map_stkS as st) (lv_room (by omega)) hd ⟨by omega, by omega⟩) kk kx
/-! methods that catch: their contract, their body, a call of them, a call in them -/
def gSX (G : gG) (M : gM) (d k n : Nat) (as : List sv) (h : hp) (Q : hQ) : Prop := vx_Met (gl G) M.1 [Cond.codeWith M.1 M.2.1 M.2.2.1 M.2.2.2.1 M.2.2.2.2] (gRm d k n) (gP G as h) (QC G Q) (XC G Q) k n (gA G)
/-- how the handlers take what is thrown -/
def XH (G : gG) (M : gM) (d : Nat) (Q : hQ) (E : String) (pc : Nat) (ls : lc) (k n : Nat) (h : hp) (q : Nat) : Prop :=
  ∃ (pre : List ExceptionTableEntry) (x : ExceptionTableEntry) (suf : List ExceptionTableEntry) (nm : String), tableOf M.2.2.2.2 = pre ++ x :: suf ∧ (∀ z ∈ pre, z.catchType ≠ 0 ∧ ∃ nm' : String, Cond.classLink M.1.cls z.catchType nm' ∈ XW ∧ (E, nm') ∈ nc3) ∧ covers x pc = true ∧ x.catchType ≠ 0 ∧ Cond.classLink M.1.cls x.catchType nm ∈ XW ∧ Cond.castable E nm ∈ XW ∧ gV G M d Q x.handlerPc ls [sr (some q)] k n h
theorem cx_NC {p : Program} {R : Room} {s : State} {m : MethodId} {args : Array Value} {meth : Method} {c : Code} {mc ms : Nat} (C : cx G M d p R s m args meth c mc ms) : NC s := (cx_sw C).1.2.2.2.2.2.1
theorem v_runH {p : Program} {e : Env} {R : Room} {s : State} {m : MethodId} {args : Array Value} {below : List Frame} {meth : Method} {c : Code} {H : Heap} {locs : List Loc} {cells slots mc ms k1 n1 : Nat} {a' : Array Slot} {stk : List Value} {Q1 : hQ} {ar : Array Value} (C : cx G M d p R s m args meth c mc ms) (hs : va_S (gA G) s.heap H locs) (hk : cells + (k1 + k) ≤ mc) (hn : slots + (n1 + n) ≤ ms) (hl : hasL a' M.2.2.1 ls)
    (run : vx_Run p (gl G) e R s m args below meth c H locs cells slots k1 n1 (F0 m pc a' stk) (st.map tv) (QC G Q1 ar) (XC G Q1) (gA G))
    (kk : ∀ (v : Option sv) (h' : hp), Q1 (.inl v) h' → gV G M d Q (pc + 3) ls (v.toList ++ st) k n h') (kx : ∀ (E : String) (h' : hp) (n' q : Nat), Q1 (.inr E) h' → hN h' ≤ n' → XH G M d Q E pc ls k n (wS h' n') q) :
    W p (gl G) e R s m args below meth c H locs cells slots (vx_MQ below (QC G Q) (XC G Q) args s mc ms (gA G)) (F0 m pc a' stk) := by
  intro T hT X
  rcases run T hT X with ⟨v, st₀, t, T', L, h0, X', hL, e1, e2, ⟨v', h', hv, hq, hrep, hF⟩, stp⟩ | ⟨q, st₀, t, T', L, E, ce, h0, X', hL, e1, e2, ⟨h', n', hn', hq, hrep, hFF⟩, hce, hcv, hcl, stp⟩
  · cases hv
    obtain ⟨k1', k2', k3'⟩ := vx_keep h0 e1 hs (fun q _ hq => hq) (fun q hq => hq) hL hF
    obtain ⟨t2, a1, b1⟩ := kk v' h' hq p e R s m args below meth c T'.heap (locs ++ L) (cells + k1) (slots + n1) mc ms C (by rw [e1]; exact hrep) k3' (by omega) (by omega) a' hl T' rfl X'
    refine ⟨t2, stp t2 ?_, b1⟩
    have : (v'.map tv).toList ++ st.map tv = (v'.toList ++ st).map tv := by cases v' <;> rfl
    show Steps p.tables e below (T'.setTop { method := m, pc := pc + 3, locals := a', stack := (v'.map tv).toList ++ st.map tv, locked := none }) t2
    rw [this]
    exact a1
  · obtain ⟨k1', k2', k3'⟩ := vx_keep h0 e1 hs (fun q _ hq => hq) (fun q hq => hq) hL hFF
    obtain ⟨pre, x, suf, nm, y1, y2, y3, y4, y5, y6, y7⟩ := kx E h' n' q hq hn'
    have K := y7 p e R s m args below meth c T'.heap (locs ++ L) (cells + k1) (slots + n1) mc ms C (by rw [e1]; exact hrep) k3' (by omega) (by omega) a' hl
    have hcatch := vx_catch (own := M.1.cls) (name := nm) (E := E) (rest := st.map tv) (pc := pc) (ls := a') (cx_own C) pre x suf (C.2.2.2.2.2.1.trans y1) (fun z hz => Or.inr ⟨(y2 z hz).1, by
      obtain ⟨nm', w1, w2⟩ := (y2 z hz).2
      exact ⟨nm', cx_w C _ w1, cx_NC C _ w2⟩⟩) y3 y4 (cx_w C _ y5) (cx_w C _ y6) (by rw [e1]; exact hce) hcv hcl K
    obtain ⟨t2, a1, b1⟩ := hcatch T' rfl X'
    exact ⟨t2, stp.trans a1, b1⟩
/-- a call of a method of an object, in a method that catches -/
theorem v_invH {idx np ci b d1 k1 n1 : Nat} {N : gM} {as : List sv} {Q1 : hQ} (hd : decode M.2.1 pc = .ok (.invokevirtual idx, 3)) (hlk : Cond.methodLink M.1.cls idx N.1 ∈ XW) (hcal : cal N np) (hcv : calV N) (hnp : as.length = np) (hci : ci < 11) (hC : N.1.cls = hk_C ci) (hb : (hT h b).1 = ci + 1)
    (hS : gS G N d1 k1 n1 (sr (some b) :: as) h Q1) (hdd : d1 + 1 ≤ d ∧ N.2.2.1 ≤ 21) (hst : st.length ≤ 4)
    (kk : ∀ (v : Option sv) (h' : hp), Q1 (.inl v) h' → gV G M d Q (pc + 3) ls (v.toList ++ st) k n h') (kx : ∀ (E : String) (h' : hp) (n' q : Nat), Q1 (.inr E) h' → hN h' ≤ n' → XH G M d Q E pc ls k n (wS h' n') q) : gV G M d Q pc ls (as.reverse ++ sr (some b) :: st) (k1 + k) (n1 + n) h := by
  intro p e R s m args below meth c H locs cells slots mc ms C hr hs hk hn a' hl
  have hRm := cx_R C
  have hrecv : ∃ cellB : Cell, H[b]? = some cellB ∧ cellB.vm.isStatics = false ∧ s.vm.findClass N.1.cls = some cellB.cls := by
    have hat := (hr.2 b (by rw [hb]; exact Nat.succ_ne_zero _)).2
    rw [enc_obj hb hci] at hat
    rw [hC]
    exact va_recv (cx_K C) (one_P hat) (q0 := 0) (cls_at hci) rfl
  have hcat := cat_le st
  refine v_runH (k1 := k1) (n1 := n1) C hs hk hn hl (vx_runV (cc := M.2.1) (nL := M.2.2.1) (Ts := []) (own := M.1.cls) (C := N.1.cls) (b := b) (As := as.map tv) (n := np) ⟨C.1, C.2.1, C.2.2.1, cx_own C, fun w hw => nomatch hw⟩ hS ⟨cal_B C hcal hlk hdd, cx_w C _ hcv.1, cx_w C _ hcv.2⟩ ⟨gP_blind, hrecv, gP_at C hr hs⟩ rfl (by rw [List.length_map]; exact hnp) hl.1 (map_stk as b st) (lv_room (by omega)) hd ⟨by omega, by omega⟩) kk kx
def cal2 (N : gM) (np : Nat) : Prop := Cond.codeWith N.1 N.2.1 N.2.2.1 N.2.2.2.1 N.2.2.2.2 ∈ XW ∧ Cond.initialized N.1.cls ∈ XW ∧ (N.1.cls ≠ "java/lang/invoke/MethodHandle" ∧ N.1.cls ≠ "java/lang/invoke/VarHandle") ∧ (parseMethodDescriptor N.1.desc).map (fun d => d.parameters.length) = some np ∧ Cond.static N.1 ∈ XW
/-- a call of a static method that catches, and never throws -/
theorem y_X {idx np d1 k1 n1 : Nat} {N : gM} {as : List sv} {Q1 : hQ} (hd : decode M.2.1 pc = .ok (.invokestatic idx, 3)) (hlk : Cond.methodLink M.1.cls idx N.1 ∈ XW) (hcal : cal2 N np) (hnp : as.length = np)
    (hS : gSX G N d1 k1 n1 as h Q1) (hdd : d1 + 1 ≤ d ∧ N.2.2.1 ≤ 21) (hst : st.length ≤ 4)
    (kk : ∀ (v : Option sv) (h' : hp), Q1 (.inl v) h' → gV G M d Q (pc + 3) ls (v.toList ++ st) k n h') (kx : ∀ (E : String) (h' : hp), ¬ Q1 (.inr E) h') : gV G M d Q pc ls (as.reverse ++ st) (k1 + k) (n1 + n) h := by
  intro p e R s m args below meth c H locs cells slots mc ms C hr hs hk hn a' hl
  have hRm := cx_R C
  have hcat := cat_le st
  have hcw : ∀ w ∈ [Cond.codeWith N.1 N.2.1 N.2.2.1 N.2.2.2.1 N.2.2.2.2], ∀ (a' : Array Value) (U : State), s.WarmedH U.vm → w.before a' U = true := by
    intro w hw a' U hW
    have : w = Cond.codeWith N.1 N.2.1 N.2.2.1 N.2.2.2.1 N.2.2.2.2 := by simpa using hw
    subst this
    exact word_at hW (Or.inl rfl) (cx_w C _ hcal.1)
  exact y_run (k1 := k1) (n1 := n1) C hs hk hn hl (vx_runSX (cc := M.2.1) (nL := M.2.2.1) (Ts := []) (own := M.1.cls) (As := as.map tv) (n := np) (bytes := N.2.1) (maxL := N.2.2.1) (ret := N.2.2.2.1) (hh := N.2.2.2.2) ⟨C.1, C.2.1, C.2.2.1, cx_own C, fun w hw => nomatch hw⟩ hS
    ⟨⟨rfl, rfl, (by show d1 + 1 ≤ R.frames; omega), (by show 8 + (N.2.2.1 + 11) + 40 * d1 ≤ R.locals; omega), hcw, by simp⟩, cx_w C _ hcal.1, cx_w C _ hcal.2.1, hcal.2.2.1, (fun sig hsg => by
      have h4 := hcal.2.2.2.1
      rw [hsg] at h4
      exact (Option.some.inj h4).symm), cx_w C _ hlk, cx_w C _ hcal.2.2.2.2⟩ ⟨gP_blind, gP_at C hr hs⟩ rfl (by rw [List.length_map]; exact hnp) hl.1 (map_stkS as st) (lv_room (by omega)) hd ⟨by omega, by omega⟩) kk kx
/-- a method that catches, out of its body -/
theorem gSX_at {k1 n1 : Nat} {as : List sv} (ls0 : lc) (hy : plainName M.1.cls = true) (hlen : slen as ≤ M.2.2.1) (hls : largs 0 as ++ List.replicate (M.2.2.1 - slen as) none = ls0) (body : gV G M d Q 0 ls0 [] k1 n1 h) : gSX G M d k1 n1 as h Q := by
  refine vx_ofWH (cc := M.2.1) (maxL := M.2.2.1) (ret := M.2.2.2.1) (hh := M.2.2.2.2) (ws' := []) hy rfl ?_
  intro p e s m args below meth c s₁ B hml hv
  obtain ⟨rfl, hrep, hsw, hgb⟩ := hv
  have hlen' : (lg_sl (as.map tv)).length ≤ M.2.2.1 := by rw [sl_len]; exact hlen
  have hl := lv_entry (as.map tv) hlen'
  rw [lg_entry_eq]
  have hls9 : ∀ (i : Nat) (v : sv), ls0[i]? = some (some v) → (i, tv v) ∈ lv_args 0 (as.map tv) := fun i v hi => by
    rw [← hls] at hi
    have hlt : i < (largs 0 as).length := by
      rcases Nat.lt_or_ge i (largs 0 as).length with q | q
      · exact q
      · rw [List.getElem?_append_right q] at hi
        have := List.eq_of_mem_replicate (List.mem_of_getElem? hi)
        cases this
    rw [List.getElem?_append_left hlt] at hi
    have := largs_mem as 0 i v hi
    rw [Nat.zero_add] at this
    exact this
  exact body p e _ s m _ below meth c s.heap [] 0 0 k1 n1 ⟨B.exec, B.bytes, hml, B.returns, B.notSynchronized, vx_table (x := M.1) B (atoms_spec B.pre _ List.mem_cons_self), findClass_of_methodNamed B.named, (name_of_methodNamed B.named B.method).1, hsw, hgb, Nat.le_refl _, Nat.le_refl _, Nat.le_refl _, Nat.le_refl _⟩ hrep va_S.rf (by omega) (by omega) _ (hasL_of hl hls9)
/-! the same, by the functions of the methods that are called -/
theorem yp_V {ρ : Type} (g : ρ → Option sv) {idx np ci d1 k1 n1 : Nat} {N : gM} {as : List sv} {r : Option Nat} {F : Nat → Option ρ} {K : ρ → Prop} (hd : decode M.2.1 pc = .ok (.invokevirtual idx, 3)) (hlk : Cond.methodLink M.1.cls idx N.1 ∈ XW) (hcal : cal N np) (hcv : calV N) (hnp : as.length = np) (hci : ci < 11) (hC : N.1.cls = hk_C ci)
    (hS : ∀ (b : Nat) (Q1 : hQ), okB (F b) (pP g Q1 h) → gS G N d1 k1 n1 (sr (some b) :: as) h Q1) (hdd : d1 + 1 ≤ d ∧ N.2.2.1 ≤ 21) (hst : st.length ≤ 4) (hF : wP ((oOb ci r h).bind F) K) (kk : ∀ x : ρ, K x → gV G M d Q (pc + 3) ls ((g x).toList ++ st) k n h) : gV G M d Q pc ls (as.reverse ++ sr r :: st) (k + k1) (n + n1) h := by
  rw [Nat.add_comm k k1, Nat.add_comm n n1]
  obtain ⟨b, hb, x, hx, hK⟩ := okB_bind hF
  obtain ⟨hr, hc⟩ := oOb_of hb
  rw [hr]
  refine y_V hd hlk hcal hcv hnp hci hC hc (Q1 := fun o h' => o = .inl (g x) ∧ h' = h) (hS b _ ⟨x, hx, rfl, rfl⟩) hdd hst (fun v h' hv => ?_) (fun E h' hv => by cases hv.1)
  obtain ⟨h1, rfl⟩ := hv
  cases h1
  exact kk x hK
theorem yc_V {ρ : Type} (g : ρ → Option sv) {idx np ci d1 k1 n1 : Nat} {N : gM} {as : List sv} {r : Option Nat} {F : Nat → Option (ρ ⊕ String)} {K : ρ → Prop} (hd : decode M.2.1 pc = .ok (.invokevirtual idx, 3)) (hlk : Cond.methodLink M.1.cls idx N.1 ∈ XW) (hcal : cal N np) (hcv : calV N) (hnp : as.length = np) (hci : ci < 11) (hC : N.1.cls = hk_C ci)
    (hS : ∀ (b : Nat) (Q1 : hQ), okB (F b) (pC g Q1 h) → gS G N d1 k1 n1 (sr (some b) :: as) h Q1) (hdd : d1 + 1 ≤ d ∧ N.2.2.1 ≤ 21) (hst : st.length ≤ 4) (hF : wC ((oOb ci r h).bind F) K) (kk : ∀ x : ρ, K x → gV G M d Q (pc + 3) ls ((g x).toList ++ st) k n h) : gV G M d Q pc ls (as.reverse ++ sr r :: st) (k + k1) (n + n1) h := by
  rw [Nat.add_comm k k1, Nat.add_comm n n1]
  obtain ⟨b, hb, x, hx, hK⟩ := okB_bind hF
  obtain ⟨hr, hc⟩ := oOb_of hb
  rw [hr]
  cases x with
  | inr E => exact hK.elim
  | inl x =>
    refine y_V hd hlk hcal hcv hnp hci hC hc (Q1 := fun o h' => o = .inl (g x) ∧ h' = h) (hS b _ ⟨.inl x, hx, rfl, rfl⟩) hdd hst (fun v h' hv => ?_) (fun E h' hv => by cases hv.1)
    obtain ⟨h1, rfl⟩ := hv
    cases h1
    exact kk x hK
theorem yx_V {ρ : Type} (g : ρ → Option sv) {idx np ci d1 k1 n1 : Nat} {N : gM} {as : List sv} {r : Option Nat} {F : Nat → Option ((ρ ⊕ String) × hp)} {K : ρ → hp → Prop} (hd : decode M.2.1 pc = .ok (.invokevirtual idx, 3)) (hlk : Cond.methodLink M.1.cls idx N.1 ∈ XW) (hcal : cal N np) (hcv : calV N) (hnp : as.length = np) (hci : ci < 11) (hC : N.1.cls = hk_C ci)
    (hS : ∀ (b : Nat) (Q1 : hQ), okB (F b) (pX g Q1) → gS G N d1 k1 n1 (sr (some b) :: as) h Q1) (hdd : d1 + 1 ≤ d ∧ N.2.2.1 ≤ 21) (hst : st.length ≤ 4) (hF : wX ((oOb ci r h).bind F) K) (kk : ∀ (x : ρ) (h' : hp), K x h' → gV G M d Q (pc + 3) ls ((g x).toList ++ st) k n h') : gV G M d Q pc ls (as.reverse ++ sr r :: st) (k + k1) (n + n1) h := by
  rw [Nat.add_comm k k1, Nat.add_comm n n1]
  obtain ⟨b, hb, ⟨x, h1⟩, hx, hK⟩ := okB_bind hF
  obtain ⟨hr, hc⟩ := oOb_of hb
  rw [hr]
  cases x with
  | inr E => exact hK.elim
  | inl x =>
    refine y_V hd hlk hcal hcv hnp hci hC hc (Q1 := fun o h' => o = .inl (g x) ∧ h' = h1) (hS b _ ⟨(.inl x, h1), hx, rfl, rfl⟩) hdd hst (fun v h' hv => ?_) (fun E h' hv => by cases hv.1)
    obtain ⟨h1, rfl⟩ := hv
    cases h1
    exact kk x _ hK
theorem yp_S {ρ : Type} (g : ρ → Option sv) {idx np d1 k1 n1 : Nat} {N : gM} {as : List sv} {F : Option ρ} {K : ρ → Prop} (hd : decode M.2.1 pc = .ok (.invokestatic idx, 3)) (hlk : Cond.methodLink M.1.cls idx N.1 ∈ XW) (hcal : cal N np) (hcs : Cond.static N.1 ∈ XW) (hnp : as.length = np)
    (hS : ∀ (Q1 : hQ), okB F (pP g Q1 h) → gS G N d1 k1 n1 as h Q1) (hdd : d1 + 1 ≤ d ∧ N.2.2.1 ≤ 21) (hst : st.length ≤ 4) (hF : wP F K) (kk : ∀ x : ρ, K x → gV G M d Q (pc + 3) ls ((g x).toList ++ st) k n h) : gV G M d Q pc ls (as.reverse ++ st) (k + k1) (n + n1) h := by
  rw [Nat.add_comm k k1, Nat.add_comm n n1]
  obtain ⟨x, hx, hK⟩ := hF
  refine y_S hd hlk hcal hcs hnp (Q1 := fun o h' => o = .inl (g x) ∧ h' = h) (hS _ ⟨x, hx, rfl, rfl⟩) hdd hst (fun v h' hv => ?_) (fun E h' hv => by cases hv.1)
  obtain ⟨h1, rfl⟩ := hv
  cases h1
  exact kk x hK
theorem yh_S {ρ : Type} (g : ρ → Option sv) {idx np d1 k1 n1 : Nat} {N : gM} {as : List sv} {F : Option (ρ × hp)} {K : ρ → hp → Prop} (hd : decode M.2.1 pc = .ok (.invokestatic idx, 3)) (hlk : Cond.methodLink M.1.cls idx N.1 ∈ XW) (hcal : cal N np) (hcs : Cond.static N.1 ∈ XW) (hnp : as.length = np)
    (hS : ∀ (Q1 : hQ), okB F (pH g Q1) → gS G N d1 k1 n1 as h Q1) (hdd : d1 + 1 ≤ d ∧ N.2.2.1 ≤ 21) (hst : st.length ≤ 4) (hF : wH F K) (kk : ∀ (x : ρ) (h' : hp), K x h' → gV G M d Q (pc + 3) ls ((g x).toList ++ st) k n h') : gV G M d Q pc ls (as.reverse ++ st) (k + k1) (n + n1) h := by
  rw [Nat.add_comm k k1, Nat.add_comm n n1]
  obtain ⟨⟨x, h1⟩, hx, hK⟩ := hF
  refine y_S hd hlk hcal hcs hnp (Q1 := fun o h' => o = .inl (g x) ∧ h' = h1) (hS _ ⟨(x, h1), hx, rfl, rfl⟩) hdd hst (fun v h' hv => ?_) (fun E h' hv => by cases hv.1)
  obtain ⟨h1, rfl⟩ := hv
  cases h1
  exact kk x _ hK
theorem yh_I {idx np d1 k1 n1 b : Nat} {N : gM} {as : List sv} {F : Option (Unit × hp)} {K : Unit → hp → Prop} (hd : decode M.2.1 pc = .ok (.invokespecial idx, 3)) (hlk : Cond.methodLink M.1.cls idx N.1 ∈ XW) (hcal : cal N np) (hci : Cond.instanceMethod N.1 ∈ XW) (hin : N.1.name = "<init>") (hvoid : N.2.2.2.1 = none) (hnp : as.length = np)
    (hS : ∀ (Q1 : hQ), okB F (pH gU Q1) → gS G N d1 k1 n1 (sr (some b) :: as) h Q1) (hdd : d1 + 1 ≤ d ∧ N.2.2.1 ≤ 21) (hst : st.length ≤ 4) (hF : wH F K) (kk : ∀ (x : Unit) (h' : hp), K x h' → gV G M d Q (pc + 3) ls st k n h') : gV G M d Q pc ls (as.reverse ++ sr (some b) :: st) (k + k1) (n + n1) h := by
  rw [Nat.add_comm k k1, Nat.add_comm n n1]
  obtain ⟨⟨x, h1⟩, hx, hK⟩ := hF
  refine y_I hd hlk hcal hci hin hvoid hnp (Q1 := fun o h' => o = .inl none ∧ h' = h1) (hS _ ⟨(x, h1), hx, rfl, rfl⟩) hdd hst (fun v h' hv => ?_) (fun E h' hv => by cases hv.1)
  obtain ⟨h1, rfl⟩ := hv
  cases h1
  exact kk x _ hK
/-- a call of a method that is told by how it may go on -/
theorem yw_S {ρ : Type} (g : ρ → Option sv) (K : ρ → hp → Prop) {Q1 : hQ} {idx np d1 k1 n1 : Nat} {N : gM} {as : List sv} (hd : decode M.2.1 pc = .ok (.invokestatic idx, 3)) (hlk : Cond.methodLink M.1.cls idx N.1 ∈ XW) (hcal : cal N np) (hcs : Cond.static N.1 ∈ XW) (hnp : as.length = np) (hQ : Q1 = fun o h' => ∃ x, o = .inl (g x) ∧ K x h')
    (hS : gS G N d1 k1 n1 as h Q1) (hdd : d1 + 1 ≤ d ∧ N.2.2.1 ≤ 21) (hst : st.length ≤ 4) (kk : ∀ (x : ρ) (h' : hp), K x h' → gV G M d Q (pc + 3) ls ((g x).toList ++ st) k n h') : gV G M d Q pc ls (as.reverse ++ st) (k + k1) (n + n1) h := by
  rw [Nat.add_comm k k1, Nat.add_comm n n1]
  subst hQ
  refine y_S hd hlk hcal hcs hnp hS hdd hst (fun v h' hv => ?_) (fun E h' hv => by obtain ⟨x, h1, -⟩ := hv; cases h1)
  obtain ⟨x, h1, hK⟩ := hv
  cases h1
  exact kk x _ hK
/-- a call of the law's method that catches -/
theorem ye_S {idx np d1 k1 n1 : Nat} {N : gM} {as : List sv} {F : Option ((Int32 ⊕ String) × hp)} {K : Int32 → hp → Prop} (hd : decode M.2.1 pc = .ok (.invokestatic idx, 3)) (hlk : Cond.methodLink M.1.cls idx N.1 ∈ XW) (hcal : cal2 N np) (hnp : as.length = np)
    (hS : ∀ (Q1 : hQ), wE F (fun x h' => Q1 (.inl (some (si x))) h') → gSX G N d1 k1 n1 as h Q1) (hdd : d1 + 1 ≤ d ∧ N.2.2.1 ≤ 21) (hst : st.length ≤ 4) (hF : wE F K) (kk : ∀ (x : Int32) (h' : hp), K x h' → gV G M d Q (pc + 3) ls (si x :: st) k n h') : gV G M d Q pc ls (as.reverse ++ st) (k + k1) (n + n1) h := by
  rw [Nat.add_comm k k1, Nat.add_comm n n1]
  refine y_X hd hlk hcal hnp (Q1 := fun o h' => ∃ x, o = .inl (some (si x)) ∧ K x h') (hS _ ?_) hdd hst (fun v h' hv => ?_) (fun E h' hv => by obtain ⟨x, h1, -⟩ := hv; cases h1)
  · obtain ⟨⟨x, h1⟩, hx, hK⟩ := hF
    refine ⟨(x, h1), hx, ?_⟩
    cases x with
    | inl x => exact ⟨x, rfl, hK⟩
    | inr E => exact ⟨hK.1, fun n hn => ⟨_, rfl, hK.2 n hn⟩⟩
  · obtain ⟨x, h1, hK⟩ := hv
    cases h1
    exact kk x _ hK
end VNL

/-! ===== rows that make, call, return, throw ===== -/
theorem rep_new {G : gG} {h : hp} {H H' : Heap} {t : Nat × Nat} (hr : Rep G h H) (hz : H'.size = H.size + 1) (ho : ∀ q : Nat, q < H.size → H'[q]? = H[q]?) (hb : gb G ≤ H.size) (hnew : va_at (gD G) hk_cls (H.size, enc (gc G) (wN h t) H.size) H') : Rep G (wN h t) H' := by
  refine ⟨by rw [hz, hr.1]; rfl, fun b hbt => ?_⟩
  have hs := hr.1
  by_cases hq : b = H.size
  · subst hq
    exact ⟨hb, hnew⟩
  · have hne : b ≠ h.1 := fun e => hq (by rw [hs]; exact e)
    have e1 : hT (wN h t) b = hT h b := if_neg hne
    rw [e1] at hbt
    have e2 : enc (gc G) (wN h t) b = enc (gc G) h b := enc_eq e1 (by funext j; exact if_neg hne) (by funext j; exact if_neg hne) (by funext j; exact if_neg hne)
    rw [e2]
    exact ⟨(hr.2 b hbt).1, (hr.2 b hbt).2.kept (ho b (hr.2 b hbt).2.lt)⟩
theorem rep_later {G : gG} {h : hp} {H H' : Heap} (hr : Rep G h H) (ho : ∀ q : Nat, q < H.size → H'[q]? = H[q]?) : Rep G (wS h H'.size) H' :=
  ⟨rfl, fun b hb => ⟨(hr.2 b hb).1, (hr.2 b hb).2.kept (ho b (hr.2 b hb).2.lt)⟩⟩
theorem dflt_ty : ∀ ci, ci < 11 → ∀ k, k < hk_N ci → defaultValue (hk_ty ci k) = if hk_rf ci k = true then .null else .int 0 := by decide +kernel
theorem flds_new {h : hp} {ci t2 : Nat} {j : Nat} (hci : ci < 11) (hj : j < hk_N ci) : defaultValue (hk_ty ci j) = vp_V (flds (wN h (ci + 1, t2)) ci (hN h)) j := by
  unfold vp_V
  rw [List.getD_eq_getElem?_getD, flds_get _ _ _ hj, dflt_ty ci hci j hj]
  have e1 : hR (wN h (ci + 1, t2)) (hN h) j = none := if_pos rfl
  have e2 : hI (wN h (ci + 1, t2)) (hN h) j = 0 := if_pos rfl
  rw [e1, e2]
  cases hk_rf ci j <;> rfl
section VC
variable {G : gG} {M : gM} {d : Nat} {Q : hQ} {pc : Nat} {ls : lc} {st : List sv} {k n : Nat} {h : hp}
theorem cx_sw {p : Program} {R : Room} {s : State} {m : MethodId} {args : Array Value} {meth : Method} {c : Code} {mc ms : Nat} (C : cx G M d p R s m args meth c mc ms) : SW G s s.heap := C.2.2.2.2.2.2.2.2.1
theorem cx_gb {p : Program} {R : Room} {s : State} {m : MethodId} {args : Array Value} {meth : Method} {c : Code} {mc ms : Nat} (C : cx G M d p R s m args meth c mc ms) : gb G ≤ s.heap.size := C.2.2.2.2.2.2.2.2.2.1
theorem cx_R {p : Program} {R : Room} {s : State} {m : MethodId} {args : Array Value} {meth : Method} {c : Code} {mc ms : Nat} (C : cx G M d p R s m args meth c mc ms) : d ≤ R.frames ∧ 40 * d ≤ R.locals ∧ mc ≤ R.cells ∧ ms ≤ R.slots := C.2.2.2.2.2.2.2.2.2.2
theorem S_push {A : Nat → Prop} {H0 H H1 : Heap} {locs : List Loc} (hS : va_S A H0 H locs) (z : H1.size = H.size + 1) (o : ∀ q : Nat, q < H.size → H1[q]? = H[q]?) : va_S A H0 H1 locs :=
  ⟨Nat.le_trans hS.1 (by omega), fun x h1 h2 => (o x (Nat.lt_of_lt_of_le h1 hS.1)).trans (hS.2.1 x h1 h2), hS.2.2⟩
theorem v_new {idx ci : Nat} (hd : decode M.2.1 pc = .ok (.new idx, 3)) (hci : ci < 11) (hlk : Cond.classLink M.1.cls idx (hk_C ci) ∈ XW) (hins : Cond.instantiable (hk_C ci) (hk_N ci) ∈ XW) (hini : Cond.initialized (hk_C ci) ∈ XW)
    (kk : gV G M d Q (pc + 3) ls (sr (some (hN h)) :: st) k n (wN h (ci + 1, 0))) : gV G M d Q pc ls st (k + 1) (n + hk_N ci) h := by
  intro p e R s m args below meth c H locs cells slots mc ms C hr hs hk hn a' hl
  have hc := cls_at hci
  have hKn := (cx_K C).1 ci _ hc
  have hsz := hr.1
  have hRm := cx_R C
  refine W.newcK C.1 C.2.1 (cx_own C) (cx_w C _ hlk) (cx_w C _ hins) (cx_w C _ hini) rfl hd (by omega) (by omega) hKn.2.1 rfl fun H1 kC hkC e1 z1 o1 => ?_
  have K := kk p e R s m args below meth c H1 locs (cells + 1) (slots + hk_N ci) mc ms C (rep_new hr z1 o1 (Nat.le_trans (cx_gb C) hs.1) ?_) (S_push hs z1 o1) (by omega) (by omega) a' hl
  · rw [← hsz] at K; exact K
  · have ht : (hT (wN h (ci + 1, 0)) H.size).1 = ci + 1 := by
      have : hT (wN h (ci + 1, 0)) H.size = (ci + 1, 0) := if_pos (by rw [hsz]; rfl)
      rw [this]
    rw [enc_obj ht hci]
    refine ⟨_, hc, (u_born (hk_ty ci) (cx_w C) (cls_w hci) hKn hkC e1 (cls_ty hci)).to fun j hj => ?_⟩
    rw [hsz]
    exact flds_new hci hj
theorem newa_ty {p : Program} {R : Room} {s : State} {m : MethodId} {args : Array Value} {meth : Method} {c : Code} {mc ms : Nat} (C : cx G M d p R s m args meth c mc ms) {t kd : Nat} {ty : FieldType} {cA : ClassId} (ht : (tysG G)[t]? = some (gc G kd, ty)) (hp : ty = .int ∨ ty = .long) (h1 : s.vm.findClass ("[" ++ ty.toString) = some cA) : cA = gc G kd := by
  have h2 := ((cx_K C).2 t _ ht).2
  rcases hp with rfl | rfl <;> exact Option.some.inj (h1.symm.trans h2)
theorem v_newI {x : Int32} {len : Nat} (hd : decode M.2.1 pc = .ok (.newarray .int, 2)) (hx : x = nI len) (hb : len < 4096) (kk : gV G M d Q (pc + 2) ls (sr (some (hN h)) :: st) k n (wN h (20, len))) : gV G M d Q pc ls (si x :: st) (k + 1) (n + len) h := by
  intro p e R s m args below meth c H locs cells slots mc ms C hr hs hk hn a' hl
  subst hx
  have hsz := hr.1
  have hRm := cx_R C
  refine va_newaK (atype := .int) C.1 C.2.1 ((cx_sw C).1.2.2.1 .int args (Or.inl rfl)) rfl hd rfl (nI_pos (by omega)) (nI_clamp (by omega)) (show len * 4 ≤ 536870912 by omega) (by omega) (by omega) rfl fun H1 cA e1 z1 o1 _ hNm => ?_
  have hcA : cA = gc G 20 := newa_ty C (t := 0) rfl (Or.inl rfl) hNm
  subst hcA
  have K := kk p e R s m args below meth c H1 locs (cells + 1) (slots + len) mc ms C (rep_new hr z1 o1 (Nat.le_trans (cx_gb C) hs.1) ?_) (S_push hs z1 o1) (by omega) (by omega) a' hl
  · rw [← hsz] at K; exact K
  · have ht : hT (wN h (20, len)) H.size = (20, len) := if_pos (by rw [hsz]; rfl)
    rw [enc_20 (by rw [ht]), ht]
    show H1[H.size]? = some (vp_cell _ _)
    rw [e1, vp_cell_i]
    congr 2
    funext j
    have : hI (wN h (20, len)) H.size j = 0 := if_pos (by rw [hsz]; rfl)
    rw [this]
    rfl
theorem v_newJ {x : Int32} {len : Nat} (hd : decode M.2.1 pc = .ok (.newarray .long, 2)) (hx : x = nI len) (hb : len < 4096) (kk : gV G M d Q (pc + 2) ls (sr (some (hN h)) :: st) k n (wN h (24, len))) : gV G M d Q pc ls (si x :: st) (k + 1) (n + len) h := by
  intro p e R s m args below meth c H locs cells slots mc ms C hr hs hk hn a' hl
  subst hx
  have hsz := hr.1
  have hRm := cx_R C
  refine va_newaK (atype := .long) C.1 C.2.1 ((cx_sw C).1.2.2.1 .long args (Or.inr rfl)) rfl hd rfl (nI_pos (by omega)) (nI_clamp (by omega)) (show len * 8 ≤ 536870912 by omega) (by omega) (by omega) rfl fun H1 cA e1 z1 o1 _ hNm => ?_
  have hcA : cA = gc G 24 := newa_ty C (t := 4) rfl (Or.inr rfl) hNm
  subst hcA
  have K := kk p e R s m args below meth c H1 locs (cells + 1) (slots + len) mc ms C (rep_new hr z1 o1 (Nat.le_trans (cx_gb C) hs.1) ?_) (S_push hs z1 o1) (by omega) (by omega) a' hl
  · rw [← hsz] at K; exact K
  · have ht : hT (wN h (24, len)) H.size = (24, len) := if_pos (by rw [hsz]; rfl)
    rw [enc_24 (by rw [ht]), ht]
    show H1[H.size]? = some (vp_cell _ _)
    rw [e1, vp_cell_l]
    congr 2
    funext j
    have : hJ (wN h (24, len)) H.size j = 0 := if_pos (by rw [hsz]; rfl)
    rw [this]
    rfl
theorem v_newA {idx kd ci t len : Nat} {x : Int32} (hd : decode M.2.1 pc = .ok (.anewarray idx, 3)) (hk0 : (kd = 22 ∧ ci = 1 ∧ t = 2) ∨ (kd = 23 ∧ ci = 0 ∧ t = 3)) (hlk : Cond.classLink M.1.cls idx (hk_C ci) ∈ XW) (hx : x = nI len) (hb : len < 4096)
    (kk : gV G M d Q (pc + 3) ls (sr (some (hN h)) :: st) k n (wN h (kd, len))) : gV G M d Q pc ls (si x :: st) (k + 1) (n + len) h := by
  intro p e R s m args below meth c H locs cells slots mc ms C hr hs hk hn a' hl
  subst hx
  have hsz := hr.1
  have hRm := cx_R C
  have hover : va_AO (hk_C ci) s := by
    rcases hk0 with ⟨-, rfl, -⟩ | ⟨-, rfl, -⟩
    · exact (cx_sw C).1.2.2.2.2.1
    · exact (cx_sw C).1.2.2.2.1
  have hty : (tysG G)[t]? = some (gc G kd, .object (hk_C ci)) := by
    rcases hk0 with ⟨rfl, rfl, rfl⟩ | ⟨rfl, rfl, rfl⟩ <;> rfl
  refine W.anew C.1 C.2.1 (cx_own C) (cx_w C _ hlk) (va_AO.use hover) rfl hd rfl (nI_pos (by omega)) (by rw [nI_clamp (by omega)]; omega) (by omega) (by rw [nI_clamp (by omega)]; omega) fun cA kA comp f1 f2 f3 f4 => ?_
  rw [nI_clamp (by omega)]
  generalize hH1 : H.push ({ cls := cA, slots := Array.replicate len .null, vm := .none } : Cell) = H1
  have z1 : H1.size = H.size + 1 := by rw [← hH1, Array.size_push]
  have e1 : H1[H.size]? = some (arrV cA len (fun _ => .null)) := by rw [← hH1, Array.getElem?_push_size, ← arrV_new]
  have o1 : ∀ q : Nat, q < H.size → H1[q]? = H[q]? := fun q hq => by rw [← hH1, Array.getElem?_push, if_neg (Nat.ne_of_lt hq)]
  have hcA : cA = gc G kd := by
    obtain ⟨kA9, comp9, g1, g2, g3, g4⟩ := ((cx_K C).2 t _ hty).2
    exact Option.some.inj (f1.symm.trans g4)
  subst hcA
  have K := kk p e R s m args below meth c H1 locs (cells + 1) (slots + len) mc ms C (rep_new hr z1 o1 (Nat.le_trans (cx_gb C) hs.1) ?_) (S_push hs z1 o1) (by omega) (by omega) a' hl
  · rw [← hsz] at K; exact K
  · have ht : hT (wN h (kd, len)) H.size = (kd, len) := if_pos (by rw [hsz]; rfl)
    have hn0 : ∀ j, hR (wN h (kd, len)) H.size j = none := fun j => if_pos (by rw [hsz]; rfl)
    rcases hk0 with ⟨rfl, -, -⟩ | ⟨rfl, -, -⟩
    · rw [enc_22 (by rw [ht]), ht]
      show H1[H.size]? = some (vp_cell _ _)
      rw [e1, vp_cell_q]
      congr 2
      funext j
      rw [hn0]
      rfl
    · rw [enc_23 (by rw [ht]), ht]
      show H1[H.size]? = some (vp_cell _ _)
      rw [e1, vp_cell_q]
      congr 2
      funext j
      rw [hn0]
      rfl
/-! returns -/
theorem fin_Q {p : Program} {R : Room} {s : State} {m : MethodId} {args : Array Value} {meth : Method} {c : Code} {mc ms : Nat} {H : Heap} {locs : List Loc} {v : Option sv} (hr : Rep G h H) (hs : va_S (gA G) s.heap H locs) (hq : Q (.inl v) h) : ∀ t : State, t.heap = H → s.WarmedH t.vm → QC G Q args s (.returned (v.map tv)) t :=
  fun t ht _ => ⟨v, h, rfl, hq, by rw [ht]; exact hr, hs.F ht⟩
theorem v_iret {x : Int32} {ty : FieldType} (hd : decode M.2.1 pc = .ok (.ireturn, 1)) (hret : M.2.2.2.1 = some ty) (hnar : narrow ty (.int x) = .int x) (hq : Q (.inl (some (si x))) h) : gV G M d Q pc ls [si x] k n h := by
  intro p e R s m args below meth c H locs cells slots mc ms C hr hs hk hn a' hl
  refine W.widen (k := mc) (n := ms) (by omega) (by omega) (vx_ret ?_)
  exact W.zret C.1 C.2.1 (C.2.2.2.1.trans hret) hnar (fin_Q (p := p) (R := R) (m := m) (meth := meth) (c := c) (mc := mc) (ms := ms) hr hs hq) hs.2.2 hd C.2.2.2.2.1
theorem v_lret {x : Int64} (hd : decode M.2.1 pc = .ok (.lreturn, 1)) (hret : M.2.2.2.1 = some .long) (hq : Q (.inl (some (sl x))) h) : gV G M d Q pc ls [sl x] k n h := by
  intro p e R s m args below meth c H locs cells slots mc ms C hr hs hk hn a' hl
  refine W.widen (k := mc) (n := ms) (by omega) (by omega) (vx_ret ?_)
  exact W.lret C.1 C.2.1 (C.2.2.2.1.trans hret) (fin_Q (p := p) (R := R) (m := m) (meth := meth) (c := c) (mc := mc) (ms := ms) hr hs hq) hs.2.2 hd C.2.2.2.2.1
theorem v_ret (hd : decode M.2.1 pc = .ok (.return_, 1)) (hret : M.2.2.2.1 = none) (hq : Q (.inl none) h) : gV G M d Q pc ls [] k n h := by
  intro p e R s m args below meth c H locs cells slots mc ms C hr hs hk hn a' hl
  refine W.widen (k := mc) (n := ms) (by omega) (by omega) (vx_ret ?_)
  exact W.vret C.1 C.2.1 (C.2.2.2.1.trans hret) (fin_Q (p := p) (R := R) (m := m) (meth := meth) (c := c) (mc := mc) (ms := ms) hr hs hq) hs.2.2 hd C.2.2.2.2.1
theorem v_aret {r : Option Nat} {rt : FieldType} (hd : decode M.2.1 pc = .ok (.areturn, 1)) (hret : M.2.2.2.1 = some rt) (hrt : (∃ n, rt = .object n) ∨ ∃ t, rt = .array t) (hq : Q (.inl (some (sr r))) h) : gV G M d Q pc ls [sr r] k n h := by
  intro p e R s m args below meth c H locs cells slots mc ms C hr hs hk hn a' hl
  refine W.widen (k := mc) (n := ms) (by omega) (by omega) (vx_ret ?_)
  exact W.aret (v := va_rf r) C.1 C.2.1 (C.2.2.2.1.trans hret) hrt (by cases r <;> simp [va_rf]) (fin_Q (p := p) (R := R) (m := m) (meth := meth) (c := c) (mc := mc) (ms := ms) hr hs hq) hs.2.2 hd C.2.2.2.2.1
/-! calls -/
def cal (N : gM) (np : Nat) : Prop := Cond.code N.1 N.2.1 N.2.2.1 N.2.2.2.1 ∈ XW ∧ Cond.initialized N.1.cls ∈ XW ∧ (N.1.cls ≠ "java/lang/invoke/MethodHandle" ∧ N.1.cls ≠ "java/lang/invoke/VarHandle") ∧ (parseMethodDescriptor N.1.desc).map (fun d => d.parameters.length) = some np
def calV (N : gM) : Prop := Cond.instanceMethod N.1 ∈ XW ∧ Cond.selects N.1.cls N.1 N.1 ∈ XW
theorem gW_ok {N : gM} {s : State} {args : Array Value} (hc : (Cond.code N.1 N.2.1 N.2.2.1 N.2.2.2.1).before args s = true) : ∀ w ∈ gW N, ∀ (a' : Array Value) (U : State), s.WarmedH U.vm → w.before a' U = true := by
  intro w hw a' U hW
  have : w = Cond.code N.1 N.2.1 N.2.2.1 N.2.2.2.1 := by simpa [gW] using hw
  subst this
  exact word_at hW (Or.inl rfl) hc
theorem cal_B {p : Program} {R : Room} {s : State} {m : MethodId} {args : Array Value} {meth : Method} {c : Code} {mc ms : Nat} (C : cx G M d p R s m args meth c mc ms) {N : gM} {idx np d1 k1 n1 : Nat} (hcal : cal N np) (hlk : Cond.methodLink M.1.cls idx N.1 ∈ XW) (hdd : d1 + 1 ≤ d ∧ N.2.2.1 ≤ 21) :
    CallB R s args M.1.cls idx N.1 N.2.1 N.2.2.1 N.2.2.2.1 (gW N) (gRm d1 k1 n1) k1 n1 np := by
  obtain ⟨h1, h2, h3, h4⟩ := hcal
  have hRm := cx_R C
  refine ⟨rfl, rfl, (by show d1 + 1 ≤ R.frames; omega), (by show 8 + (N.2.2.1 + 11) + 40 * d1 ≤ R.locals; omega), gW_ok (cx_w C _ h1), by simp [gW], cx_w C _ h1, cx_w C _ h2, h3, fun sig hs => ?_, cx_w C _ hlk⟩
  rw [hs] at h4
  exact (Option.some.inj h4).symm
theorem gP_blind {as : List sv} : FrameBlind (gP G as h) := fun a U g mk hp => ⟨hp.1, hp.2.1, SW.same (U := U.calling g mk a) hp.2.2.1 rfl, hp.2.2.2⟩
theorem gP_at {p : Program} {R : Room} {s : State} {m : MethodId} {args : Array Value} {meth : Method} {c : Code} {mc ms : Nat} (C : cx G M d p R s m args meth c mc ms) {H : Heap} {locs : List Loc} (hr : Rep G h H) (hs : va_S (gA G) s.heap H locs) {as : List sv} : ∀ U : State, U.heap = H → s.WarmedH U.vm → gP G as h (as.map tv).toArray U :=
  fun U hU hW => ⟨rfl, by rw [hU]; exact hr, by rw [hU]; exact (cx_sw C).to hW (fun a h1 h2 => hs.2.1 a h1 h2), by rw [hU]; exact Nat.le_trans (cx_gb C) hs.1⟩
theorem run_on {p : Program} {e : Env} {R : Room} {s : State} {m : MethodId} {args : Array Value} {below : List Frame} {meth : Method} {c : Code} {H : Heap} {locs : List Loc} {cells slots mc ms k1 n1 : Nat} {a' : Array Slot} {stk : List Value} {Q1 : hQ} {ar : Array Value} (C : cx G M d p R s m args meth c mc ms) (hh : M.2.2.2.2 = []) (hs : va_S (gA G) s.heap H locs) (hk : cells + (k1 + k) ≤ mc) (hn : slots + (n1 + n) ≤ ms) (hl : hasL a' M.2.2.1 ls)
    (run : vx_Run p (gl G) e R s m args below meth c H locs cells slots k1 n1 (F0 m pc a' stk) (st.map tv) (QC G Q1 ar) (XC G Q1) (gA G))
    (kk : ∀ (v : Option sv) (h' : hp), Q1 (.inl v) h' → gV G M d Q (pc + 3) ls (v.toList ++ st) k n h') (kx : ∀ (E : String) (h' : hp), Q1 (.inr E) h' → Q (.inr E) h') :
    W p (gl G) e R s m args below meth c H locs cells slots (vx_MQ below (QC G Q) (XC G Q) args s mc ms (gA G)) (F0 m pc a' stk) := by
  intro T hT X
  rcases run T hT X with ⟨v, st₀, t, T', L, h0, X', hL, e1, e2, ⟨v', h', hv, hq, hrep, hF⟩, stp⟩ | ⟨q, st₀, t, T', L, E, ce, h0, X', hL, e1, e2, ⟨h', n', hn', hq, hrep, hF⟩, hce, hcv, hcl, stp⟩
  · cases hv
    obtain ⟨k1', k2', k3'⟩ := vx_keep h0 e1 hs (fun q _ hq => hq) (fun q hq => hq) hL hF
    obtain ⟨t2, a1, b1⟩ := kk v' h' hq p e R s m args below meth c T'.heap (locs ++ L) (cells + k1) (slots + n1) mc ms C (by rw [e1]; exact hrep) k3' (by omega) (by omega) a' hl T' rfl X'
    refine ⟨t2, stp t2 ?_, b1⟩
    have : (v'.map tv).toList ++ st.map tv = (v'.toList ++ st).map tv := by cases v' <;> rfl
    show Steps p.tables e below (T'.setTop { method := m, pc := pc + 3, locals := a', stack := (v'.map tv).toList ++ st.map tv, locked := none }) t2
    rw [this]
    exact a1
  · obtain ⟨k1', k2', k3'⟩ := vx_keep h0 e1 hs (fun q _ hq => hq) (fun q hq => hq) hL hF
    have hRm := cx_R C
    have ho : ∀ x ∈ c.exceptionTable.toList, covers x pc = false := by
      rw [C.2.2.2.2.2.1, hh]
      intro x hx
      cases hx
    obtain ⟨t2, a1, b1⟩ := vx_out (Qc := QC G Q) (XC := XC G Q) (free := gA G) (mc := mc) (ms := ms) (pc := pc) (rest := st.map tv) (ls := a') (below := below) (p := p) (l := gl G) (e := e) (R := R) (args := args) ho C.2.2.2.2.1 (H := T'.heap) (q := q) (by rw [e1]; exact hce) hcv hcl
      (fun t9 ht9 _ => ⟨h', n', hn', kx E h' hq, by rw [ht9, e1]; exact hrep, k3'.F ht9⟩) (locs := locs ++ L) k3'.2.2 (cells := cells + k1) (slots := slots + n1) (by omega) (by omega) T' rfl X'
    exact ⟨t2, stp.trans a1, b1⟩
theorem map_stk (as : List sv) (b : Nat) (st : List sv) : (as.reverse ++ sr (some b) :: st).map tv = (as.map tv).reverse ++ .ref b :: st.map tv := by simp [List.map_append, List.map_reverse]; rfl
theorem map_stkS (as : List sv) (st : List sv) : (as.reverse ++ st).map tv = (as.map tv).reverse ++ st.map tv := by simp [List.map_append, List.map_reverse]
theorem cat_le : ∀ st : List sv, ((st.map tv).map fun v => v.category).sum ≤ 2 * st.length
  | [] => Nat.le_refl _
  | v :: st => by
    have h1 := cat_le st
    have h2 : (tv v).category ≤ 2 := by rw [tv_cat]; split <;> omega
    simp only [List.map_cons, List.sum_cons, List.length_cons]
    omega
theorem v_invV {idx np ci b d1 k1 n1 : Nat} {N : gM} {as : List sv} {Q1 : hQ} (hd : decode M.2.1 pc = .ok (.invokevirtual idx, 3)) (hlk : Cond.methodLink M.1.cls idx N.1 ∈ XW) (hcal : cal N np) (hcv : calV N) (hnp : as.length = np) (hci : ci < 11) (hC : N.1.cls = hk_C ci) (hb : (hT h b).1 = ci + 1)
    (hS : gS G N d1 k1 n1 (sr (some b) :: as) h Q1) (hdd : d1 + 1 ≤ d ∧ N.2.2.1 ≤ 21) (hst : st.length ≤ 4) (hh : M.2.2.2.2 = [])
    (kk : ∀ (v : Option sv) (h' : hp), Q1 (.inl v) h' → gV G M d Q (pc + 3) ls (v.toList ++ st) k n h') (kx : ∀ (E : String) (h' : hp), Q1 (.inr E) h' → Q (.inr E) h') : gV G M d Q pc ls (as.reverse ++ sr (some b) :: st) (k1 + k) (n1 + n) h := by
  intro p e R s m args below meth c H locs cells slots mc ms C hr hs hk hn a' hl
  have hRm := cx_R C
  have hrecv : ∃ cellB : Cell, H[b]? = some cellB ∧ cellB.vm.isStatics = false ∧ s.vm.findClass N.1.cls = some cellB.cls := by
    have hat := (hr.2 b (by rw [hb]; exact Nat.succ_ne_zero _)).2
    rw [enc_obj hb hci] at hat
    rw [hC]
    exact va_recv (cx_K C) (one_P hat) (q0 := 0) (cls_at hci) rfl
  have hcat := cat_le st
  refine run_on (k1 := k1) (n1 := n1) C hh hs hk hn hl (vx_runV (cc := M.2.1) (nL := M.2.2.1) (Ts := []) (own := M.1.cls) (C := N.1.cls) (b := b) (As := as.map tv) (n := np) ⟨C.1, C.2.1, C.2.2.1, cx_own C, fun w hw => nomatch hw⟩ hS ⟨cal_B C hcal hlk hdd, cx_w C _ hcv.1, cx_w C _ hcv.2⟩ ⟨gP_blind, hrecv, gP_at C hr hs⟩ rfl (by rw [List.length_map]; exact hnp) hl.1 (map_stk as b st) (lv_room (by omega)) hd ⟨by omega, by omega⟩) kk kx
theorem v_invS {idx np d1 k1 n1 : Nat} {N : gM} {as : List sv} {Q1 : hQ} (hd : decode M.2.1 pc = .ok (.invokestatic idx, 3)) (hlk : Cond.methodLink M.1.cls idx N.1 ∈ XW) (hcal : cal N np) (hcs : Cond.static N.1 ∈ XW) (hnp : as.length = np)
    (hS : gS G N d1 k1 n1 as h Q1) (hdd : d1 + 1 ≤ d ∧ N.2.2.1 ≤ 21) (hst : st.length ≤ 4) (hh : M.2.2.2.2 = [])
    (kk : ∀ (v : Option sv) (h' : hp), Q1 (.inl v) h' → gV G M d Q (pc + 3) ls (v.toList ++ st) k n h') (kx : ∀ (E : String) (h' : hp), Q1 (.inr E) h' → Q (.inr E) h') : gV G M d Q pc ls (as.reverse ++ st) (k1 + k) (n1 + n) h := by
  intro p e R s m args below meth c H locs cells slots mc ms C hr hs hk hn a' hl
  have hRm := cx_R C
  have hcat := cat_le st
  refine run_on (k1 := k1) (n1 := n1) C hh hs hk hn hl (vx_runS (cc := M.2.1) (nL := M.2.2.1) (Ts := []) (own := M.1.cls) (As := as.map tv) (n := np) ⟨C.1, C.2.1, C.2.2.1, cx_own C, fun w hw => nomatch hw⟩ hS ⟨cal_B C hcal hlk hdd, cx_w C _ hcs⟩ ⟨gP_blind, gP_at C hr hs⟩ rfl (by rw [List.length_map]; exact hnp) hl.1 (map_stkS as st) (lv_room (by omega)) hd ⟨by omega, by omega⟩) kk kx
theorem v_invI {idx np b d1 k1 n1 : Nat} {N : gM} {as : List sv} {Q1 : hQ} (hd : decode M.2.1 pc = .ok (.invokespecial idx, 3)) (hlk : Cond.methodLink M.1.cls idx N.1 ∈ XW) (hcal : cal N np) (hci : Cond.instanceMethod N.1 ∈ XW) (hin : N.1.name = "<init>") (hvoid : N.2.2.2.1 = none) (hnp : as.length = np)
    (hS : gS G N d1 k1 n1 (sr (some b) :: as) h Q1) (hdd : d1 + 1 ≤ d ∧ N.2.2.1 ≤ 21) (hst : st.length ≤ 4) (hh : M.2.2.2.2 = [])
    (kk : ∀ (v : Option sv) (h' : hp), Q1 (.inl v) h' → gV G M d Q (pc + 3) ls (v.toList ++ st) k n h') (kx : ∀ (E : String) (h' : hp), Q1 (.inr E) h' → Q (.inr E) h') : gV G M d Q pc ls (as.reverse ++ sr (some b) :: st) (k1 + k) (n1 + n) h := by
  intro p e R s m args below meth c H locs cells slots mc ms C hr hs hk hn a' hl
  have hRm := cx_R C
  have hcat := cat_le st
  have hB := cal_B (k1 := k1) (n1 := n1) C hcal hlk hdd
  have hS' := hS
  unfold gS at hS'
  rw [hvoid] at hB
  refine run_on (k1 := k1) (n1 := n1) C hh hs hk hn hl (vx_runI (cc := M.2.1) (nL := M.2.2.1) (Ts := []) (own := M.1.cls) (b := b) (As := as.map tv) (n := np) ⟨C.1, C.2.1, C.2.2.1, cx_own C, fun w hw => nomatch hw⟩ hS' ⟨hB, hin, cx_w C _ hci⟩ ⟨gP_blind, gP_at (as := sr (some b) :: as) C hr hs⟩ rfl (by rw [List.length_map]; exact hnp) hl.1 (map_stk as b st) (lv_room (by omega)) hd ⟨by omega, by omega⟩) kk kx
theorem v_objI {idx b : Nat} (hd : decode M.2.1 pc = .ok (.invokespecial idx, 3)) (hlk : Cond.methodLink M.1.cls idx objectInit ∈ XW) (hci : Cond.instanceMethod objectInit ∈ XW) (hcd : Cond.code objectInit ⟨#[0xb1]⟩ 1 none ∈ XW) (hst : st.length ≤ 4) (hdd : 1 ≤ d) (kk : gV G M d Q (pc + 3) ls st k n h) : gV G M d Q pc ls (sr (some b) :: st) k n h := by
  intro p e R s m args below meth c H locs cells slots mc ms C hr hs hk hn a' hl
  have hRm := cx_R C
  have hcat := cat_le st
  refine W.objInit C.1 C.2.1 (cx_own C) (cx_w C _ hlk) (cx_w C _ hci) (cx_w C _ hcd) rfl (by rw [C.2.2.1]; exact hl.1) rfl hd (by omega) (by show 2 * 0 + _ + 12 ≤ R.locals; omega) ?_
  exact kk p e R s m args below meth c H locs cells slots mc ms C hr hs hk hn a' hl
/-! a method out of its body -/
theorem gS_of {k1 n1 : Nat} {as : List sv} (hy : plainName M.1.cls = true) (hh : M.2.2.2.2 = []) (hlen : (lg_sl (as.map tv)).length ≤ M.2.2.1) (ls : lc) (hls : ∀ (i : Nat) (v : sv), ls[i]? = some (some v) → (i, tv v) ∈ lv_args 0 (as.map tv)) (body : gV G M d Q 0 ls [] k1 n1 h) : gS G M d k1 n1 as h Q := by
  refine vx_ofW (cc := M.2.1) (maxL := M.2.2.1) (ret := M.2.2.2.1) hy rfl ?_
  intro p e s m args below meth c s₁ B hml ht hv
  obtain ⟨rfl, hrep, hsw, hgb⟩ := hv
  have hl := lv_entry (as.map tv) hlen
  rw [lg_entry_eq]
  refine body p e _ s m _ below meth c s.heap [] 0 0 k1 n1 ⟨B.exec, B.bytes, hml, B.returns, B.notSynchronized, ?_, findClass_of_methodNamed B.named, (name_of_methodNamed B.named B.method).1, hsw, hgb, Nat.le_refl _, Nat.le_refl _, Nat.le_refl _, Nat.le_refl _⟩ hrep va_S.rf (by omega) (by omega) _ (hasL_of hl hls)
  rw [hh]
  exact List.eq_nil_iff_forall_not_mem.mpr (fun x hx => ht x hx)
/-- a contract of which less is asked -/
theorem gS_weak {k1 n1 : Nat} {as : List sv} {Q2 : hQ} (hS : gS G M d k1 n1 as h Q) (hq : ∀ o h', Q o h' → Q2 o h') : gS G M d k1 n1 as h Q2 := by
  have hQC : ∀ a st o t, QC G Q a st o t → QC G Q2 a st o t := fun a st o t ⟨v, h', h1, h2, h3⟩ => ⟨v, h', h1, hq _ _ h2, h3⟩
  intro p e ha hc hk s m args below hf happ hP hK
  obtain ⟨k9, o, h1, h2, h3, h4⟩ := hS p e ha hc hk s m args below hf happ hP hK
  refine ⟨k9, o, h1, h2, h3, ?_⟩
  rcases h4 with ⟨g1, g2⟩ | ⟨q, g1, E, ce, L, ⟨h', n', x1, x2, x3⟩, g3⟩
  · exact Or.inl ⟨hQC _ _ _ _ g1, g2⟩
  · exact Or.inr ⟨q, g1, E, ce, L, ⟨h', n', x1, hq _ _ x2, x3⟩, g3⟩
/-! constants -/
theorem v_ldc {idx : Nat} {v : Int32} (hd : decode M.2.1 pc = .ok (.ldc idx, 2)) (hw : Cond.constant M.1.cls idx v ∈ XW) (kk : gV G M d Q (pc + 2) ls (si v :: st) k n h) : gV G M d Q pc ls st k n h :=
  fun p e R s m args below meth c H locs cells slots mc ms C hr hs hk hn a hl => lv_ldc C.1 C.2.1 (cx_own C) (cx_w C _ hw) hd (kk p e R s m args below meth c H locs cells slots mc ms C hr hs hk hn a hl)
theorem v_ldcw {idx : Nat} {v : Int32} (hd : decode M.2.1 pc = .ok (.ldc_w idx, 3)) (hw : Cond.constant M.1.cls idx v ∈ XW) (kk : gV G M d Q (pc + 3) ls (si v :: st) k n h) : gV G M d Q pc ls st k n h :=
  fun p e R s m args below meth c H locs cells slots mc ms C hr hs hk hn a hl => lv_ldcw C.1 C.2.1 (cx_own C) (cx_w C _ hw) hd (kk p e R s m args below meth c H locs cells slots mc ms C hr hs hk hn a hl)
theorem v_ldc2 {idx : Nat} {v : Int64} (hd : decode M.2.1 pc = .ok (.ldc2_w idx, 3)) (hw : Cond.constantLong M.1.cls idx v ∈ XW) (kk : gV G M d Q (pc + 3) ls (sl v :: st) k n h) : gV G M d Q pc ls st k n h :=
  fun p e R s m args below meth c H locs cells slots mc ms C hr hs hk hn a hl => lv_ldc2 C.1 C.2.1 (cx_own C) (cx_w C _ hw) hd (kk p e R s m args below meth c H locs cells slots mc ms C hr hs hk hn a hl)
theorem v_ldcS (i : Nat) {idx : Nat} {tx : String} (hd : decode M.2.1 pc = .ok (.ldc idx, 2)) (hi : strT[i]? = some (M.1.cls, idx, tx)) (kk : gV G M d Q (pc + 2) ls (sr (some (ga G i)) :: st) k n h) : gV G M d Q pc ls st k n h :=
  fun p e R s m args below meth c H locs cells slots mc ms C hr hs hk hn a hl => va_ldcS C.1 C.2.1 (cx_own C) ((cx_sw C).2.2.2.1 i _ hi) hd (kk p e R s m args below meth c H locs cells slots mc ms C hr hs hk hn a hl)
/-! the table of letters, texts -/
theorem v_lettR {idx : Nat} (hd : decode M.2.1 pc = .ok (.getstatic idx, 3)) (hw : Cond.fieldLink M.1.cls idx RX0 "LETTERS" "[I" ∈ XW) (kk : gV G M d Q (pc + 3) ls (sr (some (gt G)) :: st) k n h) : gV G M d Q pc ls st k n h :=
  fun p e R s m args below meth c H locs cells slots mc ms C hr hs hk hn a hl => va_gets C.1 C.2.1 (cx_sw C).2.2.2.2.2.1 hs (cx_own C) (cx_w C _ hw) (fun _ z => z) hd (kk p e R s m args below meth c H locs cells slots mc ms C hr hs hk hn a hl)
theorem v_lettL (hd : decode M.2.1 pc = .ok (.arraylength, 1)) (kk : gV G M d Q (pc + 1) ls (si 26 :: st) k n h) : gV G M d Q pc ls (sr (some (gt G)) :: st) k n h :=
  fun p e R s m args below meth c H locs cells slots mc ms C hr hs hk hn a hl => va_tlen C.1 C.2.1 (cx_sw C).2.2.2.2.2.2.1 hs (show Int32.ofNat 26 = 26 by decide) hd (kk p e R s m args below meth c H locs cells slots mc ms C hr hs hk hn a hl)
theorem v_lettA {i : Int32} (hd : decode M.2.1 pc = .ok (.iaload, 1)) (hin : vp_in i 26) (kk : gV G M d Q (pc + 1) ls (si (lett i.toNatClampNeg) :: st) k n h) : gV G M d Q pc ls (si i :: sr (some (gt G)) :: st) k n h :=
  fun p e R s m args below meth c H locs cells slots mc ms C hr hs hk hn a hl => va_ti C.1 C.2.1 (cx_sw C).2.2.2.2.2.2.1 hs hin rfl hd (kk p e R s m args below meth c H locs cells slots mc ms C hr hs hk hn a hl)
theorem v_compact {idx : Nat} (hd : decode M.2.1 pc = .ok (.getstatic idx, 3)) (hw : Cond.fieldLink M.1.cls idx "java/lang/String" "COMPACT_STRINGS" "Z" ∈ XW) (kk : gV G M d Q (pc + 3) ls (si 1 :: st) k n h) : gV G M d Q pc ls st k n h :=
  fun p e R s m args below meth c H locs cells slots mc ms C hr hs hk hn a hl => va_gets C.1 C.2.1 (cx_sw C).2.2.2.2.2.2.2.1 hs (cx_own C) (cx_w C _ hw) (fun _ z => z) hd (kk p e R s m args below meth c H locs cells slots mc ms C hr hs hk hn a hl)
theorem v_fmt {idx : Nat} (hd : decode M.2.1 pc = .ok (.getstatic idx, 3)) (hw : Cond.fieldLink M.1.cls idx "jdk/internal/util/Preconditions" "SIOOBE_FORMATTER" "Ljava/util/function/BiFunction;" ∈ XW) (kk : ∀ r : Option Nat, gV G M d Q (pc + 3) ls (sr r :: st) k n h) : gV G M d Q pc ls st k n h := by
  intro p e R s m args below meth c H locs cells slots mc ms C hr hs hk hn a hl
  rcases (cx_sw C).2.2.2.2.2.2.2.2.1 with hz | ⟨t, hz⟩
  · exact va_gets C.1 C.2.1 hz hs (cx_own C) (cx_w C _ hw) (fun _ z => z) hd (kk none p e R s m args below meth c H locs cells slots mc ms C hr hs hk hn a hl)
  · exact va_gets C.1 C.2.1 hz hs (cx_own C) (cx_w C _ hw) (fun _ z => z) hd (kk (some t) p e R s m args below meth c H locs cells slots mc ms C hr hs hk hn a hl)
theorem v_strV {idx i : Nat} (hd : decode M.2.1 pc = .ok (.getfield idx, 3)) (hi : i < 45) (hw : Cond.fieldLink M.1.cls idx "java/lang/String" "value" "[B" ∈ XW) (kk : gV G M d Q (pc + 3) ls (sr (some (gv G i)) :: st) k n h) : gV G M d Q pc ls (sr (some (ga G i)) :: st) k n h :=
  fun p e R s m args below meth c H locs cells slots mc ms C hr hs hk hn a hl => vk_getf C.1 C.2.1 ((cx_sw C).2.2.2.2.1 i hi).2.2.1 hs (cx_own C) (cx_w C _ hw) (fun _ z => z) hd (kk p e R s m args below meth c H locs cells slots mc ms C hr hs hk hn a hl)
theorem v_strC {idx i : Nat} (hd : decode M.2.1 pc = .ok (.getfield idx, 3)) (hi : i < 45) (hw : Cond.fieldLink M.1.cls idx "java/lang/String" "coder" "B" ∈ XW) (kk : gV G M d Q (pc + 3) ls (si 0 :: st) k n h) : gV G M d Q pc ls (sr (some (ga G i)) :: st) k n h :=
  fun p e R s m args below meth c H locs cells slots mc ms C hr hs hk hn a hl => vk_getf C.1 C.2.1 ((cx_sw C).2.2.2.2.1 i hi).2.1 hs (cx_own C) (cx_w C _ hw) (fun _ z => z) hd (kk p e R s m args below meth c H locs cells slots mc ms C hr hs hk hn a hl)
theorem v_strL {i : Nat} (hd : decode M.2.1 pc = .ok (.arraylength, 1)) (hi : i < 45) (kk : gV G M d Q (pc + 1) ls (si (nI (strL i)) :: st) k n h) : gV G M d Q pc ls (sr (some (gv G i)) :: st) k n h :=
  fun p e R s m args below meth c H locs cells slots mc ms C hr hs hk hn a hl => va_tlen C.1 C.2.1 ((cx_sw C).2.2.2.2.1 i hi).2.2.2 hs rfl hd (kk p e R s m args below meth c H locs cells slots mc ms C hr hs hk hn a hl)
theorem v_strA {i : Nat} {j : Int32} (hd : decode M.2.1 pc = .ok (.baload, 1)) (hi : i < 45) (hin : vp_in j (strL i)) (kk : gV G M d Q (pc + 1) ls (si (strB i j.toNatClampNeg) :: st) k n h) : gV G M d Q pc ls (si j :: sr (some (gv G i)) :: st) k n h :=
  fun p e R s m args below meth c H locs cells slots mc ms C hr hs hk hn a hl => va_tb C.1 C.2.1 ((cx_sw C).2.2.2.2.1 i hi).2.2.2 hs hin rfl hd (kk p e R s m args below meth c H locs cells slots mc ms C hr hs hk hn a hl)
theorem v_invT {idx np i d1 k1 n1 : Nat} {N : gM} {as : List sv} {Q1 : hQ} (hd : decode M.2.1 pc = .ok (.invokevirtual idx, 3)) (hlk : Cond.methodLink M.1.cls idx N.1 ∈ XW) (hcal : cal N np) (hcv : calV N) (hnp : as.length = np) (hi : i < 45) (hC : N.1.cls = "java/lang/String")
    (hS : gS G N d1 k1 n1 (sr (some (ga G i)) :: as) h Q1) (hdd : d1 + 1 ≤ d ∧ N.2.2.1 ≤ 21) (hst : st.length ≤ 4) (hh : M.2.2.2.2 = [])
    (kk : ∀ (v : Option sv) (h' : hp), Q1 (.inl v) h' → gV G M d Q (pc + 3) ls (v.toList ++ st) k n h') (kx : ∀ (E : String) (h' : hp), Q1 (.inr E) h' → Q (.inr E) h') : gV G M d Q pc ls (as.reverse ++ sr (some (ga G i)) :: st) (k1 + k) (n1 + n) h := by
  intro p e R s m args below meth c H locs cells slots mc ms C hr hs hk hn a' hl
  have hRm := cx_R C
  have hrecv : ∃ cellB : Cell, H[ga G i]? = some cellB ∧ cellB.vm.isStatics = false ∧ s.vm.findClass N.1.cls = some cellB.cls := by
    obtain ⟨cell, h1, h2, h3, -⟩ := ((cx_sw C).2.2.2.2.1 i hi).1.kept hs.2.1
    rw [hC]
    exact ⟨cell, h1, h2, h3⟩
  have hcat := cat_le st
  refine run_on (k1 := k1) (n1 := n1) C hh hs hk hn hl (vx_runV (cc := M.2.1) (nL := M.2.2.1) (Ts := []) (own := M.1.cls) (C := N.1.cls) (b := ga G i) (As := as.map tv) (n := np) ⟨C.1, C.2.1, C.2.2.1, cx_own C, fun w hw => nomatch hw⟩ hS ⟨cal_B C hcal hlk hdd, cx_w C _ hcv.1, cx_w C _ hcv.2⟩ ⟨gP_blind, hrecv, gP_at C hr hs⟩ rfl (by rw [List.length_map]; exact hnp) hl.1 (map_stk as (ga G i) st) (lv_room (by omega)) hd ⟨by omega, by omega⟩) kk kx
/-! throws -/
theorem thr_hx {p : Program} {R : Room} {s : State} {m : MethodId} {args : Array Value} {meth : Method} {c : Code} {mc ms : Nat} (C : cx G M d p R s m args meth c mc ms) {H : Heap} {locs : List Loc} (hr : Rep G h H) (hs : va_S (gA G) s.heap H locs) {E : String} (hq : Q (.inr E) h) : ∀ t : State, s.vm.Alike t.vm → H.size ≤ t.heap.size → (∀ q : Nat, q < H.size → t.heap[q]? = H[q]?) → XC G Q E s t := by
  intro t _ h1 h2
  have hsz := hr.1
  exact ⟨h, t.heap.size, by omega, hq, rep_later hr h2, ⟨Nat.le_trans hs.1 h1, fun q g1 g2 => (h2 q (Nat.lt_of_lt_of_le g1 hs.1)).trans (hs.2.1 q g1 g2)⟩⟩
theorem v_throw (i : Nat) {ik is ic : Nat} {cls text : String} {names : List String} (d0 : decode M.2.1 pc = .ok (.new ik, 3)) (d3 : decode M.2.1 (pc + 3) = .ok (.dup, 1)) (d4 : decode M.2.1 (pc + 4) = .ok (.ldc is, 2)) (d6 : decode M.2.1 (pc + 6) = .ok (.invokespecial ic, 3)) (d9 : decode M.2.1 (pc + 9) = .ok (.athrow, 1))
    (hi : strT[i]? = some (M.1.cls, is, text)) (hcls : Bundle.fit cls = true) (hnames : ∀ n ∈ names, Bundle.fit n = true) (hw : ∀ w ∈ Cond.classLink M.1.cls ik cls :: Cond.initialized cls :: vx_atS M.1.cls ic cls names, w ∈ XW) (hlen : names.length = 2) (hdd : 6 ≤ d) (hst : st.length ≤ 4) (hh : M.2.2.2.2 = []) (hq : Q (.inr cls) h) : gV G M d Q pc ls st (k + 1) (n + 6) h := by
  intro p e R s m args below meth c H locs cells slots mc ms C hr hs hk hn a' hl
  have hRm := cx_R C
  have hcat := cat_le st
  have ho : ∀ x ∈ c.exceptionTable.toList, covers x (pc + 9) = false := by
    rw [C.2.2.2.2.2.1, hh]
    intro x hx
    cases hx
  exact vx_throwS C.1 C.2.1 (cx_sw C).2.2.1 (cx_own C) hcls hnames (cx_w C _ (hw _ List.mem_cons_self)) (cx_w C _ (hw _ (List.mem_cons_of_mem _ List.mem_cons_self))) ((cx_sw C).2.2.2.1 i _ hi) (fun w hz => cx_w C _ (hw _ (List.mem_cons_of_mem _ (List.mem_cons_of_mem _ hz)))) (fun w hz => by unfold vx_ot; rw [(XW_ot (hw w hz)).1]; rfl)
    (cx_sw C).2.2.2.2.2.2.2.2.2.1 (cx_sw C).2.2.2.2.2.2.2.2.2.2 hs (by rw [C.2.2.1]; exact hl.1) d0 d3 d4 d6 d9 ho (by omega) (by omega) (by omega) (by omega) C.2.2.2.2.1 (thr_hx C hr hs hq) hs.2.2 (by omega) (by omega)
theorem v_throwW (i : Nat) {ik is ic : Nat} {cls text : String} {names : List String} (d0 : decode M.2.1 pc = .ok (.new ik, 3)) (d3 : decode M.2.1 (pc + 3) = .ok (.dup, 1)) (d4 : decode M.2.1 (pc + 4) = .ok (.ldc_w is, 3)) (d7 : decode M.2.1 (pc + 7) = .ok (.invokespecial ic, 3)) (d10 : decode M.2.1 (pc + 10) = .ok (.athrow, 1))
    (hi : strT[i]? = some (M.1.cls, is, text)) (hcls : Bundle.fit cls = true) (hnames : ∀ n ∈ names, Bundle.fit n = true) (hw : ∀ w ∈ Cond.classLink M.1.cls ik cls :: Cond.initialized cls :: vx_atS M.1.cls ic cls names, w ∈ XW) (hlen : names.length = 2) (hdd : 6 ≤ d) (hst : st.length ≤ 4) (hh : M.2.2.2.2 = []) (hq : Q (.inr cls) h) : gV G M d Q pc ls st (k + 1) (n + 6) h := by
  intro p e R s m args below meth c H locs cells slots mc ms C hr hs hk hn a' hl
  have hRm := cx_R C
  have hcat := cat_le st
  have ho : ∀ x ∈ c.exceptionTable.toList, covers x (pc + 10) = false := by
    rw [C.2.2.2.2.2.1, hh]
    intro x hx
    cases hx
  exact vx_throwSW C.1 C.2.1 (cx_sw C).2.2.1 (cx_own C) hcls hnames (cx_w C _ (hw _ List.mem_cons_self)) (cx_w C _ (hw _ (List.mem_cons_of_mem _ List.mem_cons_self))) ((cx_sw C).2.2.2.1 i _ hi) (fun w hz => cx_w C _ (hw _ (List.mem_cons_of_mem _ (List.mem_cons_of_mem _ hz)))) (fun w hz => by unfold vx_ot; rw [(XW_ot (hw w hz)).1]; rfl)
    (cx_sw C).2.2.2.2.2.2.2.2.2.1 (cx_sw C).2.2.2.2.2.2.2.2.2.2 hs (by rw [C.2.2.1]; exact hl.1) d0 d3 d4 d7 d10 ho (by omega) (by omega) (by omega) (by omega) C.2.2.2.2.1 (thr_hx C hr hs hq) hs.2.2 (by omega) (by omega)
/-! switches -/
theorem v_lookup {dflt off : Int} {ps : Array (Int × Int)} {len : Nat} {x : Int32} (t : Nat) (hd : decode M.2.1 pc = .ok (.lookupswitch dflt ps, len)) (hp : (ps.toList.zip (ps.toList.drop 1)).all (fun (a, next) => a.1 < next.1) = true) (ho : Op.lookupswitch.offset ps.toList dflt x.toInt = off) (ht : (pc : Int) + off = (t : Int)) (kk : gV G M d Q t ls st k n h) : gV G M d Q pc ls (si x :: st) k n h :=
  fun p e R s m args below meth c H locs cells slots mc ms C hr hs hk hn a hl => lv_lookup C.1 C.2.1 hd hp ho ht (kk p e R s m args below meth c H locs cells slots mc ms C hr hs hk hn a hl)
theorem v_tableOut {dflt lo hi : Int} {offs : Array Int} {len : Nat} {x : Int32} (t : Nat) (hd : decode M.2.1 pc = .ok (.tableswitch dflt lo hi offs, len)) (hx : x.toInt < lo ∨ hi < x.toInt) (ht : (pc : Int) + dflt = (t : Int)) (kk : gV G M d Q t ls st k n h) : gV G M d Q pc ls (si x :: st) k n h :=
  fun p e R s m args below meth c H locs cells slots mc ms C hr hs hk hn a hl => lv_tableOut C.1 C.2.1 hd hx ht (kk p e R s m args below meth c H locs cells slots mc ms C hr hs hk hn a hl)
theorem v_tableIn {dflt lo hi off : Int} {offs : Array Int} {len : Nat} {x : Int32} (t : Nat) (hd : decode M.2.1 pc = .ok (.tableswitch dflt lo hi offs, len)) (h1 : ¬ x.toInt < lo) (h2 : ¬ hi < x.toInt) (ho : offs[(x.toInt - lo).toNat]? = some off) (ht : (pc : Int) + off = (t : Int)) (kk : gV G M d Q t ls st k n h) : gV G M d Q pc ls (si x :: st) k n h :=
  fun p e R s m args below meth c H locs cells slots mc ms C hr hs hk hn a hl => lv_tableIn C.1 C.2.1 hd h1 h2 ho ht (kk p e R s m args below meth c H locs cells slots mc ms C hr hs hk hn a hl)
end VC

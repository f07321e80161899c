/-! ===== methods that catch: their contract, their body, a call of them, a call in them ===== -/
def nc3 : List (String × String) := [(exA, exI), (exS, exI), (exS, exA), (exI, exS), (exI, exA), (exA, exS)]
def NC (U : State) : Prop := ∀ q ∈ nc3, va_Nc q.1 q.2 U
theorem NC.moved {u U : State} (hvm : u.vm.Alike U.vm) (h : NC u) : NC U := fun q hq => (h q hq).moved hvm
def gP2 (G : gG) (as : List sv) (h : hp) : Array Value → State → Prop := fun v U => gP G as h v U ∧ NC U
def gS2 (G : gG) (M : gM) (d k n : Nat) (as : List sv) (h : hp) (Q : hQ) : Prop := vx_Met (gl G) M.1 [Cond.codeWith M.1 M.2.1 M.2.2.1 M.2.2.2.1 M.2.2.2.2] (gRm d k n) (gP2 G as h) (QC G Q) (XC G Q) k n (gA G)
/-- how the handlers take what is thrown -/
def XH (F : State → Prop) (G : gG) (M : gM) (d : Nat) (Q : hQ) (E : String) (pc : Nat) (ls : lc) (k n : Nat) (h : hp) (q : Nat) : Prop :=
  ∃ (pre : List ExceptionTableEntry) (x : ExceptionTableEntry) (suf : List ExceptionTableEntry) (nm : String), tableOf M.2.2.2.2 = pre ++ x :: suf ∧ (∀ z ∈ pre, z.catchType ≠ 0 ∧ ∃ nm' : String, Cond.classLink M.1.cls z.catchType nm' ∈ XW ∧ (E, nm') ∈ nc3) ∧ covers x pc = true ∧ x.catchType ≠ 0 ∧ Cond.classLink M.1.cls x.catchType nm ∈ XW ∧ Cond.castable E nm ∈ XW ∧ gZ F G M d Q x.handlerPc ls [sr (some q)] k n h
section VH
variable {F : State → Prop} {G : gG} {M : gM} {d : Nat} {Q : hQ} {pc : Nat} {ls : lc} {st : List sv} {k n : Nat} {h : hp}
theorem gP2_blind {as : List sv} : FrameBlind (gP2 G as h) := fun a U g mk hp => ⟨gP_blind a U g mk hp.1, hp.2.moved (u := U) (U := U.calling g mk a) (State.WarmedH.refl U).alike⟩
theorem gP2_at (hF : ∀ s, F s → NC s) {p : Program} {R : Room} {s : State} {m : MethodId} {args : Array Value} {meth : Method} {c : Code} {mc ms : Nat} (C : cx G M d p R s m args meth c mc ms) (f9 : F s) {H : Heap} {locs : List Loc} (hr : Rep G h H) (hs : va_S (gA G) s.heap H locs) {as : List sv} : ∀ U : State, U.heap = H → s.WarmedH U.vm → gP2 G as h (as.map tv).toArray U :=
  fun U hU hW => ⟨gP_at C hr hs U hU hW, (hF s f9).moved hW.alike⟩
theorem z_runH {p : Program} {e : Env} {R : Room} {s : State} {m : MethodId} {args : Array Value} {below : List Frame} {meth : Method} {c : Code} {H : Heap} {locs : List Loc} {cells slots mc ms k1 n1 : Nat} {a' : Array Slot} {stk : List Value} {Q1 : hQ} {ar : Array Value} (hF : ∀ s, F s → NC s) (C : cx G M d p R s m args meth c mc ms) (f9 : F s) (hs : va_S (gA G) s.heap H locs) (hk : cells + (k1 + k) ≤ mc) (hn : slots + (n1 + n) ≤ ms) (hl : hasL a' M.2.2.1 ls)
    (run : vx_Run p (gl G) e R s m args below meth c H locs cells slots k1 n1 (F0 m pc a' stk) (st.map tv) (QC G Q1 ar) (XC G Q1) (gA G))
    (kk : ∀ (v : Option sv) (h' : hp), Q1 (.inl v) h' → gZ F G M d Q (pc + 3) ls (v.toList ++ st) k n h') (kx : ∀ (E : String) (h' : hp) (n' q : Nat), Q1 (.inr E) h' → hN h' ≤ n' → XH F G M d Q E pc ls k n (wS h' n') q) :
    W p (gl G) e R s m args below meth c H locs cells slots (vx_MQ below (QC G Q) (XC G Q) args s mc ms (gA G)) (F0 m pc a' stk) := by
  intro T hT X
  rcases run T hT X with ⟨v, st₀, t, T', L, h0, X', hL, e1, e2, ⟨v', h', hv, hq, hrep, hF⟩, stp⟩ | ⟨q, st₀, t, T', L, E, ce, h0, X', hL, e1, e2, ⟨h', n', hn', hq, hrep, hFF⟩, hce, hcv, hcl, stp⟩
  · cases hv
    obtain ⟨k1', k2', k3'⟩ := vx_keep h0 e1 hs (fun q _ hq => hq) (fun q hq => hq) hL hF
    obtain ⟨t2, a1, b1⟩ := kk v' h' hq p e R s m args below meth c T'.heap (locs ++ L) (cells + k1) (slots + n1) mc ms C f9 (by rw [e1]; exact hrep) k3' (by omega) (by omega) a' hl T' rfl X'
    refine ⟨t2, stp t2 ?_, b1⟩
    have : (v'.map tv).toList ++ st.map tv = (v'.toList ++ st).map tv := by cases v' <;> rfl
    show Steps p.tables e below (T'.setTop { method := m, pc := pc + 3, locals := a', stack := (v'.map tv).toList ++ st.map tv, locked := none }) t2
    rw [this]
    exact a1
  · obtain ⟨k1', k2', k3'⟩ := vx_keep h0 e1 hs (fun q _ hq => hq) (fun q hq => hq) hL hFF
    obtain ⟨pre, x, suf, nm, y1, y2, y3, y4, y5, y6, y7⟩ := kx E h' n' q hq hn'
    have K := y7 p e R s m args below meth c T'.heap (locs ++ L) (cells + k1) (slots + n1) mc ms C f9 (by rw [e1]; exact hrep) k3' (by omega) (by omega) a' hl
    have hcatch := vx_catch (own := M.1.cls) (name := nm) (E := E) (rest := st.map tv) (pc := pc) (ls := a') (cx_own C) pre x suf (C.2.2.2.2.2.1.trans y1) (fun z hz => Or.inr ⟨(y2 z hz).1, by
      obtain ⟨nm', w1, w2⟩ := (y2 z hz).2
      exact ⟨nm', cx_w C _ w1, hF s f9 _ w2⟩⟩) y3 y4 (cx_w C _ y5) (cx_w C _ y6) (by rw [e1]; exact hce) hcv hcl K
    obtain ⟨t2, a1, b1⟩ := hcatch T' rfl X'
    exact ⟨t2, stp.trans a1, b1⟩
/-- a call of a method of an object, in a method that catches -/
theorem z_invH {idx np ci b d1 k1 n1 : Nat} {N : gM} {as : List sv} {Q1 : hQ} (hF : ∀ s, F s → NC s) (hd : decode M.2.1 pc = .ok (.invokevirtual idx, 3)) (hlk : Cond.methodLink M.1.cls idx N.1 ∈ XW) (hcal : cal N np) (hcv : calV N) (hnp : as.length = np) (hci : ci < 11) (hC : N.1.cls = hk_C ci) (hb : (hT h b).1 = ci + 1)
    (hS : gS G N d1 k1 n1 (sr (some b) :: as) h Q1) (hdd : d1 + 1 ≤ d ∧ N.2.2.1 ≤ 21) (hst : st.length ≤ 4)
    (kk : ∀ (v : Option sv) (h' : hp), Q1 (.inl v) h' → gZ F G M d Q (pc + 3) ls (v.toList ++ st) k n h') (kx : ∀ (E : String) (h' : hp) (n' q : Nat), Q1 (.inr E) h' → hN h' ≤ n' → XH F G M d Q E pc ls k n (wS h' n') q) : gZ F G M d Q pc ls (as.reverse ++ sr (some b) :: st) (k1 + k) (n1 + n) h := by
  intro p e R s m args below meth c H locs cells slots mc ms C f9 hr hs hk hn a' hl
  have hRm := cx_R C
  have hrecv : ∃ cellB : Cell, H[b]? = some cellB ∧ cellB.vm.isStatics = false ∧ s.vm.findClass N.1.cls = some cellB.cls := by
    have hat := (hr.2 b (by rw [hb]; exact Nat.succ_ne_zero _)).2
    rw [enc_obj hb hci] at hat
    rw [hC]
    exact va_recv (cx_K C) (one_P hat) (q0 := 0) (cls_at hci) rfl
  have hcat := cat_le st
  refine z_runH (k1 := k1) (n1 := n1) hF C f9 hs hk hn hl (vx_runV (cc := M.2.1) (nL := M.2.2.1) (Ts := []) (own := M.1.cls) (C := N.1.cls) (b := b) (As := as.map tv) (n := np) ⟨C.1, C.2.1, C.2.2.1, cx_own C, fun w hw => nomatch hw⟩ hS ⟨cal_B C hcal hlk hdd, cx_w C _ hcv.1, cx_w C _ hcv.2⟩ ⟨gP_blind, hrecv, gP_at C hr hs⟩ rfl (by rw [List.length_map]; exact hnp) hl.1 (map_stk as b st) (lv_room (by omega)) hd ⟨by omega, by omega⟩) kk kx
def cal2 (N : gM) (np : Nat) : Prop := Cond.codeWith N.1 N.2.1 N.2.2.1 N.2.2.2.1 N.2.2.2.2 ∈ XW ∧ Cond.initialized N.1.cls ∈ XW ∧ (N.1.cls ≠ "java/lang/invoke/MethodHandle" ∧ N.1.cls ≠ "java/lang/invoke/VarHandle") ∧ (parseMethodDescriptor N.1.desc).map (fun d => d.parameters.length) = some np ∧ Cond.static N.1 ∈ XW
/-- a call of a static method that catches -/
theorem z_invX {idx np d1 k1 n1 : Nat} {N : gM} {as : List sv} {Q1 : hQ} (hF : ∀ s, F s → NC s) (hd : decode M.2.1 pc = .ok (.invokestatic idx, 3)) (hlk : Cond.methodLink M.1.cls idx N.1 ∈ XW) (hcal : cal2 N np) (hnp : as.length = np)
    (hS : gS2 G N d1 k1 n1 as h Q1) (hdd : d1 + 1 ≤ d ∧ N.2.2.1 ≤ 21) (hst : st.length ≤ 4) (hh : M.2.2.2.2 = [])
    (kk : ∀ (v : Option sv) (h' : hp), Q1 (.inl v) h' → gZ F G M d Q (pc + 3) ls (v.toList ++ st) k n h') (kx : ∀ (E : String) (h' : hp), Q1 (.inr E) h' → Q (.inr E) h') : gZ F G M d Q pc ls (as.reverse ++ st) (k1 + k) (n1 + n) h := by
  intro p e R s m args below meth c H locs cells slots mc ms C f9 hr hs hk hn a' hl
  have hRm := cx_R C
  have hcat := cat_le st
  have hcw : ∀ w ∈ [Cond.codeWith N.1 N.2.1 N.2.2.1 N.2.2.2.1 N.2.2.2.2], ∀ (a' : Array Value) (U : State), s.WarmedH U.vm → w.before a' U = true := by
    intro w hw a' U hW
    have : w = Cond.codeWith N.1 N.2.1 N.2.2.1 N.2.2.2.1 N.2.2.2.2 := by simpa using hw
    subst this
    exact word_at hW (Or.inl rfl) (cx_w C _ hcal.1)
  refine z_run_on (k1 := k1) (n1 := n1) C f9 hh hs hk hn hl (vx_runSX (cc := M.2.1) (nL := M.2.2.1) (Ts := []) (own := M.1.cls) (As := as.map tv) (n := np) (bytes := N.2.1) (maxL := N.2.2.1) (ret := N.2.2.2.1) (hh := N.2.2.2.2) ⟨C.1, C.2.1, C.2.2.1, cx_own C, fun w hw => nomatch hw⟩ hS
    ⟨⟨rfl, rfl, (by show d1 + 1 ≤ R.frames; omega), (by show 8 + (N.2.2.1 + 11) + 40 * d1 ≤ R.locals; omega), hcw, by simp⟩, cx_w C _ hcal.1, cx_w C _ hcal.2.1, hcal.2.2.1, (fun sig hsg => by
      have h4 := hcal.2.2.2.1
      rw [hsg] at h4
      exact (Option.some.inj h4).symm), cx_w C _ hlk, cx_w C _ hcal.2.2.2.2⟩ ⟨gP2_blind, gP2_at hF C f9 hr hs⟩ rfl (by rw [List.length_map]; exact hnp) hl.1 (map_stkS as st) (lv_room (by omega)) hd ⟨by omega, by omega⟩) kk kx
/-- a method that catches, out of its body -/
theorem gS2_at {k1 n1 : Nat} {as : List sv} (ls0 : lc) (hy : plainName M.1.cls = true) (hlen : slen as ≤ M.2.2.1) (hls : largs 0 as ++ List.replicate (M.2.2.1 - slen as) none = ls0) (body : gZ NC G M d Q 0 ls0 [] k1 n1 h) : gS2 G M d k1 n1 as h Q := by
  refine vx_ofWH (cc := M.2.1) (maxL := M.2.2.1) (ret := M.2.2.2.1) (hh := M.2.2.2.2) (ws' := []) hy rfl ?_
  intro p e s m args below meth c s₁ B hml hv
  obtain ⟨⟨rfl, hrep, hsw, hgb⟩, hnc⟩ := hv
  have hlen' : (lg_sl (as.map tv)).length ≤ M.2.2.1 := by rw [sl_len]; exact hlen
  have hl := lv_entry (as.map tv) hlen'
  rw [lg_entry_eq]
  have hls9 : ∀ (i : Nat) (v : sv), ls0[i]? = some (some v) → (i, tv v) ∈ lv_args 0 (as.map tv) := fun i v hi => by
    rw [← hls] at hi
    have hlt : i < (largs 0 as).length := by
      rcases Nat.lt_or_ge i (largs 0 as).length with q | q
      · exact q
      · rw [List.getElem?_append_right q] at hi
        have := List.eq_of_mem_replicate (List.mem_of_getElem? hi)
        cases this
    rw [List.getElem?_append_left hlt] at hi
    have := largs_mem as 0 i v hi
    rw [Nat.zero_add] at this
    exact this
  exact body p e _ s m _ below meth c s.heap [] 0 0 k1 n1 ⟨B.exec, B.bytes, hml, B.returns, B.notSynchronized, vx_table (x := M.1) B (atoms_spec B.pre _ List.mem_cons_self), findClass_of_methodNamed B.named, (name_of_methodNamed B.named B.method).1, hsw, hgb, Nat.le_refl _, Nat.le_refl _, Nat.le_refl _, Nat.le_refl _⟩ hnc hrep va_S.rf (by omega) (by omega) _ (hasL_of hl hls9)
end VH

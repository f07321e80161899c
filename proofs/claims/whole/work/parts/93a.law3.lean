/-! ===== calls in the law's body; its small steps ===== -/
section VY
variable {F : State → Prop} {G : gG} {M : gM} {d : Nat} {Q : hQ} {pc : Nat} {ls : lc} {st : List sv} {k n : Nat} {h : hp}
theorem y_run {p : Program} {e : Env} {R : Room} {s : State} {m : MethodId} {args : Array Value} {below : List Frame} {meth : Method} {c : Code} {H : Heap} {locs : List Loc} {cells slots mc ms k1 n1 : Nat} {a' : Array Slot} {stk : List Value} {Q1 : hQ} {ar : Array Value} (C : cx G M d p R s m args meth c mc ms) (f9 : F s) (hs : va_S (gA G) s.heap H locs) (hk : cells + (k1 + k) ≤ mc) (hn : slots + (n1 + n) ≤ ms) (hl : hasL a' M.2.2.1 ls)
    (run : vx_Run p (gl G) e R s m args below meth c H locs cells slots k1 n1 (F0 m pc a' stk) (st.map tv) (QC G Q1 ar) (XC G Q1) (gA G))
    (kk : ∀ (v : Option sv) (h' : hp), Q1 (.inl v) h' → gZ F G M d Q (pc + 3) ls (v.toList ++ st) k n h') (kx : ∀ (E : String) (h' : hp), ¬ Q1 (.inr E) h') :
    W p (gl G) e R s m args below meth c H locs cells slots (vx_MQ below (QC G Q) (XC G Q) args s mc ms (gA G)) (F0 m pc a' stk) := by
  intro T hT X
  rcases run T hT X with ⟨v, st₀, t, T', L, h0, X', hL, e1, e2, ⟨v', h', hv, hq, hrep, hF⟩, stp⟩ | ⟨q, st₀, t, T', L, E, ce, h0, X', hL, e1, e2, ⟨h', n', hn', hq, hrep, hF⟩, hce, hcv, hcl, stp⟩
  · cases hv
    obtain ⟨k1', k2', k3'⟩ := vx_keep h0 e1 hs (fun q _ hq => hq) (fun q hq => hq) hL hF
    obtain ⟨t2, a1, b1⟩ := kk v' h' hq p e R s m args below meth c T'.heap (locs ++ L) (cells + k1) (slots + n1) mc ms C f9 (by rw [e1]; exact hrep) k3' (by omega) (by omega) a' hl T' rfl X'
    refine ⟨t2, stp t2 ?_, b1⟩
    have : (v'.map tv).toList ++ st.map tv = (v'.toList ++ st).map tv := by cases v' <;> rfl
    show Steps p.tables e below (T'.setTop { method := m, pc := pc + 3, locals := a', stack := (v'.map tv).toList ++ st.map tv, locked := none }) t2
    rw [this]
    exact a1
  · exact absurd hq (kx E h')
theorem y_V {idx np ci b d1 k1 n1 : Nat} {N : gM} {as : List sv} {Q1 : hQ} (hd : decode M.2.1 pc = .ok (.invokevirtual idx, 3)) (hlk : Cond.methodLink M.1.cls idx N.1 ∈ XW) (hcal : cal N np) (hcv : calV N) (hnp : as.length = np) (hci : ci < 11) (hC : N.1.cls = hk_C ci) (hb : (hT h b).1 = ci + 1)
    (hS : gS G N d1 k1 n1 (sr (some b) :: as) h Q1) (hdd : d1 + 1 ≤ d ∧ N.2.2.1 ≤ 21) (hst : st.length ≤ 4)
    (kk : ∀ (v : Option sv) (h' : hp), Q1 (.inl v) h' → gZ F G M d Q (pc + 3) ls (v.toList ++ st) k n h') (kx : ∀ (E : String) (h' : hp), ¬ Q1 (.inr E) h') : gZ F G M d Q pc ls (as.reverse ++ sr (some b) :: st) (k1 + k) (n1 + n) h := by
  intro p e R s m args below meth c H locs cells slots mc ms C f9 hr hs hk hn a' hl
  have hRm := cx_R C
  have hrecv : ∃ cellB : Cell, H[b]? = some cellB ∧ cellB.vm.isStatics = false ∧ s.vm.findClass N.1.cls = some cellB.cls := by
    have hat := (hr.2 b (by rw [hb]; exact Nat.succ_ne_zero _)).2
    rw [enc_obj hb hci] at hat
    rw [hC]
    exact va_recv (cx_K C) (one_P hat) (q0 := 0) (cls_at hci) rfl
  have hcat := cat_le st
  refine y_run (k1 := k1) (n1 := n1) C f9 hs hk hn hl (vx_runV (cc := M.2.1) (nL := M.2.2.1) (Ts := []) (own := M.1.cls) (C := N.1.cls) (b := b) (As := as.map tv) (n := np) ⟨C.1, C.2.1, C.2.2.1, cx_own C, fun w hw => nomatch hw⟩ hS ⟨cal_B C hcal hlk hdd, cx_w C _ hcv.1, cx_w C _ hcv.2⟩ ⟨gP_blind, hrecv, gP_at C hr hs⟩ rfl (by rw [List.length_map]; exact hnp) hl.1 (map_stk as b st) (lv_room (by omega)) hd ⟨by omega, by omega⟩) kk kx
theorem y_I {idx np b d1 k1 n1 : Nat} {N : gM} {as : List sv} {Q1 : hQ} (hd : decode M.2.1 pc = .ok (.invokespecial idx, 3)) (hlk : Cond.methodLink M.1.cls idx N.1 ∈ XW) (hcal : cal N np) (hci : Cond.instanceMethod N.1 ∈ XW) (hin : N.1.name = "<init>") (hvoid : N.2.2.2.1 = none) (hnp : as.length = np)
    (hS : gS G N d1 k1 n1 (sr (some b) :: as) h Q1) (hdd : d1 + 1 ≤ d ∧ N.2.2.1 ≤ 21) (hst : st.length ≤ 4)
    (kk : ∀ (v : Option sv) (h' : hp), Q1 (.inl v) h' → gZ F G M d Q (pc + 3) ls (v.toList ++ st) k n h') (kx : ∀ (E : String) (h' : hp), ¬ Q1 (.inr E) h') : gZ F G M d Q pc ls (as.reverse ++ sr (some b) :: st) (k1 + k) (n1 + n) h := by
  intro p e R s m args below meth c H locs cells slots mc ms C f9 hr hs hk hn a' hl
  have hRm := cx_R C
  have hcat := cat_le st
  have hB := cal_B (k1 := k1) (n1 := n1) C hcal hlk hdd
  have hS' := hS
  unfold gS at hS'
  rw [hvoid] at hB
  refine y_run (k1 := k1) (n1 := n1) C f9 hs hk hn hl (vx_runI (cc := M.2.1) (nL := M.2.2.1) (Ts := []) (own := M.1.cls) (b := b) (As := as.map tv) (n := np) ⟨C.1, C.2.1, C.2.2.1, cx_own C, fun w hw => nomatch hw⟩ hS' ⟨hB, hin, cx_w C _ hci⟩ ⟨gP_blind, gP_at (as := sr (some b) :: as) C hr hs⟩ rfl (by rw [List.length_map]; exact hnp) hl.1 (map_stk as b st) (lv_room (by omega)) hd ⟨by omega, by omega⟩) kk kx
theorem y_X {idx np d1 k1 n1 : Nat} {N : gM} {as : List sv} {Q1 : hQ} (hF : ∀ s, F s → NC s) (hd : decode M.2.1 pc = .ok (.invokestatic idx, 3)) (hlk : Cond.methodLink M.1.cls idx N.1 ∈ XW) (hcal : cal2 N np) (hnp : as.length = np)
    (hS : gS2 G N d1 k1 n1 as h Q1) (hdd : d1 + 1 ≤ d ∧ N.2.2.1 ≤ 21) (hst : st.length ≤ 4)
    (kk : ∀ (v : Option sv) (h' : hp), Q1 (.inl v) h' → gZ F G M d Q (pc + 3) ls (v.toList ++ st) k n h') (kx : ∀ (E : String) (h' : hp), ¬ Q1 (.inr E) h') : gZ F G M d Q pc ls (as.reverse ++ st) (k1 + k) (n1 + n) h := by
  intro p e R s m args below meth c H locs cells slots mc ms C f9 hr hs hk hn a' hl
  have hRm := cx_R C
  have hcat := cat_le st
  have hcw : ∀ w ∈ [Cond.codeWith N.1 N.2.1 N.2.2.1 N.2.2.2.1 N.2.2.2.2], ∀ (a' : Array Value) (U : State), s.WarmedH U.vm → w.before a' U = true := by
    intro w hw a' U hW
    have : w = Cond.codeWith N.1 N.2.1 N.2.2.1 N.2.2.2.1 N.2.2.2.2 := by simpa using hw
    subst this
    exact word_at hW (Or.inl rfl) (cx_w C _ hcal.1)
  refine y_run (k1 := k1) (n1 := n1) C f9 hs hk hn hl (vx_runSX (cc := M.2.1) (nL := M.2.2.1) (Ts := []) (own := M.1.cls) (As := as.map tv) (n := np) (bytes := N.2.1) (maxL := N.2.2.1) (ret := N.2.2.2.1) (hh := N.2.2.2.2) ⟨C.1, C.2.1, C.2.2.1, cx_own C, fun w hw => nomatch hw⟩ hS
    ⟨⟨rfl, rfl, (by show d1 + 1 ≤ R.frames; omega), (by show 8 + (N.2.2.1 + 11) + 40 * d1 ≤ R.locals; omega), hcw, by simp⟩, cx_w C _ hcal.1, cx_w C _ hcal.2.1, hcal.2.2.1, (fun sig hsg => by
      have h4 := hcal.2.2.2.1
      rw [hsg] at h4
      exact (Option.some.inj h4).symm), cx_w C _ hlk, cx_w C _ hcal.2.2.2.2⟩ ⟨gP2_blind, gP2_at hF C f9 hr hs⟩ rfl (by rw [List.length_map]; exact hnp) hl.1 (map_stkS as st) (lv_room (by omega)) hd ⟨by omega, by omega⟩) kk kx
end VY
/-- what the law's body knows of its start: which classes aren't among which, the script -/
def LF (b L : Nat) (xs : Nat → Int32) : State → Prop := fun s => NC s ∧ va_X b L xs s s.heap ∧ b < s.heap.size
def zb (x : Int32) : Int32 := if x = 0 then 0 else 1
theorem zb_01 (x : Int32) : zb x = 0 ∨ zb x = 1 := by unfold zb; split <;> simp
theorem lg_self (x : Int64) : lg_cmp x x = 0 := by
  unfold lg_cmp
  rw [if_neg (show ¬ x > x from Int64.lt_irrefl), if_pos rfl]
section VZ
variable {G : gG} {M : gM} {d : Nat} {Q : hQ} {pc : Nat} {ls : lc} {st : List sv} {k n : Nat} {h : hp} {b L : Nat} {xs : Nat → Int32} {F : State → Prop}
theorem z_sld {i : Int32} (hb : ¬ gb G ≤ b) (hd : decode M.2.1 pc = .ok (.iaload, 1)) (hin : vp_in i L) (kk : gZ (LF b L xs) G M d Q (pc + 1) ls (si (xs i.toNatClampNeg) :: st) k n h) : gZ (LF b L xs) G M d Q pc ls (si i :: sr (some b) :: st) k n h :=
  fun p e R s m args below meth c H locs cells slots mc ms C f9 hr hs hk hn a hl => va_sld C.1 C.2.1 f9.2.1 f9.2.2 hb hs hin hd (kk p e R s m args below meth c H locs cells slots mc ms C f9 hr hs hk hn a hl)
theorem z_slen (hb : ¬ gb G ≤ b) (hd : decode M.2.1 pc = .ok (.arraylength, 1)) (kk : gZ (LF b L xs) G M d Q (pc + 1) ls (si (nI L) :: st) k n h) : gZ (LF b L xs) G M d Q pc ls (sr (some b) :: st) k n h :=
  fun p e R s m args below meth c H locs cells slots mc ms C f9 hr hs hk hn a hl => va_slen C.1 C.2.1 f9.2.1 f9.2.2 hb hs hd (kk p e R s m args below meth c H locs cells slots mc ms C f9 hr hs hk hn a hl)
/-- script[i + j] -/
theorem y_arg {i : Nat} (j : Nat) {jz : Int} (hb : ¬ gb G ≤ b) (hL : L ≤ 2048) (hi : i + 4 ≤ L) (hj : j < 4) (hv : Int32.ofInt jz = nI j) (d0 : decode M.2.1 pc = .ok (.aload_n 0, 1)) (d1 : decode M.2.1 (pc + 1) = .ok (.iload 4, 2)) (d2 : decode M.2.1 (pc + 1 + 2) = .ok (.iconst jz, 1)) (d3 : decode M.2.1 (pc + 1 + 2 + 1) = .ok (.iadd, 1)) (d4 : decode M.2.1 (pc + 1 + 2 + 1 + 1) = .ok (.iaload, 1))
    (l0 : ls[0]? = some (some (sr (some b)))) (l4 : ls[4]? = some (some (si (nI i)))) (kk : gZ (LF b L xs) G M d Q (pc + 1 + 2 + 1 + 1 + 1) ls (si (xs (i + j)) :: st) k n h) : gZ (LF b L xs) G M d Q pc ls st k n h := by
  refine z_aload_n (i := 0) d0 rfl l0 (z_iload (i := 4) d1 l4 (z_iconst d2 hv (z_iadd d3 ?_)))
  rw [nI_add]
  refine z_sld hb d4 (vp_in_nI (by omega) (by omega)) ?_
  rw [nI_clamp (by omega)]
  exact kk
theorem y_nz {x : Int32} {off off2 : Int} (t u : Nat) (d0 : decode M.2.1 pc = .ok (.ifCond .eq off, 3)) (d1 : decode M.2.1 (pc + 3) = .ok (.iconst 1, 1)) (d2 : decode M.2.1 (pc + 3 + 1) = .ok (.goto off2, 3)) (d3 : decode M.2.1 t = .ok (.iconst 0, 1)) (ht : (pc : Int) + off = (t : Int)) (hu : ((pc + 3 + 1 : Nat) : Int) + off2 = (u : Int)) (htu : t + 1 = u)
    (kk : gZ F G M d Q u ls (si (zb x) :: st) k n h) : gZ F G M d Q pc ls (si x :: st) k n h := by
  refine z_if_eq t d0 ht (fun hc => ?_) (fun hc => ?_)
  · refine z_iconst (v := 0) d3 rfl ?_
    rw [htu]
    rw [show zb x = 0 from if_pos hc] at kk
    exact kk
  · refine z_iconst (v := 1) d1 rfl (z_goto u d2 hu ?_)
    rw [show zb x = 1 from if_neg hc] at kk
    exact kk
theorem y_nzl {x : Int32} {off off2 : Int} (t u : Nat) (d0 : decode M.2.1 pc = .ok (.ifCond .eq off, 3)) (d1 : decode M.2.1 (pc + 3) = .ok (.lconst 1, 1)) (d2 : decode M.2.1 (pc + 3 + 1) = .ok (.goto off2, 3)) (d3 : decode M.2.1 t = .ok (.lconst 0, 1)) (ht : (pc : Int) + off = (t : Int)) (hu : ((pc + 3 + 1 : Nat) : Int) + off2 = (u : Int)) (htu : t + 1 = u)
    (kk : gZ F G M d Q u ls (sl (b2l x) :: st) k n h) : gZ F G M d Q pc ls (si x :: st) k n h := by
  refine z_if_eq t d0 ht (fun hc => ?_) (fun hc => ?_)
  · refine z_lconst (v := 0) d3 rfl ?_
    rw [htu]
    rw [show b2l x = 0 from if_pos hc] at kk
    exact kk
  · refine z_lconst (v := 1) d1 rfl (z_goto u d2 hu ?_)
    rw [show b2l x = 1 from if_neg hc] at kk
    exact kk
end VZ
/-- the heap behind a call that may throw -/
def HH (h' : hp) (o : Nat) (cv : Int32 → Int64) (a : Int32 ⊕ String) (h2 : hp) : Prop := match a with
  | .inl b => h2 = wJ h' o 0 (cv b)
  | .inr _ => ∃ n, hN h' ≤ n ∧ h2 = wS h' n
theorem An.wr {es : List String} {a : Int32 ⊕ String} {r : aS} (x : An es a r) (o : Nat) (cv : Int32 → Int64) (h' : hp) : WrQ o cv es a h' (fun o9 h9 => o9 = .inl (some (si r.1)) ∧ HH h' o cv a h9) := by
  rcases x with ⟨h1, rfl⟩ | ⟨k, h1, h2, rfl⟩
  · show (_ = _ ∧ _)
    rw [h1]
    exact ⟨rfl, rfl⟩
  · refine ⟨k, h1, rfl, fun n hn => ?_⟩
    rw [h2]
    exact ⟨rfl, n, hn, rfl⟩
theorem An.out {es : List String} {a : Int32 ⊕ String} {r : aS} (x : An es a r) (hes : es.length ≤ 3) {o : Nat} {cv : Int32 → Int64} {h' h2 : hp} (hz : r.1 = 0) (hh : HH h' o cv a h2) : hJ h2 o 0 = cv r.2.1 := by
  rcases x with ⟨h1, rfl⟩ | ⟨k, h1, h2', rfl⟩
  · have : h2 = wJ h' o 0 (cv r.2.1) := hh
    rw [this]
    show up2 _ o 0 _ o 0 = _
    rw [up2_at, if_pos rfl]
  · rw [hz] at h2'
    exact absurd h2'.symm (fun w => by
      have w2 := congrArg Int32.toNatClampNeg w
      rw [nI_clamp (by omega)] at w2
      exact absurd w2 (by simp))
/-- the reference's call at h2, and what it threw -/
def MM (G : gG) (N : gM) (d : Nat) (as : List sv) (m o : Nat) (r : aS) (M : hp → hp) (h2 : hp) : Prop :=
  (hT h2 m).1 = 11 ∧ (∀ Q1 : hQ, Q1 (.inl (some (si r.2.1))) (M h2) → gS G N d 0 0 (sr (some m) :: as) h2 Q1) ∧ (hT (M h2) m).1 = 11 ∧ (∀ Q1 : hQ, Q1 (.inl (some (si r.1))) (M h2) → gS G mX11_thrown 0 0 0 [sr (some m)] (M h2) Q1) ∧ hT (M h2) o = (24, 1) ∧ hJ (M h2) o 0 = hJ h2 o 0
abbrev mLw (nm : String) (hh : List (Nat × Nat × Nat × Nat)) : gM := (⟨RL, nm, "([I)Z"⟩, cL_law, 7, some .boolean, hh)
theorem law_less {b x m o : Option Nat} {i : Int32} {u v : Option sv} : ∀ (j : Nat) (w : sv), ([some (sr b), some (sr x), some (sr m), some (sr o), some (si i), none, none] : lc)[j]? = some (some w) → ([some (sr b), some (sr x), some (sr m), some (sr o), some (si i), u, v] : lc)[j]? = some (some w)
  | 0, _, h => h
  | 1, _, h => h
  | 2, _, h => h
  | 3, _, h => h
  | 4, _, h => h
  | 5, _, h => nomatch h
  | 6, _, h => nomatch h
  | j + 7, _, h => nomatch h

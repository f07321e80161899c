/-! ===== a body of whose start F is known: the rows of gV said for it ===== -/
def gZ (F : State → Prop) (G : gG) (M : gM) (d : Nat) (Q : hQ) (pc : Nat) (ls : lc) (st : List sv) (k n : Nat) (h : hp) : Prop :=
  ∀ (p : Program) (e : Env) (R : Room) (s : State) (m : MethodId) (args : Array Value) (below : List Frame) (meth : Method) (c : Code) (H : Heap) (locs : List Loc) (cells slots mc ms : Nat), cx G M d p R s m args meth c mc ms → F s → Rep G h H → va_S (gA G) s.heap H locs → cells + k ≤ mc → slots + n ≤ ms →
    ∀ a : Array Slot, hasL a M.2.2.1 ls → W p (gl G) e R s m args below meth c H locs cells slots (vx_MQ below (QC G Q) (XC G Q) args s mc ms (gA G)) (F0 m pc a (st.map tv))
section VL
variable {F : State → Prop} {G : gG} {M : gM} {d : Nat} {Q : hQ} {pc : Nat} {ls : lc} {st : List sv} {k n : Nat} {h : hp}
theorem z_iconst {i : Int} {v : Int32} (hd : decode M.2.1 pc = .ok (.iconst i, 1)) (hv : Int32.ofInt i = v) (kk : gZ F G M d Q (pc + 1) ls (si v :: st) k n h) : gZ F G M d Q pc ls (st) k n h :=
  fun p e R s m args below meth c H locs cells slots mc ms C f9 hr hs hk hn a hl => lv_iconst C.1 C.2.1 hd hv (kk p e R s m args below meth c H locs cells slots mc ms C f9 hr hs hk hn a hl)
theorem z_bipush {i : Int} {v : Int32} (hd : decode M.2.1 pc = .ok (.bipush i, 2)) (hv : (Int8.ofInt i).toInt32 = v) (kk : gZ F G M d Q (pc + 2) ls (si v :: st) k n h) : gZ F G M d Q pc ls (st) k n h :=
  fun p e R s m args below meth c H locs cells slots mc ms C f9 hr hs hk hn a hl => lv_bipush C.1 C.2.1 hd hv (kk p e R s m args below meth c H locs cells slots mc ms C f9 hr hs hk hn a hl)
theorem z_lconst {i : Fin 2} {v : Int64} (hd : decode M.2.1 pc = .ok (.lconst i, 1)) (hv : Int64.ofNat (i : Nat) = v) (kk : gZ F G M d Q (pc + 1) ls (sl v :: st) k n h) : gZ F G M d Q pc ls (st) k n h :=
  fun p e R s m args below meth c H locs cells slots mc ms C f9 hr hs hk hn a hl => lv_lconst C.1 C.2.1 hd hv (kk p e R s m args below meth c H locs cells slots mc ms C f9 hr hs hk hn a hl)
theorem z_iadd {x y : Int32} (hd : decode M.2.1 pc = .ok (.iadd, 1)) (kk : gZ F G M d Q (pc + 1) ls (si (x + y) :: st) k n h) : gZ F G M d Q pc ls (si y :: si x :: st) k n h :=
  fun p e R s m args below meth c H locs cells slots mc ms C f9 hr hs hk hn a hl => lv_iadd C.1 C.2.1 hd (kk p e R s m args below meth c H locs cells slots mc ms C f9 hr hs hk hn a hl)
theorem z_isub {x y : Int32} (hd : decode M.2.1 pc = .ok (.isub, 1)) (kk : gZ F G M d Q (pc + 1) ls (si (x - y) :: st) k n h) : gZ F G M d Q pc ls (si y :: si x :: st) k n h :=
  fun p e R s m args below meth c H locs cells slots mc ms C f9 hr hs hk hn a hl => lv_isub C.1 C.2.1 hd (kk p e R s m args below meth c H locs cells slots mc ms C f9 hr hs hk hn a hl)
theorem z_iand {x y : Int32} (hd : decode M.2.1 pc = .ok (.iand, 1)) (kk : gZ F G M d Q (pc + 1) ls (si (x &&& y) :: st) k n h) : gZ F G M d Q pc ls (si y :: si x :: st) k n h :=
  fun p e R s m args below meth c H locs cells slots mc ms C f9 hr hs hk hn a hl => lv_iand C.1 C.2.1 hd (kk p e R s m args below meth c H locs cells slots mc ms C f9 hr hs hk hn a hl)
theorem z_i2l {x : Int32} (hd : decode M.2.1 pc = .ok (.i2l, 1)) (kk : gZ F G M d Q (pc + 1) ls (sl x.toInt64 :: st) k n h) : gZ F G M d Q pc ls (si x :: st) k n h :=
  fun p e R s m args below meth c H locs cells slots mc ms C f9 hr hs hk hn a hl => lv_i2l C.1 C.2.1 hd rfl (kk p e R s m args below meth c H locs cells slots mc ms C f9 hr hs hk hn a hl)
theorem z_lcmp {x y : Int64} (hd : decode M.2.1 pc = .ok (.lcmp, 1)) (kk : gZ F G M d Q (pc + 1) ls (si (lg_cmp x y) :: st) k n h) : gZ F G M d Q pc ls (sl y :: sl x :: st) k n h :=
  fun p e R s m args below meth c H locs cells slots mc ms C f9 hr hs hk hn a hl => W.lcmp C.1 C.2.1 hd (kk p e R s m args below meth c H locs cells slots mc ms C f9 hr hs hk hn a hl)
theorem z_dup {v : sv} (hd : decode M.2.1 pc = .ok (.dup, 1)) (hv : s2 v = false) (kk : gZ F G M d Q (pc + 1) ls (v :: v :: st) k n h) : gZ F G M d Q pc ls (v :: st) k n h :=
  fun p e R s m args below meth c H locs cells slots mc ms C f9 hr hs hk hn a hl => lv_dup C.1 C.2.1 hd (show (tv v).category = 1 by rw [tv_cat, hv]; rfl) (kk p e R s m args below meth c H locs cells slots mc ms C f9 hr hs hk hn a hl)
theorem z_goto {off : Int} (t : Nat) (hd : decode M.2.1 pc = .ok (.goto off, 3)) (ht : (pc : Int) + off = (t : Int)) (kk : gZ F G M d Q t ls st k n h) : gZ F G M d Q pc ls st k n h :=
  fun p e R s m args below meth c H locs cells slots mc ms C f9 hr hs hk hn a hl => lv_goto C.1 C.2.1 hd ht (kk p e R s m args below meth c H locs cells slots mc ms C f9 hr hs hk hn a hl)
theorem z_if_eq {x : Int32} {off : Int} (t : Nat) (hd : decode M.2.1 pc = .ok (.ifCond .eq off, 3)) (ht : (pc : Int) + off = (t : Int)) (kt : x = 0 → gZ F G M d Q t ls st k n h) (kf : ¬ x = 0 → gZ F G M d Q (pc + 3) ls st k n h) : gZ F G M d Q pc ls (si x :: st) k n h :=
  fun p e R s m args below meth c H locs cells slots mc ms C f9 hr hs hk hn a hl => lv_if_eq C.1 C.2.1 hd ht (fun z => kt z p e R s m args below meth c H locs cells slots mc ms C f9 hr hs hk hn a hl) (fun z => kf z p e R s m args below meth c H locs cells slots mc ms C f9 hr hs hk hn a hl)
theorem z_if_ne {x : Int32} {off : Int} (t : Nat) (hd : decode M.2.1 pc = .ok (.ifCond .ne off, 3)) (ht : (pc : Int) + off = (t : Int)) (kt : ¬ x = 0 → gZ F G M d Q t ls st k n h) (kf : x = 0 → gZ F G M d Q (pc + 3) ls st k n h) : gZ F G M d Q pc ls (si x :: st) k n h :=
  fun p e R s m args below meth c H locs cells slots mc ms C f9 hr hs hk hn a hl => lv_if_ne C.1 C.2.1 hd ht (fun z => kt z p e R s m args below meth c H locs cells slots mc ms C f9 hr hs hk hn a hl) (fun z => kf z p e R s m args below meth c H locs cells slots mc ms C f9 hr hs hk hn a hl)
theorem z_icmp_eq {x y : Int32} {off : Int} (t : Nat) (hd : decode M.2.1 pc = .ok (.if_icmp .eq off, 3)) (ht : (pc : Int) + off = (t : Int)) (kt : x = y → gZ F G M d Q t ls st k n h) (kf : ¬ x = y → gZ F G M d Q (pc + 3) ls st k n h) : gZ F G M d Q pc ls (si y :: si x :: st) k n h :=
  fun p e R s m args below meth c H locs cells slots mc ms C f9 hr hs hk hn a hl => lv_icmp_eq C.1 C.2.1 hd ht (fun z => kt z p e R s m args below meth c H locs cells slots mc ms C f9 hr hs hk hn a hl) (fun z => kf z p e R s m args below meth c H locs cells slots mc ms C f9 hr hs hk hn a hl)
theorem z_icmp_gt {x y : Int32} {off : Int} (t : Nat) (hd : decode M.2.1 pc = .ok (.if_icmp .gt off, 3)) (ht : (pc : Int) + off = (t : Int)) (kt : y < x → gZ F G M d Q t ls st k n h) (kf : ¬ y < x → gZ F G M d Q (pc + 3) ls st k n h) : gZ F G M d Q pc ls (si y :: si x :: st) k n h :=
  fun p e R s m args below meth c H locs cells slots mc ms C f9 hr hs hk hn a hl => lv_icmp_gt C.1 C.2.1 hd ht (fun z => kt z p e R s m args below meth c H locs cells slots mc ms C f9 hr hs hk hn a hl) (fun z => kf z p e R s m args below meth c H locs cells slots mc ms C f9 hr hs hk hn a hl)
theorem z_iload_n {j : Fin 4} {i : Nat} {x : Int32} (hd : decode M.2.1 pc = .ok (.iload_n j, 1)) (hi : (j : Nat) = i) (hx : ls[i]? = some (some (si x))) (kk : gZ F G M d Q (pc + 1) ls (si x :: st) k n h) : gZ F G M d Q pc ls st k n h :=
  fun p e R s m args below meth c H locs cells slots mc ms C f9 hr hs hk hn a hl => lv_iload_n C.1 C.2.1 hd hi (hasL_at hl hx) (kk p e R s m args below meth c H locs cells slots mc ms C f9 hr hs hk hn a hl)
theorem z_iload {i : Nat} {x : Int32} (hd : decode M.2.1 pc = .ok (.iload i, 2)) (hx : ls[i]? = some (some (si x))) (kk : gZ F G M d Q (pc + 2) ls (si x :: st) k n h) : gZ F G M d Q pc ls st k n h :=
  fun p e R s m args below meth c H locs cells slots mc ms C f9 hr hs hk hn a hl => lv_iload C.1 C.2.1 hd (hasL_at hl hx) (kk p e R s m args below meth c H locs cells slots mc ms C f9 hr hs hk hn a hl)
theorem z_aload_n {j : Fin 4} {i : Nat} {r : Option Nat} (hd : decode M.2.1 pc = .ok (.aload_n j, 1)) (hi : (j : Nat) = i) (hx : ls[i]? = some (some (sr r))) (kk : gZ F G M d Q (pc + 1) ls (sr r :: st) k n h) : gZ F G M d Q pc ls st k n h := by
  intro p e R s m args below meth c H locs cells slots mc ms C f9 hr hs hk hn a hl
  have K := kk p e R s m args below meth c H locs cells slots mc ms C f9 hr hs hk hn a hl
  have hv := hasL_at hl hx
  cases r with
  | none => exact lv_aload_nN C.1 C.2.1 hd hi hv K
  | some x => exact lv_aload_n C.1 C.2.1 hd hi hv K
theorem z_aload {i : Nat} {r : Option Nat} (hd : decode M.2.1 pc = .ok (.aload i, 2)) (hx : ls[i]? = some (some (sr r))) (kk : gZ F G M d Q (pc + 2) ls (sr r :: st) k n h) : gZ F G M d Q pc ls st k n h := by
  intro p e R s m args below meth c H locs cells slots mc ms C f9 hr hs hk hn a hl
  have K := kk p e R s m args below meth c H locs cells slots mc ms C f9 hr hs hk hn a hl
  have hv := hasL_at hl hx
  cases r with
  | none => exact lv_aloadN C.1 C.2.1 hd hv K
  | some x => exact lv_aload C.1 C.2.1 hd hv K
theorem z_istore_n {j : Fin 4} {i : Nat} {x : Int32} (ls' : lc) (hd : decode M.2.1 pc = .ok (.istore_n j, 1)) (hi : (j : Nat) = i) (hn' : i < M.2.2.1) (ho : okS ls i = true) (he : ls.set i (some (si x)) = ls') (kk : gZ F G M d Q (pc + 1) ls' st k n h) : gZ F G M d Q pc ls (si x :: st) k n h := by
  intro p e R s m args below meth c H locs cells slots mc ms C f9 hr hs hk hn a hl
  subst he
  exact lv_istore_n C.1 C.2.1 hd hi hl hn' rfl (fun a' hl' => kk p e R s m args below meth c H locs cells slots mc ms C f9 hr hs hk hn a' (set1 ho hl'))
theorem z_istore {i : Nat} {x : Int32} (ls' : lc) (hd : decode M.2.1 pc = .ok (.istore i, 2)) (hn' : i < M.2.2.1) (ho : okS ls i = true) (he : ls.set i (some (si x)) = ls') (kk : gZ F G M d Q (pc + 2) ls' st k n h) : gZ F G M d Q pc ls (si x :: st) k n h := by
  intro p e R s m args below meth c H locs cells slots mc ms C f9 hr hs hk hn a hl
  subst he
  exact lv_istore C.1 C.2.1 hd hl hn' rfl (fun a' hl' => kk p e R s m args below meth c H locs cells slots mc ms C f9 hr hs hk hn a' (set1 ho hl'))
theorem z_astore_n {j : Fin 4} {i : Nat} {r : Option Nat} (ls' : lc) (hd : decode M.2.1 pc = .ok (.astore_n j, 1)) (hi : (j : Nat) = i) (hn' : i < M.2.2.1) (ho : okS ls i = true) (he : ls.set i (some (sr r)) = ls') (kk : gZ F G M d Q (pc + 1) ls' st k n h) : gZ F G M d Q pc ls (sr r :: st) k n h := by
  intro p e R s m args below meth c H locs cells slots mc ms C f9 hr hs hk hn a hl
  subst he
  cases r with
  | none => exact lv_astore_nN C.1 C.2.1 hd hi hl hn' rfl (fun a' hl' => kk p e R s m args below meth c H locs cells slots mc ms C f9 hr hs hk hn a' (set1 ho hl'))
  | some x => exact lv_astore_n C.1 C.2.1 hd hi hl hn' rfl (fun a' hl' => kk p e R s m args below meth c H locs cells slots mc ms C f9 hr hs hk hn a' (set1 ho hl'))
theorem z_astore {i : Nat} {r : Option Nat} (ls' : lc) (hd : decode M.2.1 pc = .ok (.astore i, 2)) (hn' : i < M.2.2.1) (ho : okS ls i = true) (he : ls.set i (some (sr r)) = ls') (kk : gZ F G M d Q (pc + 2) ls' st k n h) : gZ F G M d Q pc ls (sr r :: st) k n h := by
  intro p e R s m args below meth c H locs cells slots mc ms C f9 hr hs hk hn a hl
  subst he
  cases r with
  | none => exact lv_astoreN C.1 C.2.1 hd hl hn' rfl (fun a' hl' => kk p e R s m args below meth c H locs cells slots mc ms C f9 hr hs hk hn a' (set1 ho hl'))
  | some x => exact lv_astore C.1 C.2.1 hd hl hn' rfl (fun a' hl' => kk p e R s m args below meth c H locs cells slots mc ms C f9 hr hs hk hn a' (set1 ho hl'))
theorem z_iinc {i : Nat} {z : Int} {x : Int32} (v : Int32) (ls' : lc) (hd : decode M.2.1 pc = .ok (.iinc i z, 3)) (hx : ls[i]? = some (some (si x))) (hv : x + Int32.ofInt z = v) (ho : okS ls i = true) (he : ls.set i (some (si v)) = ls') (kk : gZ F G M d Q (pc + 3) ls' st k n h) : gZ F G M d Q pc ls st k n h := by
  intro p e R s m args below meth c H locs cells slots mc ms C f9 hr hs hk hn a hl
  subst he
  obtain ⟨j, hj⟩ := List.getElem?_of_mem ((asc_mem ls 0).mpr ⟨i, _, hx, rfl⟩)
  rw [Nat.zero_add] at hj
  exact lv_iinc C.1 C.2.1 hd hl hj hv (hasL_lt hl hx) rfl (fun a' hl' => kk p e R s m args below meth c H locs cells slots mc ms C f9 hr hs hk hn a' (set1 ho hl'))
theorem z_room {k' n' : Nat} (h1 : k' ≤ k) (h2 : n' ≤ n) (kk : gZ F G M d Q pc ls st k' n' h) : gZ F G M d Q pc ls st k n h :=
  fun p e R s m args below meth c H locs cells slots mc ms C f9 hr hs hk hn a hl => kk p e R s m args below meth c H locs cells slots mc ms C f9 hr hs (by omega) (by omega) a hl
theorem z_lald {a : Nat} {i : Int32} (hd : decode M.2.1 pc = .ok (.laload, 1)) (ht : (hT h a).1 = 24) (hin : vp_in i (hT h a).2) (kk : gZ F G M d Q (pc + 1) ls (sl (hJ h a i.toNatClampNeg) :: st) k n h) : gZ F G M d Q pc ls (si i :: sr (some a) :: st) k n h := by
  intro p e R s m args below meth c H locs cells slots mc ms C f9 hr hs hk hn a' hl
  have hat := (hr.2 a (by rw [ht]; decide)).2
  rw [enc_24 ht] at hat
  exact va_lald C.1 C.2.1 (cx_K C) (one_P hat) 0 4 rfl rfl hin hd (kk p e R s m args below meth c H locs cells slots mc ms C f9 hr hs hk hn a' hl)
theorem z_last {a : Nat} {i : Int32} {x : Int64} (hd : decode M.2.1 pc = .ok (.lastore, 1)) (ht : (hT h a).1 = 24) (hin : vp_in i (hT h a).2) (kk : gZ F G M d Q (pc + 1) ls st k n (wJ h a i.toNatClampNeg x)) : gZ F G M d Q pc ls (sl x :: si i :: sr (some a) :: st) k n h := by
  intro p e R s m args below meth c H locs cells slots mc ms C f9 hr hs hk hn a' hl
  have hne : (hT h a).1 ≠ 0 := by rw [ht]; decide
  have hat := (hr.2 a hne).2
  rw [enc_24 ht] at hat
  refine W.last C.1 C.2.1 hat (((cx_K C).2 4 _ rfl).1 (hT h a).2 (fun j => .long (hJ h a j))) (fun q => by cases q) (by show ¬ (i < 0 ∨ (arrV _ _ _).slots.size ≤ _); rw [arrV_size]; exact hin) rfl rfl hd fun H1 e1 z oq => ?_
  refine kk p e R s m args below meth c H1 _ cells slots mc ms C f9 ?_ (hs.put z oq (hr.2 a hne).1) hk hn a' hl
  refine rep_at hr hne z oq rfl rfl wJ_enc ?_
  rw [enc_24 (show (hT (wJ h a i.toNatClampNeg x) a).1 = 24 from ht)]
  show H1[a]? = some (vp_cell _ _)
  rw [e1, vp_cell_l, vp_cell_l, arrV_store]
  congr 2
  funext q
  show updV _ _ _ q = .long (up2 _ a _ x a q)
  rw [up2_at]
  by_cases hq : q = i.toNatClampNeg
  · subst hq; simp [updV]
  · simp [updV, hq]; rfl
theorem z_new {idx ci : Nat} (hd : decode M.2.1 pc = .ok (.new idx, 3)) (hci : ci < 11) (hlk : Cond.classLink M.1.cls idx (hk_C ci) ∈ XW) (hins : Cond.instantiable (hk_C ci) (hk_N ci) ∈ XW) (hini : Cond.initialized (hk_C ci) ∈ XW)
    (kk : gZ F G M d Q (pc + 3) ls (sr (some (hN h)) :: st) k n (wN h (ci + 1, 0))) : gZ F G M d Q pc ls st (k + 1) (n + hk_N ci) h := by
  intro p e R s m args below meth c H locs cells slots mc ms C f9 hr hs hk hn a' hl
  have hc := cls_at hci
  have hKn := (cx_K C).1 ci _ hc
  have hsz := hr.1
  have hRm := cx_R C
  refine W.newcK C.1 C.2.1 (cx_own C) (cx_w C _ hlk) (cx_w C _ hins) (cx_w C _ hini) rfl hd (by omega) (by omega) hKn.2.1 rfl fun H1 kC hkC e1 z1 o1 => ?_
  have K := kk p e R s m args below meth c H1 locs (cells + 1) (slots + hk_N ci) mc ms C f9 (rep_new hr z1 o1 (Nat.le_trans (cx_gb C) hs.1) ?_) (S_push hs z1 o1) (by omega) (by omega) a' hl
  · rw [← hsz] at K; exact K
  · have ht : (hT (wN h (ci + 1, 0)) H.size).1 = ci + 1 := by
      have : hT (wN h (ci + 1, 0)) H.size = (ci + 1, 0) := if_pos (by rw [hsz]; rfl)
      rw [this]
    rw [enc_obj ht hci]
    refine ⟨_, hc, (u_born (hk_ty ci) (cx_w C) (cls_w hci) hKn hkC e1 (cls_ty hci)).to fun j hj => ?_⟩
    rw [hsz]
    exact flds_new hci hj
theorem z_newJ {x : Int32} {len : Nat} (hd : decode M.2.1 pc = .ok (.newarray .long, 2)) (hx : x = nI len) (hb : len < 4096) (kk : gZ F G M d Q (pc + 2) ls (sr (some (hN h)) :: st) k n (wN h (24, len))) : gZ F G M d Q pc ls (si x :: st) (k + 1) (n + len) h := by
  intro p e R s m args below meth c H locs cells slots mc ms C f9 hr hs hk hn a' hl
  subst hx
  have hsz := hr.1
  have hRm := cx_R C
  refine va_newaK (atype := .long) C.1 C.2.1 ((cx_sw C).1.2.2.1 .long args (Or.inr (Or.inr rfl))) rfl hd rfl (nI_pos (by omega)) (nI_clamp (by omega)) (show len * 8 ≤ 536870912 by omega) (by omega) (by omega) rfl fun H1 cA e1 z1 o1 _ hNm => ?_
  have hcA : cA = gc G 24 := newa_ty C (t := 4) rfl (Or.inr (Or.inr rfl)) hNm
  subst hcA
  have K := kk p e R s m args below meth c H1 locs (cells + 1) (slots + len) mc ms C f9 (rep_new hr z1 o1 (Nat.le_trans (cx_gb C) hs.1) ?_) (S_push hs z1 o1) (by omega) (by omega) a' hl
  · rw [← hsz] at K; exact K
  · have ht : hT (wN h (24, len)) H.size = (24, len) := if_pos (by rw [hsz]; rfl)
    rw [enc_24 (by rw [ht]), ht]
    show H1[H.size]? = some (vp_cell _ _)
    rw [e1, vp_cell_l]
    congr 2
    funext j
    have : hJ (wN h (24, len)) H.size j = 0 := if_pos (by rw [hsz]; rfl)
    rw [this]
    rfl
theorem z_iret {x : Int32} {ty : FieldType} (hd : decode M.2.1 pc = .ok (.ireturn, 1)) (hret : M.2.2.2.1 = some ty) (hnar : narrow ty (.int x) = .int x) (hq : Q (.inl (some (si x))) h) : gZ F G M d Q pc ls [si x] k n h := by
  intro p e R s m args below meth c H locs cells slots mc ms C f9 hr hs hk hn a' hl
  refine W.widen (k := mc) (n := ms) (by omega) (by omega) (vx_ret ?_)
  exact W.zret C.1 C.2.1 (C.2.2.2.1.trans hret) hnar (fin_Q (p := p) (R := R) (m := m) (meth := meth) (c := c) (mc := mc) (ms := ms) hr hs hq) hs.2.2 hd C.2.2.2.2.1
theorem z_run_on {p : Program} {e : Env} {R : Room} {s : State} {m : MethodId} {args : Array Value} {below : List Frame} {meth : Method} {c : Code} {H : Heap} {locs : List Loc} {cells slots mc ms k1 n1 : Nat} {a' : Array Slot} {stk : List Value} {Q1 : hQ} {ar : Array Value} (C : cx G M d p R s m args meth c mc ms) (f9 : F s) (hh : M.2.2.2.2 = []) (hs : va_S (gA G) s.heap H locs) (hk : cells + (k1 + k) ≤ mc) (hn : slots + (n1 + n) ≤ ms) (hl : hasL a' M.2.2.1 ls)
    (run : vx_Run p (gl G) e R s m args below meth c H locs cells slots k1 n1 (F0 m pc a' stk) (st.map tv) (QC G Q1 ar) (XC G Q1) (gA G))
    (kk : ∀ (v : Option sv) (h' : hp), Q1 (.inl v) h' → gZ F G M d Q (pc + 3) ls (v.toList ++ st) k n h') (kx : ∀ (E : String) (h' : hp), Q1 (.inr E) h' → Q (.inr E) h') :
    W p (gl G) e R s m args below meth c H locs cells slots (vx_MQ below (QC G Q) (XC G Q) args s mc ms (gA G)) (F0 m pc a' stk) := by
  intro T hT X
  rcases run T hT X with ⟨v, st₀, t, T', L, h0, X', hL, e1, e2, ⟨v', h', hv, hq, hrep, hF⟩, stp⟩ | ⟨q, st₀, t, T', L, E, ce, h0, X', hL, e1, e2, ⟨h', n', hn', hq, hrep, hF⟩, hce, hcv, hcl, stp⟩
  · cases hv
    obtain ⟨k1', k2', k3'⟩ := vx_keep h0 e1 hs (fun q _ hq => hq) (fun q hq => hq) hL hF
    obtain ⟨t2, a1, b1⟩ := kk v' h' hq p e R s m args below meth c T'.heap (locs ++ L) (cells + k1) (slots + n1) mc ms C f9 (by rw [e1]; exact hrep) k3' (by omega) (by omega) a' hl T' rfl X'
    refine ⟨t2, stp t2 ?_, b1⟩
    have : (v'.map tv).toList ++ st.map tv = (v'.toList ++ st).map tv := by cases v' <;> rfl
    show Steps p.tables e below (T'.setTop { method := m, pc := pc + 3, locals := a', stack := (v'.map tv).toList ++ st.map tv, locked := none }) t2
    rw [this]
    exact a1
  · obtain ⟨k1', k2', k3'⟩ := vx_keep h0 e1 hs (fun q _ hq => hq) (fun q hq => hq) hL hF
    have hRm := cx_R C
    have ho : ∀ x ∈ c.exceptionTable.toList, covers x pc = false := by
      rw [C.2.2.2.2.2.1, hh]
      intro x hx
      cases hx
    obtain ⟨t2, a1, b1⟩ := vx_out (Qc := QC G Q) (XC := XC G Q) (free := gA G) (mc := mc) (ms := ms) (pc := pc) (rest := st.map tv) (ls := a') (below := below) (p := p) (l := gl G) (e := e) (R := R) (args := args) ho C.2.2.2.2.1 (H := T'.heap) (q := q) (by rw [e1]; exact hce) hcv hcl
      (fun t9 ht9 _ => ⟨h', n', hn', kx E h' hq, by rw [ht9, e1]; exact hrep, k3'.F ht9⟩) (locs := locs ++ L) k3'.2.2 (cells := cells + k1) (slots := slots + n1) (by omega) (by omega) T' rfl X'
    exact ⟨t2, stp.trans a1, b1⟩
theorem z_invV {idx np ci b d1 k1 n1 : Nat} {N : gM} {as : List sv} {Q1 : hQ} (hd : decode M.2.1 pc = .ok (.invokevirtual idx, 3)) (hlk : Cond.methodLink M.1.cls idx N.1 ∈ XW) (hcal : cal N np) (hcv : calV N) (hnp : as.length = np) (hci : ci < 11) (hC : N.1.cls = hk_C ci) (hb : (hT h b).1 = ci + 1)
    (hS : gS G N d1 k1 n1 (sr (some b) :: as) h Q1) (hdd : d1 + 1 ≤ d ∧ N.2.2.1 ≤ 21) (hst : st.length ≤ 4) (hh : M.2.2.2.2 = [])
    (kk : ∀ (v : Option sv) (h' : hp), Q1 (.inl v) h' → gZ F G M d Q (pc + 3) ls (v.toList ++ st) k n h') (kx : ∀ (E : String) (h' : hp), Q1 (.inr E) h' → Q (.inr E) h') : gZ F G M d Q pc ls (as.reverse ++ sr (some b) :: st) (k1 + k) (n1 + n) h := by
  intro p e R s m args below meth c H locs cells slots mc ms C f9 hr hs hk hn a' hl
  have hRm := cx_R C
  have hrecv : ∃ cellB : Cell, H[b]? = some cellB ∧ cellB.vm.isStatics = false ∧ s.vm.findClass N.1.cls = some cellB.cls := by
    have hat := (hr.2 b (by rw [hb]; exact Nat.succ_ne_zero _)).2
    rw [enc_obj hb hci] at hat
    rw [hC]
    exact va_recv (cx_K C) (one_P hat) (q0 := 0) (cls_at hci) rfl
  have hcat := cat_le st
  refine z_run_on (k1 := k1) (n1 := n1) C f9 hh hs hk hn hl (vx_runV (cc := M.2.1) (nL := M.2.2.1) (Ts := []) (own := M.1.cls) (C := N.1.cls) (b := b) (As := as.map tv) (n := np) ⟨C.1, C.2.1, C.2.2.1, cx_own C, fun w hw => nomatch hw⟩ hS ⟨cal_B C hcal hlk hdd, cx_w C _ hcv.1, cx_w C _ hcv.2⟩ ⟨gP_blind, hrecv, gP_at C hr hs⟩ rfl (by rw [List.length_map]; exact hnp) hl.1 (map_stk as b st) (lv_room (by omega)) hd ⟨by omega, by omega⟩) kk kx
theorem z_invI {idx np b d1 k1 n1 : Nat} {N : gM} {as : List sv} {Q1 : hQ} (hd : decode M.2.1 pc = .ok (.invokespecial idx, 3)) (hlk : Cond.methodLink M.1.cls idx N.1 ∈ XW) (hcal : cal N np) (hci : Cond.instanceMethod N.1 ∈ XW) (hin : N.1.name = "<init>") (hvoid : N.2.2.2.1 = none) (hnp : as.length = np)
    (hS : gS G N d1 k1 n1 (sr (some b) :: as) h Q1) (hdd : d1 + 1 ≤ d ∧ N.2.2.1 ≤ 21) (hst : st.length ≤ 4) (hh : M.2.2.2.2 = [])
    (kk : ∀ (v : Option sv) (h' : hp), Q1 (.inl v) h' → gZ F G M d Q (pc + 3) ls (v.toList ++ st) k n h') (kx : ∀ (E : String) (h' : hp), Q1 (.inr E) h' → Q (.inr E) h') : gZ F G M d Q pc ls (as.reverse ++ sr (some b) :: st) (k1 + k) (n1 + n) h := by
  intro p e R s m args below meth c H locs cells slots mc ms C f9 hr hs hk hn a' hl
  have hRm := cx_R C
  have hcat := cat_le st
  have hB := cal_B (k1 := k1) (n1 := n1) C hcal hlk hdd
  have hS' := hS
  unfold gS at hS'
  rw [hvoid] at hB
  refine z_run_on (k1 := k1) (n1 := n1) C f9 hh hs hk hn hl (vx_runI (cc := M.2.1) (nL := M.2.2.1) (Ts := []) (own := M.1.cls) (b := b) (As := as.map tv) (n := np) ⟨C.1, C.2.1, C.2.2.1, cx_own C, fun w hw => nomatch hw⟩ hS' ⟨hB, hin, cx_w C _ hci⟩ ⟨gP_blind, gP_at (as := sr (some b) :: as) C hr hs⟩ rfl (by rw [List.length_map]; exact hnp) hl.1 (map_stk as b st) (lv_room (by omega)) hd ⟨by omega, by omega⟩) kk kx
theorem z_tableOut {dflt lo hi : Int} {offs : Array Int} {len : Nat} {x : Int32} (t : Nat) (hd : decode M.2.1 pc = .ok (.tableswitch dflt lo hi offs, len)) (hx : x.toInt < lo ∨ hi < x.toInt) (ht : (pc : Int) + dflt = (t : Int)) (kk : gZ F G M d Q t ls st k n h) : gZ F G M d Q pc ls (si x :: st) k n h :=
  fun p e R s m args below meth c H locs cells slots mc ms C f9 hr hs hk hn a hl => lv_tableOut C.1 C.2.1 hd hx ht (kk p e R s m args below meth c H locs cells slots mc ms C f9 hr hs hk hn a hl)
theorem z_tableIn {dflt lo hi off : Int} {offs : Array Int} {len : Nat} {x : Int32} (t : Nat) (hd : decode M.2.1 pc = .ok (.tableswitch dflt lo hi offs, len)) (h1 : ¬ x.toInt < lo) (h2 : ¬ hi < x.toInt) (ho : offs[(x.toInt - lo).toNat]? = some off) (ht : (pc : Int) + off = (t : Int)) (kk : gZ F G M d Q t ls st k n h) : gZ F G M d Q pc ls (si x :: st) k n h :=
  fun p e R s m args below meth c H locs cells slots mc ms C f9 hr hs hk hn a hl => lv_tableIn C.1 C.2.1 hd h1 h2 ho ht (kk p e R s m args below meth c H locs cells slots mc ms C f9 hr hs hk hn a hl)
theorem z_less (ls' : lc) (hm : ∀ (i : Nat) (v : sv), ls'[i]? = some (some v) → ls[i]? = some (some v)) (kk : gZ F G M d Q pc ls' st k n h) : gZ F G M d Q pc ls st k n h :=
  fun p e R s m args below meth c H locs cells slots mc ms C f9 hr hs hk hn a hl => kk p e R s m args below meth c H locs cells slots mc ms C f9 hr hs hk hn a (hasL_sub hl hm)
end VL

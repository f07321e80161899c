/-! ===== texts and the table of letters; what a run finds as it was at the start ===== -/
def strT : List (String × Nat × String) := [("BrailleDesk$Element", 99, "group"), ("BrailleDesk$Element", 101, "button"), ("BrailleDesk$Element", 103, "check"), ("BrailleDesk$Element", 105, "edit"), ("BrailleDesk$Element", 107, "table"), ("BrailleDesk$Element", 109, "row"), ("BrailleDesk$Element", 111, "live"), ("BrailleDesk$Element", 113, ""), ("BrailleDesk", 54, "no character has this code"), ("BrailleDesk", 65, "the draft is full"), ("BrailleDesk", 316, "there is no such element"), ("BrailleDesk", 78, "place or kind is out of range"), ("BrailleDesk", 87, "there is no room for such an element"), ("BrailleDesk", 320, "too many ALERTs wait"), ("BrailleDesk$Element", 87, "on"), ("BrailleDesk$Element", 89, "off"), ("BrailleDesk$Element", 97, "of"), ("BrailleDesk", 318, "the element is the screen"), ("BrailleDesk$Regions", 49, "gone"), ("BrailleDesk$Reader", 86, "lost"), ("BrailleDesk", 155, "the element is no CHECK"), ("BrailleDesk", 160, "there is no such level"), ("BrailleDesk$Element", 99, "group"), ("BrailleDesk$Element", 99, "group"), ("BrailleDesk", 187, "there is no child at this place"), ("BrailleDesk", 326, "there is no character at this index"), ("BrailleDesk", 209, "not so many elements are shown"), ("BrailleDesk$Element", 99, "group"), ("BrailleDesk$Element", 99, "group"), ("BrailleDesk$Element", 99, "group"), ("BrailleDesk$Reader", 114, "end"), ("BrailleDesk$Reader", 122, "none"), ("BrailleDesk$Reader", 216, "pressed"), ("BrailleDesk$Reader", 220, "on"), ("BrailleDesk$Reader", 222, "off"), ("BrailleDesk$Reader", 227, "type"), ("BrailleDesk$Reader", 263, "space"), ("BrailleDesk$Reader", 246, "full"), ("BrailleDesk", 233, "there are no such keys"), ("BrailleDesk", 235, "a key is pressed"), ("BrailleDesk", 322, "there is no such pin"), ("BrailleDesk", 331, "the element is not shown"), ("BrailleDesk", 277, "not so many ticks can pass"), ("BrailleDesk", 297, "there is no such priority"), ("BrailleDesk$Element", 99, "group")]
def strW : List (List Int32) := [[103, 114, 111, 117, 112], [98, 117, 116, 116, 111, 110], [99, 104, 101, 99, 107], [101, 100, 105, 116], [116, 97, 98, 108, 101], [114, 111, 119], [108, 105, 118, 101], [], [110, 111, 32, 99, 104, 97, 114, 97, 99, 116, 101, 114, 32, 104, 97, 115, 32, 116, 104, 105, 115, 32, 99, 111, 100, 101], [116, 104, 101, 32, 100, 114, 97, 102, 116, 32, 105, 115, 32, 102, 117, 108, 108], [116, 104, 101, 114, 101, 32, 105, 115, 32, 110, 111, 32, 115, 117, 99, 104, 32, 101, 108, 101, 109, 101, 110, 116], [112, 108, 97, 99, 101, 32, 111, 114, 32, 107, 105, 110, 100, 32, 105, 115, 32, 111, 117, 116, 32, 111, 102, 32, 114, 97, 110, 103, 101], [116, 104, 101, 114, 101, 32, 105, 115, 32, 110, 111, 32, 114, 111, 111, 109, 32, 102, 111, 114, 32, 115, 117, 99, 104, 32, 97, 110, 32, 101, 108, 101, 109, 101, 110, 116], [116, 111, 111, 32, 109, 97, 110, 121, 32, 65, 76, 69, 82, 84, 115, 32, 119, 97, 105, 116], [111, 110], [111, 102, 102], [111, 102], [116, 104, 101, 32, 101, 108, 101, 109, 101, 110, 116, 32, 105, 115, 32, 116, 104, 101, 32, 115, 99, 114, 101, 101, 110], [103, 111, 110, 101], [108, 111, 115, 116], [116, 104, 101, 32, 101, 108, 101, 109, 101, 110, 116, 32, 105, 115, 32, 110, 111, 32, 67, 72, 69, 67, 75], [116, 104, 101, 114, 101, 32, 105, 115, 32, 110, 111, 32, 115, 117, 99, 104, 32, 108, 101, 118, 101, 108], [103, 114, 111, 117, 112], [103, 114, 111, 117, 112], [116, 104, 101, 114, 101, 32, 105, 115, 32, 110, 111, 32, 99, 104, 105, 108, 100, 32, 97, 116, 32, 116, 104, 105, 115, 32, 112, 108, 97, 99, 101], [116, 104, 101, 114, 101, 32, 105, 115, 32, 110, 111, 32, 99, 104, 97, 114, 97, 99, 116, 101, 114, 32, 97, 116, 32, 116, 104, 105, 115, 32, 105, 110, 100, 101, 120], [110, 111, 116, 32, 115, 111, 32, 109, 97, 110, 121, 32, 101, 108, 101, 109, 101, 110, 116, 115, 32, 97, 114, 101, 32, 115, 104, 111, 119, 110], [103, 114, 111, 117, 112], [103, 114, 111, 117, 112], [103, 114, 111, 117, 112], [101, 110, 100], [110, 111, 110, 101], [112, 114, 101, 115, 115, 101, 100], [111, 110], [111, 102, 102], [116, 121, 112, 101], [115, 112, 97, 99, 101], [102, 117, 108, 108], [116, 104, 101, 114, 101, 32, 97, 114, 101, 32, 110, 111, 32, 115, 117, 99, 104, 32, 107, 101, 121, 115], [97, 32, 107, 101, 121, 32, 105, 115, 32, 112, 114, 101, 115, 115, 101, 100], [116, 104, 101, 114, 101, 32, 105, 115, 32, 110, 111, 32, 115, 117, 99, 104, 32, 112, 105, 110], [116, 104, 101, 32, 101, 108, 101, 109, 101, 110, 116, 32, 105, 115, 32, 110, 111, 116, 32, 115, 104, 111, 119, 110], [110, 111, 116, 32, 115, 111, 32, 109, 97, 110, 121, 32, 116, 105, 99, 107, 115, 32, 99, 97, 110, 32, 112, 97, 115, 115], [116, 104, 101, 114, 101, 32, 105, 115, 32, 110, 111, 32, 115, 117, 99, 104, 32, 112, 114, 105, 111, 114, 105, 116, 121], [103, 114, 111, 117, 112]]
def strL (i : Nat) : Nat := (strW.getD i []).length
def strB (i j : Nat) : Int32 := (strW.getD i []).getD j 0
def lettL : List Int32 := [1, 3, 9, 25, 17, 11, 27, 19, 10, 26, 5, 7, 13, 29, 21, 15, 31, 23, 14, 30, 37, 39, 58, 45, 61, 53]
def lett (j : Nat) : Int32 := lettL.getD j 0
def tysG (G : gG) : List (ClassId × FieldType) := [(gc G 20, .int), (gc G 21, .int), (gc G 22, .object RX2), (gc G 23, .object RX1), (gc G 24, .long)]
def XW : List Cond := lw_tbl.filter (fun w => w.onTables && w.keepsFace)
theorem xw {w : Cond} (i : Nat) (h : lw_tbl[i]? = some w) (g : (w.onTables && w.keepsFace) = true) : w ∈ XW := List.mem_filter.mpr ⟨List.mem_of_getElem? h, g⟩
theorem xw_m {w : Cond} (h : w ∈ lw_tbl) (g : (w.onTables && w.keepsFace) = true) : w ∈ XW := List.mem_filter.mpr ⟨h, g⟩
theorem XW_ot {w : Cond} (h : w ∈ XW) : w.onTables = true ∧ w.keepsFace = true := by
  have h2 := (List.mem_filter.mp h).2
  simp only [Bool.and_eq_true] at h2
  exact h2
theorem XW_to {w : Cond} {u U : State} (h : w ∈ XW) (hW : u.WarmedH U.vm) (hZ : va_Nw w u) : va_Nw w U :=
  va_tabs (XW_ot h).1 (rfl : (u.setVm U.vm).vm = U.vm) (Cond.before_shiftedFace (State.Shifted.of_warmed hW) w (XW_ot h).2 hZ)
def exI : String := "java/lang/IndexOutOfBoundsException"
def exA : String := "java/lang/IllegalArgumentException"
def exS : String := "java/lang/IllegalStateException"
/-- which classes of what is thrown aren't among which -/
def nc3 : List (String × String) := [(exA, exI), (exS, exI), (exS, exA)]
def NC (U : State) : Prop := ∀ q ∈ nc3, va_Nc q.1 q.2 U
theorem NC.moved {u U : State} (hvm : u.vm.Alike U.vm) (h : NC u) : NC U := fun q hq => (h q hq).moved hvm
theorem va_X_lt {b L : Nat} {xs : Nat → Int32} {U : State} {H : Heap} (h : va_X b L xs U H) : b < H.size := by
  obtain ⟨scr, h1, -⟩ := h
  exact (Array.getElem?_eq_some_iff.mp h1).1
def SW (G : gG) (U : State) (H : Heap) : Prop :=
  ((∀ w ∈ XW, va_Nw w U) ∧ va_Nw (.methodLinkNest RX5 28 yX8_init "BrailleDesk") U ∧ (∀ (ty : FieldType) (a : Array Value), ty = .int ∨ ty = .long → (Cond.arrayClass ty).before a U = true) ∧ va_AO RX1 U ∧ va_AO RX2 U ∧ NC U ∧ va_X (gxb G) (gxL G) (gxx G) U H ∧ ¬ gA G (gxb G)) ∧
  va_K (gD G) hk_cls (tysG G) U ∧ (gl G).stackTraces = false ∧
  (∀ (i : Nat) (q : String × Nat × String), strT[i]? = some q → vk_R q.1 q.2.1 q.2.2 (ga G i) U) ∧
  (∀ i : Nat, i < 45 → va_O "java/lang/String" (ga G i) (gA G) U H ∧ va_OF "java/lang/String" "coder" "B" (.int 0) (ga G i) (gA G) U H ∧ va_OF "java/lang/String" "value" "[B" (.ref (gv G i)) (ga G i) (gA G) U H ∧ va_T .byte (gv G i) (strL i) (fun j => .int (strB i j)) (gA G) U H) ∧
  va_Z RX0 "LETTERS" "[I" (.ref (gt G)) (gA G) U H ∧ va_T .int (gt G) 26 (fun j => .int (lett j)) (gA G) U H ∧
  va_Z "java/lang/String" "COMPACT_STRINGS" "Z" (.int 1) (gA G) U H ∧ va_Zq "jdk/internal/util/Preconditions" "SIOOBE_FORMATTER" "Ljava/util/function/BiFunction;" (gA G) U H ∧
  vx_Zq Bundle.tN "UNASSIGNED_STACK" Bundle.steD (gA G) U H ∧ vx_Zq Bundle.tN "SUPPRESSED_SENTINEL" Bundle.listD (gA G) U H
theorem SW.to {G : gG} {u U : State} {H H1 : Heap} (h : SW G u H) (hW : u.WarmedH U.vm) (hq : ∀ a : Nat, a < H.size → ¬ gA G a → H1[a]? = H[a]?) : SW G U H1 := by
  obtain ⟨⟨x1, x2, x3, x4, x5, x6, x7, x8⟩, h1, h2, h3, h4, h5, h6, h7, h8, h9, h10⟩ := h
  exact ⟨⟨fun w hw => XW_to hw hW (x1 w hw), x2.warmM hW, fun ty a ht => word_at hW (Or.inr ⟨ty, rfl⟩) (x3 ty a ht), x4.moved hW.alike, x5.moved hW.alike, x6.moved hW.alike, (x7.kept (hq _ (va_X_lt x7) x8)).moved hW.alike, x8⟩, h1.moved hW.alike, h2, fun i q hi => vk_R.warm hW (h3 i q hi), fun i hi => ⟨((h4 i hi).1.kept hq).moved hW.alike, ((h4 i hi).2.1.kept hq).moved hW.alike, ((h4 i hi).2.2.1.kept hq).moved hW.alike, ((h4 i hi).2.2.2.kept hq).moved hW.alike⟩, (h5.kept hq).moved hW.alike, (h6.kept hq).moved hW.alike, (h7.kept hq).moved hW.alike, (h8.kept hq).moved hW.alike, (h9.kept hq).moved hW.alike, (h10.kept hq).moved hW.alike⟩
theorem SW.same {G : gG} {u U : State} {H : Heap} (h : SW G u H) (hv : U.vm = u.vm) : SW G U H := h.to (by rw [hv]; exact State.WarmedH.refl u) (fun _ _ _ => rfl)
/-! ===== the judgement ===== -/
/-- how a method ends: what it returns, or the class of what it throws -/
abbrev oc : Type := Option sv ⊕ String
abbrev hQ : Type := oc → hp → Prop
def QC (G : gG) (Q : hQ) : Array Value → State → Outcome → State → Prop := fun _ st o t => ∃ (v : Option sv) (h : hp), o = .returned (v.map tv) ∧ Q (.inl v) h ∧ Rep G h t.heap ∧ va_F (gA G) st t
def XC (G : gG) (Q : hQ) : String → State → State → Prop := fun E st t => ∃ (h : hp) (n : Nat), hN h ≤ n ∧ Q (.inr E) h ∧ Rep G (wS h n) t.heap ∧ va_F (gA G) st t
/-- a method: its name, its bytes, its locals, what it returns, its handlers -/
abbrev gM : Type := MethodName × ByteArray × Nat × Option FieldType × List (Nat × Nat × Nat × Nat)
def cx (G : gG) (M : gM) (d : Nat) (p : Program) (R : Room) (s : State) (m : MethodId) (args : Array Value) (meth : Method) (c : Code) (mc ms : Nat) : Prop :=
  p.tables.exec = Jvm.exec ∧ c.code = M.2.1 ∧ c.maxLocals = M.2.2.1 ∧ meth.sig.returnType = M.2.2.2.1 ∧ meth.locks = false ∧ c.exceptionTable.toList = tableOf M.2.2.2.2 ∧ s.vm.findClass M.1.cls = some m.cls ∧ meth.name = M.1.name ∧
  SW G s s.heap ∧ gb G ≤ s.heap.size ∧ d ≤ R.frames ∧ 40 * d ≤ R.locals ∧ mc ≤ R.cells ∧ ms ≤ R.slots
def gV (G : gG) (M : gM) (d : Nat) (Q : hQ) (pc : Nat) (ls : lc) (st : List sv) (k n : Nat) (h : hp) : Prop :=
  ∀ (p : Program) (e : Env) (R : Room) (s : State) (m : MethodId) (args : Array Value) (below : List Frame) (meth : Method) (c : Code) (H : Heap) (locs : List Loc) (cells slots mc ms : Nat), cx G M d p R s m args meth c mc ms → Rep G h H → va_S (gA G) s.heap H locs → cells + k ≤ mc → slots + n ≤ ms →
    ∀ a : Array Slot, hasL a M.2.2.1 ls → W p (gl G) e R s m args below meth c H locs cells slots (vx_MQ below (QC G Q) (XC G Q) args s mc ms (gA G)) (F0 m pc a (st.map tv))
/-- the words of a method -/
def gW (M : gM) : List Cond := [.code M.1 M.2.1 M.2.2.1 M.2.2.2.1]
def gP (G : gG) (as : List sv) (h : hp) : Array Value → State → Prop := fun v U => v = (as.map tv).toArray ∧ Rep G h U.heap ∧ SW G U U.heap ∧ gb G ≤ U.heap.size
def gRm (d k n : Nat) : Room := { frames := d, cells := k, slots := n, locals := 40 * d }
/-- a method's contract at the heap h and the arguments as: depth d, at most k new cells of n slots -/
def gS (G : gG) (M : gM) (d k n : Nat) (as : List sv) (h : hp) (Q : hQ) : Prop := vx_Met (gl G) M.1 (gW M) (gRm d k n) (gP G as h) (QC G Q) (XC G Q) k n (gA G)
section VR
variable {G : gG} {M : gM} {d : Nat} {Q : hQ} {pc : Nat} {ls : lc} {st : List sv} {k n : Nat} {h : hp}
theorem v_iconst {i : Int} {v : Int32} (hd : decode M.2.1 pc = .ok (.iconst i, 1)) (hv : Int32.ofInt i = v) (kk : gV G M d Q (pc + 1) ls (si v :: st) k n h) : gV G M d Q pc ls (st) k n h :=
  fun p e R s m args below meth c H locs cells slots mc ms C hr hs hk hn a hl => lv_iconst C.1 C.2.1 hd hv (kk p e R s m args below meth c H locs cells slots mc ms C hr hs hk hn a hl)
theorem v_bipush {i : Int} {v : Int32} (hd : decode M.2.1 pc = .ok (.bipush i, 2)) (hv : (Int8.ofInt i).toInt32 = v) (kk : gV G M d Q (pc + 2) ls (si v :: st) k n h) : gV G M d Q pc ls (st) k n h :=
  fun p e R s m args below meth c H locs cells slots mc ms C hr hs hk hn a hl => lv_bipush C.1 C.2.1 hd hv (kk p e R s m args below meth c H locs cells slots mc ms C hr hs hk hn a hl)
theorem v_sipush {i : Int} {v : Int32} (hd : decode M.2.1 pc = .ok (.sipush i, 3)) (hv : (Int16.ofInt i).toInt32 = v) (kk : gV G M d Q (pc + 3) ls (si v :: st) k n h) : gV G M d Q pc ls (st) k n h :=
  fun p e R s m args below meth c H locs cells slots mc ms C hr hs hk hn a hl => lv_sipush C.1 C.2.1 hd hv (kk p e R s m args below meth c H locs cells slots mc ms C hr hs hk hn a hl)
theorem v_lconst {i : Fin 2} {v : Int64} (hd : decode M.2.1 pc = .ok (.lconst i, 1)) (hv : Int64.ofNat (i : Nat) = v) (kk : gV G M d Q (pc + 1) ls (sl v :: st) k n h) : gV G M d Q pc ls (st) k n h :=
  fun p e R s m args below meth c H locs cells slots mc ms C hr hs hk hn a hl => lv_lconst C.1 C.2.1 hd hv (kk p e R s m args below meth c H locs cells slots mc ms C hr hs hk hn a hl)
theorem v_iadd {x y : Int32} (hd : decode M.2.1 pc = .ok (.iadd, 1)) (kk : gV G M d Q (pc + 1) ls (si (x + y) :: st) k n h) : gV G M d Q pc ls (si y :: si x :: st) k n h :=
  fun p e R s m args below meth c H locs cells slots mc ms C hr hs hk hn a hl => lv_iadd C.1 C.2.1 hd (kk p e R s m args below meth c H locs cells slots mc ms C hr hs hk hn a hl)
theorem v_isub {x y : Int32} (hd : decode M.2.1 pc = .ok (.isub, 1)) (kk : gV G M d Q (pc + 1) ls (si (x - y) :: st) k n h) : gV G M d Q pc ls (si y :: si x :: st) k n h :=
  fun p e R s m args below meth c H locs cells slots mc ms C hr hs hk hn a hl => lv_isub C.1 C.2.1 hd (kk p e R s m args below meth c H locs cells slots mc ms C hr hs hk hn a hl)
theorem v_imul {x y : Int32} (hd : decode M.2.1 pc = .ok (.imul, 1)) (kk : gV G M d Q (pc + 1) ls (si (x * y) :: st) k n h) : gV G M d Q pc ls (si y :: si x :: st) k n h :=
  fun p e R s m args below meth c H locs cells slots mc ms C hr hs hk hn a hl => lv_imul C.1 C.2.1 hd (kk p e R s m args below meth c H locs cells slots mc ms C hr hs hk hn a hl)
theorem v_iand {x y : Int32} (hd : decode M.2.1 pc = .ok (.iand, 1)) (kk : gV G M d Q (pc + 1) ls (si (x &&& y) :: st) k n h) : gV G M d Q pc ls (si y :: si x :: st) k n h :=
  fun p e R s m args below meth c H locs cells slots mc ms C hr hs hk hn a hl => lv_iand C.1 C.2.1 hd (kk p e R s m args below meth c H locs cells slots mc ms C hr hs hk hn a hl)
theorem v_ior {x y : Int32} (hd : decode M.2.1 pc = .ok (.ior, 1)) (kk : gV G M d Q (pc + 1) ls (si (x ||| y) :: st) k n h) : gV G M d Q pc ls (si y :: si x :: st) k n h :=
  fun p e R s m args below meth c H locs cells slots mc ms C hr hs hk hn a hl => lv_ior C.1 C.2.1 hd (kk p e R s m args below meth c H locs cells slots mc ms C hr hs hk hn a hl)
theorem v_ixor {x y : Int32} (hd : decode M.2.1 pc = .ok (.ixor, 1)) (kk : gV G M d Q (pc + 1) ls (si (x ^^^ y) :: st) k n h) : gV G M d Q pc ls (si y :: si x :: st) k n h :=
  fun p e R s m args below meth c H locs cells slots mc ms C hr hs hk hn a hl => lv_ixor C.1 C.2.1 hd (kk p e R s m args below meth c H locs cells slots mc ms C hr hs hk hn a hl)
theorem v_ishl {x y : Int32} (hd : decode M.2.1 pc = .ok (.ishl, 1)) (kk : gV G M d Q (pc + 1) ls (si (x <<< (y &&& 31)) :: st) k n h) : gV G M d Q pc ls (si y :: si x :: st) k n h :=
  fun p e R s m args below meth c H locs cells slots mc ms C hr hs hk hn a hl => lv_ishl C.1 C.2.1 hd (kk p e R s m args below meth c H locs cells slots mc ms C hr hs hk hn a hl)
theorem v_ishr {x y : Int32} (hd : decode M.2.1 pc = .ok (.ishr, 1)) (kk : gV G M d Q (pc + 1) ls (si (x >>> (y &&& 31)) :: st) k n h) : gV G M d Q pc ls (si y :: si x :: st) k n h :=
  fun p e R s m args below meth c H locs cells slots mc ms C hr hs hk hn a hl => lv_ishr C.1 C.2.1 hd (kk p e R s m args below meth c H locs cells slots mc ms C hr hs hk hn a hl)
theorem v_iushr {x y v : Int32} (hd : decode M.2.1 pc = .ok (.iushr, 1)) (hv : (x.toUInt32 >>> (y.toUInt32 &&& Int32.toUInt32 31)).toInt32 = v) (kk : gV G M d Q (pc + 1) ls (si v :: st) k n h) : gV G M d Q pc ls (si y :: si x :: st) k n h :=
  fun p e R s m args below meth c H locs cells slots mc ms C hr hs hk hn a hl => lv_iushr C.1 C.2.1 hd hv (kk p e R s m args below meth c H locs cells slots mc ms C hr hs hk hn a hl)
theorem v_idiv {x y : Int32} (hd : decode M.2.1 pc = .ok (.idiv, 1)) (hne : ¬ y = 0) (kk : gV G M d Q (pc + 1) ls (si (x / y) :: st) k n h) : gV G M d Q pc ls (si y :: si x :: st) k n h :=
  fun p e R s m args below meth c H locs cells slots mc ms C hr hs hk hn a hl => lv_idiv C.1 C.2.1 hd hne (kk p e R s m args below meth c H locs cells slots mc ms C hr hs hk hn a hl)
theorem v_irem {x y : Int32} (hd : decode M.2.1 pc = .ok (.irem, 1)) (hne : ¬ y = 0) (kk : gV G M d Q (pc + 1) ls (si (x - x / y * y) :: st) k n h) : gV G M d Q pc ls (si y :: si x :: st) k n h :=
  fun p e R s m args below meth c H locs cells slots mc ms C hr hs hk hn a hl => lv_irem C.1 C.2.1 hd hne (kk p e R s m args below meth c H locs cells slots mc ms C hr hs hk hn a hl)
theorem v_ladd {x y : Int64} (hd : decode M.2.1 pc = .ok (.ladd, 1)) (kk : gV G M d Q (pc + 1) ls (sl (x + y) :: st) k n h) : gV G M d Q pc ls (sl y :: sl x :: st) k n h :=
  fun p e R s m args below meth c H locs cells slots mc ms C hr hs hk hn a hl => lv_ladd C.1 C.2.1 hd (kk p e R s m args below meth c H locs cells slots mc ms C hr hs hk hn a hl)
theorem v_lmul {x y : Int64} (hd : decode M.2.1 pc = .ok (.lmul, 1)) (kk : gV G M d Q (pc + 1) ls (sl (x * y) :: st) k n h) : gV G M d Q pc ls (sl y :: sl x :: st) k n h :=
  fun p e R s m args below meth c H locs cells slots mc ms C hr hs hk hn a hl => lv_lmul C.1 C.2.1 hd (kk p e R s m args below meth c H locs cells slots mc ms C hr hs hk hn a hl)
theorem v_land {x y : Int64} (hd : decode M.2.1 pc = .ok (.land, 1)) (kk : gV G M d Q (pc + 1) ls (sl (x &&& y) :: st) k n h) : gV G M d Q pc ls (sl y :: sl x :: st) k n h :=
  fun p e R s m args below meth c H locs cells slots mc ms C hr hs hk hn a hl => lv_land C.1 C.2.1 hd (kk p e R s m args below meth c H locs cells slots mc ms C hr hs hk hn a hl)
theorem v_lshr {x : Int64} {y : Int32} (hd : decode M.2.1 pc = .ok (.lshr, 1)) (kk : gV G M d Q (pc + 1) ls (sl (x >>> (y.toInt64 &&& 63)) :: st) k n h) : gV G M d Q pc ls (si y :: sl x :: st) k n h :=
  fun p e R s m args below meth c H locs cells slots mc ms C hr hs hk hn a hl => lv_lshr C.1 C.2.1 hd rfl (kk p e R s m args below meth c H locs cells slots mc ms C hr hs hk hn a hl)
theorem v_i2l {x : Int32} (hd : decode M.2.1 pc = .ok (.i2l, 1)) (kk : gV G M d Q (pc + 1) ls (sl x.toInt64 :: st) k n h) : gV G M d Q pc ls (si x :: st) k n h :=
  fun p e R s m args below meth c H locs cells slots mc ms C hr hs hk hn a hl => lv_i2l C.1 C.2.1 hd rfl (kk p e R s m args below meth c H locs cells slots mc ms C hr hs hk hn a hl)
theorem v_l2i {x : Int64} (hd : decode M.2.1 pc = .ok (.l2i, 1)) (kk : gV G M d Q (pc + 1) ls (si x.toInt32 :: st) k n h) : gV G M d Q pc ls (sl x :: st) k n h :=
  fun p e R s m args below meth c H locs cells slots mc ms C hr hs hk hn a hl => lv_l2i C.1 C.2.1 hd rfl (kk p e R s m args below meth c H locs cells slots mc ms C hr hs hk hn a hl)
theorem v_i2c {x v : Int32} (hd : decode M.2.1 pc = .ok (.i2c, 1)) (hv : (x.toUInt32 % 65536).toInt32 = v) (kk : gV G M d Q (pc + 1) ls (si v :: st) k n h) : gV G M d Q pc ls (si x :: st) k n h :=
  fun p e R s m args below meth c H locs cells slots mc ms C hr hs hk hn a hl => lv_i2c C.1 C.2.1 hd hv (kk p e R s m args below meth c H locs cells slots mc ms C hr hs hk hn a hl)
theorem v_lcmp {x y : Int64} (hd : decode M.2.1 pc = .ok (.lcmp, 1)) (kk : gV G M d Q (pc + 1) ls (si (lg_cmp x y) :: st) k n h) : gV G M d Q pc ls (sl y :: sl x :: st) k n h :=
  fun p e R s m args below meth c H locs cells slots mc ms C hr hs hk hn a hl => W.lcmp C.1 C.2.1 hd (kk p e R s m args below meth c H locs cells slots mc ms C hr hs hk hn a hl)
theorem v_null (hd : decode M.2.1 pc = .ok (.aconst_null, 1)) (kk : gV G M d Q (pc + 1) ls (sr none :: st) k n h) : gV G M d Q pc ls (st) k n h :=
  fun p e R s m args below meth c H locs cells slots mc ms C hr hs hk hn a hl => lv_null C.1 C.2.1 hd (kk p e R s m args below meth c H locs cells slots mc ms C hr hs hk hn a hl)
theorem v_dup {v : sv} (hd : decode M.2.1 pc = .ok (.dup, 1)) (hv : s2 v = false) (kk : gV G M d Q (pc + 1) ls (v :: v :: st) k n h) : gV G M d Q pc ls (v :: st) k n h :=
  fun p e R s m args below meth c H locs cells slots mc ms C hr hs hk hn a hl => lv_dup C.1 C.2.1 hd (show (tv v).category = 1 by rw [tv_cat, hv]; rfl) (kk p e R s m args below meth c H locs cells slots mc ms C hr hs hk hn a hl)
theorem v_pop {v : sv} (hd : decode M.2.1 pc = .ok (.pop, 1)) (hv : s2 v = false) (kk : gV G M d Q (pc + 1) ls (st) k n h) : gV G M d Q pc ls (v :: st) k n h :=
  fun p e R s m args below meth c H locs cells slots mc ms C hr hs hk hn a hl => lv_pop C.1 C.2.1 hd (show (tv v).category = 1 by rw [tv_cat, hv]; rfl) (kk p e R s m args below meth c H locs cells slots mc ms C hr hs hk hn a hl)
theorem v_dup_x1 {v w : sv} (hd : decode M.2.1 pc = .ok (.dup_x1, 1)) (hv : s2 v = false) (hw : s2 w = false) (kk : gV G M d Q (pc + 1) ls (v :: w :: v :: st) k n h) : gV G M d Q pc ls (v :: w :: st) k n h :=
  fun p e R s m args below meth c H locs cells slots mc ms C hr hs hk hn a hl => lv_dup_x1 C.1 C.2.1 hd (show (tv v).category = 1 by rw [tv_cat, hv]; rfl) (show (tv w).category = 1 by rw [tv_cat, hw]; rfl) (kk p e R s m args below meth c H locs cells slots mc ms C hr hs hk hn a hl)
theorem v_dup_x2 {v w u : sv} (hd : decode M.2.1 pc = .ok (.dup_x2, 1)) (hv : s2 v = false) (hw : s2 w = false) (hu : s2 u = false) (kk : gV G M d Q (pc + 1) ls (v :: w :: u :: v :: st) k n h) : gV G M d Q pc ls (v :: w :: u :: st) k n h :=
  fun p e R s m args below meth c H locs cells slots mc ms C hr hs hk hn a hl => lv_dup_x2 C.1 C.2.1 hd (show (tv v).category = 1 by rw [tv_cat, hv]; rfl) (show (tv w).category = 1 by rw [tv_cat, hw]; rfl) (show (tv u).category = 1 by rw [tv_cat, hu]; rfl) (kk p e R s m args below meth c H locs cells slots mc ms C hr hs hk hn a hl)
theorem v_dup2 {v w : sv} (hd : decode M.2.1 pc = .ok (.dup2, 1)) (hv : s2 v = false) (hw : s2 w = false) (kk : gV G M d Q (pc + 1) ls (v :: w :: v :: w :: st) k n h) : gV G M d Q pc ls (v :: w :: st) k n h :=
  fun p e R s m args below meth c H locs cells slots mc ms C hr hs hk hn a hl => lv_dup2_11 C.1 C.2.1 hd (show (tv v).category = 1 by rw [tv_cat, hv]; rfl) (show (tv w).category = 1 by rw [tv_cat, hw]; rfl) (kk p e R s m args below meth c H locs cells slots mc ms C hr hs hk hn a hl)
theorem v_goto {off : Int} (t : Nat) (hd : decode M.2.1 pc = .ok (.goto off, 3)) (ht : (pc : Int) + off = (t : Int)) (kk : gV G M d Q t ls st k n h) : gV G M d Q pc ls st k n h :=
  fun p e R s m args below meth c H locs cells slots mc ms C hr hs hk hn a hl => lv_goto C.1 C.2.1 hd ht (kk p e R s m args below meth c H locs cells slots mc ms C hr hs hk hn a hl)
theorem v_if_eq {x : Int32} {off : Int} (t : Nat) (hd : decode M.2.1 pc = .ok (.ifCond .eq off, 3)) (ht : (pc : Int) + off = (t : Int)) (kt : x = 0 → gV G M d Q t ls st k n h) (kf : ¬ x = 0 → gV G M d Q (pc + 3) ls st k n h) : gV G M d Q pc ls (si x :: st) k n h :=
  fun p e R s m args below meth c H locs cells slots mc ms C hr hs hk hn a hl => lv_if_eq C.1 C.2.1 hd ht (fun z => kt z p e R s m args below meth c H locs cells slots mc ms C hr hs hk hn a hl) (fun z => kf z p e R s m args below meth c H locs cells slots mc ms C hr hs hk hn a hl)
theorem v_icmp_eq {x y : Int32} {off : Int} (t : Nat) (hd : decode M.2.1 pc = .ok (.if_icmp .eq off, 3)) (ht : (pc : Int) + off = (t : Int)) (kt : x = y → gV G M d Q t ls st k n h) (kf : ¬ x = y → gV G M d Q (pc + 3) ls st k n h) : gV G M d Q pc ls (si y :: si x :: st) k n h :=
  fun p e R s m args below meth c H locs cells slots mc ms C hr hs hk hn a hl => lv_icmp_eq C.1 C.2.1 hd ht (fun z => kt z p e R s m args below meth c H locs cells slots mc ms C hr hs hk hn a hl) (fun z => kf z p e R s m args below meth c H locs cells slots mc ms C hr hs hk hn a hl)
theorem v_if_ne {x : Int32} {off : Int} (t : Nat) (hd : decode M.2.1 pc = .ok (.ifCond .ne off, 3)) (ht : (pc : Int) + off = (t : Int)) (kt : ¬ x = 0 → gV G M d Q t ls st k n h) (kf : x = 0 → gV G M d Q (pc + 3) ls st k n h) : gV G M d Q pc ls (si x :: st) k n h :=
  fun p e R s m args below meth c H locs cells slots mc ms C hr hs hk hn a hl => lv_if_ne C.1 C.2.1 hd ht (fun z => kt z p e R s m args below meth c H locs cells slots mc ms C hr hs hk hn a hl) (fun z => kf z p e R s m args below meth c H locs cells slots mc ms C hr hs hk hn a hl)
theorem v_icmp_ne {x y : Int32} {off : Int} (t : Nat) (hd : decode M.2.1 pc = .ok (.if_icmp .ne off, 3)) (ht : (pc : Int) + off = (t : Int)) (kt : ¬ x = y → gV G M d Q t ls st k n h) (kf : x = y → gV G M d Q (pc + 3) ls st k n h) : gV G M d Q pc ls (si y :: si x :: st) k n h :=
  fun p e R s m args below meth c H locs cells slots mc ms C hr hs hk hn a hl => lv_icmp_ne C.1 C.2.1 hd ht (fun z => kt z p e R s m args below meth c H locs cells slots mc ms C hr hs hk hn a hl) (fun z => kf z p e R s m args below meth c H locs cells slots mc ms C hr hs hk hn a hl)
theorem v_if_lt {x : Int32} {off : Int} (t : Nat) (hd : decode M.2.1 pc = .ok (.ifCond .lt off, 3)) (ht : (pc : Int) + off = (t : Int)) (kt : x < 0 → gV G M d Q t ls st k n h) (kf : ¬ x < 0 → gV G M d Q (pc + 3) ls st k n h) : gV G M d Q pc ls (si x :: st) k n h :=
  fun p e R s m args below meth c H locs cells slots mc ms C hr hs hk hn a hl => lv_if_lt C.1 C.2.1 hd ht (fun z => kt z p e R s m args below meth c H locs cells slots mc ms C hr hs hk hn a hl) (fun z => kf z p e R s m args below meth c H locs cells slots mc ms C hr hs hk hn a hl)
theorem v_icmp_lt {x y : Int32} {off : Int} (t : Nat) (hd : decode M.2.1 pc = .ok (.if_icmp .lt off, 3)) (ht : (pc : Int) + off = (t : Int)) (kt : x < y → gV G M d Q t ls st k n h) (kf : ¬ x < y → gV G M d Q (pc + 3) ls st k n h) : gV G M d Q pc ls (si y :: si x :: st) k n h :=
  fun p e R s m args below meth c H locs cells slots mc ms C hr hs hk hn a hl => lv_icmp_lt C.1 C.2.1 hd ht (fun z => kt z p e R s m args below meth c H locs cells slots mc ms C hr hs hk hn a hl) (fun z => kf z p e R s m args below meth c H locs cells slots mc ms C hr hs hk hn a hl)
theorem v_if_ge {x : Int32} {off : Int} (t : Nat) (hd : decode M.2.1 pc = .ok (.ifCond .ge off, 3)) (ht : (pc : Int) + off = (t : Int)) (kt : 0 ≤ x → gV G M d Q t ls st k n h) (kf : ¬ 0 ≤ x → gV G M d Q (pc + 3) ls st k n h) : gV G M d Q pc ls (si x :: st) k n h :=
  fun p e R s m args below meth c H locs cells slots mc ms C hr hs hk hn a hl => lv_if_ge C.1 C.2.1 hd ht (fun z => kt z p e R s m args below meth c H locs cells slots mc ms C hr hs hk hn a hl) (fun z => kf z p e R s m args below meth c H locs cells slots mc ms C hr hs hk hn a hl)
theorem v_icmp_ge {x y : Int32} {off : Int} (t : Nat) (hd : decode M.2.1 pc = .ok (.if_icmp .ge off, 3)) (ht : (pc : Int) + off = (t : Int)) (kt : y ≤ x → gV G M d Q t ls st k n h) (kf : ¬ y ≤ x → gV G M d Q (pc + 3) ls st k n h) : gV G M d Q pc ls (si y :: si x :: st) k n h :=
  fun p e R s m args below meth c H locs cells slots mc ms C hr hs hk hn a hl => lv_icmp_ge C.1 C.2.1 hd ht (fun z => kt z p e R s m args below meth c H locs cells slots mc ms C hr hs hk hn a hl) (fun z => kf z p e R s m args below meth c H locs cells slots mc ms C hr hs hk hn a hl)
theorem v_if_gt {x : Int32} {off : Int} (t : Nat) (hd : decode M.2.1 pc = .ok (.ifCond .gt off, 3)) (ht : (pc : Int) + off = (t : Int)) (kt : 0 < x → gV G M d Q t ls st k n h) (kf : ¬ 0 < x → gV G M d Q (pc + 3) ls st k n h) : gV G M d Q pc ls (si x :: st) k n h :=
  fun p e R s m args below meth c H locs cells slots mc ms C hr hs hk hn a hl => lv_if_gt C.1 C.2.1 hd ht (fun z => kt z p e R s m args below meth c H locs cells slots mc ms C hr hs hk hn a hl) (fun z => kf z p e R s m args below meth c H locs cells slots mc ms C hr hs hk hn a hl)
theorem v_icmp_gt {x y : Int32} {off : Int} (t : Nat) (hd : decode M.2.1 pc = .ok (.if_icmp .gt off, 3)) (ht : (pc : Int) + off = (t : Int)) (kt : y < x → gV G M d Q t ls st k n h) (kf : ¬ y < x → gV G M d Q (pc + 3) ls st k n h) : gV G M d Q pc ls (si y :: si x :: st) k n h :=
  fun p e R s m args below meth c H locs cells slots mc ms C hr hs hk hn a hl => lv_icmp_gt C.1 C.2.1 hd ht (fun z => kt z p e R s m args below meth c H locs cells slots mc ms C hr hs hk hn a hl) (fun z => kf z p e R s m args below meth c H locs cells slots mc ms C hr hs hk hn a hl)
theorem v_if_le {x : Int32} {off : Int} (t : Nat) (hd : decode M.2.1 pc = .ok (.ifCond .le off, 3)) (ht : (pc : Int) + off = (t : Int)) (kt : x ≤ 0 → gV G M d Q t ls st k n h) (kf : ¬ x ≤ 0 → gV G M d Q (pc + 3) ls st k n h) : gV G M d Q pc ls (si x :: st) k n h :=
  fun p e R s m args below meth c H locs cells slots mc ms C hr hs hk hn a hl => lv_if_le C.1 C.2.1 hd ht (fun z => kt z p e R s m args below meth c H locs cells slots mc ms C hr hs hk hn a hl) (fun z => kf z p e R s m args below meth c H locs cells slots mc ms C hr hs hk hn a hl)
theorem v_icmp_le {x y : Int32} {off : Int} (t : Nat) (hd : decode M.2.1 pc = .ok (.if_icmp .le off, 3)) (ht : (pc : Int) + off = (t : Int)) (kt : x ≤ y → gV G M d Q t ls st k n h) (kf : ¬ x ≤ y → gV G M d Q (pc + 3) ls st k n h) : gV G M d Q pc ls (si y :: si x :: st) k n h :=
  fun p e R s m args below meth c H locs cells slots mc ms C hr hs hk hn a hl => lv_icmp_le C.1 C.2.1 hd ht (fun z => kt z p e R s m args below meth c H locs cells slots mc ms C hr hs hk hn a hl) (fun z => kf z p e R s m args below meth c H locs cells slots mc ms C hr hs hk hn a hl)
theorem v_acmp_eq {rx ry : Option Nat} {off : Int} (t : Nat) (hd : decode M.2.1 pc = .ok (.if_acmp .eq off, 3)) (ht : (pc : Int) + off = (t : Int)) (kt : rx = ry → gV G M d Q t ls st k n h) (kf : ¬ rx = ry → gV G M d Q (pc + 3) ls st k n h) : gV G M d Q pc ls (sr ry :: sr rx :: st) k n h :=
  fun p e R s m args below meth c H locs cells slots mc ms C hr hs hk hn a hl => lv_acmp_eq C.1 C.2.1 hd ht (fun z => kt z p e R s m args below meth c H locs cells slots mc ms C hr hs hk hn a hl) (fun z => kf z p e R s m args below meth c H locs cells slots mc ms C hr hs hk hn a hl)
theorem v_acmp_ne {rx ry : Option Nat} {off : Int} (t : Nat) (hd : decode M.2.1 pc = .ok (.if_acmp .ne off, 3)) (ht : (pc : Int) + off = (t : Int)) (kt : ¬ rx = ry → gV G M d Q t ls st k n h) (kf : rx = ry → gV G M d Q (pc + 3) ls st k n h) : gV G M d Q pc ls (sr ry :: sr rx :: st) k n h :=
  fun p e R s m args below meth c H locs cells slots mc ms C hr hs hk hn a hl => lv_acmp_ne C.1 C.2.1 hd ht (fun z => kt z p e R s m args below meth c H locs cells slots mc ms C hr hs hk hn a hl) (fun z => kf z p e R s m args below meth c H locs cells slots mc ms C hr hs hk hn a hl)
theorem v_ifnull {r : Option Nat} {off : Int} (t : Nat) (hd : decode M.2.1 pc = .ok (.ifnull off, 3)) (ht : (pc : Int) + off = (t : Int)) (kt : r = none → gV G M d Q t ls st k n h) (kf : ∀ x : Nat, r = some x → gV G M d Q (pc + 3) ls st k n h) : gV G M d Q pc ls (sr r :: st) k n h := by
  intro p e R s m args below meth c H locs cells slots mc ms C hr hs hk hn a hl
  cases r with
  | none => exact lv_ifnullN C.1 C.2.1 hd ht (kt rfl p e R s m args below meth c H locs cells slots mc ms C hr hs hk hn a hl)
  | some x => exact lv_ifnull C.1 C.2.1 hd (kf x rfl p e R s m args below meth c H locs cells slots mc ms C hr hs hk hn a hl)
theorem v_ifnonnull {r : Option Nat} {off : Int} (t : Nat) (hd : decode M.2.1 pc = .ok (.ifnonnull off, 3)) (ht : (pc : Int) + off = (t : Int)) (kt : ∀ x : Nat, r = some x → gV G M d Q t ls st k n h) (kf : r = none → gV G M d Q (pc + 3) ls st k n h) : gV G M d Q pc ls (sr r :: st) k n h := by
  intro p e R s m args below meth c H locs cells slots mc ms C hr hs hk hn a hl
  cases r with
  | none => exact lv_ifnonnullN C.1 C.2.1 hd (kf rfl p e R s m args below meth c H locs cells slots mc ms C hr hs hk hn a hl)
  | some x => exact lv_ifnonnull C.1 C.2.1 hd ht (kt x rfl p e R s m args below meth c H locs cells slots mc ms C hr hs hk hn a hl)
theorem v_iload_n {j : Fin 4} {i : Nat} {x : Int32} (hd : decode M.2.1 pc = .ok (.iload_n j, 1)) (hi : (j : Nat) = i) (hx : ls[i]? = some (some (si x))) (kk : gV G M d Q (pc + 1) ls (si x :: st) k n h) : gV G M d Q pc ls st k n h :=
  fun p e R s m args below meth c H locs cells slots mc ms C hr hs hk hn a hl => lv_iload_n C.1 C.2.1 hd hi (hasL_at hl hx) (kk p e R s m args below meth c H locs cells slots mc ms C hr hs hk hn a hl)
theorem v_iload {i : Nat} {x : Int32} (hd : decode M.2.1 pc = .ok (.iload i, 2)) (hx : ls[i]? = some (some (si x))) (kk : gV G M d Q (pc + 2) ls (si x :: st) k n h) : gV G M d Q pc ls st k n h :=
  fun p e R s m args below meth c H locs cells slots mc ms C hr hs hk hn a hl => lv_iload C.1 C.2.1 hd (hasL_at hl hx) (kk p e R s m args below meth c H locs cells slots mc ms C hr hs hk hn a hl)
theorem v_lload_n {j : Fin 4} {i : Nat} {x : Int64} (hd : decode M.2.1 pc = .ok (.lload_n j, 1)) (hi : (j : Nat) = i) (hx : ls[i]? = some (some (sl x))) (kk : gV G M d Q (pc + 1) ls (sl x :: st) k n h) : gV G M d Q pc ls st k n h :=
  fun p e R s m args below meth c H locs cells slots mc ms C hr hs hk hn a hl => lv_lload_n C.1 C.2.1 hd hi (hasL_at hl hx) (kk p e R s m args below meth c H locs cells slots mc ms C hr hs hk hn a hl)
theorem v_lload {i : Nat} {x : Int64} (hd : decode M.2.1 pc = .ok (.lload i, 2)) (hx : ls[i]? = some (some (sl x))) (kk : gV G M d Q (pc + 2) ls (sl x :: st) k n h) : gV G M d Q pc ls st k n h :=
  fun p e R s m args below meth c H locs cells slots mc ms C hr hs hk hn a hl => lv_lload C.1 C.2.1 hd (hasL_at hl hx) (kk p e R s m args below meth c H locs cells slots mc ms C hr hs hk hn a hl)
theorem v_aload_n {j : Fin 4} {i : Nat} {r : Option Nat} (hd : decode M.2.1 pc = .ok (.aload_n j, 1)) (hi : (j : Nat) = i) (hx : ls[i]? = some (some (sr r))) (kk : gV G M d Q (pc + 1) ls (sr r :: st) k n h) : gV G M d Q pc ls st k n h := by
  intro p e R s m args below meth c H locs cells slots mc ms C hr hs hk hn a hl
  have K := kk p e R s m args below meth c H locs cells slots mc ms C hr hs hk hn a hl
  have hv := hasL_at hl hx
  cases r with
  | none => exact lv_aload_nN C.1 C.2.1 hd hi hv K
  | some x => exact lv_aload_n C.1 C.2.1 hd hi hv K
theorem v_aload {i : Nat} {r : Option Nat} (hd : decode M.2.1 pc = .ok (.aload i, 2)) (hx : ls[i]? = some (some (sr r))) (kk : gV G M d Q (pc + 2) ls (sr r :: st) k n h) : gV G M d Q pc ls st k n h := by
  intro p e R s m args below meth c H locs cells slots mc ms C hr hs hk hn a hl
  have K := kk p e R s m args below meth c H locs cells slots mc ms C hr hs hk hn a hl
  have hv := hasL_at hl hx
  cases r with
  | none => exact lv_aloadN C.1 C.2.1 hd hv K
  | some x => exact lv_aload C.1 C.2.1 hd hv K
theorem v_istore_n {j : Fin 4} {i : Nat} {x : Int32} (ls' : lc) (hd : decode M.2.1 pc = .ok (.istore_n j, 1)) (hi : (j : Nat) = i) (hn' : i < M.2.2.1) (ho : okS ls i = true) (he : ls.set i (some (si x)) = ls') (kk : gV G M d Q (pc + 1) ls' st k n h) : gV G M d Q pc ls (si x :: st) k n h := by
  intro p e R s m args below meth c H locs cells slots mc ms C hr hs hk hn a hl
  subst he
  exact lv_istore_n C.1 C.2.1 hd hi hl hn' rfl (fun a' hl' => kk p e R s m args below meth c H locs cells slots mc ms C hr hs hk hn a' (set1 ho hl'))
theorem v_istore {i : Nat} {x : Int32} (ls' : lc) (hd : decode M.2.1 pc = .ok (.istore i, 2)) (hn' : i < M.2.2.1) (ho : okS ls i = true) (he : ls.set i (some (si x)) = ls') (kk : gV G M d Q (pc + 2) ls' st k n h) : gV G M d Q pc ls (si x :: st) k n h := by
  intro p e R s m args below meth c H locs cells slots mc ms C hr hs hk hn a hl
  subst he
  exact lv_istore C.1 C.2.1 hd hl hn' rfl (fun a' hl' => kk p e R s m args below meth c H locs cells slots mc ms C hr hs hk hn a' (set1 ho hl'))
theorem v_lstore_n {j : Fin 4} {i : Nat} {x : Int64} (ls' : lc) (hd : decode M.2.1 pc = .ok (.lstore_n j, 1)) (hi : (j : Nat) = i) (hn' : i + 1 < M.2.2.1) (ho : okS ls i = true) (he : (ls.set i (some (sl x))).set (i + 1) none = ls') (kk : gV G M d Q (pc + 1) ls' st k n h) : gV G M d Q pc ls (sl x :: st) k n h := by
  intro p e R s m args below meth c H locs cells slots mc ms C hr hs hk hn a hl
  subst he
  exact lv_lstore_n C.1 C.2.1 hd hi hl hn' rfl (fun a' hl' => kk p e R s m args below meth c H locs cells slots mc ms C hr hs hk hn a' (set2 ho hl'))
theorem v_lstore {i : Nat} {x : Int64} (ls' : lc) (hd : decode M.2.1 pc = .ok (.lstore i, 2)) (hn' : i + 1 < M.2.2.1) (ho : okS ls i = true) (he : (ls.set i (some (sl x))).set (i + 1) none = ls') (kk : gV G M d Q (pc + 2) ls' st k n h) : gV G M d Q pc ls (sl x :: st) k n h := by
  intro p e R s m args below meth c H locs cells slots mc ms C hr hs hk hn a hl
  subst he
  exact lv_lstore C.1 C.2.1 hd hl hn' rfl (fun a' hl' => kk p e R s m args below meth c H locs cells slots mc ms C hr hs hk hn a' (set2 ho hl'))
theorem v_astore_n {j : Fin 4} {i : Nat} {r : Option Nat} (ls' : lc) (hd : decode M.2.1 pc = .ok (.astore_n j, 1)) (hi : (j : Nat) = i) (hn' : i < M.2.2.1) (ho : okS ls i = true) (he : ls.set i (some (sr r)) = ls') (kk : gV G M d Q (pc + 1) ls' st k n h) : gV G M d Q pc ls (sr r :: st) k n h := by
  intro p e R s m args below meth c H locs cells slots mc ms C hr hs hk hn a hl
  subst he
  cases r with
  | none => exact lv_astore_nN C.1 C.2.1 hd hi hl hn' rfl (fun a' hl' => kk p e R s m args below meth c H locs cells slots mc ms C hr hs hk hn a' (set1 ho hl'))
  | some x => exact lv_astore_n C.1 C.2.1 hd hi hl hn' rfl (fun a' hl' => kk p e R s m args below meth c H locs cells slots mc ms C hr hs hk hn a' (set1 ho hl'))
theorem v_astore {i : Nat} {r : Option Nat} (ls' : lc) (hd : decode M.2.1 pc = .ok (.astore i, 2)) (hn' : i < M.2.2.1) (ho : okS ls i = true) (he : ls.set i (some (sr r)) = ls') (kk : gV G M d Q (pc + 2) ls' st k n h) : gV G M d Q pc ls (sr r :: st) k n h := by
  intro p e R s m args below meth c H locs cells slots mc ms C hr hs hk hn a hl
  subst he
  cases r with
  | none => exact lv_astoreN C.1 C.2.1 hd hl hn' rfl (fun a' hl' => kk p e R s m args below meth c H locs cells slots mc ms C hr hs hk hn a' (set1 ho hl'))
  | some x => exact lv_astore C.1 C.2.1 hd hl hn' rfl (fun a' hl' => kk p e R s m args below meth c H locs cells slots mc ms C hr hs hk hn a' (set1 ho hl'))
theorem v_iinc {i : Nat} {z : Int} {x : Int32} (v : Int32) (ls' : lc) (hd : decode M.2.1 pc = .ok (.iinc i z, 3)) (hx : ls[i]? = some (some (si x))) (hv : x + Int32.ofInt z = v) (ho : okS ls i = true) (he : ls.set i (some (si v)) = ls') (kk : gV G M d Q (pc + 3) ls' st k n h) : gV G M d Q pc ls st k n h := by
  intro p e R s m args below meth c H locs cells slots mc ms C hr hs hk hn a hl
  subst he
  obtain ⟨j, hj⟩ := List.getElem?_of_mem ((asc_mem ls 0).mpr ⟨i, _, hx, rfl⟩)
  rw [Nat.zero_add] at hj
  exact lv_iinc C.1 C.2.1 hd hl hj hv (hasL_lt hl hx) rfl (fun a' hl' => kk p e R s m args below meth c H locs cells slots mc ms C hr hs hk hn a' (set1 ho hl'))
/-- fewer locals are told -/
theorem v_less (ls' : lc) (hm : ∀ (i : Nat) (v : sv), ls'[i]? = some (some v) → ls[i]? = some (some v)) (kk : gV G M d Q pc ls' st k n h) : gV G M d Q pc ls st k n h :=
  fun p e R s m args below meth c H locs cells slots mc ms C hr hs hk hn a hl => kk p e R s m args below meth c H locs cells slots mc ms C hr hs hk hn a (hasL_sub hl hm)
/-- less room is told -/
theorem v_room {k' n' : Nat} (h1 : k' ≤ k) (h2 : n' ≤ n) (kk : gV G M d Q pc ls st k' n' h) : gV G M d Q pc ls st k n h :=
  fun p e R s m args below meth c H locs cells slots mc ms C hr hs hk hn a hl => kk p e R s m args below meth c H locs cells slots mc ms C hr hs (by omega) (by omega) a hl
end VR

/-! ===== a method's body as a function over the abstract heap: its parts that may fail, and the rows by which it is followed ===== -/
def okB {β : Type} (o : Option β) (P : β → Prop) : Prop := ∃ b, o = some b ∧ P b
theorem okB_none {β : Type} {P : β → Prop} (h : okB (none : Option β) P) : False := by obtain ⟨b, h1, -⟩ := h; cases h1
theorem okB_some {β : Type} {P : β → Prop} {b : β} (h : okB (some b) P) : P b := by obtain ⟨c, h1, h2⟩ := h; cases h1; exact h2
theorem okB_bind {α β : Type} {P : β → Prop} {o : Option α} {f : α → Option β} (h : okB (o.bind f) P) : ∃ x, o = some x ∧ okB (f x) P := by
  obtain ⟨b, h1, h2⟩ := h
  cases o with
  | none => cases h1
  | some x => exact ⟨x, rfl, b, h1, h2⟩
theorem okB_if {β : Type} {P : β → Prop} {c : Prop} [Decidable c] {a b : Option β} (h : okB (if c then a else b) P) : (c → okB a P) ∧ (¬ c → okB b P) :=
  ⟨fun hc => by rw [if_pos hc] at h; exact h, fun hc => by rw [if_neg hc] at h; exact h⟩
theorem okB_mono {β : Type} {P P' : β → Prop} {o : Option β} (h : okB o P) (hp : ∀ b, P b → P' b) : okB o P' := by obtain ⟨b, h1, h2⟩ := h; exact ⟨b, h1, hp b h2⟩
def inb (i : Int32) (n : Nat) : Bool := decide (0 ≤ i.toInt ∧ i.toInt < n)
theorem inb_in {i : Int32} {n : Nat} (h : inb i n = true) : vp_in i n := vp_in_iff.mpr (of_decide_eq_true h)
def oGI (ci j : Nat) (r : Option Nat) (h : hp) : Option Int32 := match r with
  | some a => if (hT h a).1 = ci + 1 then some (hI h a j) else none
  | none => none
def oGR (ci j : Nat) (r : Option Nat) (h : hp) : Option (Option Nat) := match r with
  | some a => if (hT h a).1 = ci + 1 then some (hR h a j) else none
  | none => none
def oPI (ci j : Nat) (r : Option Nat) (x : Int32) (h : hp) : Option hp := match r with
  | some a => if (hT h a).1 = ci + 1 then some (wI h a j x) else none
  | none => none
def oPZ (ci j : Nat) (r : Option Nat) (x : Int32) (h : hp) : Option hp := match r with
  | some a => if (hT h a).1 = ci + 1 ∧ (x = 0 ∨ x = 1) then some (wI h a j x) else none
  | none => none
def oPR (ci j : Nat) (r : Option Nat) (x : Option Nat) (h : hp) : Option hp := match r with
  | some a => if (hT h a).1 = ci + 1 then some (wR h a j x) else none
  | none => none
def oIL (r : Option Nat) (i : Int32) (h : hp) : Option Int32 := match r with
  | some a => if (hT h a).1 = 20 ∧ inb i (hT h a).2 = true then some (hI h a i.toNatClampNeg) else none
  | none => none
def oAL (kd : Nat) (r : Option Nat) (i : Int32) (h : hp) : Option (Option Nat) := match r with
  | some a => if (hT h a).1 = kd ∧ inb i (hT h a).2 = true then some (hR h a i.toNatClampNeg) else none
  | none => none
def oIS (r : Option Nat) (i x : Int32) (h : hp) : Option hp := match r with
  | some a => if (hT h a).1 = 20 ∧ inb i (hT h a).2 = true then some (wI h a i.toNatClampNeg x) else none
  | none => none
def tyV (h : hp) (t : Nat) (v : Option Nat) : Bool := match v with
  | some a => decide ((hT h a).1 = t)
  | none => true
def oAS (kd t : Nat) (r : Option Nat) (i : Int32) (v : Option Nat) (h : hp) : Option hp := match r with
  | some a => if (hT h a).1 = kd ∧ inb i (hT h a).2 = true ∧ tyV h t v = true then some (wR h a i.toNatClampNeg v) else none
  | none => none
def oLen (r : Option Nat) (h : hp) : Option Int32 := match r with
  | some a => if 20 ≤ (hT h a).1 ∧ (hT h a).1 ≤ 24 then some (nI (hT h a).2) else none
  | none => none
def oLt (i : Int32) : Option Int32 := if inb i 26 = true then some (lett i.toNatClampNeg) else none
def oNz (y : Int32) : Option Unit := if y = 0 then none else some ()
def oBo (x : Int32) : Option Unit := if x = 0 ∨ x = 1 then some () else none
/-- an object that is asked for is there, of its class -/
def oOb (ci : Nat) (r : Option Nat) (h : hp) : Option Nat := match r with
  | some a => if (hT h a).1 = ci + 1 then some a else none
  | none => none
/-- a text that is asked for -/
def oTx (i : Nat) : Option Unit := if i < 45 then some () else none
/-- a length of a new row -/
def oNl (x : Int32) : Option Nat := if inb x 4096 = true then some x.toNatClampNeg else none
section VO
variable {G : gG} {M : gM} {d : Nat} {Q : hQ} {pc : Nat} {ls : lc} {st : List sv} {k n : Nat} {h : hp} {β : Type} {P : β → Prop}
theorem s_getI {idx ci j : Nat} {r : Option Nat} {f : Int32 → Option β} (hd : decode M.2.1 pc = .ok (.getfield idx, 3)) (hf : fl M.1.cls idx ci j) (hrf : hk_rf ci j = false) (hF : okB ((oGI ci j r h).bind f) P) (kk : ∀ x : Int32, okB (f x) P → gV G M d Q (pc + 3) ls (si x :: st) k n h) : gV G M d Q pc ls (sr r :: st) k n h := by
  obtain ⟨x, hx, hF⟩ := okB_bind hF
  cases r with
  | none => cases hx
  | some a =>
    simp only [oGI] at hx
    split at hx
    · cases hx; exact v_getI hd hf (by assumption) hrf (kk _ hF)
    · cases hx
theorem s_getR {idx ci j : Nat} {r : Option Nat} {f : Option Nat → Option β} (hd : decode M.2.1 pc = .ok (.getfield idx, 3)) (hf : fl M.1.cls idx ci j) (hrf : hk_rf ci j = true) (hF : okB ((oGR ci j r h).bind f) P) (kk : ∀ x : Option Nat, okB (f x) P → gV G M d Q (pc + 3) ls (sr x :: st) k n h) : gV G M d Q pc ls (sr r :: st) k n h := by
  obtain ⟨x, hx, hF⟩ := okB_bind hF
  cases r with
  | none => cases hx
  | some a =>
    simp only [oGR] at hx
    split at hx
    · cases hx; exact v_getR hd hf (by assumption) hrf (kk _ hF)
    · cases hx
theorem s_putI {idx ci j : Nat} {r : Option Nat} {x : Int32} {f : hp → Option β} (hd : decode M.2.1 pc = .ok (.putfield idx, 3)) (hf : fl M.1.cls idx ci j) (hfin : (hk_T ci j).2.2.2 = false ∨ ((hk_T ci j).2.2.2 = true ∧ M.1.name = "<init>" ∧ (hk_T ci j).1 = M.1.cls)) (hty : hk_ty ci j = .int)
    (hF : okB ((oPI ci j r x h).bind f) P) (kk : ∀ h' : hp, okB (f h') P → gV G M d Q (pc + 3) ls st k n h') : gV G M d Q pc ls (si x :: sr r :: st) k n h := by
  obtain ⟨h', hx, hF⟩ := okB_bind hF
  cases r with
  | none => cases hx
  | some a =>
    simp only [oPI] at hx
    split at hx
    · cases hx; exact v_putI hd hf (by assumption) hfin hty (kk _ hF)
    · cases hx
theorem s_putZ {idx ci j : Nat} {r : Option Nat} {x : Int32} {f : hp → Option β} (hd : decode M.2.1 pc = .ok (.putfield idx, 3)) (hf : fl M.1.cls idx ci j) (hfin : (hk_T ci j).2.2.2 = false ∨ ((hk_T ci j).2.2.2 = true ∧ M.1.name = "<init>" ∧ (hk_T ci j).1 = M.1.cls)) (hty : hk_ty ci j = .boolean)
    (hF : okB ((oPZ ci j r x h).bind f) P) (kk : ∀ h' : hp, okB (f h') P → gV G M d Q (pc + 3) ls st k n h') : gV G M d Q pc ls (si x :: sr r :: st) k n h := by
  obtain ⟨h', hx, hF⟩ := okB_bind hF
  cases r with
  | none => cases hx
  | some a =>
    simp only [oPZ] at hx
    split at hx
    · rename_i hc
      cases hx; exact v_putZ hd hf hc.1 hfin hty hc.2 (kk _ hF)
    · cases hx
theorem s_putR {idx ci j : Nat} {r x : Option Nat} {f : hp → Option β} (hd : decode M.2.1 pc = .ok (.putfield idx, 3)) (hf : fl M.1.cls idx ci j) (hfin : (hk_T ci j).2.2.2 = false ∨ ((hk_T ci j).2.2.2 = true ∧ M.1.name = "<init>" ∧ (hk_T ci j).1 = M.1.cls)) (hty : hk_rf ci j = true)
    (hF : okB ((oPR ci j r x h).bind f) P) (kk : ∀ h' : hp, okB (f h') P → gV G M d Q (pc + 3) ls st k n h') : gV G M d Q pc ls (sr x :: sr r :: st) k n h := by
  obtain ⟨h', hx, hF⟩ := okB_bind hF
  cases r with
  | none => cases hx
  | some a =>
    simp only [oPR] at hx
    split at hx
    · cases hx; exact v_putR hd hf (by assumption) hfin hty (kk _ hF)
    · cases hx
theorem s_iald {r : Option Nat} {i : Int32} {f : Int32 → Option β} (hd : decode M.2.1 pc = .ok (.iaload, 1)) (hF : okB ((oIL r i h).bind f) P) (kk : ∀ x : Int32, okB (f x) P → gV G M d Q (pc + 1) ls (si x :: st) k n h) : gV G M d Q pc ls (si i :: sr r :: st) k n h := by
  obtain ⟨x, hx, hF⟩ := okB_bind hF
  cases r with
  | none => cases hx
  | some a =>
    simp only [oIL] at hx
    split at hx
    · rename_i hc
      cases hx; exact v_iald hd hc.1 (inb_in hc.2) (kk _ hF)
    · cases hx
theorem s_aald22 {r : Option Nat} {i : Int32} {f : Option Nat → Option β} (hd : decode M.2.1 pc = .ok (.aaload, 1)) (hF : okB ((oAL 22 r i h).bind f) P) (kk : ∀ x : Option Nat, okB (f x) P → gV G M d Q (pc + 1) ls (sr x :: st) k n h) : gV G M d Q pc ls (si i :: sr r :: st) k n h := by
  obtain ⟨x, hx, hF⟩ := okB_bind hF
  cases r with
  | none => cases hx
  | some a =>
    simp only [oAL] at hx
    split at hx
    · rename_i hc
      cases hx; exact v_aald22 hd hc.1 (inb_in hc.2) (kk _ hF)
    · cases hx
theorem s_aald23 {r : Option Nat} {i : Int32} {f : Option Nat → Option β} (hd : decode M.2.1 pc = .ok (.aaload, 1)) (hF : okB ((oAL 23 r i h).bind f) P) (kk : ∀ x : Option Nat, okB (f x) P → gV G M d Q (pc + 1) ls (sr x :: st) k n h) : gV G M d Q pc ls (si i :: sr r :: st) k n h := by
  obtain ⟨x, hx, hF⟩ := okB_bind hF
  cases r with
  | none => cases hx
  | some a =>
    simp only [oAL] at hx
    split at hx
    · rename_i hc
      cases hx; exact v_aald23 hd hc.1 (inb_in hc.2) (kk _ hF)
    · cases hx
theorem s_iast {r : Option Nat} {i x : Int32} {f : hp → Option β} (hd : decode M.2.1 pc = .ok (.iastore, 1)) (hF : okB ((oIS r i x h).bind f) P) (kk : ∀ h' : hp, okB (f h') P → gV G M d Q (pc + 1) ls st k n h') : gV G M d Q pc ls (si x :: si i :: sr r :: st) k n h := by
  obtain ⟨h', hx, hF⟩ := okB_bind hF
  cases r with
  | none => cases hx
  | some a =>
    simp only [oIS] at hx
    split at hx
    · rename_i hc
      cases hx; exact v_iast hd hc.1 (inb_in hc.2) (kk _ hF)
    · cases hx
theorem tyV_of {t : Nat} {v : Option Nat} (hv : tyV h t v = true) : ∀ a, v = some a → (hT h a).1 = t := by
  intro a e
  subst e
  exact of_decide_eq_true hv
theorem s_aast22 {r v : Option Nat} {i : Int32} {f : hp → Option β} (hd : decode M.2.1 pc = .ok (.aastore, 1)) (hF : okB ((oAS 22 2 r i v h).bind f) P) (kk : ∀ h' : hp, okB (f h') P → gV G M d Q (pc + 1) ls st k n h') : gV G M d Q pc ls (sr v :: si i :: sr r :: st) k n h := by
  obtain ⟨h', hx, hF⟩ := okB_bind hF
  cases r with
  | none => cases hx
  | some a =>
    simp only [oAS] at hx
    split at hx
    · rename_i hc
      cases hx; exact v_aast22 hd hc.1 (inb_in hc.2.1) (tyV_of hc.2.2) (kk _ hF)
    · cases hx
theorem s_aast23 {r v : Option Nat} {i : Int32} {f : hp → Option β} (hd : decode M.2.1 pc = .ok (.aastore, 1)) (hF : okB ((oAS 23 1 r i v h).bind f) P) (kk : ∀ h' : hp, okB (f h') P → gV G M d Q (pc + 1) ls st k n h') : gV G M d Q pc ls (sr v :: si i :: sr r :: st) k n h := by
  obtain ⟨h', hx, hF⟩ := okB_bind hF
  cases r with
  | none => cases hx
  | some a =>
    simp only [oAS] at hx
    split at hx
    · rename_i hc
      cases hx; exact v_aast23 hd hc.1 (inb_in hc.2.1) (tyV_of hc.2.2) (kk _ hF)
    · cases hx
theorem s_alen {r : Option Nat} {f : Int32 → Option β} (hd : decode M.2.1 pc = .ok (.arraylength, 1)) (hF : okB ((oLen r h).bind f) P) (kk : ∀ x : Int32, okB (f x) P → gV G M d Q (pc + 1) ls (si x :: st) k n h) : gV G M d Q pc ls (sr r :: st) k n h := by
  obtain ⟨x, hx, hF⟩ := okB_bind hF
  cases r with
  | none => cases hx
  | some a =>
    simp only [oLen] at hx
    split at hx
    · rename_i hc
      cases hx; exact v_alen hd (by omega) (kk _ hF)
    · cases hx
theorem s_lett {i : Int32} {f : Int32 → Option β} (hd : decode M.2.1 pc = .ok (.iaload, 1)) (hF : okB ((oLt i).bind f) P) (kk : ∀ x : Int32, okB (f x) P → gV G M d Q (pc + 1) ls (si x :: st) k n h) : gV G M d Q pc ls (si i :: sr (some (gt G)) :: st) k n h := by
  obtain ⟨x, hx, hF⟩ := okB_bind hF
  simp only [oLt] at hx
  split at hx
  · cases hx; exact v_lettA hd (inb_in (by assumption)) (kk _ hF)
  · cases hx
theorem s_idiv {x y : Int32} {f : Unit → Option β} (hd : decode M.2.1 pc = .ok (.idiv, 1)) (hF : okB ((oNz y).bind f) P) (kk : okB (f ()) P → gV G M d Q (pc + 1) ls (si (x / y) :: st) k n h) : gV G M d Q pc ls (si y :: si x :: st) k n h := by
  obtain ⟨u, hx, hF⟩ := okB_bind hF
  simp only [oNz] at hx
  split at hx
  · cases hx
  · exact v_idiv hd (by assumption) (kk hF)
theorem s_irem {x y : Int32} {f : Unit → Option β} (hd : decode M.2.1 pc = .ok (.irem, 1)) (hF : okB ((oNz y).bind f) P) (kk : okB (f ()) P → gV G M d Q (pc + 1) ls (si (x - x / y * y) :: st) k n h) : gV G M d Q pc ls (si y :: si x :: st) k n h := by
  obtain ⟨u, hx, hF⟩ := okB_bind hF
  simp only [oNz] at hx
  split at hx
  · cases hx
  · exact v_irem hd (by assumption) (kk hF)
/-- a boolean that is returned -/
theorem s_zret {x : Int32} {f : Unit → Option β} (hd : decode M.2.1 pc = .ok (.ireturn, 1)) (hret : M.2.2.2.1 = some .boolean) (hF : okB ((oBo x).bind f) P) (kk : okB (f ()) P → Q (.inl (some (si x))) h) : gV G M d Q pc ls [si x] k n h := by
  obtain ⟨u, hx, hF⟩ := okB_bind hF
  simp only [oBo] at hx
  split at hx
  · rename_i hc
    exact v_iret hd hret (by rcases hc with rfl | rfl <;> rfl) (kk hF)
  · cases hx
theorem s_newI {x : Int32} {f : Nat → Option β} (hd : decode M.2.1 pc = .ok (.newarray .int, 2)) (hF : okB ((oNl x).bind f) P) (m0 : Nat) (hm : ∀ len, oNl x = some len → len ≤ m0) (kk : ∀ len : Nat, okB (f len) P → gV G M d Q (pc + 2) ls (sr (some (hN h)) :: st) k n (wN h (20, len))) : gV G M d Q pc ls (si x :: st) (k + 1) (n + m0) h := by
  obtain ⟨len, hx, hF⟩ := okB_bind hF
  have h1 := hm len hx
  simp only [oNl] at hx
  split at hx
  · rename_i hc
    cases hx
    have h2 := of_decide_eq_true hc
    refine v_room (k' := k + 1) (n' := n + x.toNatClampNeg) (Nat.le_refl _) (by omega) (v_newI hd ?_ ?_ (kk _ hF))
    · apply Int32.toInt_inj.mp
      have : x.toNatClampNeg = x.toInt.toNat := rfl
      rw [nI_toInt (by rw [this]; omega), this]
      omega
    · have : x.toNatClampNeg = x.toInt.toNat := rfl
      rw [this]; omega
  · cases hx
theorem s_ifs {c : Prop} [Decidable c] {a b : Option β} {A B : Prop} (hF : okB (if c then a else b) P) (kt : okB a P → A) (kf : okB b P → B) : (c → A) ∧ (¬ c → B) := ⟨fun hc => kt ((okB_if hF).1 hc), fun hc => kf ((okB_if hF).2 hc)⟩
theorem s_ifnull {r : Option Nat} {off : Int} {a : Option β} {f : Option β} (t : Nat) (hd : decode M.2.1 pc = .ok (.ifnull off, 3)) (ht : (pc : Int) + off = (t : Int)) (hF : okB (if r = none then a else f) P) (kt : okB a P → gV G M d Q t ls st k n h) (kf : okB f P → gV G M d Q (pc + 3) ls st k n h) : gV G M d Q pc ls (sr r :: st) k n h :=
  v_ifnull t hd ht (fun e => kt ((okB_if hF).1 e)) (fun x e => kf ((okB_if hF).2 (by rw [e]; exact Option.some_ne_none x)))
theorem s_ifnonnull {r : Option Nat} {off : Int} {a : Option β} {f : Option β} (t : Nat) (hd : decode M.2.1 pc = .ok (.ifnonnull off, 3)) (ht : (pc : Int) + off = (t : Int)) (hF : okB (if r = none then f else a) P) (kt : okB a P → gV G M d Q t ls st k n h) (kf : okB f P → gV G M d Q (pc + 3) ls st k n h) : gV G M d Q pc ls (sr r :: st) k n h :=
  v_ifnonnull t hd ht (fun x e => kt ((okB_if hF).2 (by rw [e]; exact Option.some_ne_none x))) (fun e => kf ((okB_if hF).1 e))
/-- fewer locals, by a list -/
def lle : lc → lc → Prop
  | [], _ => True
  | none :: l', _ :: l => lle l' l
  | some v :: l', w :: l => some v = w ∧ lle l' l
  | _ :: _, [] => False
theorem lle_sub : ∀ {l' l : lc}, lle l' l → ∀ (i : Nat) (v : sv), l'[i]? = some (some v) → l[i]? = some (some v)
  | [], _, _, i, v, h => by simp at h
  | none :: l', w :: l, h, i, v, hi => by
    cases i with
    | zero => simp at hi
    | succ i => rw [List.getElem?_cons_succ] at hi ⊢; exact lle_sub (l' := l') (l := l) h i v hi
  | some u :: l', w :: l, h, i, v, hi => by
    cases i with
    | zero => rw [List.getElem?_cons_zero] at hi ⊢; rw [← h.1]; exact hi
    | succ i => rw [List.getElem?_cons_succ] at hi ⊢; exact lle_sub (l' := l') (l := l) h.2 i v hi
  | none :: l', [], h, i, v, hi => h.elim
  | some _ :: l', [], h, i, v, hi => h.elim
theorem v_lle (ls' : lc) (hm : lle ls' ls) (kk : gV G M d Q pc ls' st k n h) : gV G M d Q pc ls st k n h := v_less ls' (lle_sub hm) kk
/-- a method out of its body, its arguments as locals -/
def largs : Nat → List sv → lc
  | _, [] => []
  | i, v :: vs => if s2 v = true then some v :: none :: largs (i + 2) vs else some v :: largs (i + 1) vs
theorem largs_mem : ∀ (vs : List sv) (b i : Nat) (v : sv), (largs b vs)[i]? = some (some v) → (b + i, tv v) ∈ lv_args b (vs.map tv) := by
  intro vs
  induction vs with
  | nil => intro b i v h; simp [largs] at h
  | cons w vs ih =>
    intro b i v h
    unfold largs at h
    simp only [List.map_cons, lv_args]
    by_cases hw : s2 w = true
    · rw [if_pos hw] at h
      rw [if_pos (by rw [tv_cat2]; exact hw)]
      cases i with
      | zero => simp at h; subst h; simp
      | succ i =>
        cases i with
        | zero => simp at h
        | succ i =>
          have := ih (b + 2) i v (by simpa using h)
          rw [show b + (i + 1 + 1) = b + 2 + i by omega]
          exact List.mem_cons_of_mem _ this
    · rw [if_neg hw] at h
      rw [if_neg (by rw [tv_cat2]; exact hw)]
      cases i with
      | zero => simp at h; subst h; simp
      | succ i =>
        have := ih (b + 1) i v (by simpa using h)
        rw [show b + (i + 1) = b + 1 + i by omega]
        exact List.mem_cons_of_mem _ this
def slen : List sv → Nat
  | [] => 0
  | v :: vs => (if s2 v = true then 2 else 1) + slen vs
theorem sl_len : ∀ vs : List sv, (lg_sl (vs.map tv)).length = slen vs
  | [] => rfl
  | v :: vs => by
    have h1 := sl_len vs
    unfold lg_sl at h1 ⊢
    rw [List.map_cons, List.flatMap_cons, List.length_append, h1]
    show _ = (if s2 v = true then 2 else 1) + slen vs
    by_cases hw : s2 v = true
    · rw [if_pos hw, if_pos (by rw [tv_cat2]; exact hw)]; rfl
    · rw [if_neg hw, if_neg (by rw [tv_cat2]; exact hw)]; rfl
theorem gS_in {k1 n1 : Nat} {as : List sv} (hy : plainName M.1.cls = true) (hh : M.2.2.2.2 = []) (hlen : slen as ≤ M.2.2.1) (body : gV G M d Q 0 (largs 0 as) [] k1 n1 h) : gS G M d k1 n1 as h Q :=
  gS_of hy hh (by rw [sl_len]; exact hlen) (largs 0 as) (fun i v hi => by have := largs_mem as 0 i v hi; rw [Nat.zero_add] at this; exact this) body
end VO

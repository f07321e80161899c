/-! ===== calls by functions, once for all kinds of answers; loops; choices that end a method ===== -/
/-- a call that may throw, of a method that leaves the heap as it is -/
def oC {ρ β : Type} (o : Option (ρ ⊕ String)) (e : String → β) (f : ρ → Option β) : Option β := o.bind fun q => match q with
  | .inl x => f x
  | .inr E => some (e E)
/-- a call that may throw -/
def oX {ρ β : Type} (o : Option ((ρ ⊕ String) × hp)) (e : String → hp → β) (f : ρ → hp → Option β) : Option β := o.bind fun p => match p.1 with
  | .inl x => f x p.2
  | .inr E => some (e E p.2)
/-- a part that may end the whole -/
def oR {τ σ : Type} (o : Option (τ ⊕ σ)) (f : σ → Option τ) : Option τ := o.bind fun q => match q with
  | .inl r => some r
  | .inr s => f s
/-- a loop: its body goes on or ends -/
def itr {α β : Type} (F : α → Option (α ⊕ β)) : Nat → α → Option β
  | 0, _ => none
  | n + 1, a => (F a).bind fun q => match q with
    | .inl a' => itr F n a'
    | .inr b => some b
abbrev gI : Int32 → Option sv := fun x => some (si x)
abbrev gR : Option Nat → Option sv := fun x => some (sr x)
abbrev gL : Int64 → Option sv := fun x => some (sl x)
abbrev gU : Unit → Option sv := fun _ => none
abbrev gT (G : gG) : Nat → Option sv := fun i => some (sr (some (ga G i)))
/-- what is asked of an answer: heap kept, heap kept or thrown, any heap, any heap or thrown -/
def pP {ρ : Type} (g : ρ → Option sv) (Q : hQ) (h : hp) (x : ρ) : Prop := Q (.inl (g x)) h
def pC {ρ : Type} (g : ρ → Option sv) (Q : hQ) (h : hp) (q : ρ ⊕ String) : Prop := match q with
  | .inl x => Q (.inl (g x)) h
  | .inr E => Q (.inr E) h
def pH {ρ : Type} (g : ρ → Option sv) (Q : hQ) (p : ρ × hp) : Prop := Q (.inl (g p.1)) p.2
def pX {ρ : Type} (g : ρ → Option sv) (Q : hQ) (p : (ρ ⊕ String) × hp) : Prop := match p.1 with
  | .inl x => Q (.inl (g x)) p.2
  | .inr E => Q (.inr E) p.2
def oTA (i : Nat) (j : Int32) : Option Int32 := if i < 45 ∧ inb j (strL i) = true then some (strB i j.toNatClampNeg) else none
def oCh (x : Int32) : Option Unit := if x.toUInt32.toUInt16.toUInt32.toInt32 = x then some () else none
def oBy (x : Int32) : Option Unit := if x.toInt8.toInt32 = x then some () else none
def oNm (x : Int32) : Option Nat := if inb x 101 = true then some x.toNatClampNeg else none
theorem mg {σ β : Type} {P : β → Prop} {o : Option σ} {f : σ → Option β} {X : σ → Prop} {A : Prop} (hF : okB (o.bind f) P) (kk : ∀ P' : σ → Prop, (∀ q, P' q → X q) → okB o P' → A) (kJ : ∀ q, okB (f q) P → X q) : A := kk (fun q => okB (f q) P) kJ (okB_bd hF)
theorem mgR {τ σ : Type} {P : τ → Prop} {o : Option (τ ⊕ σ)} {f : σ → Option τ} {X : σ → Prop} {A : Prop} (hF : okB (oR o f) P) (kk : ∀ P' : τ ⊕ σ → Prop, (∀ q, P' (.inr q) → X q) → (∀ r, P' (.inl r) → P r) → okB o P' → A) (kJ : ∀ q, okB (f q) P → X q) : A := by
  refine kk (fun s => match s with
    | .inl r => P r
    | .inr q => okB (f q) P) (fun q hq => kJ q hq) (fun r hr => hr) ?_
  obtain ⟨x, h1, h2⟩ := okB_bind hF
  refine ⟨x, h1, ?_⟩
  cases x with
  | inl r => exact okB_some (P := P) (b := r) h2
  | inr q => exact h2
theorem lpg {α β : Type} {F : α → Option (α ⊕ β)} {P : β → Prop} {X : α → Prop} (hb : ∀ (a : α) (P' : α ⊕ β → Prop), (∀ a', P' (.inl a') → X a') → (∀ b, P' (.inr b) → P b) → okB (F a) P' → X a) : ∀ (n : Nat) (a : α), okB (itr F n a) P → X a
  | 0, _, hF => (okB_none hF).elim
  | n + 1, a, hF => by
    refine hb a (fun q => match q with
      | .inl a' => okB (itr F n a') P
      | .inr b => P b) (fun a' h => lpg hb n a' h) (fun b h => h) ?_
    obtain ⟨x, h1, h2⟩ := okB_bind (show okB ((F a).bind fun q => match q with
      | .inl a' => itr F n a'
      | .inr b => some b) P from hF)
    refine ⟨x, h1, ?_⟩
    cases x with
    | inl a' => exact h2
    | inr b => exact okB_some (P := P) (b := b) h2
/-- a loop that makes cells in each turn -/
theorem lpn {α β : Type} {F : α → Option (α ⊕ β)} {P : β → Prop} {X : Nat → α → Prop} (hb : ∀ (m : Nat) (a : α) (P' : α ⊕ β → Prop), (∀ a', P' (.inl a') → X m a') → (∀ b, P' (.inr b) → P b) → okB (F a) P' → X (m + 1) a) : ∀ (n : Nat) (a : α), okB (itr F n a) P → X n a
  | 0, _, hF => (okB_none hF).elim
  | n + 1, a, hF => by
    refine hb n a (fun q => match q with
      | .inl a' => okB (itr F n a') P
      | .inr b => P b) (fun a' h => lpn hb n a' h) (fun b h => h) ?_
    obtain ⟨x, h1, h2⟩ := okB_bind (show okB ((F a).bind fun q => match q with
      | .inl a' => itr F n a'
      | .inr b => some b) P from hF)
    refine ⟨x, h1, ?_⟩
    cases x with
    | inl a' => exact h2
    | inr b => exact okB_some (P := P) (b := b) h2
theorem okr {β : Type} {P : β → Prop} {b : β} {A : Prop} (hF : okB (some b) P) (e : P b → A) : A := e (okB_some hF)
theorem ne_toInt {x k : Int32} {z : Int} (hk : k.toInt = z) (h : ¬ x = k) : ¬ z = x.toInt := fun e => h (Int32.toInt_inj.mp (by rw [hk, e]))
section VP
variable {G : gG} {M : gM} {d : Nat} {Q : hQ} {pc : Nat} {ls : lc} {st : List sv} {k n : Nat} {h : hp} {β : Type} {P : β → Prop}
theorem oOb_of {ci : Nat} {r : Option Nat} {b : Nat} (hb : oOb ci r h = some b) : r = some b ∧ (hT h b).1 = ci + 1 := by
  cases r with
  | none => cases hb
  | some a =>
    simp only [oOb] at hb
    split at hb
    · cases hb; exact ⟨rfl, by assumption⟩
    · cases hb
theorem oTx_of {i : Nat} {u : Unit} (hb : oTx i = some u) : i < 45 := by
  simp only [oTx] at hb
  split at hb
  · assumption
  · cases hb
/-! a virtual call, a static call, a call of a text's method, a call of a constructor: all kinds -/
theorem cg_V {ρ : Type} (w : ρ → oc × hp) {idx np ci d1 k1 n1 : Nat} {N : gM} {as : List sv} {r : Option Nat} {F : Nat → Option ρ} {f : ρ → Option β} (hd : decode M.2.1 pc = .ok (.invokevirtual idx, 3)) (hlk : Cond.methodLink M.1.cls idx N.1 ∈ XW) (hcal : cal N np) (hcv : calV N) (hnp : as.length = np) (hci : ci < 11) (hC : N.1.cls = hk_C ci)
    (hS : ∀ (b : Nat) (Q1 : hQ), okB (F b) (fun x => Q1 (w x).1 (w x).2) → gS G N d1 k1 n1 (sr (some b) :: as) h Q1) (hdd : d1 + 1 ≤ d ∧ N.2.2.1 ≤ 21) (hst : st.length ≤ 4) (hh : M.2.2.2.2 = []) (hF : okB ((oOb ci r h).bind fun b => (F b).bind f) P)
    (kk : ∀ (x : ρ) (v : Option sv), okB (f x) P → (w x).1 = .inl v → gV G M d Q (pc + 3) ls (v.toList ++ st) k n (w x).2) (kx : ∀ (x : ρ) (E : String), okB (f x) P → (w x).1 = .inr E → Q (.inr E) (w x).2) : gV G M d Q pc ls (as.reverse ++ sr r :: st) (k + k1) (n + n1) h := by
  rw [Nat.add_comm k k1, Nat.add_comm n n1]
  obtain ⟨b, hb, hG⟩ := okB_bind hF
  obtain ⟨hr, hc⟩ := oOb_of hb
  rw [hr]
  refine v_invV hd hlk hcal hcv hnp hci hC hc (Q1 := fun o h' => ∃ x : ρ, w x = (o, h') ∧ okB (f x) P) (hS _ _ (okB_mono (okB_bd hG) (fun x hx => ⟨x, rfl, hx⟩))) hdd hst hh ?_ ?_
  · intro v h' hv
    obtain ⟨x, hx, hv⟩ := hv
    have := kk x v hv (by rw [hx])
    rw [hx] at this
    exact this
  · intro E h' hv
    obtain ⟨x, hx, hv⟩ := hv
    have := kx x E hv (by rw [hx])
    rw [hx] at this
    exact this
theorem cg_S {ρ : Type} (w : ρ → oc × hp) {idx np d1 k1 n1 : Nat} {N : gM} {as : List sv} {F : Option ρ} {f : ρ → Option β} (hd : decode M.2.1 pc = .ok (.invokestatic idx, 3)) (hlk : Cond.methodLink M.1.cls idx N.1 ∈ XW) (hcal : cal N np) (hcs : Cond.static N.1 ∈ XW) (hnp : as.length = np)
    (hS : ∀ (Q1 : hQ), okB F (fun x => Q1 (w x).1 (w x).2) → gS G N d1 k1 n1 as h Q1) (hdd : d1 + 1 ≤ d ∧ N.2.2.1 ≤ 21) (hst : st.length ≤ 4) (hh : M.2.2.2.2 = []) (hF : okB (F.bind f) P)
    (kk : ∀ (x : ρ) (v : Option sv), okB (f x) P → (w x).1 = .inl v → gV G M d Q (pc + 3) ls (v.toList ++ st) k n (w x).2) (kx : ∀ (x : ρ) (E : String), okB (f x) P → (w x).1 = .inr E → Q (.inr E) (w x).2) : gV G M d Q pc ls (as.reverse ++ st) (k + k1) (n + n1) h := by
  rw [Nat.add_comm k k1, Nat.add_comm n n1]
  refine v_invS hd hlk hcal hcs hnp (Q1 := fun o h' => ∃ x : ρ, w x = (o, h') ∧ okB (f x) P) (hS _ (okB_mono (okB_bd hF) (fun x hx => ⟨x, rfl, hx⟩))) hdd hst hh ?_ ?_
  · intro v h' hv
    obtain ⟨x, hx, hv⟩ := hv
    have := kk x v hv (by rw [hx])
    rw [hx] at this
    exact this
  · intro E h' hv
    obtain ⟨x, hx, hv⟩ := hv
    have := kx x E hv (by rw [hx])
    rw [hx] at this
    exact this
theorem cg_T {ρ : Type} (w : ρ → oc × hp) {idx np i d1 k1 n1 : Nat} {N : gM} {as : List sv} {F : Option ρ} {f : ρ → Option β} (hd : decode M.2.1 pc = .ok (.invokevirtual idx, 3)) (hlk : Cond.methodLink M.1.cls idx N.1 ∈ XW) (hcal : cal N np) (hcv : calV N) (hnp : as.length = np) (hC : N.1.cls = "java/lang/String")
    (hS : ∀ (Q1 : hQ), okB F (fun x => Q1 (w x).1 (w x).2) → gS G N d1 k1 n1 (sr (some (ga G i)) :: as) h Q1) (hdd : d1 + 1 ≤ d ∧ N.2.2.1 ≤ 21) (hst : st.length ≤ 4) (hh : M.2.2.2.2 = []) (hF : okB ((oTx i).bind fun _ => F.bind f) P)
    (kk : ∀ (x : ρ) (v : Option sv), okB (f x) P → (w x).1 = .inl v → gV G M d Q (pc + 3) ls (v.toList ++ st) k n (w x).2) (kx : ∀ (x : ρ) (E : String), okB (f x) P → (w x).1 = .inr E → Q (.inr E) (w x).2) : gV G M d Q pc ls (as.reverse ++ sr (some (ga G i)) :: st) (k + k1) (n + n1) h := by
  rw [Nat.add_comm k k1, Nat.add_comm n n1]
  obtain ⟨b, hb, hG⟩ := okB_bind hF
  refine v_invT hd hlk hcal hcv hnp (oTx_of hb) hC (Q1 := fun o h' => ∃ x : ρ, w x = (o, h') ∧ okB (f x) P) (hS _ (okB_mono (okB_bd hG) (fun x hx => ⟨x, rfl, hx⟩))) hdd hst hh ?_ ?_
  · intro v h' hv
    obtain ⟨x, hx, hv⟩ := hv
    have := kk x v hv (by rw [hx])
    rw [hx] at this
    exact this
  · intro E h' hv
    obtain ⟨x, hx, hv⟩ := hv
    have := kx x E hv (by rw [hx])
    rw [hx] at this
    exact this
/-! the same for each kind of method -/
theorem cp_V {ρ : Type} (g : ρ → Option sv) {idx np ci d1 k1 n1 : Nat} {N : gM} {as : List sv} {r : Option Nat} {F : Nat → Option ρ} {f : ρ → Option β} (hd : decode M.2.1 pc = .ok (.invokevirtual idx, 3)) (hlk : Cond.methodLink M.1.cls idx N.1 ∈ XW) (hcal : cal N np) (hcv : calV N) (hnp : as.length = np) (hci : ci < 11) (hC : N.1.cls = hk_C ci)
    (hS : ∀ (b : Nat) (Q1 : hQ), okB (F b) (pP g Q1 h) → gS G N d1 k1 n1 (sr (some b) :: as) h Q1) (hdd : d1 + 1 ≤ d ∧ N.2.2.1 ≤ 21) (hst : st.length ≤ 4) (hh : M.2.2.2.2 = []) (hF : okB ((oOb ci r h).bind fun b => (F b).bind f) P) (kk : ∀ x : ρ, okB (f x) P → gV G M d Q (pc + 3) ls ((g x).toList ++ st) k n h) : gV G M d Q pc ls (as.reverse ++ sr r :: st) (k + k1) (n + n1) h :=
  cg_V (fun x => (.inl (g x), h)) hd hlk hcal hcv hnp hci hC hS hdd hst hh hF (fun x v hx hv => by cases hv; exact kk x hx) (fun x E hx hv => by cases hv)
theorem ct_V {ρ : Type} (g : ρ → Option sv) {idx np ci d1 k1 n1 : Nat} {N : gM} {as : List sv} {r : Option Nat} {F : Nat → Option (ρ ⊕ String)} {e : String → β} {f : ρ → Option β} (hd : decode M.2.1 pc = .ok (.invokevirtual idx, 3)) (hlk : Cond.methodLink M.1.cls idx N.1 ∈ XW) (hcal : cal N np) (hcv : calV N) (hnp : as.length = np) (hci : ci < 11) (hC : N.1.cls = hk_C ci)
    (hS : ∀ (b : Nat) (Q1 : hQ), okB (F b) (pC g Q1 h) → gS G N d1 k1 n1 (sr (some b) :: as) h Q1) (hdd : d1 + 1 ≤ d ∧ N.2.2.1 ≤ 21) (hst : st.length ≤ 4) (hh : M.2.2.2.2 = []) (hF : okB ((oOb ci r h).bind fun b => oC (F b) e f) P) (hP : ∀ E, P (e E) → Q (.inr E) h) (kk : ∀ x : ρ, okB (f x) P → gV G M d Q (pc + 3) ls ((g x).toList ++ st) k n h) : gV G M d Q pc ls (as.reverse ++ sr r :: st) (k + k1) (n + n1) h :=
  cg_V (F := F) (f := fun q => match q with
    | .inl x => f x
    | .inr E => some (e E)) (fun q : ρ ⊕ String => (match q with
    | .inl x => .inl (g x)
    | .inr E => .inr E, h)) hd hlk hcal hcv hnp hci hC (fun b Q1 hq => hS b Q1 (okB_mono hq (fun q hx => by cases q <;> exact hx))) hdd hst hh hF (fun q v hx hv => by cases q with
    | inl x => cases hv; exact kk x hx
    | inr E => cases hv) (fun q E hx hv => by cases q with
    | inl x => cases hv
    | inr E => cases hv; exact hP _ (okB_some hx))
theorem ch_V {ρ : Type} (g : ρ → Option sv) {idx np ci d1 k1 n1 : Nat} {N : gM} {as : List sv} {r : Option Nat} {F : Nat → Option (ρ × hp)} {f : ρ → hp → Option β} (hd : decode M.2.1 pc = .ok (.invokevirtual idx, 3)) (hlk : Cond.methodLink M.1.cls idx N.1 ∈ XW) (hcal : cal N np) (hcv : calV N) (hnp : as.length = np) (hci : ci < 11) (hC : N.1.cls = hk_C ci)
    (hS : ∀ (b : Nat) (Q1 : hQ), okB (F b) (pH g Q1) → gS G N d1 k1 n1 (sr (some b) :: as) h Q1) (hdd : d1 + 1 ≤ d ∧ N.2.2.1 ≤ 21) (hst : st.length ≤ 4) (hh : M.2.2.2.2 = []) (hF : okB ((oOb ci r h).bind fun b => o2 (F b) f) P) (kk : ∀ (x : ρ) (h' : hp), okB (f x h') P → gV G M d Q (pc + 3) ls ((g x).toList ++ st) k n h') : gV G M d Q pc ls (as.reverse ++ sr r :: st) (k + k1) (n + n1) h :=
  cg_V (F := F) (f := fun p => f p.1 p.2) (fun p : ρ × hp => (.inl (g p.1), p.2)) hd hlk hcal hcv hnp hci hC hS hdd hst hh hF (fun x v hx hv => by cases hv; exact kk x.1 x.2 hx) (fun x E hx hv => by cases hv)
theorem cx_V {ρ : Type} (g : ρ → Option sv) {idx np ci d1 k1 n1 : Nat} {N : gM} {as : List sv} {r : Option Nat} {F : Nat → Option ((ρ ⊕ String) × hp)} {e : String → hp → β} {f : ρ → hp → Option β} (hd : decode M.2.1 pc = .ok (.invokevirtual idx, 3)) (hlk : Cond.methodLink M.1.cls idx N.1 ∈ XW) (hcal : cal N np) (hcv : calV N) (hnp : as.length = np) (hci : ci < 11) (hC : N.1.cls = hk_C ci)
    (hS : ∀ (b : Nat) (Q1 : hQ), okB (F b) (pX g Q1) → gS G N d1 k1 n1 (sr (some b) :: as) h Q1) (hdd : d1 + 1 ≤ d ∧ N.2.2.1 ≤ 21) (hst : st.length ≤ 4) (hh : M.2.2.2.2 = []) (hF : okB ((oOb ci r h).bind fun b => oX (F b) e f) P) (hP : ∀ E h', P (e E h') → Q (.inr E) h') (kk : ∀ (x : ρ) (h' : hp), okB (f x h') P → gV G M d Q (pc + 3) ls ((g x).toList ++ st) k n h') : gV G M d Q pc ls (as.reverse ++ sr r :: st) (k + k1) (n + n1) h :=
  cg_V (F := F) (f := fun p => match p.1 with
    | .inl x => f x p.2
    | .inr E => some (e E p.2)) (fun p : (ρ ⊕ String) × hp => (match p.1 with
    | .inl x => .inl (g x)
    | .inr E => .inr E, p.2)) hd hlk hcal hcv hnp hci hC (fun b Q1 hq => hS b Q1 (okB_mono hq (fun q hx => by obtain ⟨q, h'⟩ := q; cases q <;> exact hx))) hdd hst hh hF (fun q v hx hv => by
    obtain ⟨q, h'⟩ := q
    cases q with
    | inl x => cases hv; exact kk x h' hx
    | inr E => cases hv) (fun q E hx hv => by
    obtain ⟨q, h'⟩ := q
    cases q with
    | inl x => cases hv
    | inr E => cases hv; exact hP _ _ (okB_some (P := P) (b := e E h') hx))
theorem cp_S {ρ : Type} (g : ρ → Option sv) {idx np d1 k1 n1 : Nat} {N : gM} {as : List sv} {F : Option ρ} {f : ρ → Option β} (hd : decode M.2.1 pc = .ok (.invokestatic idx, 3)) (hlk : Cond.methodLink M.1.cls idx N.1 ∈ XW) (hcal : cal N np) (hcs : Cond.static N.1 ∈ XW) (hnp : as.length = np)
    (hS : ∀ (Q1 : hQ), okB F (pP g Q1 h) → gS G N d1 k1 n1 as h Q1) (hdd : d1 + 1 ≤ d ∧ N.2.2.1 ≤ 21) (hst : st.length ≤ 4) (hh : M.2.2.2.2 = []) (hF : okB (F.bind f) P) (kk : ∀ x : ρ, okB (f x) P → gV G M d Q (pc + 3) ls ((g x).toList ++ st) k n h) : gV G M d Q pc ls (as.reverse ++ st) (k + k1) (n + n1) h :=
  cg_S (fun x => (.inl (g x), h)) hd hlk hcal hcs hnp hS hdd hst hh hF (fun x v hx hv => by cases hv; exact kk x hx) (fun x E hx hv => by cases hv)
theorem ct_S {ρ : Type} (g : ρ → Option sv) {idx np d1 k1 n1 : Nat} {N : gM} {as : List sv} {F : Option (ρ ⊕ String)} {e : String → β} {f : ρ → Option β} (hd : decode M.2.1 pc = .ok (.invokestatic idx, 3)) (hlk : Cond.methodLink M.1.cls idx N.1 ∈ XW) (hcal : cal N np) (hcs : Cond.static N.1 ∈ XW) (hnp : as.length = np)
    (hS : ∀ (Q1 : hQ), okB F (pC g Q1 h) → gS G N d1 k1 n1 as h Q1) (hdd : d1 + 1 ≤ d ∧ N.2.2.1 ≤ 21) (hst : st.length ≤ 4) (hh : M.2.2.2.2 = []) (hF : okB (oC F e f) P) (hP : ∀ E, P (e E) → Q (.inr E) h) (kk : ∀ x : ρ, okB (f x) P → gV G M d Q (pc + 3) ls ((g x).toList ++ st) k n h) : gV G M d Q pc ls (as.reverse ++ st) (k + k1) (n + n1) h :=
  cg_S (F := F) (f := fun q => match q with
    | .inl x => f x
    | .inr E => some (e E)) (fun q : ρ ⊕ String => (match q with
    | .inl x => .inl (g x)
    | .inr E => .inr E, h)) hd hlk hcal hcs hnp (fun Q1 hq => hS Q1 (okB_mono hq (fun q hx => by cases q <;> exact hx))) hdd hst hh hF (fun q v hx hv => by cases q with
    | inl x => cases hv; exact kk x hx
    | inr E => cases hv) (fun q E hx hv => by cases q with
    | inl x => cases hv
    | inr E => cases hv; exact hP _ (okB_some hx))
theorem ch_S {ρ : Type} (g : ρ → Option sv) {idx np d1 k1 n1 : Nat} {N : gM} {as : List sv} {F : Option (ρ × hp)} {f : ρ → hp → Option β} (hd : decode M.2.1 pc = .ok (.invokestatic idx, 3)) (hlk : Cond.methodLink M.1.cls idx N.1 ∈ XW) (hcal : cal N np) (hcs : Cond.static N.1 ∈ XW) (hnp : as.length = np)
    (hS : ∀ (Q1 : hQ), okB F (pH g Q1) → gS G N d1 k1 n1 as h Q1) (hdd : d1 + 1 ≤ d ∧ N.2.2.1 ≤ 21) (hst : st.length ≤ 4) (hh : M.2.2.2.2 = []) (hF : okB (o2 F f) P) (kk : ∀ (x : ρ) (h' : hp), okB (f x h') P → gV G M d Q (pc + 3) ls ((g x).toList ++ st) k n h') : gV G M d Q pc ls (as.reverse ++ st) (k + k1) (n + n1) h :=
  cg_S (F := F) (f := fun p => f p.1 p.2) (fun p : ρ × hp => (.inl (g p.1), p.2)) hd hlk hcal hcs hnp hS hdd hst hh hF (fun x v hx hv => by cases hv; exact kk x.1 x.2 hx) (fun x E hx hv => by cases hv)
theorem cp_T {ρ : Type} (g : ρ → Option sv) {idx np i d1 k1 n1 : Nat} {N : gM} {as : List sv} {F : Option ρ} {f : ρ → Option β} (hd : decode M.2.1 pc = .ok (.invokevirtual idx, 3)) (hlk : Cond.methodLink M.1.cls idx N.1 ∈ XW) (hcal : cal N np) (hcv : calV N) (hnp : as.length = np) (hC : N.1.cls = "java/lang/String")
    (hS : ∀ (Q1 : hQ), okB F (pP g Q1 h) → gS G N d1 k1 n1 (sr (some (ga G i)) :: as) h Q1) (hdd : d1 + 1 ≤ d ∧ N.2.2.1 ≤ 21) (hst : st.length ≤ 4) (hh : M.2.2.2.2 = []) (hF : okB ((oTx i).bind fun _ => F.bind f) P) (kk : ∀ x : ρ, okB (f x) P → gV G M d Q (pc + 3) ls ((g x).toList ++ st) k n h) : gV G M d Q pc ls (as.reverse ++ sr (some (ga G i)) :: st) (k + k1) (n + n1) h :=
  cg_T (fun x => (.inl (g x), h)) hd hlk hcal hcv hnp hC hS hdd hst hh hF (fun x v hx hv => by cases hv; exact kk x hx) (fun x E hx hv => by cases hv)
theorem ch_I {idx np d1 k1 n1 b : Nat} {N : gM} {as : List sv} {F : Option (Unit × hp)} {f : Unit → hp → Option β} (hd : decode M.2.1 pc = .ok (.invokespecial idx, 3)) (hlk : Cond.methodLink M.1.cls idx N.1 ∈ XW) (hcal : cal N np) (hci : Cond.instanceMethod N.1 ∈ XW) (hin : N.1.name = "<init>") (hvoid : N.2.2.2.1 = none) (hnp : as.length = np)
    (hS : ∀ (Q1 : hQ), okB F (pH gU Q1) → gS G N d1 k1 n1 (sr (some b) :: as) h Q1) (hdd : d1 + 1 ≤ d ∧ N.2.2.1 ≤ 21) (hst : st.length ≤ 4) (hh : M.2.2.2.2 = []) (hF : okB (o2 F f) P) (kk : ∀ (x : Unit) (h' : hp), okB (f x h') P → gV G M d Q (pc + 3) ls st k n h') : gV G M d Q pc ls (as.reverse ++ sr (some b) :: st) (k + k1) (n + n1) h :=
  c_I hd hlk hcal hci hin hvoid hnp (fun Q1 hq => hS Q1 hq) hdd hst hh hF kk
theorem cn_I {np d1 k1 n1 b : Nat} {N : gM} {as : List sv} {F : Option (Unit × hp)} {f : Unit → hp → Option β} (hM : M.1.cls = RX5) (hN : N.1 = yX8_init) (hd : decode M.2.1 pc = .ok (.invokespecial 28, 3)) (hcal : cal N np) (hci : Cond.instanceMethod N.1 ∈ XW) (hin : N.1.name = "<init>") (hvoid : N.2.2.2.1 = none) (hnp : as.length = np)
    (hS : ∀ (Q1 : hQ), okB F (pH gU Q1) → gS G N d1 k1 n1 (sr (some b) :: as) h Q1) (hdd : d1 + 1 ≤ d ∧ N.2.2.1 ≤ 21) (hst : st.length ≤ 4) (hh : M.2.2.2.2 = []) (hF : okB (o2 F f) P) (kk : ∀ (x : Unit) (h' : hp), okB (f x h') P → gV G M d Q (pc + 3) ls st k n h') : gV G M d Q pc ls (as.reverse ++ sr (some b) :: st) (k + k1) (n + n1) h := by
  rw [Nat.add_comm k k1, Nat.add_comm n n1]
  intro p e R s m args below meth c H locs cells slots mc ms C hr hs hk hn a' hl
  have hRm := cx_R C
  have hcat := cat_le st
  have hS' := hS (fun o h' => ∃ x : Unit, o = .inl none ∧ okB (f x h') P) (okB_mono (okB_bd hF) (fun p hp => ⟨p.1, rfl, hp⟩))
  have hnest : (Cond.methodLinkNest M.1.cls 28 N.1 "BrailleDesk").before args s = true := by
    rw [hM, hN]
    exact va_Nw.use rfl (cx_sw C).1.2.1
  unfold gS at hS'
  obtain ⟨h1, h2, h3, h4⟩ := hcal
  have hB : va_CN R s args M.1.cls 28 N.1 "BrailleDesk" N.2.1 N.2.2.1 N.2.2.2.1 (gW N) (gRm d1 k1 n1) k1 n1 np := by
    refine ⟨⟨rfl, rfl, (by show d1 + 1 ≤ R.frames; omega), (by show 8 + (N.2.2.1 + 11) + 40 * d1 ≤ R.locals; omega), gW_ok (cx_w C _ h1), by simp [gW]⟩, cx_w C _ h1, cx_w C _ h2, h3, fun sig hs => ?_, hnest⟩
    rw [hs] at h4
    exact (Option.some.inj h4).symm
  rw [hvoid] at hB
  refine run_on (k1 := k1) (n1 := n1) C hh hs hk hn hl (vx_runIN (cc := M.2.1) (nL := M.2.2.1) (Ts := []) (own := M.1.cls) (b := b) (As := as.map tv) (n := np) ⟨C.1, C.2.1, C.2.2.1, cx_own C, fun w hw => nomatch hw⟩ hS' ⟨hB, hin, cx_w C _ hci⟩ ⟨gP_blind, gP_at (as := sr (some b) :: as) C hr hs⟩ rfl (by rw [List.length_map]; exact hnp) hl.1 (map_stk as b st) (lv_room (by omega)) hd ⟨by omega, by omega⟩) ?_ ?_
  · intro v h' hv
    obtain ⟨x, hx, hv⟩ := hv
    cases hx
    exact kk x h' hv
  · intro E h' hv
    obtain ⟨x, hx, hv⟩ := hv
    cases hx
/-! texts -/
theorem s_strV {idx i : Nat} {f : Unit → Option β} (hd : decode M.2.1 pc = .ok (.getfield idx, 3)) (hw : Cond.fieldLink M.1.cls idx "java/lang/String" "value" "[B" ∈ XW) (hF : okB ((oTx i).bind f) P) (kk : okB (f ()) P → gV G M d Q (pc + 3) ls (sr (some (gv G i)) :: st) k n h) : gV G M d Q pc ls (sr (some (ga G i)) :: st) k n h := by
  obtain ⟨u, hx, hF⟩ := okB_bind hF
  exact v_strV hd (oTx_of hx) hw (kk hF)
theorem s_strC {idx i : Nat} {f : Unit → Option β} (hd : decode M.2.1 pc = .ok (.getfield idx, 3)) (hw : Cond.fieldLink M.1.cls idx "java/lang/String" "coder" "B" ∈ XW) (hF : okB ((oTx i).bind f) P) (kk : okB (f ()) P → gV G M d Q (pc + 3) ls (si 0 :: st) k n h) : gV G M d Q pc ls (sr (some (ga G i)) :: st) k n h := by
  obtain ⟨u, hx, hF⟩ := okB_bind hF
  exact v_strC hd (oTx_of hx) hw (kk hF)
theorem s_strL {i : Nat} {f : Unit → Option β} (hd : decode M.2.1 pc = .ok (.arraylength, 1)) (hF : okB ((oTx i).bind f) P) (kk : okB (f ()) P → gV G M d Q (pc + 1) ls (si (nI (strL i)) :: st) k n h) : gV G M d Q pc ls (sr (some (gv G i)) :: st) k n h := by
  obtain ⟨u, hx, hF⟩ := okB_bind hF
  exact v_strL hd (oTx_of hx) (kk hF)
theorem s_strA {i : Nat} {j : Int32} {f : Int32 → Option β} (hd : decode M.2.1 pc = .ok (.baload, 1)) (hF : okB ((oTA i j).bind f) P) (kk : ∀ x : Int32, okB (f x) P → gV G M d Q (pc + 1) ls (si x :: st) k n h) : gV G M d Q pc ls (si j :: sr (some (gv G i)) :: st) k n h := by
  obtain ⟨x, hx, hF⟩ := okB_bind hF
  simp only [oTA] at hx
  split at hx
  · rename_i hc
    cases hx; exact v_strA hd hc.1 (inb_in hc.2) (kk _ hF)
  · cases hx
theorem s_chret {x : Int32} {f : Unit → Option β} (hd : decode M.2.1 pc = .ok (.ireturn, 1)) (hret : M.2.2.2.1 = some .char) (hF : okB ((oCh x).bind f) P) (kk : okB (f ()) P → Q (.inl (some (si x))) h) : gV G M d Q pc ls [si x] k n h := by
  obtain ⟨u, hx, hF⟩ := okB_bind hF
  simp only [oCh] at hx
  split at hx
  · rename_i hc
    exact v_iret hd hret (congrArg Value.int hc) (kk hF)
  · cases hx
theorem s_byret {x : Int32} {f : Unit → Option β} (hd : decode M.2.1 pc = .ok (.ireturn, 1)) (hret : M.2.2.2.1 = some .byte) (hF : okB ((oBy x).bind f) P) (kk : okB (f ()) P → Q (.inl (some (si x))) h) : gV G M d Q pc ls [si x] k n h := by
  obtain ⟨u, hx, hF⟩ := okB_bind hF
  simp only [oBy] at hx
  split at hx
  · rename_i hc
    exact v_iret hd hret (congrArg Value.int hc) (kk hF)
  · cases hx
theorem nm_of {x : Int32} {len : Nat} (hx : oNm x = some len) : x = nI len ∧ len < 4096 ∧ len ≤ 100 := by
  simp only [oNm] at hx
  split at hx
  · rename_i hc
    cases hx
    have h2 := of_decide_eq_true hc
    have h3 : x.toNatClampNeg = x.toInt.toNat := rfl
    refine ⟨?_, by rw [h3]; omega, by rw [h3]; omega⟩
    apply Int32.toInt_inj.mp
    rw [nI_toInt (by rw [h3]; omega), h3]
    omega
  · cases hx
theorem s_newM {x : Int32} {f : Nat → Option β} (hd : decode M.2.1 pc = .ok (.newarray .int, 2)) (hF : okB ((oNm x).bind f) P) (kk : ∀ len : Nat, okB (f len) P → gV G M d Q (pc + 2) ls (sr (some (hN h)) :: st) k n (wN h (20, len))) : gV G M d Q pc ls (si x :: st) (k + 1) (n + 100) h := by
  obtain ⟨len, hx, hF⟩ := okB_bind hF
  obtain ⟨h1, h2, h3⟩ := nm_of hx
  exact v_room (k' := k + 1) (n' := n + len) (Nat.le_refl _) (by omega) (v_newI hd h1 h2 (kk _ hF))
theorem s_newQ {idx : Nat} {x : Int32} {f : Nat → Option β} (hd : decode M.2.1 pc = .ok (.anewarray idx, 3)) (hlk : Cond.classLink M.1.cls idx (hk_C 0) ∈ XW) (hF : okB ((oNm x).bind f) P) (kk : ∀ len : Nat, okB (f len) P → gV G M d Q (pc + 3) ls (sr (some (hN h)) :: st) k n (wN h (23, len))) : gV G M d Q pc ls (si x :: st) (k + 1) (n + 100) h := by
  obtain ⟨len, hx, hF⟩ := okB_bind hF
  obtain ⟨h1, h2, h3⟩ := nm_of hx
  exact v_room (k' := k + 1) (n' := n + len) (Nat.le_refl _) (by omega) (v_newA (kd := 23) (ci := 0) (t := 3) hd (Or.inr ⟨rfl, rfl, rfl⟩) hlk h1 h2 (kk _ hF))
theorem v_ldcSW (i : Nat) {idx : Nat} {tx : String} (hd : decode M.2.1 pc = .ok (.ldc_w idx, 3)) (hi : strT[i]? = some (M.1.cls, idx, tx)) (kk : gV G M d Q (pc + 3) ls (sr (some (ga G i)) :: st) k n h) : gV G M d Q pc ls st k n h := by
  intro p e R s m args below meth c H locs cells slots mc ms C hr hs hk hn a hl T hT X
  obtain ⟨t, a1, b1⟩ := kk p e R s m args below meth c H locs cells slots mc ms C hr hs hk hn a hl T hT X
  have hZ := (cx_sw C).2.2.2.1 i _ hi
  exact ⟨t, X.ldcStringW C.1 (cx_own C) (text := tx) (a := ga G i) hZ.1 hZ.2 (g := F0 m pc a (st.map tv)) rfl (by rw [C.2.1]; exact hd) t a1, b1⟩
/-! switches -/
theorem look_d {d0 v : Int} : ∀ {ps : List (Int × Int)}, (∀ p ∈ ps, ¬ p.1 = v) → Op.lookupswitch.offset ps d0 v = d0 := by
  intro ps
  induction ps with
  | nil => intro _; rfl
  | cons p ps ih =>
    intro h1
    have h2 := h1 p (List.mem_cons_self)
    have h3 := ih (fun q hq => h1 q (List.mem_cons_of_mem _ hq))
    obtain ⟨a, o⟩ := p
    show (if a = v then o else Op.lookupswitch.offset ps d0 v) = d0
    rw [if_neg h2]
    exact h3
theorem v_tableD {dflt lo hi : Int} {offs : Array Int} {len : Nat} {x : Int32} (t : Nat) (hd : decode M.2.1 pc = .ok (.tableswitch dflt lo hi offs, len)) (hx : ∀ i : Nat, (i : Int) ≤ hi - lo → x.toInt = lo + i → offs[i]? = some dflt) (ht : (pc : Int) + dflt = (t : Int)) (kk : gV G M d Q t ls st k n h) : gV G M d Q pc ls (si x :: st) k n h := by
  by_cases h1 : x.toInt < lo
  · exact v_tableOut t hd (Or.inl h1) ht kk
  · by_cases h2 : hi < x.toInt
    · exact v_tableOut t hd (Or.inr h2) ht kk
    · exact v_tableIn t hd h1 h2 (hx (x.toInt - lo).toNat (by omega) (by omega)) ht kk
end VP

/-! ===== calls, by the functions of the methods that are called ===== -/
def o2 {ρ β : Type} (o : Option (ρ × hp)) (f : ρ → hp → Option β) : Option β := o.bind fun p => f p.1 p.2
/-- a call that may throw, of a method that may throw as well -/
def ot {ρ τ : Type} (o : Option ((ρ ⊕ String) × hp)) (f : ρ → hp → Option ((τ ⊕ String) × hp)) : Option ((τ ⊕ String) × hp) := o.bind fun p => match p.1 with
  | .inl x => f x p.2
  | .inr E => some (.inr E, p.2)
theorem o2_of {ρ β : Type} {o : Option (ρ × hp)} {f : ρ → hp → Option β} {P : β → Prop} (h : okB (o2 o f) P) : okB o (fun p => okB (f p.1 p.2) P) := by
  obtain ⟨x, h1, h2⟩ := okB_bind h
  exact ⟨x, h1, h2⟩
def otP {ρ τ : Type} (f : ρ → hp → Option ((τ ⊕ String) × hp)) (P : (τ ⊕ String) × hp → Prop) (p : (ρ ⊕ String) × hp) : Prop := match p.1 with
  | .inl x => okB (f x p.2) P
  | .inr E => P (.inr E, p.2)
theorem ot_of {ρ τ : Type} {o : Option ((ρ ⊕ String) × hp)} {f : ρ → hp → Option ((τ ⊕ String) × hp)} {P : (τ ⊕ String) × hp → Prop} (h : okB (ot o f) P) : okB o (otP f P) := by
  obtain ⟨x, h1, h2⟩ := okB_bind h
  refine ⟨x, h1, ?_⟩
  obtain ⟨x, h'⟩ := x
  cases x with
  | inl x => exact h2
  | inr E => exact (okB_some (P := P) (b := (Sum.inr E, h')) h2 : P (Sum.inr E, h'))
/-- how a method's answer ends: returned -/
def eI {G : gG} (Q : hQ) (p : Int32 × hp) : Prop := Q (.inl (some (si p.1))) p.2
def eR {G : gG} (Q : hQ) (p : Option Nat × hp) : Prop := Q (.inl (some (sr p.1))) p.2
def eL {G : gG} (Q : hQ) (p : Int64 × hp) : Prop := Q (.inl (some (sl p.1))) p.2
def eV {G : gG} (Q : hQ) (p : Unit × hp) : Prop := Q (.inl none) p.2
def eT {G : gG} (Q : hQ) (p : Nat × hp) : Prop := Q (.inl (some (sr (some (ga G p.1))))) p.2
def xI {G : gG} (Q : hQ) (p : (Int32 ⊕ String) × hp) : Prop := match p.1 with
  | .inl x => Q (.inl (some (si x))) p.2
  | .inr E => Q (.inr E) p.2
def xR {G : gG} (Q : hQ) (p : (Option Nat ⊕ String) × hp) : Prop := match p.1 with
  | .inl x => Q (.inl (some (sr x))) p.2
  | .inr E => Q (.inr E) p.2
def xV {G : gG} (Q : hQ) (p : (Unit ⊕ String) × hp) : Prop := match p.1 with
  | .inl _ => Q (.inl none) p.2
  | .inr E => Q (.inr E) p.2
section VD
variable {G : gG} {M : gM} {d : Nat} {Q : hQ} {pc : Nat} {ls : lc} {st : List sv} {k n : Nat} {h : hp} {β : Type} {P : β → Prop}
theorem c_VI {idx np ci d1 k1 n1 : Nat} {N : gM} {as : List sv} {r : Option Nat} {F : Nat → Option (Int32 × hp)} {f : Int32 → hp → Option β} (hd : decode M.2.1 pc = .ok (.invokevirtual idx, 3)) (hlk : Cond.methodLink M.1.cls idx N.1 ∈ XW) (hcal : cal N np) (hcv : calV N) (hnp : as.length = np) (hci : ci < 11) (hC : N.1.cls = hk_C ci)
    (hS : ∀ (b : Nat) (Q1 : hQ), okB (F b) (@eI G Q1) → gS G N d1 k1 n1 (sr (some b) :: as) h Q1) (hdd : d1 + 1 ≤ d ∧ N.2.2.1 ≤ 21) (hst : st.length ≤ 4) (hh : M.2.2.2.2 = []) (hF : okB ((oOb ci r h).bind fun b => o2 (F b) f) P) (kk : ∀ (x : Int32) (h' : hp), okB (f x h') P → gV G M d Q (pc + 3) ls (si x :: st) k n h') : gV G M d Q pc ls (as.reverse ++ sr r :: st) (k + k1) (n + n1) h := by
  rw [Nat.add_comm k k1, Nat.add_comm n n1]
  obtain ⟨b, hb, hG⟩ := okB_bind hF
  have hc : r = some b ∧ (hT h b).1 = ci + 1 := by
    cases r with
    | none => cases hb
    | some a =>
      simp only [oOb] at hb
      split at hb
      · cases hb; exact ⟨rfl, by assumption⟩
      · cases hb
  obtain ⟨rfl, hc⟩ := hc
  refine v_invV hd hlk hcal hcv hnp hci hC hc (Q1 := fun oc h' => ∃ x : Int32, oc = .inl (some (si x)) ∧ okB (f x h') P) (hS _ _ (okB_mono (o2_of hG) (fun p hp => ⟨p.1, rfl, hp⟩))) hdd hst hh ?_ ?_
  · intro v h' hv
    obtain ⟨x, hx, hv⟩ := hv
    cases hx
    exact kk x h' hv
  · intro E h' hv
    obtain ⟨x, hx, hv⟩ := hv
    cases hx
theorem c_SI {idx np d1 k1 n1 : Nat} {N : gM} {as : List sv} {F : Option (Int32 × hp)} {f : Int32 → hp → Option β} (hd : decode M.2.1 pc = .ok (.invokestatic idx, 3)) (hlk : Cond.methodLink M.1.cls idx N.1 ∈ XW) (hcal : cal N np) (hcs : Cond.static N.1 ∈ XW) (hnp : as.length = np) 
    (hS : ∀ (Q1 : hQ), okB F (@eI G Q1) → gS G N d1 k1 n1 as h Q1) (hdd : d1 + 1 ≤ d ∧ N.2.2.1 ≤ 21) (hst : st.length ≤ 4) (hh : M.2.2.2.2 = []) (hF : okB (o2 F f) P) (kk : ∀ (x : Int32) (h' : hp), okB (f x h') P → gV G M d Q (pc + 3) ls (si x :: st) k n h') : gV G M d Q pc ls (as.reverse ++ st) (k + k1) (n + n1) h := by
  rw [Nat.add_comm k k1, Nat.add_comm n n1]
  refine v_invS hd hlk hcal hcs hnp (Q1 := fun oc h' => ∃ x : Int32, oc = .inl (some (si x)) ∧ okB (f x h') P) (hS _ (okB_mono (o2_of hF) (fun p hp => ⟨p.1, rfl, hp⟩))) hdd hst hh ?_ ?_
  · intro v h' hv
    obtain ⟨x, hx, hv⟩ := hv
    cases hx
    exact kk x h' hv
  · intro E h' hv
    obtain ⟨x, hx, hv⟩ := hv
    cases hx
theorem c_TI {idx np i d1 k1 n1 : Nat} {N : gM} {as : List sv} {F : Option (Int32 × hp)} {f : Int32 → hp → Option β} (hd : decode M.2.1 pc = .ok (.invokevirtual idx, 3)) (hlk : Cond.methodLink M.1.cls idx N.1 ∈ XW) (hcal : cal N np) (hcv : calV N) (hnp : as.length = np) (hC : N.1.cls = "java/lang/String")
    (hS : ∀ (Q1 : hQ), okB F (@eI G Q1) → gS G N d1 k1 n1 (sr (some (ga G i)) :: as) h Q1) (hdd : d1 + 1 ≤ d ∧ N.2.2.1 ≤ 21) (hst : st.length ≤ 4) (hh : M.2.2.2.2 = []) (hF : okB ((oTx i).bind fun _ => o2 F f) P) (kk : ∀ (x : Int32) (h' : hp), okB (f x h') P → gV G M d Q (pc + 3) ls (si x :: st) k n h') : gV G M d Q pc ls (as.reverse ++ sr (some (ga G i)) :: st) (k + k1) (n + n1) h := by
  rw [Nat.add_comm k k1, Nat.add_comm n n1]
  obtain ⟨b, hb, hG⟩ := okB_bind hF
  simp only [oTx] at hb
  split at hb
  · refine v_invT hd hlk hcal hcv hnp (by assumption) hC (Q1 := fun oc h' => ∃ x : Int32, oc = .inl (some (si x)) ∧ okB (f x h') P) (hS _ (okB_mono (o2_of hG) (fun p hp => ⟨p.1, rfl, hp⟩))) hdd hst hh ?_ ?_
    · intro v h' hv
      obtain ⟨x, hx, hv⟩ := hv
      cases hx
      exact kk x h' hv
    · intro E h' hv
      obtain ⟨x, hx, hv⟩ := hv
      cases hx
  · cases hb
theorem c_VR {idx np ci d1 k1 n1 : Nat} {N : gM} {as : List sv} {r : Option Nat} {F : Nat → Option (Option Nat × hp)} {f : Option Nat → hp → Option β} (hd : decode M.2.1 pc = .ok (.invokevirtual idx, 3)) (hlk : Cond.methodLink M.1.cls idx N.1 ∈ XW) (hcal : cal N np) (hcv : calV N) (hnp : as.length = np) (hci : ci < 11) (hC : N.1.cls = hk_C ci)
    (hS : ∀ (b : Nat) (Q1 : hQ), okB (F b) (@eR G Q1) → gS G N d1 k1 n1 (sr (some b) :: as) h Q1) (hdd : d1 + 1 ≤ d ∧ N.2.2.1 ≤ 21) (hst : st.length ≤ 4) (hh : M.2.2.2.2 = []) (hF : okB ((oOb ci r h).bind fun b => o2 (F b) f) P) (kk : ∀ (x : Option Nat) (h' : hp), okB (f x h') P → gV G M d Q (pc + 3) ls (sr x :: st) k n h') : gV G M d Q pc ls (as.reverse ++ sr r :: st) (k + k1) (n + n1) h := by
  rw [Nat.add_comm k k1, Nat.add_comm n n1]
  obtain ⟨b, hb, hG⟩ := okB_bind hF
  have hc : r = some b ∧ (hT h b).1 = ci + 1 := by
    cases r with
    | none => cases hb
    | some a =>
      simp only [oOb] at hb
      split at hb
      · cases hb; exact ⟨rfl, by assumption⟩
      · cases hb
  obtain ⟨rfl, hc⟩ := hc
  refine v_invV hd hlk hcal hcv hnp hci hC hc (Q1 := fun oc h' => ∃ x : Option Nat, oc = .inl (some (sr x)) ∧ okB (f x h') P) (hS _ _ (okB_mono (o2_of hG) (fun p hp => ⟨p.1, rfl, hp⟩))) hdd hst hh ?_ ?_
  · intro v h' hv
    obtain ⟨x, hx, hv⟩ := hv
    cases hx
    exact kk x h' hv
  · intro E h' hv
    obtain ⟨x, hx, hv⟩ := hv
    cases hx
theorem c_SR {idx np d1 k1 n1 : Nat} {N : gM} {as : List sv} {F : Option (Option Nat × hp)} {f : Option Nat → hp → Option β} (hd : decode M.2.1 pc = .ok (.invokestatic idx, 3)) (hlk : Cond.methodLink M.1.cls idx N.1 ∈ XW) (hcal : cal N np) (hcs : Cond.static N.1 ∈ XW) (hnp : as.length = np) 
    (hS : ∀ (Q1 : hQ), okB F (@eR G Q1) → gS G N d1 k1 n1 as h Q1) (hdd : d1 + 1 ≤ d ∧ N.2.2.1 ≤ 21) (hst : st.length ≤ 4) (hh : M.2.2.2.2 = []) (hF : okB (o2 F f) P) (kk : ∀ (x : Option Nat) (h' : hp), okB (f x h') P → gV G M d Q (pc + 3) ls (sr x :: st) k n h') : gV G M d Q pc ls (as.reverse ++ st) (k + k1) (n + n1) h := by
  rw [Nat.add_comm k k1, Nat.add_comm n n1]
  refine v_invS hd hlk hcal hcs hnp (Q1 := fun oc h' => ∃ x : Option Nat, oc = .inl (some (sr x)) ∧ okB (f x h') P) (hS _ (okB_mono (o2_of hF) (fun p hp => ⟨p.1, rfl, hp⟩))) hdd hst hh ?_ ?_
  · intro v h' hv
    obtain ⟨x, hx, hv⟩ := hv
    cases hx
    exact kk x h' hv
  · intro E h' hv
    obtain ⟨x, hx, hv⟩ := hv
    cases hx
theorem c_TR {idx np i d1 k1 n1 : Nat} {N : gM} {as : List sv} {F : Option (Option Nat × hp)} {f : Option Nat → hp → Option β} (hd : decode M.2.1 pc = .ok (.invokevirtual idx, 3)) (hlk : Cond.methodLink M.1.cls idx N.1 ∈ XW) (hcal : cal N np) (hcv : calV N) (hnp : as.length = np) (hC : N.1.cls = "java/lang/String")
    (hS : ∀ (Q1 : hQ), okB F (@eR G Q1) → gS G N d1 k1 n1 (sr (some (ga G i)) :: as) h Q1) (hdd : d1 + 1 ≤ d ∧ N.2.2.1 ≤ 21) (hst : st.length ≤ 4) (hh : M.2.2.2.2 = []) (hF : okB ((oTx i).bind fun _ => o2 F f) P) (kk : ∀ (x : Option Nat) (h' : hp), okB (f x h') P → gV G M d Q (pc + 3) ls (sr x :: st) k n h') : gV G M d Q pc ls (as.reverse ++ sr (some (ga G i)) :: st) (k + k1) (n + n1) h := by
  rw [Nat.add_comm k k1, Nat.add_comm n n1]
  obtain ⟨b, hb, hG⟩ := okB_bind hF
  simp only [oTx] at hb
  split at hb
  · refine v_invT hd hlk hcal hcv hnp (by assumption) hC (Q1 := fun oc h' => ∃ x : Option Nat, oc = .inl (some (sr x)) ∧ okB (f x h') P) (hS _ (okB_mono (o2_of hG) (fun p hp => ⟨p.1, rfl, hp⟩))) hdd hst hh ?_ ?_
    · intro v h' hv
      obtain ⟨x, hx, hv⟩ := hv
      cases hx
      exact kk x h' hv
    · intro E h' hv
      obtain ⟨x, hx, hv⟩ := hv
      cases hx
  · cases hb
theorem c_VL {idx np ci d1 k1 n1 : Nat} {N : gM} {as : List sv} {r : Option Nat} {F : Nat → Option (Int64 × hp)} {f : Int64 → hp → Option β} (hd : decode M.2.1 pc = .ok (.invokevirtual idx, 3)) (hlk : Cond.methodLink M.1.cls idx N.1 ∈ XW) (hcal : cal N np) (hcv : calV N) (hnp : as.length = np) (hci : ci < 11) (hC : N.1.cls = hk_C ci)
    (hS : ∀ (b : Nat) (Q1 : hQ), okB (F b) (@eL G Q1) → gS G N d1 k1 n1 (sr (some b) :: as) h Q1) (hdd : d1 + 1 ≤ d ∧ N.2.2.1 ≤ 21) (hst : st.length ≤ 4) (hh : M.2.2.2.2 = []) (hF : okB ((oOb ci r h).bind fun b => o2 (F b) f) P) (kk : ∀ (x : Int64) (h' : hp), okB (f x h') P → gV G M d Q (pc + 3) ls (sl x :: st) k n h') : gV G M d Q pc ls (as.reverse ++ sr r :: st) (k + k1) (n + n1) h := by
  rw [Nat.add_comm k k1, Nat.add_comm n n1]
  obtain ⟨b, hb, hG⟩ := okB_bind hF
  have hc : r = some b ∧ (hT h b).1 = ci + 1 := by
    cases r with
    | none => cases hb
    | some a =>
      simp only [oOb] at hb
      split at hb
      · cases hb; exact ⟨rfl, by assumption⟩
      · cases hb
  obtain ⟨rfl, hc⟩ := hc
  refine v_invV hd hlk hcal hcv hnp hci hC hc (Q1 := fun oc h' => ∃ x : Int64, oc = .inl (some (sl x)) ∧ okB (f x h') P) (hS _ _ (okB_mono (o2_of hG) (fun p hp => ⟨p.1, rfl, hp⟩))) hdd hst hh ?_ ?_
  · intro v h' hv
    obtain ⟨x, hx, hv⟩ := hv
    cases hx
    exact kk x h' hv
  · intro E h' hv
    obtain ⟨x, hx, hv⟩ := hv
    cases hx
theorem c_SL {idx np d1 k1 n1 : Nat} {N : gM} {as : List sv} {F : Option (Int64 × hp)} {f : Int64 → hp → Option β} (hd : decode M.2.1 pc = .ok (.invokestatic idx, 3)) (hlk : Cond.methodLink M.1.cls idx N.1 ∈ XW) (hcal : cal N np) (hcs : Cond.static N.1 ∈ XW) (hnp : as.length = np) 
    (hS : ∀ (Q1 : hQ), okB F (@eL G Q1) → gS G N d1 k1 n1 as h Q1) (hdd : d1 + 1 ≤ d ∧ N.2.2.1 ≤ 21) (hst : st.length ≤ 4) (hh : M.2.2.2.2 = []) (hF : okB (o2 F f) P) (kk : ∀ (x : Int64) (h' : hp), okB (f x h') P → gV G M d Q (pc + 3) ls (sl x :: st) k n h') : gV G M d Q pc ls (as.reverse ++ st) (k + k1) (n + n1) h := by
  rw [Nat.add_comm k k1, Nat.add_comm n n1]
  refine v_invS hd hlk hcal hcs hnp (Q1 := fun oc h' => ∃ x : Int64, oc = .inl (some (sl x)) ∧ okB (f x h') P) (hS _ (okB_mono (o2_of hF) (fun p hp => ⟨p.1, rfl, hp⟩))) hdd hst hh ?_ ?_
  · intro v h' hv
    obtain ⟨x, hx, hv⟩ := hv
    cases hx
    exact kk x h' hv
  · intro E h' hv
    obtain ⟨x, hx, hv⟩ := hv
    cases hx
theorem c_TL {idx np i d1 k1 n1 : Nat} {N : gM} {as : List sv} {F : Option (Int64 × hp)} {f : Int64 → hp → Option β} (hd : decode M.2.1 pc = .ok (.invokevirtual idx, 3)) (hlk : Cond.methodLink M.1.cls idx N.1 ∈ XW) (hcal : cal N np) (hcv : calV N) (hnp : as.length = np) (hC : N.1.cls = "java/lang/String")
    (hS : ∀ (Q1 : hQ), okB F (@eL G Q1) → gS G N d1 k1 n1 (sr (some (ga G i)) :: as) h Q1) (hdd : d1 + 1 ≤ d ∧ N.2.2.1 ≤ 21) (hst : st.length ≤ 4) (hh : M.2.2.2.2 = []) (hF : okB ((oTx i).bind fun _ => o2 F f) P) (kk : ∀ (x : Int64) (h' : hp), okB (f x h') P → gV G M d Q (pc + 3) ls (sl x :: st) k n h') : gV G M d Q pc ls (as.reverse ++ sr (some (ga G i)) :: st) (k + k1) (n + n1) h := by
  rw [Nat.add_comm k k1, Nat.add_comm n n1]
  obtain ⟨b, hb, hG⟩ := okB_bind hF
  simp only [oTx] at hb
  split at hb
  · refine v_invT hd hlk hcal hcv hnp (by assumption) hC (Q1 := fun oc h' => ∃ x : Int64, oc = .inl (some (sl x)) ∧ okB (f x h') P) (hS _ (okB_mono (o2_of hG) (fun p hp => ⟨p.1, rfl, hp⟩))) hdd hst hh ?_ ?_
    · intro v h' hv
      obtain ⟨x, hx, hv⟩ := hv
      cases hx
      exact kk x h' hv
    · intro E h' hv
      obtain ⟨x, hx, hv⟩ := hv
      cases hx
  · cases hb
theorem c_VV {idx np ci d1 k1 n1 : Nat} {N : gM} {as : List sv} {r : Option Nat} {F : Nat → Option (Unit × hp)} {f : Unit → hp → Option β} (hd : decode M.2.1 pc = .ok (.invokevirtual idx, 3)) (hlk : Cond.methodLink M.1.cls idx N.1 ∈ XW) (hcal : cal N np) (hcv : calV N) (hnp : as.length = np) (hci : ci < 11) (hC : N.1.cls = hk_C ci)
    (hS : ∀ (b : Nat) (Q1 : hQ), okB (F b) (@eV G Q1) → gS G N d1 k1 n1 (sr (some b) :: as) h Q1) (hdd : d1 + 1 ≤ d ∧ N.2.2.1 ≤ 21) (hst : st.length ≤ 4) (hh : M.2.2.2.2 = []) (hF : okB ((oOb ci r h).bind fun b => o2 (F b) f) P) (kk : ∀ (x : Unit) (h' : hp), okB (f x h') P → gV G M d Q (pc + 3) ls (st) k n h') : gV G M d Q pc ls (as.reverse ++ sr r :: st) (k + k1) (n + n1) h := by
  rw [Nat.add_comm k k1, Nat.add_comm n n1]
  obtain ⟨b, hb, hG⟩ := okB_bind hF
  have hc : r = some b ∧ (hT h b).1 = ci + 1 := by
    cases r with
    | none => cases hb
    | some a =>
      simp only [oOb] at hb
      split at hb
      · cases hb; exact ⟨rfl, by assumption⟩
      · cases hb
  obtain ⟨rfl, hc⟩ := hc
  refine v_invV hd hlk hcal hcv hnp hci hC hc (Q1 := fun oc h' => ∃ x : Unit, oc = .inl none ∧ okB (f x h') P) (hS _ _ (okB_mono (o2_of hG) (fun p hp => ⟨p.1, rfl, hp⟩))) hdd hst hh ?_ ?_
  · intro v h' hv
    obtain ⟨x, hx, hv⟩ := hv
    cases hx
    exact kk x h' hv
  · intro E h' hv
    obtain ⟨x, hx, hv⟩ := hv
    cases hx
theorem c_SV {idx np d1 k1 n1 : Nat} {N : gM} {as : List sv} {F : Option (Unit × hp)} {f : Unit → hp → Option β} (hd : decode M.2.1 pc = .ok (.invokestatic idx, 3)) (hlk : Cond.methodLink M.1.cls idx N.1 ∈ XW) (hcal : cal N np) (hcs : Cond.static N.1 ∈ XW) (hnp : as.length = np) 
    (hS : ∀ (Q1 : hQ), okB F (@eV G Q1) → gS G N d1 k1 n1 as h Q1) (hdd : d1 + 1 ≤ d ∧ N.2.2.1 ≤ 21) (hst : st.length ≤ 4) (hh : M.2.2.2.2 = []) (hF : okB (o2 F f) P) (kk : ∀ (x : Unit) (h' : hp), okB (f x h') P → gV G M d Q (pc + 3) ls (st) k n h') : gV G M d Q pc ls (as.reverse ++ st) (k + k1) (n + n1) h := by
  rw [Nat.add_comm k k1, Nat.add_comm n n1]
  refine v_invS hd hlk hcal hcs hnp (Q1 := fun oc h' => ∃ x : Unit, oc = .inl none ∧ okB (f x h') P) (hS _ (okB_mono (o2_of hF) (fun p hp => ⟨p.1, rfl, hp⟩))) hdd hst hh ?_ ?_
  · intro v h' hv
    obtain ⟨x, hx, hv⟩ := hv
    cases hx
    exact kk x h' hv
  · intro E h' hv
    obtain ⟨x, hx, hv⟩ := hv
    cases hx
theorem c_TV {idx np i d1 k1 n1 : Nat} {N : gM} {as : List sv} {F : Option (Unit × hp)} {f : Unit → hp → Option β} (hd : decode M.2.1 pc = .ok (.invokevirtual idx, 3)) (hlk : Cond.methodLink M.1.cls idx N.1 ∈ XW) (hcal : cal N np) (hcv : calV N) (hnp : as.length = np) (hC : N.1.cls = "java/lang/String")
    (hS : ∀ (Q1 : hQ), okB F (@eV G Q1) → gS G N d1 k1 n1 (sr (some (ga G i)) :: as) h Q1) (hdd : d1 + 1 ≤ d ∧ N.2.2.1 ≤ 21) (hst : st.length ≤ 4) (hh : M.2.2.2.2 = []) (hF : okB ((oTx i).bind fun _ => o2 F f) P) (kk : ∀ (x : Unit) (h' : hp), okB (f x h') P → gV G M d Q (pc + 3) ls (st) k n h') : gV G M d Q pc ls (as.reverse ++ sr (some (ga G i)) :: st) (k + k1) (n + n1) h := by
  rw [Nat.add_comm k k1, Nat.add_comm n n1]
  obtain ⟨b, hb, hG⟩ := okB_bind hF
  simp only [oTx] at hb
  split at hb
  · refine v_invT hd hlk hcal hcv hnp (by assumption) hC (Q1 := fun oc h' => ∃ x : Unit, oc = .inl none ∧ okB (f x h') P) (hS _ (okB_mono (o2_of hG) (fun p hp => ⟨p.1, rfl, hp⟩))) hdd hst hh ?_ ?_
    · intro v h' hv
      obtain ⟨x, hx, hv⟩ := hv
      cases hx
      exact kk x h' hv
    · intro E h' hv
      obtain ⟨x, hx, hv⟩ := hv
      cases hx
  · cases hb
theorem c_VT {idx np ci d1 k1 n1 : Nat} {N : gM} {as : List sv} {r : Option Nat} {F : Nat → Option (Nat × hp)} {f : Nat → hp → Option β} (hd : decode M.2.1 pc = .ok (.invokevirtual idx, 3)) (hlk : Cond.methodLink M.1.cls idx N.1 ∈ XW) (hcal : cal N np) (hcv : calV N) (hnp : as.length = np) (hci : ci < 11) (hC : N.1.cls = hk_C ci)
    (hS : ∀ (b : Nat) (Q1 : hQ), okB (F b) (@eT G Q1) → gS G N d1 k1 n1 (sr (some b) :: as) h Q1) (hdd : d1 + 1 ≤ d ∧ N.2.2.1 ≤ 21) (hst : st.length ≤ 4) (hh : M.2.2.2.2 = []) (hF : okB ((oOb ci r h).bind fun b => o2 (F b) f) P) (kk : ∀ (x : Nat) (h' : hp), okB (f x h') P → gV G M d Q (pc + 3) ls (sr (some (ga G x)) :: st) k n h') : gV G M d Q pc ls (as.reverse ++ sr r :: st) (k + k1) (n + n1) h := by
  rw [Nat.add_comm k k1, Nat.add_comm n n1]
  obtain ⟨b, hb, hG⟩ := okB_bind hF
  have hc : r = some b ∧ (hT h b).1 = ci + 1 := by
    cases r with
    | none => cases hb
    | some a =>
      simp only [oOb] at hb
      split at hb
      · cases hb; exact ⟨rfl, by assumption⟩
      · cases hb
  obtain ⟨rfl, hc⟩ := hc
  refine v_invV hd hlk hcal hcv hnp hci hC hc (Q1 := fun oc h' => ∃ x : Nat, oc = .inl (some (sr (some (ga G x)))) ∧ okB (f x h') P) (hS _ _ (okB_mono (o2_of hG) (fun p hp => ⟨p.1, rfl, hp⟩))) hdd hst hh ?_ ?_
  · intro v h' hv
    obtain ⟨x, hx, hv⟩ := hv
    cases hx
    exact kk x h' hv
  · intro E h' hv
    obtain ⟨x, hx, hv⟩ := hv
    cases hx
theorem c_ST {idx np d1 k1 n1 : Nat} {N : gM} {as : List sv} {F : Option (Nat × hp)} {f : Nat → hp → Option β} (hd : decode M.2.1 pc = .ok (.invokestatic idx, 3)) (hlk : Cond.methodLink M.1.cls idx N.1 ∈ XW) (hcal : cal N np) (hcs : Cond.static N.1 ∈ XW) (hnp : as.length = np) 
    (hS : ∀ (Q1 : hQ), okB F (@eT G Q1) → gS G N d1 k1 n1 as h Q1) (hdd : d1 + 1 ≤ d ∧ N.2.2.1 ≤ 21) (hst : st.length ≤ 4) (hh : M.2.2.2.2 = []) (hF : okB (o2 F f) P) (kk : ∀ (x : Nat) (h' : hp), okB (f x h') P → gV G M d Q (pc + 3) ls (sr (some (ga G x)) :: st) k n h') : gV G M d Q pc ls (as.reverse ++ st) (k + k1) (n + n1) h := by
  rw [Nat.add_comm k k1, Nat.add_comm n n1]
  refine v_invS hd hlk hcal hcs hnp (Q1 := fun oc h' => ∃ x : Nat, oc = .inl (some (sr (some (ga G x)))) ∧ okB (f x h') P) (hS _ (okB_mono (o2_of hF) (fun p hp => ⟨p.1, rfl, hp⟩))) hdd hst hh ?_ ?_
  · intro v h' hv
    obtain ⟨x, hx, hv⟩ := hv
    cases hx
    exact kk x h' hv
  · intro E h' hv
    obtain ⟨x, hx, hv⟩ := hv
    cases hx
theorem c_TT {idx np i d1 k1 n1 : Nat} {N : gM} {as : List sv} {F : Option (Nat × hp)} {f : Nat → hp → Option β} (hd : decode M.2.1 pc = .ok (.invokevirtual idx, 3)) (hlk : Cond.methodLink M.1.cls idx N.1 ∈ XW) (hcal : cal N np) (hcv : calV N) (hnp : as.length = np) (hC : N.1.cls = "java/lang/String")
    (hS : ∀ (Q1 : hQ), okB F (@eT G Q1) → gS G N d1 k1 n1 (sr (some (ga G i)) :: as) h Q1) (hdd : d1 + 1 ≤ d ∧ N.2.2.1 ≤ 21) (hst : st.length ≤ 4) (hh : M.2.2.2.2 = []) (hF : okB ((oTx i).bind fun _ => o2 F f) P) (kk : ∀ (x : Nat) (h' : hp), okB (f x h') P → gV G M d Q (pc + 3) ls (sr (some (ga G x)) :: st) k n h') : gV G M d Q pc ls (as.reverse ++ sr (some (ga G i)) :: st) (k + k1) (n + n1) h := by
  rw [Nat.add_comm k k1, Nat.add_comm n n1]
  obtain ⟨b, hb, hG⟩ := okB_bind hF
  simp only [oTx] at hb
  split at hb
  · refine v_invT hd hlk hcal hcv hnp (by assumption) hC (Q1 := fun oc h' => ∃ x : Nat, oc = .inl (some (sr (some (ga G x)))) ∧ okB (f x h') P) (hS _ (okB_mono (o2_of hG) (fun p hp => ⟨p.1, rfl, hp⟩))) hdd hst hh ?_ ?_
    · intro v h' hv
      obtain ⟨x, hx, hv⟩ := hv
      cases hx
      exact kk x h' hv
    · intro E h' hv
      obtain ⟨x, hx, hv⟩ := hv
      cases hx
  · cases hb
theorem c_I {idx np d1 k1 n1 b : Nat} {N : gM} {as : List sv} {F : Option (Unit × hp)} {f : Unit → hp → Option β} (hd : decode M.2.1 pc = .ok (.invokespecial idx, 3)) (hlk : Cond.methodLink M.1.cls idx N.1 ∈ XW) (hcal : cal N np) (hci : Cond.instanceMethod N.1 ∈ XW) (hin : N.1.name = "<init>") (hvoid : N.2.2.2.1 = none) (hnp : as.length = np)
    (hS : ∀ (Q1 : hQ), okB F (@eV G Q1) → gS G N d1 k1 n1 (sr (some b) :: as) h Q1) (hdd : d1 + 1 ≤ d ∧ N.2.2.1 ≤ 21) (hst : st.length ≤ 4) (hh : M.2.2.2.2 = []) (hF : okB (o2 F f) P) (kk : ∀ (x : Unit) (h' : hp), okB (f x h') P → gV G M d Q (pc + 3) ls (st) k n h') : gV G M d Q pc ls (as.reverse ++ sr (some b) :: st) (k + k1) (n + n1) h := by
  rw [Nat.add_comm k k1, Nat.add_comm n n1]
  refine v_invI hd hlk hcal hci hin hvoid hnp (Q1 := fun oc h' => ∃ x : Unit, oc = .inl none ∧ okB (f x h') P) (hS _ (okB_mono (o2_of hF) (fun p hp => ⟨p.1, rfl, hp⟩))) hdd hst hh ?_ ?_
  · intro v h' hv
    obtain ⟨x, hx, hv⟩ := hv
    cases hx
    exact kk x h' hv
  · intro E h' hv
    obtain ⟨x, hx, hv⟩ := hv
    cases hx
theorem c_VxI {idx np ci d1 k1 n1 : Nat} {N : gM} {as : List sv} {r : Option Nat} {τ : Type} {P : (τ ⊕ String) × hp → Prop} {F : Nat → Option ((Int32 ⊕ String) × hp)} {f : Int32 → hp → Option ((τ ⊕ String) × hp)} (hd : decode M.2.1 pc = .ok (.invokevirtual idx, 3)) (hlk : Cond.methodLink M.1.cls idx N.1 ∈ XW) (hcal : cal N np) (hcv : calV N) (hnp : as.length = np) (hci : ci < 11) (hC : N.1.cls = hk_C ci)
    (hS : ∀ (b : Nat) (Q1 : hQ), okB (F b) (@xI G Q1) → gS G N d1 k1 n1 (sr (some b) :: as) h Q1) (hdd : d1 + 1 ≤ d ∧ N.2.2.1 ≤ 21) (hst : st.length ≤ 4) (hh : M.2.2.2.2 = []) (hP : ∀ E h', P (.inr E, h') → Q (.inr E) h') (hF : okB ((oOb ci r h).bind fun b => ot (F b) f) P) (kk : ∀ (x : Int32) (h' : hp), okB (f x h') P → gV G M d Q (pc + 3) ls (si x :: st) k n h') : gV G M d Q pc ls (as.reverse ++ sr r :: st) (k + k1) (n + n1) h := by
  rw [Nat.add_comm k k1, Nat.add_comm n n1]
  obtain ⟨b, hb, hG⟩ := okB_bind hF
  have hc : r = some b ∧ (hT h b).1 = ci + 1 := by
    cases r with
    | none => cases hb
    | some a =>
      simp only [oOb] at hb
      split at hb
      · cases hb; exact ⟨rfl, by assumption⟩
      · cases hb
  obtain ⟨rfl, hc⟩ := hc
  refine v_invV hd hlk hcal hcv hnp hci hC hc (Q1 := fun oc h' => (∃ x : Int32, oc = .inl (some (si x)) ∧ okB (f x h') P) ∨ ∃ E, oc = .inr E ∧ P (.inr E, h')) (hS _ _ (okB_mono (ot_of hG) (fun p hp => by
      obtain ⟨x, h'⟩ := p
      cases x with
      | inl x => exact Or.inl ⟨x, rfl, hp⟩
      | inr E => exact Or.inr ⟨E, rfl, hp⟩))) hdd hst hh ?_ ?_
  · intro v h' hv
    rcases hv with ⟨x, hx, hv⟩ | ⟨E, hx, hv⟩
    · cases hx
      exact kk x h' hv
    · cases hx
  · intro E h' hv
    rcases hv with ⟨x, hx, hv⟩ | ⟨E, hx, hv⟩
    · cases hx
    · cases hx
      exact hP _ _ hv
theorem c_SxI {idx np d1 k1 n1 : Nat} {N : gM} {as : List sv} {τ : Type} {P : (τ ⊕ String) × hp → Prop} {F : Option ((Int32 ⊕ String) × hp)} {f : Int32 → hp → Option ((τ ⊕ String) × hp)} (hd : decode M.2.1 pc = .ok (.invokestatic idx, 3)) (hlk : Cond.methodLink M.1.cls idx N.1 ∈ XW) (hcal : cal N np) (hcs : Cond.static N.1 ∈ XW) (hnp : as.length = np) 
    (hS : ∀ (Q1 : hQ), okB F (@xI G Q1) → gS G N d1 k1 n1 as h Q1) (hdd : d1 + 1 ≤ d ∧ N.2.2.1 ≤ 21) (hst : st.length ≤ 4) (hh : M.2.2.2.2 = []) (hP : ∀ E h', P (.inr E, h') → Q (.inr E) h') (hF : okB (ot F f) P) (kk : ∀ (x : Int32) (h' : hp), okB (f x h') P → gV G M d Q (pc + 3) ls (si x :: st) k n h') : gV G M d Q pc ls (as.reverse ++ st) (k + k1) (n + n1) h := by
  rw [Nat.add_comm k k1, Nat.add_comm n n1]
  refine v_invS hd hlk hcal hcs hnp (Q1 := fun oc h' => (∃ x : Int32, oc = .inl (some (si x)) ∧ okB (f x h') P) ∨ ∃ E, oc = .inr E ∧ P (.inr E, h')) (hS _ (okB_mono (ot_of hF) (fun p hp => by
      obtain ⟨x, h'⟩ := p
      cases x with
      | inl x => exact Or.inl ⟨x, rfl, hp⟩
      | inr E => exact Or.inr ⟨E, rfl, hp⟩))) hdd hst hh ?_ ?_
  · intro v h' hv
    rcases hv with ⟨x, hx, hv⟩ | ⟨E, hx, hv⟩
    · cases hx
      exact kk x h' hv
    · cases hx
  · intro E h' hv
    rcases hv with ⟨x, hx, hv⟩ | ⟨E, hx, hv⟩
    · cases hx
    · cases hx
      exact hP _ _ hv
theorem c_VxR {idx np ci d1 k1 n1 : Nat} {N : gM} {as : List sv} {r : Option Nat} {τ : Type} {P : (τ ⊕ String) × hp → Prop} {F : Nat → Option ((Option Nat ⊕ String) × hp)} {f : Option Nat → hp → Option ((τ ⊕ String) × hp)} (hd : decode M.2.1 pc = .ok (.invokevirtual idx, 3)) (hlk : Cond.methodLink M.1.cls idx N.1 ∈ XW) (hcal : cal N np) (hcv : calV N) (hnp : as.length = np) (hci : ci < 11) (hC : N.1.cls = hk_C ci)
    (hS : ∀ (b : Nat) (Q1 : hQ), okB (F b) (@xR G Q1) → gS G N d1 k1 n1 (sr (some b) :: as) h Q1) (hdd : d1 + 1 ≤ d ∧ N.2.2.1 ≤ 21) (hst : st.length ≤ 4) (hh : M.2.2.2.2 = []) (hP : ∀ E h', P (.inr E, h') → Q (.inr E) h') (hF : okB ((oOb ci r h).bind fun b => ot (F b) f) P) (kk : ∀ (x : Option Nat) (h' : hp), okB (f x h') P → gV G M d Q (pc + 3) ls (sr x :: st) k n h') : gV G M d Q pc ls (as.reverse ++ sr r :: st) (k + k1) (n + n1) h := by
  rw [Nat.add_comm k k1, Nat.add_comm n n1]
  obtain ⟨b, hb, hG⟩ := okB_bind hF
  have hc : r = some b ∧ (hT h b).1 = ci + 1 := by
    cases r with
    | none => cases hb
    | some a =>
      simp only [oOb] at hb
      split at hb
      · cases hb; exact ⟨rfl, by assumption⟩
      · cases hb
  obtain ⟨rfl, hc⟩ := hc
  refine v_invV hd hlk hcal hcv hnp hci hC hc (Q1 := fun oc h' => (∃ x : Option Nat, oc = .inl (some (sr x)) ∧ okB (f x h') P) ∨ ∃ E, oc = .inr E ∧ P (.inr E, h')) (hS _ _ (okB_mono (ot_of hG) (fun p hp => by
      obtain ⟨x, h'⟩ := p
      cases x with
      | inl x => exact Or.inl ⟨x, rfl, hp⟩
      | inr E => exact Or.inr ⟨E, rfl, hp⟩))) hdd hst hh ?_ ?_
  · intro v h' hv
    rcases hv with ⟨x, hx, hv⟩ | ⟨E, hx, hv⟩
    · cases hx
      exact kk x h' hv
    · cases hx
  · intro E h' hv
    rcases hv with ⟨x, hx, hv⟩ | ⟨E, hx, hv⟩
    · cases hx
    · cases hx
      exact hP _ _ hv
theorem c_SxR {idx np d1 k1 n1 : Nat} {N : gM} {as : List sv} {τ : Type} {P : (τ ⊕ String) × hp → Prop} {F : Option ((Option Nat ⊕ String) × hp)} {f : Option Nat → hp → Option ((τ ⊕ String) × hp)} (hd : decode M.2.1 pc = .ok (.invokestatic idx, 3)) (hlk : Cond.methodLink M.1.cls idx N.1 ∈ XW) (hcal : cal N np) (hcs : Cond.static N.1 ∈ XW) (hnp : as.length = np) 
    (hS : ∀ (Q1 : hQ), okB F (@xR G Q1) → gS G N d1 k1 n1 as h Q1) (hdd : d1 + 1 ≤ d ∧ N.2.2.1 ≤ 21) (hst : st.length ≤ 4) (hh : M.2.2.2.2 = []) (hP : ∀ E h', P (.inr E, h') → Q (.inr E) h') (hF : okB (ot F f) P) (kk : ∀ (x : Option Nat) (h' : hp), okB (f x h') P → gV G M d Q (pc + 3) ls (sr x :: st) k n h') : gV G M d Q pc ls (as.reverse ++ st) (k + k1) (n + n1) h := by
  rw [Nat.add_comm k k1, Nat.add_comm n n1]
  refine v_invS hd hlk hcal hcs hnp (Q1 := fun oc h' => (∃ x : Option Nat, oc = .inl (some (sr x)) ∧ okB (f x h') P) ∨ ∃ E, oc = .inr E ∧ P (.inr E, h')) (hS _ (okB_mono (ot_of hF) (fun p hp => by
      obtain ⟨x, h'⟩ := p
      cases x with
      | inl x => exact Or.inl ⟨x, rfl, hp⟩
      | inr E => exact Or.inr ⟨E, rfl, hp⟩))) hdd hst hh ?_ ?_
  · intro v h' hv
    rcases hv with ⟨x, hx, hv⟩ | ⟨E, hx, hv⟩
    · cases hx
      exact kk x h' hv
    · cases hx
  · intro E h' hv
    rcases hv with ⟨x, hx, hv⟩ | ⟨E, hx, hv⟩
    · cases hx
    · cases hx
      exact hP _ _ hv
theorem c_VxV {idx np ci d1 k1 n1 : Nat} {N : gM} {as : List sv} {r : Option Nat} {τ : Type} {P : (τ ⊕ String) × hp → Prop} {F : Nat → Option ((Unit ⊕ String) × hp)} {f : Unit → hp → Option ((τ ⊕ String) × hp)} (hd : decode M.2.1 pc = .ok (.invokevirtual idx, 3)) (hlk : Cond.methodLink M.1.cls idx N.1 ∈ XW) (hcal : cal N np) (hcv : calV N) (hnp : as.length = np) (hci : ci < 11) (hC : N.1.cls = hk_C ci)
    (hS : ∀ (b : Nat) (Q1 : hQ), okB (F b) (@xV G Q1) → gS G N d1 k1 n1 (sr (some b) :: as) h Q1) (hdd : d1 + 1 ≤ d ∧ N.2.2.1 ≤ 21) (hst : st.length ≤ 4) (hh : M.2.2.2.2 = []) (hP : ∀ E h', P (.inr E, h') → Q (.inr E) h') (hF : okB ((oOb ci r h).bind fun b => ot (F b) f) P) (kk : ∀ (x : Unit) (h' : hp), okB (f x h') P → gV G M d Q (pc + 3) ls (st) k n h') : gV G M d Q pc ls (as.reverse ++ sr r :: st) (k + k1) (n + n1) h := by
  rw [Nat.add_comm k k1, Nat.add_comm n n1]
  obtain ⟨b, hb, hG⟩ := okB_bind hF
  have hc : r = some b ∧ (hT h b).1 = ci + 1 := by
    cases r with
    | none => cases hb
    | some a =>
      simp only [oOb] at hb
      split at hb
      · cases hb; exact ⟨rfl, by assumption⟩
      · cases hb
  obtain ⟨rfl, hc⟩ := hc
  refine v_invV hd hlk hcal hcv hnp hci hC hc (Q1 := fun oc h' => (∃ x : Unit, oc = .inl none ∧ okB (f x h') P) ∨ ∃ E, oc = .inr E ∧ P (.inr E, h')) (hS _ _ (okB_mono (ot_of hG) (fun p hp => by
      obtain ⟨x, h'⟩ := p
      cases x with
      | inl x => exact Or.inl ⟨x, rfl, hp⟩
      | inr E => exact Or.inr ⟨E, rfl, hp⟩))) hdd hst hh ?_ ?_
  · intro v h' hv
    rcases hv with ⟨x, hx, hv⟩ | ⟨E, hx, hv⟩
    · cases hx
      exact kk x h' hv
    · cases hx
  · intro E h' hv
    rcases hv with ⟨x, hx, hv⟩ | ⟨E, hx, hv⟩
    · cases hx
    · cases hx
      exact hP _ _ hv
theorem c_SxV {idx np d1 k1 n1 : Nat} {N : gM} {as : List sv} {τ : Type} {P : (τ ⊕ String) × hp → Prop} {F : Option ((Unit ⊕ String) × hp)} {f : Unit → hp → Option ((τ ⊕ String) × hp)} (hd : decode M.2.1 pc = .ok (.invokestatic idx, 3)) (hlk : Cond.methodLink M.1.cls idx N.1 ∈ XW) (hcal : cal N np) (hcs : Cond.static N.1 ∈ XW) (hnp : as.length = np) 
    (hS : ∀ (Q1 : hQ), okB F (@xV G Q1) → gS G N d1 k1 n1 as h Q1) (hdd : d1 + 1 ≤ d ∧ N.2.2.1 ≤ 21) (hst : st.length ≤ 4) (hh : M.2.2.2.2 = []) (hP : ∀ E h', P (.inr E, h') → Q (.inr E) h') (hF : okB (ot F f) P) (kk : ∀ (x : Unit) (h' : hp), okB (f x h') P → gV G M d Q (pc + 3) ls (st) k n h') : gV G M d Q pc ls (as.reverse ++ st) (k + k1) (n + n1) h := by
  rw [Nat.add_comm k k1, Nat.add_comm n n1]
  refine v_invS hd hlk hcal hcs hnp (Q1 := fun oc h' => (∃ x : Unit, oc = .inl none ∧ okB (f x h') P) ∨ ∃ E, oc = .inr E ∧ P (.inr E, h')) (hS _ (okB_mono (ot_of hF) (fun p hp => by
      obtain ⟨x, h'⟩ := p
      cases x with
      | inl x => exact Or.inl ⟨x, rfl, hp⟩
      | inr E => exact Or.inr ⟨E, rfl, hp⟩))) hdd hst hh ?_ ?_
  · intro v h' hv
    rcases hv with ⟨x, hx, hv⟩ | ⟨E, hx, hv⟩
    · cases hx
      exact kk x h' hv
    · cases hx
  · intro E h' hv
    rcases hv with ⟨x, hx, hv⟩ | ⟨E, hx, hv⟩
    · cases hx
    · cases hx
      exact hP _ _ hv
theorem okB_bd {σ : Type} {o : Option σ} {f : σ → Option β} (hF : okB (o.bind f) P) : okB o (fun s => okB (f s) P) := by
  obtain ⟨x, h1, h2⟩ := okB_bind hF
  exact ⟨x, h1, h2⟩
theorem mrg {σ : Type} {o : Option σ} {f : σ → Option β} {X : σ → Prop} {A : Prop} (hF : okB (o.bind f) P) (kJ : ∀ q, okB (f q) P → X q) (kk : ∀ P' : σ → Prop, (∀ q, P' q → X q) → okB o P' → A) : A := kk (fun q => okB (f q) P) kJ (okB_bd hF)
theorem xw_all (l : List Cond) (h : l.all (fun w => decide (w ∈ lw_tbl) && (w.onTables && w.keepsFace)) = true) : ∀ w ∈ l, w ∈ XW := fun w hw => by
  have h1 := List.all_eq_true.mp h w hw
  simp only [Bool.and_eq_true, decide_eq_true_eq] at h1
  exact xw_m h1.1 (by simp only [Bool.and_eq_true]; exact h1.2)
theorem gS_at {k1 n1 : Nat} {as : List sv} (ls0 : lc) (hy : plainName M.1.cls = true) (hh : M.2.2.2.2 = []) (hlen : slen as ≤ M.2.2.1) (hls : largs 0 as ++ List.replicate (M.2.2.1 - slen as) none = ls0) (body : gV G M d Q 0 ls0 [] k1 n1 h) : gS G M d k1 n1 as h Q :=
  gS_of hy hh (by rw [sl_len]; exact hlen) ls0 (fun i v hi => by
    rw [← hls] at hi
    have hlt : i < (largs 0 as).length := by
      rcases Nat.lt_or_ge i (largs 0 as).length with q | q
      · exact q
      · rw [List.getElem?_append_right q] at hi
        have := List.eq_of_mem_replicate (List.mem_of_getElem? hi)
        cases this
    rw [List.getElem?_append_left hlt] at hi
    have := largs_mem as 0 i v hi
    rw [Nat.zero_add] at this
    exact this) body
end VD
def FU : Nat := 5000

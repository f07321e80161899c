/-! ===== the reference's cells as a store by its fields: a number by its field, an array by its field and index ===== -/
abbrev mm : Type := Nat → Nat → Int32
def mlL : List Nat := [0, 40, 40, 40, 400, 40, 480, 40, 480, 40, 40, 40, 40, 40, 40, 40, 40, 4000, 12, 0, 0, 0, 0, 0, 0, 0, 0, 0, 100, 0, 700, 7, 0, 100, 0, 2400, 24, 0, 0, 100, 0, 0, 100, 0, 0, 0, 0, 10, 0, 40, 0, 40, 100, 0]
def moL : List Nat := [0, 1, 2, 3, 4, 5, 6, 7, 8, 9, 10, 11, 12, 13, 14, 15, 16, 17, 18, 0, 0, 0, 0, 0, 0, 0, 0, 0, 19, 0, 20, 21, 0, 22, 0, 23, 24, 0, 0, 25, 0, 0, 26, 0, 0, 0, 0, 27, 0, 28, 0, 29, 30, 0]
def mfL : List Nat := [0, 1, 2, 3, 4, 5, 6, 7, 8, 9, 10, 11, 12, 13, 14, 15, 16, 17, 18, 28, 30, 31, 33, 35, 36, 39, 42, 47, 49, 51, 52]
/-- the length of an array by its field, 0 for a number; its cell behind the object's; the field of such a cell; int or boolean -/
def ml (k : Nat) : Nat := mlL.getD k 0
def mo (k : Nat) : Nat := moL.getD k 0
def mf (j : Nat) : Nat := mfL.getD j 0
def mk (k : Nat) : Nat := if k = 1 ∨ k = 10 ∨ k = 12 then 21 else 20
theorem ml_big {k : Nat} (hk : 54 ≤ k) : ml k = 0 := by
  unfold ml
  rw [List.getD_eq_getElem?_getD, List.getElem?_eq_none (by exact hk)]
  rfl
theorem mo_ok0 : ∀ k, k < 54 → ml k ≠ 0 → 1 ≤ mo k ∧ mo k ≤ 30 ∧ mf (mo k) = k := by decide +kernel
theorem mo_ok {k : Nat} (h : ml k ≠ 0) : 1 ≤ mo k ∧ mo k ≤ 30 ∧ mf (mo k) = k := mo_ok0 k (by
  rcases Nat.lt_or_ge k 54 with q | q
  · exact q
  · exact absurd (ml_big q) h) h
theorem mf_ok0 : ∀ j, j < 31 → 1 ≤ j → mo (mf j) = j ∧ ml (mf j) ≠ 0 := by decide +kernel
theorem mf_ok {j : Nat} (h1 : 1 ≤ j) (h2 : j ≤ 30) : mo (mf j) = j ∧ ml (mf j) ≠ 0 := mf_ok0 j (by omega) h1
/-- a heap with the store m at the cells from a0 on -/
def jn (a0 : Nat) (h : hp) (m : mm) : hp := (h.1, (fun a => if a = a0 then (11, 0) else if a0 < a ∧ a ≤ a0 + 30 then (mk (mf (a - a0)), ml (mf (a - a0))) else h.2.1 a), (fun a k => if a = a0 then (if ml k = 0 then m k 0 else 0) else if a0 < a ∧ a ≤ a0 + 30 then m (mf (a - a0)) k else h.2.2.1 a k), (fun a k => if a = a0 then (if ml k = 0 then none else some (a0 + mo k)) else if a0 < a ∧ a ≤ a0 + 30 then none else h.2.2.2.1 a k), h.2.2.2.2)
theorem jn_T0 (a0 : Nat) (h : hp) (m : mm) : hT (jn a0 h m) a0 = (11, 0) := if_pos rfl
theorem jn_I0 (a0 : Nat) (h : hp) (m : mm) {k : Nat} (hk : ml k = 0) : hI (jn a0 h m) a0 k = m k 0 := by
  show (if a0 = a0 then (if ml k = 0 then m k 0 else 0) else _) = _
  rw [if_pos rfl, if_pos hk]
theorem jn_R0 (a0 : Nat) (h : hp) (m : mm) {k : Nat} (hk : ml k ≠ 0) : hR (jn a0 h m) a0 k = some (a0 + mo k) := by
  show (if a0 = a0 then (if ml k = 0 then none else some (a0 + mo k)) else _) = _
  rw [if_pos rfl, if_neg hk]
theorem jn_TA (a0 : Nat) (h : hp) (m : mm) {k : Nat} (hk : ml k ≠ 0) : hT (jn a0 h m) (a0 + mo k) = (mk k, ml k) := by
  obtain ⟨h1, h2, h3⟩ := mo_ok hk
  show (if a0 + mo k = a0 then _ else if a0 < a0 + mo k ∧ a0 + mo k ≤ a0 + 30 then (mk (mf (a0 + mo k - a0)), ml (mf (a0 + mo k - a0))) else _) = _
  rw [if_neg (by omega), if_pos (by omega), Nat.add_sub_cancel_left, h3]
theorem jn_IA (a0 : Nat) (h : hp) (m : mm) {k : Nat} (i : Nat) (hk : ml k ≠ 0) : hI (jn a0 h m) (a0 + mo k) i = m k i := by
  obtain ⟨h1, h2, h3⟩ := mo_ok hk
  show (if a0 + mo k = a0 then _ else if a0 < a0 + mo k ∧ a0 + mo k ≤ a0 + 30 then m (mf (a0 + mo k - a0)) i else _) = _
  rw [if_neg (by omega), if_pos (by omega), Nat.add_sub_cancel_left, h3]
theorem jn_w0 (a0 : Nat) (h : hp) (m : mm) {k : Nat} (x : Int32) (hk : ml k = 0) : wI (jn a0 h m) a0 k x = jn a0 h (up2 m k 0 x) := by
  unfold wI jn
  refine congrArg (Prod.mk _) (congrArg (Prod.mk _) (congrArg (fun z => (z, _)) ?_))
  funext a j
  unfold up2
  by_cases ha : a = a0
  · subst ha
    simp only [if_true]
    by_cases hj : j = k
    · subst hj; simp only [if_true, if_pos hk]
    · simp only [if_neg hj]
  · simp only [if_neg ha]
    by_cases hb : a0 < a ∧ a ≤ a0 + 30
    · have h5 := mf_ok (j := a - a0) (by omega) (by omega)
      simp only [if_pos hb]
      rw [if_neg (fun e => h5.2 (by rw [e]; exact hk))]
    · simp only [if_neg hb]
theorem jn_wA (a0 : Nat) (h : hp) (m : mm) {k : Nat} (i : Nat) (x : Int32) (hk : ml k ≠ 0) : wI (jn a0 h m) (a0 + mo k) i x = jn a0 h (up2 m k i x) := by
  obtain ⟨h1, h2, h3⟩ := mo_ok hk
  unfold wI jn
  refine congrArg (Prod.mk _) (congrArg (Prod.mk _) (congrArg (fun z => (z, _)) ?_))
  funext a j
  unfold up2
  by_cases ha : a = a0
  · subst ha
    rw [if_neg (by omega)]
    simp only [if_true]
    by_cases hj : ml j = 0
    · simp only [if_pos hj]
      rw [if_neg (fun e => hk (by rw [← e]; exact hj))]
    · simp only [if_neg hj]
  · simp only [if_neg ha]
    by_cases hb : a0 < a ∧ a ≤ a0 + 30
    · have h5 := mf_ok (j := a - a0) (by omega) (by omega)
      simp only [if_pos hb]
      by_cases hc : a = a0 + mo k
      · subst hc
        rw [if_pos rfl, Nat.add_sub_cancel_left, h3, if_pos rfl]
      · rw [if_neg hc, if_neg (fun e => hc (by rw [← e, h5.1]; omega))]
    · rw [if_neg (by omega), if_neg hb, if_neg hb]
def mL (k : Nat) (i : Int32) (m : mm) : Option Int32 := if mk k = 20 ∧ inb i (ml k) = true then some (m k i.toNatClampNeg) else none
def mLZ (k : Nat) (i : Int32) (m : mm) : Option Int32 := if mk k = 21 ∧ inb i (ml k) = true then some (m k i.toNatClampNeg) else none
def mPI (k : Nat) (x : Int32) (m : mm) : Option mm := some (up2 m k 0 x)
def mPZ (k : Nat) (x : Int32) (m : mm) : Option mm := if x = 0 ∨ x = 1 then some (up2 m k 0 x) else none
def mS (k : Nat) (i x : Int32) (m : mm) : Option mm := if mk k = 20 ∧ inb i (ml k) = true then some (up2 m k i.toNatClampNeg x) else none
def mSZ (k : Nat) (i x : Int32) (m : mm) : Option mm := if mk k = 21 ∧ inb i (ml k) = true ∧ (x = 0 ∨ x = 1) then some (up2 m k i.toNatClampNeg x) else none
def oM {ρ β : Type} (o : Option (ρ × mm)) (f : ρ → mm → Option β) : Option β := o.bind fun p => f p.1 p.2
def pM {ρ : Type} (g : ρ → Option sv) (Q : hQ) (a0 : Nat) (h : hp) (p : ρ × mm) : Prop := Q (.inl (g p.1)) (jn a0 h p.2)
theorem inb_ml {i : Int32} {k : Nat} (h : inb i (ml k) = true) : ml k ≠ 0 := by
  intro e
  rw [e] at h
  have h2 := of_decide_eq_true h
  omega
section VM
variable {G : gG} {M : gM} {d : Nat} {Q : hQ} {pc : Nat} {ls : lc} {st : List sv} {k n : Nat} {h : hp} {m : mm} {a0 : Nat} {β : Type} {P : β → Prop}
theorem m_getI {idx j : Nat} (hd : decode M.2.1 pc = .ok (.getfield idx, 3)) (hf : fl M.1.cls idx 10 j) (hrf : hk_rf 10 j = false) (hj : ml j = 0) (kk : gV G M d Q (pc + 3) ls (si (m j 0) :: st) k n (jn a0 h m)) : gV G M d Q pc ls (sr (some a0) :: st) k n (jn a0 h m) :=
  v_getI hd hf (by rw [jn_T0]) hrf (by rw [jn_I0 a0 h m hj]; exact kk)
theorem m_getA {idx j : Nat} (hd : decode M.2.1 pc = .ok (.getfield idx, 3)) (hf : fl M.1.cls idx 10 j) (hrf : hk_rf 10 j = true) (hj : ml j ≠ 0) (kk : gV G M d Q (pc + 3) ls (sr (some (a0 + mo j)) :: st) k n (jn a0 h m)) : gV G M d Q pc ls (sr (some a0) :: st) k n (jn a0 h m) :=
  v_getR hd hf (by rw [jn_T0]) hrf (by rw [jn_R0 a0 h m hj]; exact kk)
theorem m_putI {idx j : Nat} {x : Int32} {f : mm → Option β} (hd : decode M.2.1 pc = .ok (.putfield idx, 3)) (hf : fl M.1.cls idx 10 j) (hfin : (hk_T 10 j).2.2.2 = false) (hty : hk_ty 10 j = .int) (hj : ml j = 0) (hF : okB ((mPI j x m).bind f) P) (kk : ∀ m' : mm, okB (f m') P → gV G M d Q (pc + 3) ls st k n (jn a0 h m')) : gV G M d Q pc ls (si x :: sr (some a0) :: st) k n (jn a0 h m) :=
  v_putI hd hf (by rw [jn_T0]) (Or.inl hfin) hty (by rw [jn_w0 a0 h m x hj]; exact kk _ hF)
theorem m_putZ {idx j : Nat} {x : Int32} {f : mm → Option β} (hd : decode M.2.1 pc = .ok (.putfield idx, 3)) (hf : fl M.1.cls idx 10 j) (hfin : (hk_T 10 j).2.2.2 = false) (hty : hk_ty 10 j = .boolean) (hj : ml j = 0) (hF : okB ((mPZ j x m).bind f) P) (kk : ∀ m' : mm, okB (f m') P → gV G M d Q (pc + 3) ls st k n (jn a0 h m')) : gV G M d Q pc ls (si x :: sr (some a0) :: st) k n (jn a0 h m) := by
  obtain ⟨m', hx, hF⟩ := okB_bind hF
  simp only [mPZ] at hx
  split at hx
  · rename_i hc
    cases hx
    exact v_putZ hd hf (by rw [jn_T0]) (Or.inl hfin) hty hc (by rw [jn_w0 a0 h m x hj]; exact kk _ hF)
  · cases hx
theorem m_iald {j : Nat} {i : Int32} {f : Int32 → Option β} (hd : decode M.2.1 pc = .ok (.iaload, 1)) (hF : okB ((mL j i m).bind f) P) (kk : ∀ x : Int32, okB (f x) P → gV G M d Q (pc + 1) ls (si x :: st) k n (jn a0 h m)) : gV G M d Q pc ls (si i :: sr (some (a0 + mo j)) :: st) k n (jn a0 h m) := by
  obtain ⟨x, hx, hF⟩ := okB_bind hF
  simp only [mL] at hx
  split at hx
  · rename_i hc
    cases hx
    have hj := inb_ml hc.2
    refine v_iald hd (by rw [jn_TA a0 h m hj]; exact hc.1) (by rw [jn_TA a0 h m hj]; exact inb_in hc.2) ?_
    rw [jn_IA a0 h m _ hj]
    exact kk _ hF
  · cases hx
theorem m_zald {j : Nat} {i : Int32} {f : Int32 → Option β} (hd : decode M.2.1 pc = .ok (.baload, 1)) (hF : okB ((mLZ j i m).bind f) P) (kk : ∀ x : Int32, okB (f x) P → gV G M d Q (pc + 1) ls (si x :: st) k n (jn a0 h m)) : gV G M d Q pc ls (si i :: sr (some (a0 + mo j)) :: st) k n (jn a0 h m) := by
  obtain ⟨x, hx, hF⟩ := okB_bind hF
  simp only [mLZ] at hx
  split at hx
  · rename_i hc
    cases hx
    have hj := inb_ml hc.2
    refine v_zald hd (by rw [jn_TA a0 h m hj]; exact hc.1) (by rw [jn_TA a0 h m hj]; exact inb_in hc.2) ?_
    rw [jn_IA a0 h m _ hj]
    exact kk _ hF
  · cases hx
theorem m_iast {j : Nat} {i x : Int32} {f : mm → Option β} (hd : decode M.2.1 pc = .ok (.iastore, 1)) (hF : okB ((mS j i x m).bind f) P) (kk : ∀ m' : mm, okB (f m') P → gV G M d Q (pc + 1) ls st k n (jn a0 h m')) : gV G M d Q pc ls (si x :: si i :: sr (some (a0 + mo j)) :: st) k n (jn a0 h m) := by
  obtain ⟨m', hx, hF⟩ := okB_bind hF
  simp only [mS] at hx
  split at hx
  · rename_i hc
    cases hx
    have hj := inb_ml hc.2
    refine v_iast hd (by rw [jn_TA a0 h m hj]; exact hc.1) (by rw [jn_TA a0 h m hj]; exact inb_in hc.2) ?_
    rw [jn_wA a0 h m _ _ hj]
    exact kk _ hF
  · cases hx
theorem m_zast {j : Nat} {i x : Int32} {f : mm → Option β} (hd : decode M.2.1 pc = .ok (.bastore, 1)) (hF : okB ((mSZ j i x m).bind f) P) (kk : ∀ m' : mm, okB (f m') P → gV G M d Q (pc + 1) ls st k n (jn a0 h m')) : gV G M d Q pc ls (si x :: si i :: sr (some (a0 + mo j)) :: st) k n (jn a0 h m) := by
  obtain ⟨m', hx, hF⟩ := okB_bind hF
  simp only [mSZ] at hx
  split at hx
  · rename_i hc
    cases hx
    have hj := inb_ml hc.2.1
    refine v_zast hd (by rw [jn_TA a0 h m hj]; exact hc.1) (by rw [jn_TA a0 h m hj]; exact inb_in hc.2.1) hc.2.2 ?_
    rw [jn_wA a0 h m _ _ hj]
    exact kk _ hF
  · cases hx
theorem cgM_V {ρ : Type} (w : ρ → oc × hp) {idx np d1 k1 n1 : Nat} {N : gM} {as : List sv} {F : Option ρ} {f : ρ → Option β} (hd : decode M.2.1 pc = .ok (.invokevirtual idx, 3)) (hlk : Cond.methodLink M.1.cls idx N.1 ∈ XW) (hcal : cal N np) (hcv : calV N) (hnp : as.length = np) (hC : N.1.cls = hk_C 10)
    (hS : ∀ (Q1 : hQ), okB F (fun x => Q1 (w x).1 (w x).2) → gS G N d1 k1 n1 (sr (some a0) :: as) (jn a0 h m) Q1) (hdd : d1 + 1 ≤ d ∧ N.2.2.1 ≤ 21) (hst : st.length ≤ 4) (hh : M.2.2.2.2 = []) (hF : okB (F.bind f) P)
    (kk : ∀ (x : ρ) (v : Option sv), okB (f x) P → (w x).1 = .inl v → gV G M d Q (pc + 3) ls (v.toList ++ st) k n (w x).2) (kx : ∀ (x : ρ) (E : String), okB (f x) P → (w x).1 = .inr E → Q (.inr E) (w x).2) : gV G M d Q pc ls (as.reverse ++ sr (some a0) :: st) (k + k1) (n + n1) (jn a0 h m) := by
  rw [Nat.add_comm k k1, Nat.add_comm n n1]
  refine v_invV hd hlk hcal hcv hnp (by decide) hC (by rw [jn_T0]) (Q1 := fun o h' => ∃ x : ρ, w x = (o, h') ∧ okB (f x) P) (hS _ (okB_mono (okB_bd hF) (fun x hx => ⟨x, rfl, hx⟩))) hdd hst hh ?_ ?_
  · intro v h' hv
    obtain ⟨x, hx, hv⟩ := hv
    have := kk x v hv (by rw [hx])
    rw [hx] at this
    exact this
  · intro E h' hv
    obtain ⟨x, hx, hv⟩ := hv
    have := kx x E hv (by rw [hx])
    rw [hx] at this
    exact this
theorem cpM_V {ρ : Type} (g : ρ → Option sv) {idx np d1 k1 n1 : Nat} {N : gM} {as : List sv} {F : Option ρ} {f : ρ → Option β} (hd : decode M.2.1 pc = .ok (.invokevirtual idx, 3)) (hlk : Cond.methodLink M.1.cls idx N.1 ∈ XW) (hcal : cal N np) (hcv : calV N) (hnp : as.length = np) (hC : N.1.cls = hk_C 10)
    (hS : ∀ (Q1 : hQ), okB F (pP g Q1 (jn a0 h m)) → gS G N d1 k1 n1 (sr (some a0) :: as) (jn a0 h m) Q1) (hdd : d1 + 1 ≤ d ∧ N.2.2.1 ≤ 21) (hst : st.length ≤ 4) (hh : M.2.2.2.2 = []) (hF : okB (F.bind f) P)
    (kk : ∀ x : ρ, okB (f x) P → gV G M d Q (pc + 3) ls ((g x).toList ++ st) k n (jn a0 h m)) : gV G M d Q pc ls (as.reverse ++ sr (some a0) :: st) (k + k1) (n + n1) (jn a0 h m) :=
  cgM_V (fun x => (.inl (g x), jn a0 h m)) hd hlk hcal hcv hnp hC hS hdd hst hh hF (fun x v hx hv => by cases hv; exact kk x hx) (fun x E hx hv => by cases hv)
theorem chM_V {ρ : Type} (g : ρ → Option sv) {idx np d1 k1 n1 : Nat} {N : gM} {as : List sv} {F : Option (ρ × mm)} {f : ρ → mm → Option β} (hd : decode M.2.1 pc = .ok (.invokevirtual idx, 3)) (hlk : Cond.methodLink M.1.cls idx N.1 ∈ XW) (hcal : cal N np) (hcv : calV N) (hnp : as.length = np) (hC : N.1.cls = hk_C 10)
    (hS : ∀ (Q1 : hQ), okB F (pM g Q1 a0 h) → gS G N d1 k1 n1 (sr (some a0) :: as) (jn a0 h m) Q1) (hdd : d1 + 1 ≤ d ∧ N.2.2.1 ≤ 21) (hst : st.length ≤ 4) (hh : M.2.2.2.2 = []) (hF : okB (oM F f) P)
    (kk : ∀ (x : ρ) (m' : mm), okB (f x m') P → gV G M d Q (pc + 3) ls ((g x).toList ++ st) k n (jn a0 h m')) : gV G M d Q pc ls (as.reverse ++ sr (some a0) :: st) (k + k1) (n + n1) (jn a0 h m) :=
  cgM_V (F := F) (f := fun p => f p.1 p.2) (fun p : ρ × mm => (.inl (g p.1), jn a0 h p.2)) hd hlk hcal hcv hnp hC hS hdd hst hh hF (fun x v hx hv => by cases hv; exact kk x.1 x.2 hx) (fun x E hx hv => by cases hv)
theorem chM_S {ρ : Type} (g : ρ → Option sv) {idx np d1 k1 n1 : Nat} {N : gM} {as : List sv} {F : Option (ρ × mm)} {f : ρ → mm → Option β} (hd : decode M.2.1 pc = .ok (.invokestatic idx, 3)) (hlk : Cond.methodLink M.1.cls idx N.1 ∈ XW) (hcal : cal N np) (hcs : Cond.static N.1 ∈ XW) (hnp : as.length = np)
    (hS : ∀ (Q1 : hQ), okB F (pM g Q1 a0 h) → gS G N d1 k1 n1 as (jn a0 h m) Q1) (hdd : d1 + 1 ≤ d ∧ N.2.2.1 ≤ 21) (hst : st.length ≤ 4) (hh : M.2.2.2.2 = []) (hF : okB (oM F f) P)
    (kk : ∀ (x : ρ) (m' : mm), okB (f x m') P → gV G M d Q (pc + 3) ls ((g x).toList ++ st) k n (jn a0 h m')) : gV G M d Q pc ls (as.reverse ++ st) (k + k1) (n + n1) (jn a0 h m) :=
  cg_S (F := F) (f := fun p => f p.1 p.2) (fun p : ρ × mm => (.inl (g p.1), jn a0 h p.2)) hd hlk hcal hcs hnp hS hdd hst hh hF (fun x v hx hv => by cases hv; exact kk x.1 x.2 hx) (fun x E hx hv => by cases hv)
end VM

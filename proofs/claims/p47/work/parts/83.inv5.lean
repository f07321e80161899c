/-! ===== a new element ===== -/
theorem insA_mem {l : List Nat} {p x j : Nat} : j ∈ insA l p x ↔ j = x ∨ j ∈ l := by
  unfold insA
  rw [List.mem_append, List.mem_cons]
  constructor
  · rintro (h | h | h)
    · exact Or.inr (List.mem_of_mem_take h)
    · exact Or.inl h
    · exact Or.inr (List.mem_of_mem_drop h)
  · rintro (h | h)
    · exact Or.inr (Or.inl h)
    · have : j ∈ l.take p ++ l.drop p := by rw [List.take_append_drop]; exact h
      rcases List.mem_append.mp this with q | q
      · exact Or.inl q
      · exact Or.inr (Or.inr q)
theorem insA_nodup {l : List Nat} {p x : Nat} (h : l.Nodup) (hx : x ∉ l) : (insA l p x).Nodup := by
  unfold insA
  have h2 : (l.take p ++ l.drop p).Nodup := by rw [List.take_append_drop]; exact h
  obtain ⟨a, b, c⟩ := List.nodup_append.mp h2
  refine List.nodup_append.mpr ⟨a, List.nodup_cons.mpr ⟨fun z => hx (List.mem_of_mem_drop z), b⟩, fun y hy z hz e => ?_⟩
  subst e
  rcases List.mem_cons.mp hz with q | q
  · subst q; exact hx (List.mem_of_mem_take hy)
  · exact c y hy y q rfl
theorem insA_len {l : List Nat} {p x : Nat} : (insA l p x).length = l.length + 1 := by
  unfold insA
  rw [List.length_append, List.length_cons, List.length_take, List.length_drop]; omega
section AD
variable {S : SS}
/-- the fields of the new state, by cases -/
theorem a1_0 (p pl : Nat) (k : Int32) : sI (add1 S p pl k) 0 0 = nI (made S + 1) := by
  unfold add1
  simp only [sI_K, sI_L]
  rw [sI_N (by decide), sI_N (by decide), sI_N (by decide), sI_N (by decide), sI_N (by decide), sI_N (by decide), sI_I, if_pos ⟨rfl, rfl⟩]
theorem a1_f (p pl : Nat) (k : Int32) {f i : Nat} (h : f ∉ [0, 1, 2, 3, 13, 14, 15]) : sI (add1 S p pl k) f i = sI S f i := by
  simp only [List.mem_cons, not_or] at h
  obtain ⟨h0, h1, h2, h3, h13, h14, h15, -⟩ := h
  unfold add1
  simp only [sI_K, sI_L]
  rw [sI_N h15, sI_N h14, sI_N h13, sI_N h3, sI_N h2, sI_N h1, sI_N h0]
theorem a1_o (p pl : Nat) (k : Int32) {f i : Nat} (hi : i ≠ made S) (h0 : f ≠ 0 ∨ i ≠ 0) : sI (add1 S p pl k) f i = sI S f i := by
  have hn : ∀ (T : SS) (g : Nat) (v : Int32), sI (wSI T g (made S) v) f i = sI T f i := fun T g v => by rw [sI_I, if_neg (fun z => hi z.2)]
  unfold add1
  simp only [sI_K, sI_L]
  rw [hn, hn, hn, hn, hn, hn, sI_I, if_neg (fun z => by rcases h0 with q | q; exact q z.1; exact q z.2)]
theorem a1_n (p pl : Nat) (k : Int32) : sI (add1 S p pl k) 1 (made S) = 1 ∧ sI (add1 S p pl k) 2 (made S) = k ∧ sI (add1 S p pl k) 3 (made S) = nI p ∧ sI (add1 S p pl k) 13 (made S) = -1 ∧ sI (add1 S p pl k) 14 (made S) = 1 ∧ sI (add1 S p pl k) 15 (made S) = -1 := by
  unfold add1
  simp only [sI_K, sI_L]
  refine ⟨?_, ?_, ?_, ?_, ?_, ?_⟩
  · rw [sI_N (by decide), sI_N (by decide), sI_N (by decide), sI_N (by decide), sI_N (by decide), sI_I, if_pos ⟨rfl, rfl⟩]
  · rw [sI_N (by decide), sI_N (by decide), sI_N (by decide), sI_N (by decide), sI_I, if_pos ⟨rfl, rfl⟩]
  · rw [sI_N (by decide), sI_N (by decide), sI_N (by decide), sI_I, if_pos ⟨rfl, rfl⟩]
  · rw [sI_N (by decide), sI_N (by decide), sI_I, if_pos ⟨rfl, rfl⟩]
  · rw [sI_N (by decide), sI_I, if_pos ⟨rfl, rfl⟩]
  · rw [sI_I, if_pos ⟨rfl, rfl⟩]
theorem a1_K (p pl : Nat) (k : Int32) (j : Nat) : sK (add1 S p pl k) j = if j = p then insA (sK S p) pl (made S) else sK S j := rfl
theorem a1_L6 (p pl : Nat) (k : Int32) (j : Nat) : sL (add1 S p pl k) 6 j = if j = made S then sL S 18 0 else sL S 6 j := by
  unfold add1
  rw [sL_K, sL_L, if_neg (by simp), sL_L]
  simp only [true_and]
  rfl
theorem a1_L18 (p pl : Nat) (k : Int32) : sL (add1 S p pl k) 18 0 = [] := by
  unfold add1
  rw [sL_K, sL_L, if_pos ⟨rfl, rfl⟩]
theorem a1_L (p pl : Nat) (k : Int32) {f : Nat} (h6 : f ≠ 6) (h18 : f ≠ 18) (j : Nat) : sL (add1 S p pl k) f j = sL S f j := by
  unfold add1
  rw [sL_K, sL_L, if_neg (fun z => h18 z.1), sL_L, if_neg (fun z => h6 z.1)]; rfl
theorem a1_Q (p pl : Nat) (k : Int32) (f : Nat) : sQ (add1 S p pl k) f = sQ S f := rfl
theorem a1_made (h : made S < 40) (p pl : Nat) (k : Int32) : made (add1 S p pl k) = made S + 1 := by
  unfold made
  rw [a1_0, nI_clamp (by unfold made at *; omega)]; rfl
theorem a1_th (hm : made S < 40) (p pl : Nat) (k : Int32) (i : Nat) : th (add1 S p pl k) i ↔ (th S i ∨ i = made S) := by
  unfold th
  rw [a1_made hm]
  by_cases e : i = made S
  · subst e
    rw [(a1_n p pl k).1]
    exact ⟨fun _ => Or.inr rfl, fun _ => ⟨by omega, by decide⟩⟩
  · rw [a1_o p pl k e (Or.inl (by decide))]
    constructor
    · intro z; exact Or.inl ⟨by omega, z.2⟩
    · rintro (z | z)
      · exact ⟨by omega, z.2⟩
      · exact absurd z e
theorem a1_dpar (hm : made S < 40) {p : Nat} (hp : p < made S) (pl : Nat) (k : Int32) (i : Nat) : dpar (add1 S p pl k) i = if i = made S then p else dpar S i := by
  unfold dpar
  by_cases e : i = made S
  · subst e
    rw [(a1_n p pl k).2.2.1, if_pos rfl, nI_clamp (by omega)]
  · rw [a1_o p pl k e (Or.inl (by decide)), if_neg e]
theorem a1_PW (h : PW S) (hm : made S < 40) {p : Nat} (hp : p < made S) (pl : Nat) (k : Int32) : PW (add1 S p pl k) := by
  have h1 := h.1
  unfold PW
  rw [a1_made hm]
  refine ⟨by omega, by omega, a1_0 p pl k, ?_, fun i h0 hi => ?_⟩
  · rw [a1_o p pl k (by omega) (Or.inl (by decide))]; exact h.2.2.2.1
  · by_cases e : i = made S
    · subst e; exact ⟨p, hp, (a1_n p pl k).2.2.1⟩
    · rw [a1_o p pl k e (Or.inl (by decide))]
      exact h.2.2.2.2 i h0 (by omega)
theorem a1_an (h : PW S) (hm : made S < 40) {p : Nat} (hp : p < made S) (pl : Nat) (k : Int32) : ∀ i, i < made S → an (add1 S p pl k) i = an S i := by
  have h2 := a1_PW h hm hp pl k
  refine an_ind h ?_ (fun i h0 hi ih => ?_)
  · rw [an_0 h, an_0 h2]
  · rw [an_s h h0 hi, an_s h2 h0 (by rw [a1_made hm]; omega), a1_dpar hm hp, if_neg (by omega), ih]
theorem a1_shn (h : PW S) (hm : made S < 40) {p : Nat} (hp : p < made S) (pl : Nat) (k : Int32) {i : Nat} (hi : i < made S) : shn (add1 S p pl k) i = shn S i := by
  unfold shn hid
  rw [a1_an h hm hp pl k i hi]
  congr 1
theorem a1_WT (h : WT S) (hm : made S < 40) {p : Nat} (hp : th S p) {pl : Nat} (hk : (sK S p).length < 10) (hz : sK S (made S) = []) (k : Int32) : WT (add1 S p pl k) := by
  have h1 := h.pw.1
  have hth := a1_th hm p pl k
  have hnk : made S ∉ sK S p := fun z => by
    have := ((h.kids hp).2.2 _ z).1.lt
    omega
  refine ⟨a1_PW h.pw hm hp.lt pl k, (hth 0).mpr (Or.inl h.2.1), ?_, ?_, fun i h0 hi => ?_, fun i hi => ?_⟩
  · rw [a1_o p pl k (by omega) (Or.inl (by decide))]; exact h.2.2.1
  · rw [a1_f p pl k (by decide)]; exact h.2.2.2.1
  · rw [a1_dpar hm hp.lt, a1_K]
    by_cases e : i = made S
    · rw [if_pos e, if_pos rfl]
      exact ⟨(hth p).mpr (Or.inl hp), insA_mem.mpr (Or.inl e)⟩
    · rw [if_neg e]
      have hi' := ((hth i).mp hi).resolve_right e
      obtain ⟨u1, u2⟩ := h.up h0 hi'
      refine ⟨(hth _).mpr (Or.inl u1), ?_⟩
      split
      · rename_i q; rw [q] at u2; exact insA_mem.mpr (Or.inr u2)
      · exact u2
  · rw [a1_K]
    by_cases e : i = made S
    · have hne : i ≠ p := by have := hp.lt; omega
      rw [if_neg hne, e, hz]
      exact ⟨List.nodup_nil, by simp, fun j hj => absurd hj List.not_mem_nil⟩
    · have hi' := ((hth i).mp hi).resolve_right e
      obtain ⟨k1, k2, k3⟩ := h.kids hi'
      have hold : ∀ j ∈ sK S i, th (add1 S p pl k) j ∧ 0 < j ∧ dpar (add1 S p pl k) j = i := fun j hj => by
        obtain ⟨a, b, c⟩ := k3 j hj
        refine ⟨(hth j).mpr (Or.inl a), b, ?_⟩
        rw [a1_dpar hm hp.lt, if_neg (by have := a.lt; omega)]; exact c
      by_cases q : i = p
      · rw [if_pos q]
        subst q
        refine ⟨insA_nodup k1 hnk, by rw [insA_len]; omega, fun j hj => ?_⟩
        rcases insA_mem.mp hj with e2 | e2
        · subst e2
          exact ⟨(hth _).mpr (Or.inr rfl), by omega, by rw [a1_dpar hm hp.lt, if_pos rfl]⟩
        · exact hold j e2
      · rw [if_neg q]
        exact ⟨k1, k2, hold⟩
theorem a1_Core (h : Core S) (hm : made S < 40) {p : Nat} (hp : th S p) {pl : Nat} (hk : (sK S p).length < 10) {kk : Nat} (h7 : kk ≤ 7) : Core (add1 S p pl (nI kk)) := by
  have hW := h.t
  have hz := h.xz (made S) (Nat.le_refl _)
  have hth := a1_th hm p pl (nI kk)
  have hcu : cur (add1 S p pl (nI kk)) = cur S := by unfold cur; rw [a1_f p pl _ (by decide)]
  have hcl := h.c.2.lt
  refine ⟨a1_WT hW hm hp hk hz.2.2.2.2.2 _, fun i => ?_, fun i hi => ?_, ⟨?_, ?_⟩, fun f hf i => ?_, ?_, ?_, ?_, fun i hi => ?_, fun i hi => ?_, ?_, ?_, ?_, fun i hi => ?_⟩
  · rw [a1_L6, a1_L p pl _ (by decide) (by decide), a1_L p pl _ (by decide) (by decide)]
    refine ⟨?_, (h.l i).2.1, (h.l i).2.2⟩
    split
    · exact h.xd
    · exact (h.l i).1
  · by_cases e : i = made S
    · subst e; exact ⟨kk, h7, (a1_n p pl _).2.1⟩
    · rw [a1_o p pl _ e (Or.inl (by decide))]
      exact h.k i (((hth i).mp hi).resolve_right e)
  · rw [hcu, a1_f p pl _ (by decide)]; exact h.c.1
  · rw [hcu]; exact (hth _).mpr (Or.inl h.c.2)
  · by_cases e : f = 1
    · subst e
      by_cases e2 : i = made S
      · subst e2; exact Or.inr (a1_n p pl _).1
      · rw [a1_o p pl _ e2 (Or.inl (by decide))]; exact h.b 1 hf i
    · have : ∀ f, f ∈ [1, 10, 12, 22, 23, 24] → f ≠ 1 → f ∉ [0, 1, 2, 3, 13, 14, 15] := by decide
      rw [a1_f p pl _ (this f hf e)]; exact h.b f hf i
  · unfold WXs
    rw [hcu, a1_shn hW.pw hm hp.lt pl _ hcl]; exact h.xs
  · unfold WXf
    rw [a1_f p pl _ (by decide)]
    rcases h.xf with q | ⟨f, f1, f2, f3, f4⟩
    · exact Or.inl q
    · refine Or.inr ⟨f, f1, (hth f).mpr (Or.inl f2), ?_, ?_⟩
      · rw [a1_shn hW.pw hm hp.lt pl _ f2.lt]; exact f3
      · rw [a1_o p pl _ (by have := f2.lt; omega) (Or.inl (by decide))]; exact f4
  · unfold WXt
    rw [hcu, a1_f p pl _ (f := 22) (by decide), a1_f p pl _ (f := 21) (by decide), a1_f p pl _ (f := 20) (by decide), a1_o p pl _ (by omega) (Or.inl (by decide))]; exact h.xt
  · rw [a1_L p pl _ (by decide) (by decide)] at hi
    by_cases e : i = made S
    · subst e; rw [hz.1] at hi; simp at hi
    · rw [a1_o p pl _ e (Or.inl (by decide))]; exact h.xc i hi
  · rw [a1_L p pl _ (by decide) (by decide)] at hi
    by_cases e : i = made S
    · subst e; rw [hz.2.1] at hi; simp at hi
    · rw [a1_o p pl _ e (Or.inl (by decide))]
      exact ⟨(h.xk i hi).1, (hth i).mpr (Or.inl (h.xk i hi).2)⟩
  · unfold WXd
    rw [a1_L18]; simp
  · unfold WXo
    rw [a1_f p pl _ (by decide)]; exact h.xo
  · unfold WXp
    rw [a1_f p pl _ (by decide), a1_f p pl _ (by decide)]; exact h.xp
  · rw [a1_made hm] at hi
    obtain ⟨z1, z2, z3, z4, z5, z6⟩ := h.xz i (by omega)
    rw [a1_L p pl _ (by decide) (by decide), a1_L p pl _ (by decide) (by decide), a1_f p pl _ (by decide), a1_f p pl _ (by decide), a1_f p pl _ (by decide), a1_K, if_neg (by have := hp.lt; omega)]
    exact ⟨z1, z2, z3, z4, z5, z6⟩
theorem a1_Inv0 {c : Nat} (h : Inv0 S c) (hm : made S < 40) {p : Nat} (hp : th S p) {pl : Nat} (hk : (sK S p).length < 10) {kk : Nat} (h7 : kk ≤ 7) : Inv0 (add1 S p pl (nI kk)) c := by
  refine ⟨a1_Core h.1 hm hp hk h7, ?_, ?_, h.2.2.2⟩
  · obtain ⟨v1, v2, v3, v4, v5, v6, v7⟩ := h.2.1
    unfold WV
    rw [a1_f p pl _ (by decide), a1_f p pl _ (by decide), a1_L p pl _ (by decide) (by decide), a1_L p pl _ (by decide) (by decide)]
    exact ⟨v1, v2, v3, v4, v5, v6, v7⟩
  · obtain ⟨w1, w2, w3⟩ := h.2.2.1
    unfold WN
    rw [a1_f p pl _ (by decide), a1_f p pl _ (by decide)]
    refine ⟨w1, w2, fun i => ?_⟩
    by_cases e : i = made S
    · subst e; exact Or.inl (a1_n p pl _).2.2.2.2.2
    · rw [a1_o p pl _ e (Or.inl (by decide))]; exact w3 i
theorem Inv0.kTelW {c : Nat} (h : Inv0 S c) {i : Nat} (hi : th S i) (ha : (sQ S 35).length ≤ 20) : Inv0 (telW S i) c := (InvT.kTelW (h.toT ha) hi).toI (h.1.toC.sd (sd_telW S i) rfl) (by decide)
theorem add2_Inv {c : Nat} (h : Inv S c) (hm : made S < 40) {p : Nat} (hp : th S p) {pl : Nat} (hk : (sK S p).length < 10) {kk : Nat} (h7 : kk ≤ 7) (ha : (sQ S 35).length < 20) : Inv (add2 S p pl (nI kk)) c :=
  ((a1_Inv0 h.1 hm hp (pl := pl) hk h7).kTelW ((a1_th hm p pl (nI kk) _).mpr (Or.inr rfl)) (by rw [a1_Q]; omega)).toFit
theorem a1_ln (h : Core S) (hm : made S < 40) {p : Nat} (hp : p < made S) (pl : Nat) (k : Int32) : ln (add1 S p pl k) = ln S := by
  have hcu : cur (add1 S p pl k) = cur S := by unfold cur; rw [a1_f p pl _ (by decide)]
  have hcl := h.c.2.lt
  have hl : lvl (add1 S p pl k) (cur S) = lvl S (cur S) := by
    unfold lvl
    rw [a1_an h.t.pw hm hp pl k _ hcl]
    have he : ∀ j ∈ an S (cur S), sI (add1 S p pl k) 13 j = sI S 13 j := fun j hj => by
      have := an_mem h.t.pw hcl j hj
      exact a1_o p pl k (by omega) (Or.inl (by decide))
    generalize an S (cur S) = l at he
    induction l with
    | nil => rfl
    | cons a l ih =>
      rw [List.find?_cons, List.find?_cons, he a List.mem_cons_self]
      cases decide (sI S 13 a ≠ -1)
      · exact ih (fun j hj => he j (List.mem_cons_of_mem _ hj))
      · exact he a List.mem_cons_self
  unfold ln ln1 ln2 ln3
  rw [hcu, hl, a1_o p pl k (f := 2) (by omega) (Or.inl (by decide)), a1_f p pl k (f := 10) (by decide), a1_f p pl k (f := 22) (by decide), a1_L6, if_neg (show ¬ cur S = made S by omega), a1_L p pl k (f := 8) (by decide) (by decide)]
end AD

/-! ===== the reference's refuge and loss; what lies below ===== -/
def oI (o : Option Nat) : Int32 ⊕ Unit := match o with
  | some x => .inl (nI x)
  | none => .inr ()
section ML
variable {S : SS} {m : mm}
theorem fnd_c (S : SS) (x : Nat) (l : List Nat) : fnd S (x :: l) = if hid S x = false then some x else fnd S l := by
  unfold fnd
  rw [List.find?_cons]
  cases hid S x <;> rfl
theorem m_kid' (hM : RM S m) {p k : Nat} (h : WT S) (hp : th S p) (hk : k < (sK S p).length) : mL 4 ((10 : Int32) * nI p + nI k) m = some (nI (gn (sK S p) k)) ∧ mLZ 12 (nI (gn (sK S p) k)) m = some (sI S 12 (gn (sK S p) k)) :=
  ⟨m_kid hM (hp.l40 h) hk (h.kids hp).2.1, m_hid hM (((h.kids hp).2.2 _ (gn_mem hk)).1.l40 h)⟩
theorem hid_0 (S : SS) (x : Nat) : sI S 12 x = 0 ↔ hid S x = false := by
  unfold hid
  by_cases q : sI S 12 x = 0
  · simp [q]
  · simp [q]
theorem m_ref1 (hM : RM S m) (h : WT S) {p k : Nat} (hp : th S p) (hk : k ≤ (sK S p).length) (c3 : Int32) : itr (fX11_refuge_B3 (nI p) c3 m) FU (nI k) = some (oI (fnd S ((sK S p).drop k))) := by
  have h10 := (h.kids hp).2.1
  have key : ∃ b, itr (fX11_refuge_B3 (nI p) c3 m) FU (nI k) = some b ∧ b = oI (fnd S ((sK S p).drop k)) := by
    refine itr_run (R := fun b => b = oI (fnd S ((sK S p).drop k))) (fun n a => ∃ j, j + n = (sK S p).length ∧ a = nI j ∧ fnd S ((sK S p).drop j) = fnd S ((sK S p).drop k)) (fun n a hX => ?_) FU ((sK S p).length - k) (nI k) (FU_lt (by omega)) ⟨k, by omega, rfl, rfl⟩
    obtain ⟨j, j1, rfl, j2⟩ := hX
    cases n with
    | zero =>
      refine Or.inr ⟨_, ?_, by rw [← j2]⟩
      unfold fX11_refuge_B3
      rw [m_kidn hM (hp.l40 h), sb, if_pos (by rw [show (sK S p).length = j by omega]; exact Int32.le_refl _), List.drop_of_length_le (by omega)]; rfl
    | succ n =>
      have jl : j < (sK S p).length := by omega
      obtain ⟨g1, g2⟩ := m_kid' hM h hp jl
      rw [List.drop_eq_getElem_cons jl, ← gn_of jl, fnd_c] at j2
      by_cases q : sI S 12 (gn (sK S p) j) = 0
      · rw [if_pos ((hid_0 _ _).mp q)] at j2
        refine Or.inr ⟨_, ?_, by rw [← j2]⟩
        unfold fX11_refuge_B3
        rw [m_kidn hM (hp.l40 h), sb, if_neg (nI_ge jl (by omega)), g1, sb, g2, sb, if_pos q, sb]; rfl
      · rw [if_neg (fun z => q ((hid_0 _ _).mpr z))] at j2
        refine Or.inl ⟨_, n, ?_, by omega, j + 1, by omega, rfl, j2⟩
        unfold fX11_refuge_B3
        rw [m_kidn hM (hp.l40 h), sb, if_neg (nI_ge jl (by omega)), g1, sb, g2, sb, if_neg q, nI_1]
  obtain ⟨b, k1, k2⟩ := key
  rw [k1, k2]
theorem nI_sub1 (n : Nat) : nI n + (-1 : Int32) = nI n - 1 := by rw [Int32.sub_eq_add_neg]
theorem m_ref2 (hM : RM S m) (h : WT S) {p k : Nat} (hp : th S p) (hk : k ≤ (sK S p).length) : itr (fX11_refuge_B56 (nI p) m) FU (nI k - 1) = some (oI (fnd S ((sK S p).take k).reverse)) := by
  have h10 := (h.kids hp).2.1
  have key : ∃ b, itr (fX11_refuge_B56 (nI p) m) FU (nI k - 1) = some b ∧ b = oI (fnd S ((sK S p).take k).reverse) := by
    refine itr_run (R := fun b => b = oI (fnd S ((sK S p).take k).reverse)) (fun n a => n ≤ k ∧ a = nI n - 1 ∧ fnd S ((sK S p).take n).reverse = fnd S ((sK S p).take k).reverse) (fun n a hX => ?_) FU k (nI k - 1) (FU_lt (by omega)) ⟨Nat.le_refl _, rfl, rfl⟩
    obtain ⟨j1, rfl, j2⟩ := hX
    cases n with
    | zero =>
      refine Or.inr ⟨_, ?_, by rw [← j2]⟩
      unfold fX11_refuge_B56
      rw [if_pos (by decide)]; rfl
    | succ n =>
      have jl : n < (sK S p).length := by omega
      obtain ⟨g1, g2⟩ := m_kid' hM h hp jl
      rw [List.take_add_one, List.getElem?_eq_getElem jl, ← gn_of jl, List.reverse_append] at j2
      replace j2 : fnd S (gn (sK S p) n :: ((sK S p).take n).reverse) = _ := j2
      rw [fnd_c] at j2
      rw [nI_pred]
      by_cases q : sI S 12 (gn (sK S p) n) = 0
      · rw [if_pos ((hid_0 _ _).mp q)] at j2
        refine Or.inr ⟨_, ?_, by rw [← j2]⟩
        unfold fX11_refuge_B56
        rw [if_neg (nI_pos (by omega)), g1, sb, g2, sb, if_pos q, sb]; rfl
      · rw [if_neg (fun z => q ((hid_0 _ _).mpr z))] at j2
        refine Or.inl ⟨_, n, ?_, by omega, by omega, rfl, j2⟩
        unfold fX11_refuge_B56
        rw [if_neg (nI_pos (by omega)), g1, sb, g2, sb, if_neg q, nI_sub1]
  obtain ⟨b, k1, k2⟩ := key
  rw [k1, k2]
theorem m_refuge (hM : RM S m) (h : WT S) {p k1 k2 : Nat} (hp : th S p) (h1 : k1 ≤ (sK S p).length) (h2 : k2 ≤ (sK S p).length) : fX11_refuge (nI p) (nI k1) (nI k2 - 1) m = some (nI (rfg S p ((sK S p).drop k1) ((sK S p).take k2))) := by
  unfold fX11_refuge rfg
  rw [m_ref1 hM h hp h1, m_ref2 hM h hp h2]
  cases fnd S ((sK S p).drop k1) with
  | some x => rfl
  | none =>
    show oR (some (oI (fnd S ((sK S p).take k2).reverse))) _ = _
    cases fnd S ((sK S p).take k2).reverse with
    | some x => rfl
    | none => rfl
theorem m_lost (hM : RM S m) (h : WT S) (hV : WV S) (hL : WL S) (h21 : (sQ S 35).length ≤ 22) {a1 a2 a3 : Int32} {r : Nat} (hr : fX11_refuge a1 a2 a3 m = some (nI r)) (hth : th S r) : ∃ m', ((fX11_refuge a1 a2 a3 m).bind fun x10 => (mPI 20 x10 m).bind fun m11 => (mPI 25 (0 : Int32) m11).bind fun m12 => (mPI 29 (0 : Int32) m12).bind fun m13 => (fX11_word (0 : Int32) (0 : Int32) (0 : Int32) (108 : Int32) (111 : Int32) (115 : Int32) (116 : Int32)).bind fun x14 => oM (fX11_partWord x14 m13) fun _ m16 => oM (fX11_partWords (m16 20 0) m16) fun _ m18 => oM (fX11_comeAlert m18) fun _ m20 => some (((), m20))) = some ((), m') ∧ RM (cAl (los2 S r) (wd (los2 S r) r [108, 111, 115, 116])) m' := by
  have hs := sd_los2 S r
  have hM1 : RM (los2 S r) (up2 (up2 m 20 0 (nI r)) 25 0 0) := (hM.wI0 rfl).wI0 rfl
  have hM2 : RM (los2 S r) (up2 (up2 (up2 m 20 0 (nI r)) 25 0 0) 29 0 0) := hM1.tsc (Sm.up (by decide))
  obtain ⟨m1, a1', b1, s1⟩ := m_word (w := 228325876) (p := [108, 111, 115, 116]) (by decide +kernel) (by decide +kernel) (Tx_0 (up2 (up2 m 20 0 (nI r)) 25 0 0)) (by decide)
  have e1 : pt [] [108, 111, 115, 116] = [108, 111, 115, 116] := rfl
  rw [e1] at b1
  have hM3 := hM2.tsc s1
  have h2 : WT (los2 S r) := h.sd hs rfl
  obtain ⟨m2, a2', b2, s2⟩ := m_words hM3 h2 hL ((th_cg (hs.i 0 rfl) (hs.i 1 rfl) r).mpr hth) b1 (by decide)
  have hM4 := hM3.tsc s2
  have hw := wd_len0 (los2 S r) hL r [108, 111, 115, 116]
  have hw' : (wd (los2 S r) r [108, 111, 115, 116]).length ≤ 80 := by
    have : ([108, 111, 115, 116] : List Int32).length = 4 := rfl
    omega
  obtain ⟨m3, a3', b3⟩ := m_cAl hM4 (hV.cg rfl rfl rfl rfl (hs.i 38 rfl) (hs.i 41 rfl)) h21 b2 hw'
  refine ⟨m3, ?_, b3⟩
  have e20 : m1 20 0 = nI r := by
    rw [hM3.p 20 rfl]
    unfold los2
    rw [sI_I, if_neg (fun z => absurd z.1 (by decide)), sI_I, if_pos ⟨rfl, rfl⟩]
  rw [hr, sb, mPIs, sb, mPIs, sb, mPIs, sb, show fX11_word 0 0 0 108 111 115 116 = some 228325876 from by decide +kernel, sb, a1', oMs, e20, a2', oMs, a3', oMs]
theorem gon_m1 (S : SS) : gonA S (-1) = false := by unfold gonA; rfl
theorem m_lose (hM : RM S m) (h : WT S) (hV : WV S) (hL : WL S) (h21 : (sQ S 35).length ≤ 22) {p k1 k2 : Nat} (hp : th S p) (h1 : k1 ≤ (sK S p).length) (h2 : k2 ≤ (sK S p).length) (hcu : sI S 20 0 = nI (cur S) ∧ cur S < made S) (hfo : sI S 21 0 = -1 ∨ ∃ f, sI S 21 0 = nI f ∧ f < made S) (hrs : gonA S (sI S 20 0) = true → th S (rfg S p ((sK S p).drop k1) ((sK S p).take k2))) : TS (fX11_lose (nI p) (nI k1) (nI k2 - 1)) m (los S (rfg S p ((sK S p).drop k1) ((sK S p).take k2))) := by
  have m40 := h.m40
  have key1 : ∃ m1, (if (m 21 0) = (-1 : Int32) then (some m) else (mLZ 1 (m 21 0) m).bind fun x3 => oR (τ := mm) (σ := Unit) (if x3 = 0 then (some (.inr ())) else (fX11_shows (m 21 0) m).bind fun x6 => if x6 = 0 then (some (.inr ())) else some (.inl (m))) fun q4 => (mPI 21 (-1 : Int32) m).bind fun m7 => (mPZ 22 (0 : Int32) m7).bind fun m8 => some m8) = some m1 ∧ RM (los1 S) m1 := by
    rw [hM.p 21 rfl]
    unfold los1
    rcases hfo with q | ⟨f, f1, f2⟩
    · rw [q, if_pos rfl, gon_m1, if_neg (by decide)]
      exact ⟨m, rfl, hM⟩
    · have hM2 : RM (wSI (wSI S 21 0 (-1)) 22 0 0) (up2 (up2 m 21 0 (-1)) 22 0 0) := (hM.wI0 rfl).wI0 rfl
      rw [f1, if_neg (nI_m1 (by omega)), gon_nI (by omega), mLZ_ok rfl (show f < 40 by omega), sb, hM.p 1 rfl]
      by_cases z : sI S 1 f = 0
      · rw [if_pos z, decide_eq_true z, Bool.true_or, if_pos rfl, oRr, mPIs, sb, mPZ_ok (Or.inl rfl), sb]
        exact ⟨_, rfl, hM2⟩
      · rw [if_neg z, decide_eq_false z, Bool.false_or, m_shows hM h.pw f2, sb]
        by_cases w : shn S f = true
        · rw [w, if_neg (by decide), if_neg (by decide), oRl]
          exact ⟨m, rfl, hM⟩
        · rw [Bool.not_eq_true] at w
          rw [w, if_pos bF, if_pos (show (!false) = true from rfl), oRr, mPIs, sb, mPZ_ok (Or.inl rfl), sb]
          exact ⟨_, rfl, hM2⟩
  obtain ⟨m1, a1, b1⟩ := key1
  have hs := sd_los1 S
  unfold TS fX11_lose
  rw [a1, sb]
  have hW1 : WT (los1 S) := h.sd hs rfl
  have hcc : cur (los1 S) = cur S := cur_cg (hs.i 20 rfl)
  have e20 : m1 20 0 = nI (cur S) := by rw [b1.p 20 rfl, hs.i 20 rfl]; exact hcu.1
  have hp1 : th (los1 S) p := (th_cg (hs.i 0 rfl) (hs.i 1 rfl) p).mpr hp
  have eK : sK (los1 S) = sK S := hs.2.2.2
  have eh : ∀ j, hid (los1 S) j = hid S j := hid_cg (hs.i 12 rfl)
  have href := m_refuge b1 hW1 hp1 (by rw [eK]; exact h1) (by rw [eK]; exact h2) (k1 := k1) (k2 := k2)
  rw [eK, rfg_cg (fun j _ => eh j) (fun j _ => eh j)] at href
  have hl : los S (rfg S p ((sK S p).drop k1) ((sK S p).take k2)) = los3 (los1 S) (rfg S p ((sK S p).drop k1) ((sK S p).take k2)) := rfl
  rw [hl]
  generalize rfg S p ((sK S p).drop k1) ((sK S p).take k2) = r at *
  have hg : gonA (los1 S) (sI (los1 S) 20 0) = (decide (sI S 1 (cur S) = 0) || !shn S (cur S)) := by
    rw [gon_cg (hs.i 1 rfl) (hs.i 3 rfl) (hs.i 12 rfl), hs.i 20 rfl, hcu.1, gon_nI (by omega)]
  have hg2 : gonA S (sI S 20 0) = (decide (sI S 1 (cur S) = 0) || !shn S (cur S)) := by rw [hcu.1, gon_nI (by omega)]
  unfold los3
  rw [hg, e20, mLZ_ok rfl (show cur S < 40 by omega), sb, b1.p 1 rfl, hs.i 1 rfl]
  have hlost : gonA S (sI S 20 0) = true → ∃ m', ((fX11_refuge (nI p) (nI k1) (nI k2 - 1) m1).bind fun x10 => (mPI 20 x10 m1).bind fun m11 => (mPI 25 (0 : Int32) m11).bind fun m12 => (mPI 29 (0 : Int32) m12).bind fun m13 => (fX11_word (0 : Int32) (0 : Int32) (0 : Int32) (108 : Int32) (111 : Int32) (115 : Int32) (116 : Int32)).bind fun x14 => oM (fX11_partWord x14 m13) fun _ m16 => oM (fX11_partWords (m16 20 0) m16) fun _ m18 => oM (fX11_comeAlert m18) fun _ m20 => some (((), m20))) = some ((), m') ∧ RM (cAl (los2 (los1 S) r) (wd (los2 (los1 S) r) r [108, 111, 115, 116])) m' := fun g =>
    m_lost b1 hW1 (hV.cg (hs.q 30 rfl) (hs.q 35 rfl) (hs.l 33 rfl) (hs.l 39 rfl) (hs.i 38 rfl) (hs.i 41 rfl)) (hL.sd hs rfl rfl rfl) (by rw [hs.q 35 rfl]; exact h21) href ((th_cg (hs.i 0 rfl) (hs.i 1 rfl) r).mpr (hrs g))
  rw [hg2] at hlost
  by_cases z : sI S 1 (cur S) = 0
  · rw [decide_eq_true z, Bool.true_or] at hlost ⊢
    rw [if_pos z, if_pos rfl]
    exact hlost rfl
  · rw [decide_eq_false z, Bool.false_or] at hlost ⊢
    rw [if_neg z, m_shows b1 hW1.pw (by rw [made_cg (hs.i 0 rfl)]; exact hcu.2), sb, shn_cg (hs.i 3 rfl) (hs.i 12 rfl)]
    by_cases w : shn S (cur S) = true
    · rw [w, if_neg (by decide), if_neg (by decide)]
      exact ⟨m1, rfl, b1⟩
    · rw [Bool.not_eq_true] at w
      rw [w] at hlost ⊢
      rw [if_pos bF, if_pos (show (!false) = true from rfl)]
      exact hlost rfl
/-! what lies below -/
theorem m_below_l (hM : RM S m) (h : PW S) (x : Nat) (hx : x < 40) : ∀ i, i < made S → ∀ fu, i + 1 < fu → itr (fX11_isBelow_B2 (nI x) m) fu (nI i) = some (if x ∈ an S i then nI x else -1) := by
  have m40 := h.2.1
  refine an_ind h (fun fu hf => ?_) (fun i i0 il ih fu hf => ?_)
  · rw [an_0 h]
    obtain ⟨fu, rfl⟩ : ∃ g, fu = g + 2 := ⟨fu - 2, by omega⟩
    by_cases q : x = 0
    · subst q
      rw [if_pos (List.mem_singleton.mpr rfl)]
      refine itr_end ?_ _
      unfold fX11_isBelow_B2
      rw [if_neg (by decide), if_pos rfl]
    · rw [if_neg (fun z => q (List.mem_singleton.mp z))]
      rw [itr_step (a' := -1)]
      · refine itr_end ?_ _
        unfold fX11_isBelow_B2
        rw [if_pos rfl]
      · unfold fX11_isBelow_B2
        rw [if_neg (by decide), if_neg (fun z => q ((nI_eq (by omega) (by omega)).mp z).symm), mL_ok rfl (show 0 < 40 by decide), sb, hM.p 3 rfl, h.2.2.2.1]
  · rw [an_s h i0 il]
    obtain ⟨fu, rfl⟩ : ∃ g, fu = g + 1 := ⟨fu - 1, by omega⟩
    obtain ⟨p1, p2⟩ := h.par i0 il
    by_cases q : x = i
    · subst q
      rw [if_pos List.mem_cons_self]
      refine itr_end ?_ _
      unfold fX11_isBelow_B2
      rw [if_neg (nI_m1 (by omega)), if_pos rfl]
    · rw [itr_step (a' := nI (dpar S i)), ih fu (by omega)]
      · congr 1
        by_cases w : x ∈ an S (dpar S i)
        · rw [if_pos w, if_pos (List.mem_cons_of_mem _ w)]
        · rw [if_neg w, if_neg]
          intro z
          rcases List.mem_cons.mp z with z | z
          · exact q z
          · exact w z
      · unfold fX11_isBelow_B2
        rw [if_neg (nI_m1 (by omega)), if_neg (fun z => q ((nI_eq (by omega) (by omega)).mp z).symm), mL_ok rfl (show i < 40 by omega), sb, hM.p 3 rfl, p2]
theorem m_below (hM : RM S m) (h : PW S) {i x : Nat} (hi : i < made S) (hx : x < 40) : fX11_isBelow (nI i) (nI x) m = some (bI (wthn S i x)) := by
  have := h.2.1
  unfold fX11_isBelow wthn
  rw [m_below_l hM h x hx i hi FU (FU_lt (by omega)), sb]
  by_cases q : x ∈ an S i
  · rw [if_pos q, if_pos rfl, decide_eq_true q]; rfl
  · rw [if_neg q, if_neg (fun z => nI_m1 (a := x) (by omega) z.symm), decide_eq_false q]; rfl
end ML

/-! ===== the tree as it must be; words ===== -/
def th (S : SS) (i : Nat) : Prop := i < made S ∧ sI S 1 i ≠ 0
def WT (S : SS) : Prop := PW S ∧ th S 0 ∧ sI S 2 0 = 0 ∧ sI S 12 0 = 0 ∧ (∀ i, 0 < i → th S i → th S (dpar S i) ∧ i ∈ sK S (dpar S i)) ∧ ∀ i, th S i → (sK S i).Nodup ∧ (sK S i).length ≤ 10 ∧ ∀ j ∈ sK S i, th S j ∧ 0 < j ∧ dpar S j = i
/-- lengths of names, contents, kept texts -/
def WL (S : SS) : Prop := ∀ i, (sL S 6 i).length ≤ 12 ∧ (sL S 8 i).length ≤ 12 ∧ (sL S 17 i).length ≤ 80
theorem WT.pw {S : SS} (h : WT S) : PW S := h.1
theorem WT.m40 {S : SS} (h : WT S) : made S ≤ 40 := h.1.2.1
theorem th.lt {S : SS} {i : Nat} (h : th S i) : i < made S := h.1
theorem th.l40 {S : SS} {i : Nat} (h : th S i) (hW : WT S) : i < 40 := Nat.lt_of_lt_of_le h.1 hW.m40
theorem WT.up {S : SS} (h : WT S) {i : Nat} (h0 : 0 < i) (hi : th S i) : th S (dpar S i) ∧ i ∈ sK S (dpar S i) := h.2.2.2.2.1 i h0 hi
theorem WT.kids {S : SS} (h : WT S) {i : Nat} (hi : th S i) : (sK S i).Nodup ∧ (sK S i).length ≤ 10 ∧ ∀ j ∈ sK S i, th S j ∧ 0 < j ∧ dpar S j = i := h.2.2.2.2.2 i hi
theorem gn_idx {l : List Nat} {i : Nat} (h : i ∈ l) : gn l (l.idxOf i) = i := by
  have := List.idxOf_lt_length_of_mem h
  rw [gn_of this]
  exact List.getElem_idxOf this
theorem gn_lt_idx {i : Nat} : ∀ {l : List Nat} {j : Nat}, j < l.idxOf i → gn l j ≠ i
  | [], j, h => by simp at h
  | a :: l, j, h => by
    rw [List.idxOf_cons] at h
    by_cases e : a = i
    · subst e; simp at h
    · have e2 : (a == i) = false := by simp [e]
      rw [e2] at h
      simp only [cond_false] at h
      cases j with
      | zero => exact e
      | succ j => exact gn_lt_idx (l := l) (j := j) (by omega)
theorem gn_inj {l : List Nat} (h : l.Nodup) {a b : Nat} (ha : a < l.length) (hb : b < l.length) (e : gn l a = gn l b) : a = b := by
  rw [gn_of ha, gn_of hb] at e
  exact (List.getElem_inj h).mp e
theorem take_succ_gn {l : List Nat} {k : Nat} (h : k < l.length) : l.take (k + 1) = l.take k ++ [gn l k] := by
  rw [List.take_add_one, List.getElem?_eq_getElem h, gn_of h]
  rfl
theorem vis_s {S : SS} {l : List Nat} {k : Nat} (h : k < l.length) : vis S (l.take (k + 1)) = vis S (l.take k) + (if hid S (gn l k) = true then 0 else 1) := by
  unfold vis
  rw [take_succ_gn h, List.countP_append, List.countP_singleton]
  cases hid S (gn l k) <;> rfl
theorem vis_le (S : SS) (l : List Nat) : vis S l ≤ l.length := List.countP_le_length
section MW
variable {S : SS} {m : mm}
theorem RM.name (hM : RM S m) {i : Nat} (hi : i < 40) : TxA m 6 7 12 i (sL S 6 i) := hM.2.1 i hi
theorem RM.cont (hM : RM S m) {i : Nat} (hi : i < 40) : TxA m 8 9 12 i (sL S 8 i) := hM.2.2.1 i hi
theorem RM.kept (hM : RM S m) {i : Nat} (hi : i < 40) : TxA m 17 16 100 i (sL S 17 i) := hM.2.2.2.1 i hi
theorem RM.kds (hM : RM S m) {i : Nat} (hi : i < 40) : RKd m i (sK S i) := hM.2.2.2.2.2.2.2.2.2.1 i hi
theorem RM.tsc (hM : RM S m) {m' : mm} (h : Sm tsc m m') : RM S m' := hM.sm (h.mono (by decide))
theorem m_kid (hM : RM S m) {i k : Nat} (hi : i < 40) (hk : k < (sK S i).length) (h10 : (sK S i).length ≤ 10) : mL 4 ((10 : Int32) * nI i + nI k) m = some (nI (gn (sK S i) k)) := by
  rw [show (10 : Int32) = nI 10 from rfl, nI_mul, nI_add, mL_ok rfl (show 10 * i + k < 400 by omega), (hM.kds hi).2.1 k hk]
theorem m_kidn (hM : RM S m) {i : Nat} (hi : i < 40) : mL 5 (nI i) m = some (nI (sK S i).length) := by
  rw [mL_ok rfl (show i < 40 by omega), (hM.kds hi).1]
theorem m_hid (hM : RM S m) {i : Nat} (hi : i < 40) : mLZ 12 (nI i) m = some (sI S 12 i) := by
  rw [mLZ_ok rfl (show i < 40 by omega), hM.p 12 rfl]
theorem m_plain (hM : RM S m) {k i : Nat} (hp : plain k = true) (hk : mk k = 20) (hi : i < ml k) : mL k (nI i) m = some (sI S k i) := by
  rw [mL_ok hk hi, hM.p k hp]
theorem m_place (hM : RM S m) (h : WT S) {i : Nat} (h0 : 0 < i) (hi : th S i) : fX11_placeOf (nI i) m = some (nI (plc S i)) := by
  obtain ⟨h1, h2⟩ := h.up h0 hi
  obtain ⟨h3, h4⟩ := h.pw.par h0 hi.lt
  obtain ⟨h5, h6, h7⟩ := h.kids h1
  have hq := List.idxOf_lt_length_of_mem h2
  have hl40 := hi.l40 h
  have hp40 := h1.l40 h
  have hF : ∀ j, j < (sK S (dpar S i)).length → fX11_placeOf_B2 (nI i) m (nI j) = if gn (sK S (dpar S i)) j = i then some (.inr (nI j)) else some (.inl (nI (j + 1))) := by
    intro j hj
    unfold fX11_placeOf_B2
    rw [m_plain hM rfl rfl (show i < 40 from hl40), sb, h4, m_kid hM hp40 hj h6, sb]
    have hb : gn (sK S (dpar S i)) j < 40 := (h7 _ (gn_mem hj)).1.l40 h
    by_cases e : gn (sK S (dpar S i)) j = i
    · rw [if_pos e, if_pos (by rw [e])]
    · rw [if_neg e, if_neg (fun z => e ((nI_eq (by omega) (by omega)).mp z)), nI_1]
  have hloop : ∃ b, itr (fX11_placeOf_B2 (nI i) m) FU (0 : Int32) = some b ∧ b = nI (plc S i) := by
    refine itr_for (X := fun j a => a = nI j) (plc S i) (fun j a hj hX => ?_) (fun a hX => ?_) (FU_lt (show plc S i < 5000 by unfold plc; omega)) rfl
    · subst hX
      exact ⟨nI (j + 1), by rw [hF j (by unfold plc at hj; omega), if_neg (gn_lt_idx hj)], rfl⟩
    · subst hX
      exact ⟨nI (plc S i), by have := hF _ hq; rw [if_pos (gn_idx h2)] at this; exact this, rfl⟩
  obtain ⟨b, g1, rfl⟩ := hloop
  unfold fX11_placeOf
  rw [g1]; rfl
theorem m_name {t : List Int32} (hM : RM S m) (hL : WL S) {i : Nat} (hi : i < 40) (h : Tx m t) (hl : t.length + 13 ≤ 100) : TP (fX11_partName (nI i)) m (pt t (sL S 6 i)) := by
  have hn := hM.name hi
  have h12 := (hL i).1
  obtain ⟨m', h1, h2, h3⟩ := m_part (f := 6) (o := 12 * i) h rfl rfl hn.2 (show _ ≤ 480 by omega) (by omega)
  refine ⟨m', ?_, h2, h3⟩
  unfold fX11_partName
  rw [mL_ok (k := 7) rfl (show i < 40 from hi), hn.1, sb, show (12 : Int32) = nI 12 from rfl, nI_mul, h1]
  rfl
theorem kw_len (x : Int32) : (kw x).length ≤ 6 := by
  unfold kw
  repeat' split
  all_goals decide
theorem m_kwd (x : Int32) : ∃ w, fX11_kindWord x = some w ∧ wdc w = kw x ∧ ((lg_cmp w 0 ≤ 0) ↔ (kw x).length = 0) := by
  unfold fX11_kindWord kw
  by_cases e0 : x = 0
  · rw [if_pos e0, if_pos e0]; exact ⟨_, rfl, by decide +kernel, by decide +kernel⟩
  rw [if_neg e0, if_neg e0]
  by_cases e2 : x = 2
  · rw [if_pos e2, if_pos e2]; exact ⟨_, rfl, by decide +kernel, by decide +kernel⟩
  rw [if_neg e2, if_neg e2]
  by_cases e3 : x = 3
  · rw [if_pos e3, if_pos e3]; exact ⟨_, rfl, by decide +kernel, by decide +kernel⟩
  rw [if_neg e3, if_neg e3]
  by_cases e4 : x = 4
  · rw [if_pos e4, if_pos e4]; exact ⟨_, rfl, by decide +kernel, by decide +kernel⟩
  rw [if_neg e4, if_neg e4]
  by_cases e5 : x = 5
  · rw [if_pos e5, if_pos e5]; exact ⟨_, rfl, by decide +kernel, by decide +kernel⟩
  rw [if_neg e5, if_neg e5]
  by_cases e6 : x = 6
  · rw [if_pos e6, if_pos e6]; exact ⟨_, rfl, by decide +kernel, by decide +kernel⟩
  rw [if_neg e6, if_neg e6]
  by_cases e7 : x = 7
  · rw [if_pos e7, if_pos e7]; exact ⟨_, rfl, by decide +kernel, by decide +kernel⟩
  rw [if_neg e7, if_neg e7]; exact ⟨_, rfl, by decide +kernel, by decide +kernel⟩
theorem m_onw {t : List Int32} (x : Int32) (h : Tx m t) (hl : t.length + 8 ≤ 100) : TP (fX11_partOn x) m (pt t (onw x)) := by
  unfold TP fX11_partOn onw
  by_cases e : x = 0
  · rw [if_pos e, if_pos e]
    obtain ⟨m', h1, h2, h3⟩ := m_word (w := 1831782) (p := [111, 102, 102]) (by decide +kernel) (by decide +kernel) h hl
    exact ⟨m', by rw [show fX11_word 0 0 0 0 111 102 102 = some 1831782 from by decide +kernel, sb, h1]; rfl, h2, h3⟩
  · rw [if_neg e, if_neg e]
    obtain ⟨m', h1, h2, h3⟩ := m_word (w := 14318) (p := [111, 110]) (by decide +kernel) (by decide +kernel) h hl
    exact ⟨m', by rw [show fX11_word 0 0 0 0 0 111 110 = some 14318 from by decide +kernel, sb, h1]; rfl, h2, h3⟩
end MW

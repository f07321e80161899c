/-! ===== the class's reader: rows of a table, commands ===== -/
section CM
variable {B : Nat} {E : Nat → Nat} {S : SS} {li : List Int32} {od : List Nat} {h h' : hp}
theorem r_inRow (x : RW B E S li od h) (hW : WT S) (hC : WC S) : fX5_isInRow (B + 79) h = some (bI (inRow S)) := by
  have hlt := hC.2.lt
  unfold fX5_isInRow inRow
  rw [x.cu, sb, x.es.up hlt, sb]
  by_cases q : cur S = 0
  · rw [if_pos q, if_pos rfl, decide_eq_false (fun z => z.1 q)]; rfl
  · obtain ⟨u1, u2⟩ := hW.up (by omega) hC.2
    rw [if_neg q, if_neg (Option.some_ne_none _), sb, x.es.up hlt, sb, if_neg q, x.es.kind u1.lt, sb]
    by_cases w : sI S 2 (dpar S (cur S)) = 6
    · rw [if_pos w, decide_eq_true ⟨q, w⟩]; rfl
    · rw [if_neg w, decide_eq_false (fun z => w z.2)]; rfl
theorem e_shChV (x : ES S E h) {i : Nat} {v : Int32} (hi : i < made S) (h10 : (sK S i).length ≤ 10) (hm : ∀ j ∈ sK S i, j < made S) {k : Nat} (hv : v = nI k) (hk31 : k < 2 ^ 31) : fX2_shownChild (E i) v h = some (if k < (sK S i).length ∧ hid S (gn (sK S i) k) = false then some (E (gn (sK S i) k)) else none) := by
  rw [hv]
  by_cases q : k < (sK S i).length
  · rw [e_shCh x hi h10 q (hm _ (gn_mem q))]
    by_cases w : hid S (gn (sK S i) k) = false
    · rw [if_pos w, if_pos ⟨q, w⟩]
    · rw [if_neg w, if_neg (fun z => w z.2)]
  · rw [e_shChN x hi (inb_ge (by omega) hk31) h10, if_neg (fun z => q z.1)]
theorem r_cells (x : RW B E S li od h) (hW : WT S) {tb p : Nat} (htb : th S tb) (hp40 : p < 40) {c1 c5 : Int32} {L : List Nat} (hL : ∀ j ∈ L, j ∈ sK S tb) (hl : L.length ≤ 9) (hy : ∀ j, j < L.length → ∃ k, k < (sK S tb).length ∧ c5 + nI (j + 1) * c1 = nI k ∧ gn (sK S tb) k = gn L j) (hn : ∀ j, L.length ≤ j → j < 9 → inb (c5 + nI (j + 1) * c1) (sK S tb).length = false) : oR (τ := (Option Nat)) (σ := Unit) (itr (fX5_cellInOtherRow_B55 c1 (some (E tb)) (nI p) c5 h) FU (1 : Int32)) (fun _ => some ((none : Option Nat))) = some (((L.find? (rwB S p)).map (fun j => kid S j p)).map E) := by
  obtain ⟨k1, k2, k3⟩ := hW.kids htb
  have key : ∃ q, itr (fX5_cellInOtherRow_B55 c1 (some (E tb)) (nI p) c5 h) FU (nI (0 + 1)) = some q ∧ q = (match L.find? (rwB S p) with
      | some j => Sum.inl (some (E (kid S j p)))
      | none => Sum.inr ()) := by
    refine itr_brk (R := fun (q : Option Nat ⊕ Unit) => q = (match L.find? (rwB S p) with
      | some j => Sum.inl (some (E (kid S j p)))
      | none => Sum.inr ())) (fun j a => a = nI (j + 1) ∧ L.find? (rwB S p) = (L.drop j).find? (rwB S p)) 9 (fun j a hj hX => ?_) (fun a hX => ?_) (FU_lt (by omega)) ⟨rfl, rfl⟩
    · obtain ⟨rfl, h2⟩ := hX
      by_cases q : j < L.length
      · obtain ⟨k, w1, w2, w3⟩ := hy j q
        have hm := (k3 _ (hL _ (gn_mem q))).1
        obtain ⟨m1, m2, m3⟩ := hW.kids hm
        have e1 : fX2_shownChild (E tb) (c5 + nI (j + 1) * c1) h = some (if hid S (gn L j) = false then some (E (gn L j)) else none) := by
          rw [w2, e_shCh x.es htb.lt k2 w1 (by rw [w3]; exact hm.lt), w3]
        have pre : fX5_cellInOtherRow_B55 c1 (some (E tb)) (nI p) c5 h (nI (j + 1)) = (if rwB S p (gn L j) = true then some (.inr (.inl (some (E (kid S (gn L j) p))))) else some (.inl (nI (j + 1) + 1))) := by
          unfold fX5_cellInOtherRow_B55 rwB
          rw [if_neg (show ¬ (10 : Int32) ≤ nI (j + 1) from nI_ge (b := 10) (by omega) (by decide)), x.es.ob htb.lt, sb, e1, sb]
          by_cases u : hid S (gn L j) = false
          · have e2 := e_shChV x.es hm.lt m2 (fun j hj => (m3 j hj).1.lt) (v := nI p) rfl (by omega)
            rw [if_pos u, if_neg (Option.some_ne_none _), x.es.ob hm.lt, sb, e2, sb, sb, u, Bool.not_false, Bool.true_and]
            by_cases t : p < (sK S (gn L j)).length ∧ hid S (gn (sK S (gn L j)) p) = false
            · rw [if_pos t, if_neg (Option.some_ne_none _), decide_eq_true t.1, Bool.true_and]
              unfold kid
              rw [t.2, Bool.not_false, if_pos rfl]
            · rw [if_neg t, if_pos rfl]
              have hb : (decide (p < (sK S (gn L j)).length) && !hid S (kid S (gn L j) p)) = false := by
                cases hc : (decide (p < (sK S (gn L j)).length) && !hid S (kid S (gn L j) p)) with
                | false => rfl
                | true =>
                  rw [Bool.and_eq_true] at hc
                  exact absurd ⟨of_decide_eq_true hc.1, by have := hc.2; unfold kid at this; simpa using this⟩ t
              rw [hb, if_neg (by decide)]
          · have u' : hid S (gn L j) = true := by
              cases hh : hid S (gn L j) with
              | true => rfl
              | false => exact absurd hh u
            rw [if_neg u, if_pos rfl, sb, if_pos rfl, u', Bool.not_true, Bool.false_and, if_neg (by decide)]
        rw [drop_gn q, List.find?_cons] at h2
        by_cases u : rwB S p (gn L j) = true
        · rw [u] at h2
          exact Or.inr ⟨_, by rw [pre, if_pos u], by rw [h2]⟩
        · have u' : rwB S p (gn L j) = false := by
            cases hh : rwB S p (gn L j) with
            | true => exact absurd hh u
            | false => rfl
          rw [u'] at h2
          exact Or.inl ⟨nI (j + 1 + 1), by rw [pre, if_neg u, nI_1], rfl, h2⟩
      · refine Or.inl ⟨nI (j + 1 + 1), ?_, rfl, ?_⟩
        · unfold fX5_cellInOtherRow_B55
          rw [if_neg (show ¬ (10 : Int32) ≤ nI (j + 1) from nI_ge (b := 10) (by omega) (by decide)), x.es.ob htb.lt, sb, e_shChN x.es htb.lt (hn j (by omega) hj) k2, sb, if_pos rfl, sb, if_pos rfl, nI_1]
        · rw [h2, List.drop_eq_nil_of_le (show L.length ≤ j by omega), List.drop_eq_nil_of_le (show L.length ≤ j + 1 by omega)]
    · obtain ⟨rfl, h2⟩ := hX
      rw [List.drop_eq_nil_of_le hl, List.find?_nil] at h2
      refine ⟨_, ?_, rfl⟩
      unfold fX5_cellInOtherRow_B55
      rw [if_pos (show (10 : Int32) ≤ nI (9 + 1) by decide), h2]
  obtain ⟨q, b1, b2⟩ := key
  rw [show (1 : Int32) = nI (0 + 1) from rfl, b1, b2]
  cases L.find? (rwB S p) with
  | none => rfl
  | some j => rfl
/-- what the rows ahead and behind give -/
theorem r_cell (x : RW B E S li od h) (hW : WT S) (hC : WC S) : fX5_cellInOtherRow (B + 79) (-1) h = some ((if inRow S = true then rwF S ((rws S).take (plc S (dpar S (cur S)))).reverse else none).map E) ∧ fX5_cellInOtherRow (B + 79) 1 h = some ((if inRow S = true then rwF S ((rws S).drop (plc S (dpar S (cur S)) + 1)) else none).map E) := by
  have hlt := hC.2.lt
  by_cases q : cur S = 0
  · have hb : inRow S = false := decide_eq_false (fun z => z.1 q)
    have hf : ∀ v, fX5_cellInOtherRow (B + 79) v h = some none := fun v => by
      unfold fX5_cellInOtherRow
      rw [x.cu, sb, x.es.up hlt, sb, if_pos q, if_pos rfl]
    rw [hf, hf, hb]
    exact ⟨rfl, rfl⟩
  obtain ⟨u1, u2⟩ := hW.up (by omega) hC.2
  by_cases w : sI S 2 (dpar S (cur S)) = 6
  case neg =>
    have hb : inRow S = false := decide_eq_false (fun z => w z.2)
    have hf : ∀ v, fX5_cellInOtherRow (B + 79) v h = some none := fun v => by
      unfold fX5_cellInOtherRow
      rw [x.cu, sb, x.es.up hlt, sb, if_neg q, if_neg (Option.some_ne_none _), x.es.kind u1.lt, sb, if_neg w]
    rw [hf, hf, hb]
    exact ⟨rfl, rfl⟩
  have hb : inRow S = true := decide_eq_true ⟨q, w⟩
  have k0 : sI S 2 0 = 0 := hW.2.2.1
  have t1 : dpar S (cur S) ≠ 0 := fun z => by rw [z, k0] at w; cases w
  obtain ⟨p3, p4⟩ := hW.up (Nat.pos_of_ne_zero t1) u1
  obtain ⟨k1, k2, k3⟩ := hW.kids p3
  have ix1 := List.idxOf_lt_length_of_mem u2
  have ix2 := List.idxOf_lt_length_of_mem p4
  have l1 := (hW.kids u1).2.1
  have e1 : fX2_placeOf (E (dpar S (cur S))) (some (E (cur S))) h = some (nI (plc S (cur S))) := e_place x.es hW u1 u2
  have e2 : fX2_placeOf (E (dpar S (dpar S (cur S)))) (some (E (dpar S (cur S)))) h = some (nI (plc S (dpar S (cur S)))) := e_place x.es hW p3 p4
  have pre : ∀ v, fX5_cellInOtherRow (B + 79) v h = oR (τ := (Option Nat)) (σ := Unit) (itr (fX5_cellInOtherRow_B55 v (some (E (dpar S (dpar S (cur S))))) (nI (plc S (cur S))) (nI (plc S (dpar S (cur S)))) h) FU (1 : Int32)) (fun _ => some ((none : Option Nat))) := fun v => by
    unfold fX5_cellInOtherRow
    rw [x.cu, sb, x.es.up hlt, sb, if_neg q, if_neg (Option.some_ne_none _), x.es.kind u1.lt, sb, if_pos w, x.es.up u1.lt, sb, if_neg t1, if_neg (Option.some_ne_none _), sb, sb, x.es.ob u1.lt, sb, e1, sb, x.es.ob p3.lt, sb, e2, sb]
  have ep : plc S (dpar S (cur S)) = (sK S (dpar S (dpar S (cur S)))).idxOf (dpar S (cur S)) := rfl
  rw [pre, pre, hb, if_pos rfl, if_pos rfl]
  unfold rwF
  generalize hrp : plc S (dpar S (cur S)) = rp at *
  have hpc : plc S (cur S) < 40 := by unfold plc; omega
  have hrl : rws S = sK S (dpar S (dpar S (cur S))) := rfl
  have hrpl : rp < (rws S).length := by rw [hrl, ep]; exact ix2
  have hr10 : (rws S).length ≤ 10 := k2
  constructor
  · refine r_cells x hW p3 hpc (L := ((rws S).take rp).reverse) (fun j hj => List.mem_of_mem_take (List.mem_reverse.mp hj)) (by rw [List.length_reverse, List.length_take]; omega) (fun j hj => ?_) (fun j hj hj9 => ?_)
    · rw [List.length_reverse, List.length_take] at hj
      have hj' : j < rp := by omega
      refine ⟨rp - (j + 1), by rw [← hrl]; omega, ?_, ?_⟩
      · rw [Int32.mul_neg, Int32.mul_one, ← Int32.sub_eq_add_neg, nI_sub (by omega)]
      · rw [← hrl, gn_of (show rp - (j + 1) < (rws S).length by omega), gn_of (show j < ((rws S).take rp).reverse.length by rw [List.length_reverse, List.length_take]; omega), List.getElem_reverse, List.getElem_take]
        congr 1
        rw [List.length_take]
        omega
    · rw [List.length_reverse, List.length_take] at hj
      have hj' : rp ≤ j := by omega
      rw [Int32.mul_neg, Int32.mul_one, ← Int32.sub_eq_add_neg]
      refine inb_neg _ ?_
      have h9 : ∀ a, a < 10 → ∀ b, b < 9 → a ≤ b → nI a - nI (b + 1) < 0 := by decide +kernel
      exact h9 rp (by omega) j hj9 hj'
  · refine r_cells x hW p3 hpc (L := (rws S).drop (rp + 1)) (fun j hj => List.mem_of_mem_drop hj) (by rw [List.length_drop]; omega) (fun j hj => ?_) (fun j hj hj9 => ?_)
    · rw [List.length_drop] at hj
      refine ⟨rp + (j + 1), by rw [← hrl]; omega, ?_, ?_⟩
      · rw [Int32.mul_one, nI_add]
      · rw [← hrl, gn_of (show rp + (j + 1) < (rws S).length by omega), gn_of (show j < ((rws S).drop (rp + 1)).length by rw [List.length_drop]; omega), List.getElem_drop]
        congr 1
        omega
    · rw [List.length_drop] at hj
      rw [Int32.mul_one, nI_add]
      exact inb_ge (by rw [← hrl]; omega) (by omega)
end CM

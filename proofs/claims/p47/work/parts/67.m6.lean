/-! ===== the reference's line: capitals, writing, the whole line, the offset ===== -/
def gro (l : List Int32) (k : Nat) : List Int32 := fw (l.drop (k - bk l k))
theorem gsg_le (l : List Int32) (k : Nat) : gsg l k ≤ 2 := by unfold gsg; split <;> (try split) <;> omega
theorem cl1_len (l : List Int32) (k : Nat) : (cl1 l k).length ≤ 3 := by
  have := gsg_le l k
  unfold cl1
  split
  · simp only [List.length_append, List.length_replicate, List.length_singleton]; omega
  · split
    · split <;> simp
    · split
      · split <;> simp
      · simp
/-- the first of a row of capitals makes three cells, and the next one then one alone -/
def xs1 (l : List Int32) (k : Nat) : Nat := if isG (ge l k) = true ∧ gsg l k = 2 then 1 else 0
theorem cl1_xs (l : List Int32) (k : Nat) : (cl1 l k).length ≤ 2 + xs1 l k := by
  have h2 := gsg_le l k
  unfold cl1 xs1
  by_cases e : isG (ge l k) = true
  · rw [if_pos e]
    simp only [List.length_append, List.length_replicate, List.length_singleton, e, true_and]
    split <;> omega
  · rw [if_neg e, if_neg (c := isG (ge l k) = true ∧ gsg l k = 2) (fun z => e z.1)]
    split
    · split <;> simp
    · split
      · split <;> simp
      · simp
theorem gsg2 {l : List Int32} {k : Nat} (h : gsg l k = 2) : bk l k = 0 ∧ (fw (l.drop k)).all isG = true ∧ 1 < (fw (l.drop k)).length := by
  unfold gsg at h
  split at h
  · rename_i hc
    split at h
    · rename_i hb
      rw [hb, Nat.sub_zero] at hc
      exact ⟨hb, hc⟩
    · omega
  · omega
theorem xs_next {l : List Int32} {k : Nat} (h : xs1 l k = 1) : k + 1 < l.length ∧ (cl1 l (k + 1)).length = 1 ∧ xs1 l (k + 1) = 0 := by
  have h1 : isG (ge l k) = true ∧ gsg l k = 2 := by
    unfold xs1 at h
    split at h
    · assumption
    · omega
  obtain ⟨hb, hall, hlen⟩ := gsg2 h1.2
  have hfl := fw_le (l.drop k)
  rw [List.length_drop] at hfl
  have hA : isA (ge l k) = true := by unfold isA; rw [h1.1, Bool.or_true]
  have hb1 : bk l (k + 1) = 1 := by unfold bk; rw [if_pos hA, hb]
  have hg : isG (ge l (k + 1)) = true := by
    have h3 := ge_mem (l := fw (l.drop k)) (k := 1) hlen
    rw [fw_ge hlen, ge_drop] at h3
    exact List.all_eq_true.mp hall _ h3
  have hgs : gsg l (k + 1) = 0 := by
    unfold gsg
    rw [hb1, Nat.add_sub_cancel, if_pos ⟨hall, hlen⟩, if_neg (by omega)]
  refine ⟨by omega, ?_, ?_⟩
  · unfold cl1
    rw [if_pos hg, hgs]; rfl
  · unfold xs1
    rw [hgs, if_neg (by simp)]
def wrtN (l : List Int32) (n : Nat) : List Int32 := (List.range n).flatMap (cl1 l)
theorem wrtN_s (l : List Int32) (n : Nat) : wrtN l (n + 1) = wrtN l n ++ cl1 l n := by
  unfold wrtN
  rw [List.range_succ, List.flatMap_append, List.flatMap_singleton]
theorem wrtN_len (l : List Int32) : ∀ n, n ≤ l.length → (wrtN l n).length ≤ 2 * n + (if 0 < n then xs1 l (n - 1) else 0)
  | 0, _ => by simp [wrtN]
  | n + 1, h => by
    have ih := wrtN_len l n (by omega)
    rw [wrtN_s, List.length_append, if_pos (by omega), Nat.add_sub_cancel]
    have h1 := cl1_xs l n
    by_cases e : 0 < n
    · rw [if_pos e] at ih
      by_cases e2 : xs1 l (n - 1) = 1
      · obtain ⟨-, g2, g3⟩ := xs_next e2
        rw [show n - 1 + 1 = n by omega] at g2 g3
        omega
      · have : xs1 l (n - 1) ≤ 1 := by unfold xs1; split <;> omega
        omega
    · have : n = 0 := by omega
      subst this
      simp at ih
      simp [ih]
      omega
theorem wrt_len (l : List Int32) : (wrt l).length ≤ 2 * l.length := by
  have h := wrtN_len l l.length (Nat.le_refl _)
  have e : wrt l = wrtN l l.length := rfl
  rw [e]
  split at h
  · by_cases e2 : xs1 l (l.length - 1) = 1
    · have := (xs_next e2).1
      omega
    · have : xs1 l (l.length - 1) ≤ 1 := by unfold xs1; split <;> omega
      omega
  · omega
theorem wrtN_le (l : List Int32) {n : Nat} (h : n ≤ l.length) : (wrtN l n).length ≤ 2 * l.length + 1 := by
  have := wrtN_len l n h
  have : (if 0 < n then xs1 l (n - 1) else 0) ≤ 1 := by
    split
    · unfold xs1; split <;> omega
    · omega
  omega
section MG
variable {S : SS} {m : mm}
end MG

/-! ===== the reference's speaking and ticks ===== -/
/-- the loops' numbers: the time and how many characters were heard, and what regions remember of the time -/
def WN (S : SS) (c : Nat) : Prop := (∃ n, n ≤ c ∧ sI S 46 0 = nI n) ∧ (∃ n, n ≤ c ∧ sI S 43 0 = nI n) ∧ ∀ i, sI S 15 i = -1 ∨ ∃ n, n ≤ c ∧ sI S 15 i = nI n
section MT
variable {S : SS} {m : mm}
theorem RM.made (hM : RM S m) (h : PW S) : m 0 0 = nI (made S) := by rw [hM.p 0 rfl]; exact h.2.2.1
end MT

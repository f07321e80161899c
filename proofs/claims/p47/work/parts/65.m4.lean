/-! ===== words of an element, what is told of one that is gone ===== -/
section MX
variable {S : SS} {m : mm}
theorem pt_dg {t : List Int32} (n : Nat) : pt t (dg n) = t ++ sep t (dg n) ++ dg n := by unfold pt; rw [List.append_assoc]
theorem dg_pos (n : Nat) : 0 < (dg n).length := by unfold dg; split <;> simp
theorem wd1_len (S : SS) (hL : WL S) (i : Nat) (t : List Int32) : (wd1 S i t).length ≤ t.length + 20 := by
  have h1 := pt_len t (sL S 6 i)
  have h2 := pt_len (pt t (sL S 6 i)) (kw (sI S 2 i))
  have h3 := kw_len (sI S 2 i)
  have h4 := (hL i).1
  unfold wd1
  split <;> omega
theorem onw_len (x : Int32) : (onw x).length ≤ 3 := by unfold onw; split <;> decide
theorem wd2_len (S : SS) (i : Nat) (t : List Int32) : (wd2 S i t).length ≤ t.length + 4 := by
  have h1 := pt_len t (onw (sI S 10 i))
  have h2 := onw_len (sI S 10 i)
  unfold wd2
  split <;> omega
theorem wd3_len (S : SS) (i : Nat) (t : List Int32) : (wd3 S i t).length ≤ t.length + 9 := by
  unfold wd3
  have c1 := pt_len t (dg (vis S ((sK S (dpar S i)).take (plc S i + 1))))
  have d1 := dg_len (vis S ((sK S (dpar S i)).take (plc S i + 1)))
  have d2 := dg_len (vis S (sK S (dpar S i)))
  have c2 := pt_len (pt t (dg (vis S ((sK S (dpar S i)).take (plc S i + 1))))) [111, 102]
  have c3 := pt_len (pt (pt t (dg (vis S ((sK S (dpar S i)).take (plc S i + 1))))) [111, 102]) (dg (vis S (sK S (dpar S i))))
  simp only [List.length_cons, List.length_nil] at c2
  omega
/-- a crude bound: enough for rows of 100 -/
theorem wd_len0 (S : SS) (hL : WL S) (i : Nat) (t : List Int32) : (wd S i t).length ≤ t.length + 46 := by
  have h1 := wd1_len S hL i t
  have h2 := wd2_len S i (wd1 S i t)
  have h3 := pt_len (wd2 S i (wd1 S i t)) (sL S 8 i)
  have h4 := (hL i).2.1
  have h5 := wd3_len S i (pt (wd2 S i (wd1 S i t)) (sL S 8 i))
  unfold wd
  split <;> omega
theorem Tx_0 (m : mm) : Tx (up2 m 29 0 0) [] := ⟨by rw [up_s]; rfl, Sl_nil⟩
end MX

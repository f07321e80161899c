/-! ===== all the reference's calls in one form ===== -/
section MFs
variable {S : SS} {m : mm} {c : Nat}
theorem t2_z {x : Int32} {a : SS → Int32} {F : SS → SS} (ha : a (z0 S) = a S) : ((if elt (z0 S) x = false then tw 1 (z0 S) else if x = 0 ∨ 20 ≤ (sQ (z0 S) 35).length then tw 2 (z0 S) else rt (a (z0 S)) (F (z0 S))).1, (if elt (z0 S) x = false then tw 1 (z0 S) else if x = 0 ∨ 20 ≤ (sQ (z0 S) 35).length then tw 2 (z0 S) else rt (a (z0 S)) (F (z0 S))).2.1) = ((if elt S x = false then tw 1 S else if x = 0 ∨ 20 ≤ (sQ S 35).length then tw 2 S else rt (a S) (F S)).1, (if elt S x = false then tw 1 S else if x = 0 ∨ 20 ≤ (sQ S 35).length then tw 2 S else rt (a S) (F S)).2.1) := by
  by_cases e : elt S x = false
  · rw [if_pos (show elt (z0 S) x = false from e), if_pos e]; rfl
  · rw [if_neg (show ¬ elt (z0 S) x = false from e), if_neg e]
    by_cases f : x = 0 ∨ 20 ≤ (sQ S 35).length
    · rw [if_pos (show x = 0 ∨ 20 ≤ (sQ (z0 S) 35).length from f), if_pos f]; rfl
    · rw [if_neg (show ¬ (x = 0 ∨ 20 ≤ (sQ (z0 S) 35).length) from f), if_neg f]
      show ((0 : Int32), a (z0 S)) = (0, a S)
      rw [ha]
theorem rmN_z (S : SS) (i : Nat) : rmN (z0 S) i = rmN S i := by
  unfold rmN
  have : (fun j => decide (sI (z0 S) 1 j ≠ 0) && wthn (z0 S) j i) = (fun j => decide (sI S 1 j ≠ 0) && wthn S j i) := funext fun j => by rw [wthn_cg ((sd_z S).i 3 rfl), (sd_z S).i 1 rfl]
  rw [this]; rfl
theorem one_z {g : SS → Int32} (hg : g (z0 S) = g S) : ((rt (g (z0 S)) (z0 S)).1, (rt (g (z0 S)) (z0 S)).2.1) = ((rt (g S) S).1, (rt (g S) S).2.1) := by
  show ((0 : Int32), g (z0 S)) = (0, g S)
  rw [hg]
theorem ask_z {x : Int32} {g : SS → Nat → Int32} (hg : ∀ i, g (z0 S) i = g S i) : ((ask (z0 S) x (g (z0 S))).1, (ask (z0 S) x (g (z0 S))).2.1) = ((ask S x (g S)).1, (ask S x (g S)).2.1) := by
  unfold ask
  by_cases e : elt S x = false
  · rw [if_pos (show elt (z0 S) x = false from e), if_pos e]; rfl
  · rw [if_neg (show ¬ elt (z0 S) x = false from e), if_neg e]
    show ((0 : Int32), g (z0 S) (nth x)) = (0, g S (nth x))
    rw [hg]
theorem ask2_z {x y : Int32} {n : SS → Nat → Nat} {g : SS → Nat → Nat → Int32} (hn : ∀ i, n (z0 S) i = n S i) (hg : ∀ i k, g (z0 S) i k = g S i k) : ((ask2 (z0 S) x y (n (z0 S)) (g (z0 S))).1, (ask2 (z0 S) x y (n (z0 S)) (g (z0 S))).2.1) = ((ask2 S x y (n S) (g S)).1, (ask2 S x y (n S) (g S)).2.1) := by
  unfold ask2
  rw [hn]
  by_cases e : elt S x = true ∧ inb y (n S (nth x)) = true
  · rw [if_pos (show elt (z0 S) x = true ∧ inb y (n S (nth x)) = true from e), if_pos e]
    show ((0 : Int32), g (z0 S) (nth x) (nth y)) = (0, g S (nth x) (nth y))
    rw [hg]
  · rw [if_neg (show ¬ (elt (z0 S) x = true ∧ inb y (n S (nth x)) = true) from e), if_neg e]; rfl
theorem pin_z (S : SS) (p : Int32) : ((cPin (z0 S) p).1, (cPin (z0 S) p).2.1) = ((cPin S p).1, (cPin S p).2.1) := by
  unfold cPin
  rw [ln_z]
  by_cases e : ¬ ((0 : Int32) ≤ p ∧ p ≤ 9)
  · rw [if_pos e, if_pos e]; rfl
  · rw [if_neg e, if_neg e]; rfl
end MFs

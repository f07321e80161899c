/-! ===== the class's voice is asked ===== -/
section VK
variable {B : Nat} {S : SS} {h : hp}
theorem v_wait (x : VS B S h) (p : Int32) : fX9_countWaiting (B + 12) p h = some (if p = 0 then nI (sQ S 30).length else if p = 1 then (if (sL S 33 0).length = 0 then 0 else 1) else nI (sQ S 35).length) := by
  have t12 := x.1.t 12 9 (by decide)
  obtain ⟨p1, b1⟩ := x.2.1.1
  obtain ⟨p2, b2⟩ := x.2.1.2.1
  have e0 : oGR 8 0 (some (B + 12)) h = some (some (B + 13)) := hgR t12 (x.1.p 12 0 13 (by decide))
  have e1 : oGR 8 1 (some (B + 12)) h = some (some (B + 27)) := hgR t12 (x.1.p 12 1 27 (by decide))
  unfold fX9_countWaiting
  by_cases q0 : p = 0
  · rw [if_pos q0, if_pos q0, e0, sb, x.1.q1.ob, sb, q_size b1 x.1.q1, sb]
  · rw [if_neg q0, if_neg q0]
    by_cases q1 : p = 1
    · rw [if_pos q1, if_pos q1, x.g 4, sb, x.flag]
      by_cases w : (sL S 33 0).length = 0
      · rw [if_pos w, if_pos rfl]
      · rw [if_neg w, if_neg (by decide)]
    · rw [if_neg q1, if_neg q1, e1, sb, x.1.q2.ob, sb, q_size b2 x.1.q2, sb]
end VK

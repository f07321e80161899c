/-! ===== the class's voice is asked ===== -/
section VK
variable {B : Nat} {S : SS} {h : hp}
theorem v_wait (x : VS B S h) (p : Int32) : fX9_countWaiting (B + 12) p h = some (if p = 0 then nI (sQ S 30).length else if p = 1 then (if (sL S 33 0).length = 0 then 0 else 1) else nI (sQ S 35).length) := by
  have t12 := x.1.t 12 9 (by decide)
  obtain ⟨p1, b1⟩ := x.2.1.1
  obtain ⟨p2, b2⟩ := x.2.1.2.1
  have e0 : oGR 8 0 (some (B + 12)) h = some (some (B + 13)) := hgR t12 (x.1.p 12 0 13 (by decide))
  have e1 : oGR 8 1 (some (B + 12)) h = some (some (B + 27)) := hgR t12 (x.1.p 12 1 27 (by decide))
  unfold fX9_countWaiting
  by_cases q0 : p = 0
  · rw [if_pos q0, if_pos q0, e0, sb, x.1.q1.ob, sb, q_size b1 x.1.q1, sb]
  · rw [if_neg q0, if_neg q0]
    by_cases q1 : p = 1
    · rw [if_pos q1, if_pos q1, x.g 4, sb, x.flag]
      by_cases w : (sL S 33 0).length = 0
      · rw [if_pos w, if_pos rfl]
      · rw [if_neg w, if_neg (by decide)]
    · rw [if_neg q1, if_neg q1, e1, sb, x.1.q2.ob, sb, q_size b2 x.1.q2, sb]
theorem v_left (x : VS B S h) (hV : WV S) : fX9_unspoken (B + 12) h = some (if sI S 38 0 = -1 then 0 else nI (sL S 39 0).length - sI S 41 0) := by
  have t12 := x.1.t 12 9 (by decide)
  have e7 : oGI 8 7 (some (B + 12)) h = some (sI S 38 0) := by rw [x.g 7, x.2.2.1]
  unfold fX9_unspoken
  rw [e7, sb]
  by_cases q : sI S 38 0 = -1
  · rw [if_pos q, if_pos q]
  · rw [if_neg q, if_neg q]
    obtain ⟨l, k, c1, c2⟩ := x.2.1.2.2.2
    obtain ⟨⟨z1, z2, -⟩, z3, -⟩ := c2 q
    obtain ⟨p, p1, p2⟩ := hV.2.2.2.2.2.2 q
    have e5 : oGR 8 5 (some (B + 12)) h = some (some (B + 73)) := hgR t12 (x.1.p 12 5 73 (by decide))
    have hl : (sL S 39 0).length = l.length - k := by rw [z2, List.length_drop]
    rw [e5, sb, c1.ob, sb, c_size c1, sb, x.g 6, sb, z3, p2, nI_add, nI_sub (by omega), nI_sub (by omega), hl, show l.length - (k + p) = l.length - k - p by omega]
end VK

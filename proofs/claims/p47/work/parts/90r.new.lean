/-! ===== new cells in a row: what constructors make ===== -/
abbrev rfx : Type := Option (Nat ⊕ Nat)
abbrev cel : Type := (Nat × Nat) × List (Nat × Int32) × List (Nat × rfx)
def lk {α : Type} : List (Nat × α) → Nat → Option α
  | [], _ => none
  | (a, v) :: r, k => if k = a then some v else lk r k
def vx (B : Nat) (x : rfx) : Option Nat := x.map (fun y => match y with
  | .inl j => B + j
  | .inr a => a)
def dc : cel := ((0, 0), [], [])
def cIv (c : cel) (k : Nat) : Int32 := (lk c.2.1 k).getD 0
def cRv (B : Nat) (c : cel) (k : Nat) : Option Nat := (lk c.2.2 k).elim none (vx B)
def bl (B : Nat) (L : List cel) (h : hp) : hp := (B + L.length, (fun a => if B ≤ a ∧ a < B + L.length then (L.getD (a - B) dc).1 else h.2.1 a), (fun a k => if B ≤ a ∧ a < B + L.length then cIv (L.getD (a - B) dc) k else h.2.2.1 a k), (fun a k => if B ≤ a ∧ a < B + L.length then cRv B (L.getD (a - B) dc) k else h.2.2.2.1 a k), (fun a k => if B ≤ a ∧ a < B + L.length then 0 else h.2.2.2.2 a k))
section BL
variable {B : Nat} {L : List cel} {h : hp}
theorem bl_N : hN (bl B L h) = B + L.length := rfl
theorem gd_l {L R : List cel} {i : Nat} (hi : i < L.length) : (L ++ R).getD i dc = L.getD i dc := by
  rw [List.getD_eq_getElem?_getD, List.getD_eq_getElem?_getD, List.getElem?_append_left hi]
theorem gd_r {L R : List cel} {i : Nat} : (L ++ R).getD (L.length + i) dc = R.getD i dc := by
  rw [List.getD_eq_getElem?_getD, List.getD_eq_getElem?_getD, List.getElem?_append_right (by omega), Nat.add_sub_cancel_left]
theorem hp_ext {h h' : hp} (n : hN h = hN h') (t : ∀ a, hT h a = hT h' a) (i : ∀ a k, hI h a k = hI h' a k) (r : ∀ a k, hR h a k = hR h' a k) (q : ∀ a k, hJ h a k = hJ h' a k) : h = h' := Prod.ext n (Prod.ext (funext t) (Prod.ext (funext fun a => funext (i a)) (Prod.ext (funext fun a => funext (r a)) (funext fun a => funext (q a)))))
theorem bh_T (a : Nat) : hT (bl B L h) a = if B ≤ a ∧ a < B + L.length then (L.getD (a - B) dc).1 else hT h a := rfl
theorem bh_I (a k : Nat) : hI (bl B L h) a k = if B ≤ a ∧ a < B + L.length then cIv (L.getD (a - B) dc) k else hI h a k := rfl
theorem bh_R (a k : Nat) : hR (bl B L h) a k = if B ≤ a ∧ a < B + L.length then cRv B (L.getD (a - B) dc) k else hR h a k := rfl
theorem bh_J (a k : Nat) : hJ (bl B L h) a k = if B ≤ a ∧ a < B + L.length then 0 else hJ h a k := rfl
theorem wn_T (t : Nat × Nat) (a : Nat) : hT (wN h t) a = if a = hN h then t else hT h a := rfl
theorem wn_I (t : Nat × Nat) (a k : Nat) : hI (wN h t) a k = if a = hN h then 0 else hI h a k := rfl
theorem wn_R (t : Nat × Nat) (a k : Nat) : hR (wN h t) a k = if a = hN h then none else hR h a k := rfl
theorem wn_J (t : Nat × Nat) (a k : Nat) : hJ (wN h t) a k = if a = hN h then 0 else hJ h a k := rfl
theorem wi_I (b j : Nat) (v : Int32) (a k : Nat) : hI (wI h b j v) a k = if a = b ∧ k = j then v else hI h a k := up2_g _ _ _ _ _ _
theorem wr_R (b j : Nat) (v : Option Nat) (a k : Nat) : hR (wR h b j v) a k = if a = b ∧ k = j then v else hR h a k := up2_g _ _ _ _ _ _
theorem bl_0 (h : hp) : bl (hN h) [] h = h :=
  hp_ext rfl (fun a => if_neg (by simp)) (fun a k => if_neg (by simp)) (fun a k => if_neg (by simp)) (fun a k => if_neg (by simp))
theorem bl_wN (t : Nat × Nat) : wN (bl B L h) t = bl B (L ++ [(t, [], [])]) h := by
  have hl : (L ++ [((t, [], []) : cel)]).length = L.length + 1 := by rw [List.length_append]; rfl
  have key : ∀ {α : Type} (f : cel → α) (x y : α) (a : Nat), f (t, [], []) = x → (if a = B + L.length then x else if B ≤ a ∧ a < B + L.length then f (L.getD (a - B) dc) else y) = (if B ≤ a ∧ a < B + (L.length + 1) then f ((L ++ [((t, [], []) : cel)]).getD (a - B) dc) else y) := fun f x y a hx => by
    by_cases q : a = B + L.length
    · rw [if_pos q, if_pos (by omega), show a - B = L.length + 0 by omega, gd_r, ← hx]; rfl
    · rw [if_neg q]
      by_cases w : B ≤ a ∧ a < B + L.length
      · rw [if_pos w, if_pos (by omega), gd_l (by omega)]
      · rw [if_neg w, if_neg (by omega)]
  refine hp_ext ?_ (fun a => ?_) (fun a k => ?_) (fun a k => ?_) (fun a k => ?_)
  · show B + L.length + 1 = B + (L ++ [((t, [], []) : cel)]).length
    rw [hl]; omega
  · rw [wn_T, bh_T, bh_T, hl, bl_N]
    exact key (fun c => c.1) t _ a rfl
  · rw [wn_I, bh_I, bh_I, hl, bl_N]
    exact key (fun c => cIv c k) 0 _ a rfl
  · rw [wn_R, bh_R, bh_R, hl, bl_N]
    exact key (fun c => cRv B c k) none _ a rfl
  · rw [wn_J, bh_J, bh_J, hl, bl_N]
    exact key (fun _ => (0 : Int64)) 0 _ a rfl
theorem bl_T {i : Nat} (hi : i < L.length) : hT (bl B L h) (B + i) = (L.getD i dc).1 := by
  show (if B ≤ B + i ∧ B + i < B + L.length then _ else _) = _
  rw [if_pos ⟨by omega, by omega⟩, Nat.add_sub_cancel_left]
theorem bl_I {i : Nat} (hi : i < L.length) (k : Nat) : hI (bl B L h) (B + i) k = cIv (L.getD i dc) k := by
  show (if B ≤ B + i ∧ B + i < B + L.length then _ else _) = _
  rw [if_pos ⟨by omega, by omega⟩, Nat.add_sub_cancel_left]
theorem bl_R {i : Nat} (hi : i < L.length) (k : Nat) : hR (bl B L h) (B + i) k = cRv B (L.getD i dc) k := by
  show (if B ≤ B + i ∧ B + i < B + L.length then _ else _) = _
  rw [if_pos ⟨by omega, by omega⟩, Nat.add_sub_cancel_left]
theorem gd_m {L r : List cel} {c c' : cel} {i : Nat} (hi : i ≠ L.length) : (L ++ c' :: r).getD i dc = (L ++ c :: r).getD i dc := by
  rcases Nat.lt_or_ge i L.length with q | q
  · rw [gd_l q, gd_l q]
  · obtain ⟨j, rfl⟩ : ∃ j, i = L.length + (j + 1) := ⟨i - L.length - 1, by omega⟩
    rw [gd_r, gd_r]; rfl
theorem gd_0 {L r : List cel} {c : cel} : (L ++ c :: r).getD L.length dc = c := by
  have := gd_r (L := L) (R := c :: r) (i := 0)
  rw [Nat.add_zero] at this
  rw [this]; rfl
theorem bl_wI {c : cel} {r : List cel} (k : Nat) (v : Int32) : wI (bl B (L ++ c :: r) h) (B + L.length) k v = bl B (L ++ (c.1, (k, v) :: c.2.1, c.2.2) :: r) h := by
  have hl : (L ++ ((c.1, (k, v) :: c.2.1, c.2.2) : cel) :: r).length = (L ++ c :: r).length := by simp
  have hin : L.length < (L ++ c :: r).length := by simp
  have key : ∀ {α : Type} (f : cel → α) (y : α) (a : Nat), f (c.1, (k, v) :: c.2.1, c.2.2) = f c → (if B ≤ a ∧ a < B + (L ++ c :: r).length then f ((L ++ c :: r).getD (a - B) dc) else y) = (if B ≤ a ∧ a < B + (L ++ c :: r).length then f ((L ++ ((c.1, (k, v) :: c.2.1, c.2.2) : cel) :: r).getD (a - B) dc) else y) := fun f y a hf => by
    by_cases w : B ≤ a ∧ a < B + (L ++ c :: r).length
    · rw [if_pos w, if_pos w]
      by_cases q : a - B = L.length
      · rw [q, gd_0, gd_0, hf]
      · rw [gd_m (c' := (c.1, (k, v) :: c.2.1, c.2.2)) q]
    · rw [if_neg w, if_neg w]
  refine hp_ext ?_ (fun a => ?_) (fun a j => ?_) (fun a j => ?_) (fun a j => ?_)
  · show B + _ = B + _
    rw [hl]
  · show hT (bl B (L ++ c :: r) h) a = _
    rw [bh_T, bh_T, hl]
    exact key (fun c => c.1) _ a rfl
  · rw [wi_I, bh_I, bh_I, hl]
    by_cases q : a = B + L.length
    · rw [if_pos (show B ≤ a ∧ a < B + (L ++ c :: r).length by omega), if_pos (show B ≤ a ∧ a < B + (L ++ c :: r).length by omega), show a - B = L.length by omega, gd_0, gd_0]
      show _ = (if j = k then some v else lk c.2.1 j).getD 0
      by_cases z : j = k
      · rw [if_pos ⟨q, z⟩, if_pos z]; rfl
      · rw [if_neg (fun u => z u.2), if_neg z]; rfl
    · rw [if_neg (fun u => q u.1)]
      by_cases w : B ≤ a ∧ a < B + (L ++ c :: r).length
      · rw [if_pos w, if_pos w, gd_m (c' := (c.1, (k, v) :: c.2.1, c.2.2)) (show a - B ≠ L.length by omega)]
      · rw [if_neg w, if_neg w]
  · show hR (bl B (L ++ c :: r) h) a j = _
    rw [bh_R, bh_R, hl]
    exact key (fun c => cRv B c j) _ a rfl
  · show hJ (bl B (L ++ c :: r) h) a j = _
    rw [bh_J, bh_J, hl]
theorem bl_wR {c : cel} {r : List cel} (k : Nat) (x : rfx) : wR (bl B (L ++ c :: r) h) (B + L.length) k (vx B x) = bl B (L ++ (c.1, c.2.1, (k, x) :: c.2.2) :: r) h := by
  have hl : (L ++ ((c.1, c.2.1, (k, x) :: c.2.2) : cel) :: r).length = (L ++ c :: r).length := by simp
  have hin : L.length < (L ++ c :: r).length := by simp
  have key : ∀ {α : Type} (f : cel → α) (y : α) (a : Nat), f (c.1, c.2.1, (k, x) :: c.2.2) = f c → (if B ≤ a ∧ a < B + (L ++ c :: r).length then f ((L ++ c :: r).getD (a - B) dc) else y) = (if B ≤ a ∧ a < B + (L ++ c :: r).length then f ((L ++ ((c.1, c.2.1, (k, x) :: c.2.2) : cel) :: r).getD (a - B) dc) else y) := fun f y a hf => by
    by_cases w : B ≤ a ∧ a < B + (L ++ c :: r).length
    · rw [if_pos w, if_pos w]
      by_cases q : a - B = L.length
      · rw [q, gd_0, gd_0, hf]
      · rw [gd_m (c' := (c.1, c.2.1, (k, x) :: c.2.2)) q]
    · rw [if_neg w, if_neg w]
  refine hp_ext ?_ (fun a => ?_) (fun a j => ?_) (fun a j => ?_) (fun a j => ?_)
  · show B + _ = B + _
    rw [hl]
  · show hT (bl B (L ++ c :: r) h) a = _
    rw [bh_T, bh_T, hl]
    exact key (fun c => c.1) _ a rfl
  · show hI (bl B (L ++ c :: r) h) a j = _
    rw [bh_I, bh_I, hl]
    exact key (fun c => cIv c j) _ a rfl
  · rw [wr_R, bh_R, bh_R, hl]
    by_cases q : a = B + L.length
    · rw [if_pos (show B ≤ a ∧ a < B + (L ++ c :: r).length by omega), if_pos (show B ≤ a ∧ a < B + (L ++ c :: r).length by omega), show a - B = L.length by omega, gd_0, gd_0]
      show _ = (if j = k then some x else lk c.2.2 j).elim none (vx B)
      by_cases z : j = k
      · rw [if_pos ⟨q, z⟩, if_pos z]; rfl
      · rw [if_neg (fun u => z u.2), if_neg z]; rfl
    · rw [if_neg (fun u => q u.1)]
      by_cases w : B ≤ a ∧ a < B + (L ++ c :: r).length
      · rw [if_pos w, if_pos w, gd_m (c' := (c.1, c.2.1, (k, x) :: c.2.2)) (show a - B ≠ L.length by omega)]
      · rw [if_neg w, if_neg w]
  · show hJ (bl B (L ++ c :: r) h) a j = _
    rw [bh_J, bh_J, hl]
/-! writing the object that stands at L.length -/
theorem bl_pI {ci k : Nat} {c : cel} {r : List cel} {v : Int32} (hc : c.1.1 = ci + 1) : oPI ci k (some (B + L.length)) v (bl B (L ++ c :: r) h) = some (bl B (L ++ (c.1, (k, v) :: c.2.1, c.2.2) :: r) h) := by
  rw [oPI_ok (by rw [bl_T (by simp), gd_0]; exact hc), bl_wI]
theorem bl_pR {ci k : Nat} {c : cel} {r : List cel} (x : rfx) (hc : c.1.1 = ci + 1) : oPR ci k (some (B + L.length)) (vx B x) (bl B (L ++ c :: r) h) = some (bl B (L ++ (c.1, c.2.1, (k, x) :: c.2.2) :: r) h) := by
  rw [oPR_ok (by rw [bl_T (by simp), gd_0]; exact hc), bl_wR]
def kC (i n : Nat) : List cel := [((1, 0), [], [(0, some (.inl (i + 1)))]), ((20, n), [], [])]
theorem b_C {n : Nat} (hn : n ≤ 100) : fX1_init (hN (bl B L h)) (nI n) (wN (bl B L h) (1, 0)) = some ((), bl B (L ++ kC L.length n) h) := by
  have e1 : oNm (nI n) = some n := by
    unfold oNm
    rw [if_pos (inb_nI (by omega) (by decide)), nI_clamp (by omega)]
  unfold fX1_init
  rw [if_pos (show (0 : Int32) ≤ nI n from nI_le (a := 0) (Nat.zero_le n) (by omega)), sb, e1, sb, bl_wN, bl_wN]
  have := bl_pR (B := B) (L := L) (h := h) (ci := 0) (k := 0) (c := ((1, 0), [], [])) (r := [((20, n), [], [])]) (some (.inl (L.length + 1))) rfl
  rw [List.append_assoc]
  have e2 : (some (hN (bl B (L ++ [((1, 0), [], [])]) h)) : Option Nat) = vx B (some (.inl (L.length + 1))) := by
    show some (B + (L ++ [(((1, 0), [], []) : cel)]).length) = some (B + (L.length + 1))
    rw [List.length_append]; rfl
  rw [e2]
  show (oPR 0 0 (some (B + L.length)) _ (bl B (L ++ ((1, 0), [], []) :: [((20, n), [], [])]) h)).bind _ = _
  rw [this, sb]; rfl
end BL

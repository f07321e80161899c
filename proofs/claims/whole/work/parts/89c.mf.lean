/-! ===== all the reference's calls in one form ===== -/
section MFs
variable {S : SS} {m : mm} {c : Nat}
theorem F_draft (hM : RM S m) (h : Inv S c) (x : Int32) : MF S m (fX11_draft x m) (fun S => cDraft S x) := (m_draftC hM h.1.1.xd x).toF (by
  show ((cDraft (z0 S) x).1, (cDraft (z0 S) x).2.1) = ((cDraft S x).1, (cDraft S x).2.1)
  unfold cDraft
  by_cases e : isC x = false
  · rw [if_pos e, if_pos e]; rfl
  · rw [if_neg e, if_neg e]
    by_cases f : (sL S 18 0).length = 12
    · rw [if_pos (show (sL (z0 S) 18 0).length = 12 from f), if_pos f]; rfl
    · rw [if_neg (show ¬ (sL (z0 S) 18 0).length = 12 from f), if_neg f]; rfl)
theorem F_add (hM : RM S m) (h : Inv S c) (x y z : Int32) : MF S m (fX11_add x y z m) (fun S => cAdd S x y z) := (m_add hM h x y z).toF (by
  show ((cAdd (z0 S) x y z).1, (cAdd (z0 S) x y z).2.1) = ((cAdd S x y z).1, (cAdd S x y z).2.1)
  unfold cAdd
  by_cases e : elt S x = false
  · rw [if_pos (show elt (z0 S) x = false from e), if_pos e]; rfl
  · rw [if_neg (show ¬ elt (z0 S) x = false from e), if_neg e]
    by_cases f : ¬ ((0 : Int32) ≤ y ∧ y ≤ nI (sK S (nth x)).length) ∨ ¬ ((0 : Int32) ≤ z ∧ z ≤ 7)
    · rw [if_pos (show ¬ ((0 : Int32) ≤ y ∧ y ≤ nI (sK (z0 S) (nth x)).length) ∨ ¬ ((0 : Int32) ≤ z ∧ z ≤ 7) from f), if_pos f]; rfl
    · rw [if_neg (show ¬ (¬ ((0 : Int32) ≤ y ∧ y ≤ nI (sK (z0 S) (nth x)).length) ∨ ¬ ((0 : Int32) ≤ z ∧ z ≤ 7)) from f), if_neg f]
      by_cases g : made S = 40 ∨ (sK S (nth x)).length = 10 ∨ cnH (sI S 2 (nth x)) z = false ∨ 20 ≤ (sQ S 35).length
      · rw [if_pos (show made (z0 S) = 40 ∨ (sK (z0 S) (nth x)).length = 10 ∨ cnH (sI (z0 S) 2 (nth x)) z = false ∨ 20 ≤ (sQ (z0 S) 35).length from g), if_pos g]; rfl
      · rw [if_neg (show ¬ (made (z0 S) = 40 ∨ (sK (z0 S) (nth x)).length = 10 ∨ cnH (sI (z0 S) 2 (nth x)) z = false ∨ 20 ≤ (sQ (z0 S) 35).length) from g), if_neg g]
        show ((0 : Int32), nI (made (z0 S))) = ((0 : Int32), nI (made S))
        rfl)
theorem t2_z {x : Int32} {a : SS → Int32} {F : SS → SS} (ha : a (z0 S) = a S) : ((if elt (z0 S) x = false then tw 1 (z0 S) else if x = 0 ∨ 20 ≤ (sQ (z0 S) 35).length then tw 2 (z0 S) else rt (a (z0 S)) (F (z0 S))).1, (if elt (z0 S) x = false then tw 1 (z0 S) else if x = 0 ∨ 20 ≤ (sQ (z0 S) 35).length then tw 2 (z0 S) else rt (a (z0 S)) (F (z0 S))).2.1) = ((if elt S x = false then tw 1 S else if x = 0 ∨ 20 ≤ (sQ S 35).length then tw 2 S else rt (a S) (F S)).1, (if elt S x = false then tw 1 S else if x = 0 ∨ 20 ≤ (sQ S 35).length then tw 2 S else rt (a S) (F S)).2.1) := by
  by_cases e : elt S x = false
  · rw [if_pos (show elt (z0 S) x = false from e), if_pos e]; rfl
  · rw [if_neg (show ¬ elt (z0 S) x = false from e), if_neg e]
    by_cases f : x = 0 ∨ 20 ≤ (sQ S 35).length
    · rw [if_pos (show x = 0 ∨ 20 ≤ (sQ (z0 S) 35).length from f), if_pos f]; rfl
    · rw [if_neg (show ¬ (x = 0 ∨ 20 ≤ (sQ (z0 S) 35).length) from f), if_neg f]
      show ((0 : Int32), a (z0 S)) = (0, a S)
      rw [ha]
theorem rmN_z (S : SS) (i : Nat) : rmN (z0 S) i = rmN S i := by
  unfold rmN
  have : (fun j => decide (sI (z0 S) 1 j ≠ 0) && wthn (z0 S) j i) = (fun j => decide (sI S 1 j ≠ 0) && wthn S j i) := funext fun j => by rw [wthn_cg ((sd_z S).i 3 rfl), (sd_z S).i 1 rfl]
  rw [this]; rfl
theorem F_remove (hM : RM S m) (h : Inv S c) (x : Int32) : MF S m (fX11_remove x m) (fun S => cRemove S x) := (m_remC hM h x).toF (t2_z (a := fun S => nI (rmN S (nth x))) (F := fun S => rm3 S (nth x)) (by simp only [rmN_z]))
theorem F_hide (hM : RM S m) (h : Inv S c) (x v : Int32) : MF S m (fX11_hide x v m) (fun S => cHide S x v) := (m_hideC hM h x v).toF (t2_z (a := fun S => sI S 12 (nth x)) (F := fun S => fit (hd3 S (nth x) v)) rfl)
theorem F_rename (hM : RM S m) (h : Inv S c) (x : Int32) : MF S m (fX11_rename x m) (fun S => cRename S x) := (m_rename hM h x).toF (t2_z (a := fun S => nI (sL S 18 0).length) (F := fun S => ren S (nth x)) rfl)
theorem F_set (hM : RM S m) (h : Inv S c) (x : Int32) {v : Int32} (hv : v = 0 ∨ v = 1) : MF S m (fX11_set x v m) (fun S => cSet S x v) := (m_setC hM h x hv).toF (by
  show ((cSet (z0 S) x v).1, (cSet (z0 S) x v).2.1) = ((cSet S x v).1, (cSet S x v).2.1)
  unfold cSet
  by_cases e : elt S x = false
  · rw [if_pos (show elt (z0 S) x = false from e), if_pos e]; rfl
  · rw [if_neg (show ¬ elt (z0 S) x = false from e), if_neg e]
    by_cases f : sI S 2 (nth x) ≠ 3 ∨ 20 ≤ (sQ S 35).length
    · rw [if_pos (show sI (z0 S) 2 (nth x) ≠ 3 ∨ 20 ≤ (sQ (z0 S) 35).length from f), if_pos f]; rfl
    · rw [if_neg (show ¬ (sI (z0 S) 2 (nth x) ≠ 3 ∨ 20 ≤ (sQ (z0 S) 35).length) from f), if_neg f]
      show ((0 : Int32), sI (z0 S) 10 (nth x)) = ((0 : Int32), sI S 10 (nth x))
      rfl)
theorem F_setRule (hM : RM S m) (h : Inv S c) (x v : Int32) : MF S m (fX11_setRule x v m) (fun S => cSetRule S x v) := (m_setRule hM h x v).toF (by
  show ((cSetRule (z0 S) x v).1, (cSetRule (z0 S) x v).2.1) = ((cSetRule S x v).1, (cSetRule S x v).2.1)
  unfold cSetRule
  by_cases e : elt S x = false
  · rw [if_pos (show elt (z0 S) x = false from e), if_pos e]; rfl
  · rw [if_neg (show ¬ elt (z0 S) x = false from e), if_neg e]
    by_cases f : ¬ ((-1 : Int32) ≤ v ∧ v ≤ 2)
    · rw [if_pos f, if_pos f]; rfl
    · rw [if_neg f, if_neg f]; rfl)
theorem F_setManner (hM : RM S m) (h : Inv S c) (x v : Int32) : MF S m (fX11_setManner x v m) (fun S => cSetManner S x v) := (m_setManner hM h x v).toF (by
  show ((cSetManner (z0 S) x v).1, (cSetManner (z0 S) x v).2.1) = ((cSetManner S x v).1, (cSetManner S x v).2.1)
  unfold cSetManner
  by_cases e : elt S x = false
  · rw [if_pos (show elt (z0 S) x = false from e), if_pos e]; rfl
  · rw [if_neg (show ¬ elt (z0 S) x = false from e), if_neg e]
    by_cases f : ¬ ((0 : Int32) ≤ v ∧ v ≤ 2)
    · rw [if_pos f, if_pos f]; rfl
    · rw [if_neg f, if_neg f]
      by_cases g : sI S 2 (nth x) ≠ 7
      · rw [if_pos (show sI (z0 S) 2 (nth x) ≠ 7 from g), if_pos g]; rfl
      · rw [if_neg (show ¬ sI (z0 S) 2 (nth x) ≠ 7 from g), if_neg g]; rfl)
theorem one_z {g : SS → Int32} (hg : g (z0 S) = g S) : ((rt (g (z0 S)) (z0 S)).1, (rt (g (z0 S)) (z0 S)).2.1) = ((rt (g S) S).1, (rt (g S) S).2.1) := by
  show ((0 : Int32), g (z0 S)) = (0, g S)
  rw [hg]
theorem ask_z {x : Int32} {g : SS → Nat → Int32} (hg : ∀ i, g (z0 S) i = g S i) : ((ask (z0 S) x (g (z0 S))).1, (ask (z0 S) x (g (z0 S))).2.1) = ((ask S x (g S)).1, (ask S x (g S)).2.1) := by
  unfold ask
  by_cases e : elt S x = false
  · rw [if_pos (show elt (z0 S) x = false from e), if_pos e]; rfl
  · rw [if_neg (show ¬ elt (z0 S) x = false from e), if_neg e]
    show ((0 : Int32), g (z0 S) (nth x)) = (0, g S (nth x))
    rw [hg]
theorem ask2_z {x y : Int32} {n : SS → Nat → Nat} {g : SS → Nat → Nat → Int32} (hn : ∀ i, n (z0 S) i = n S i) (hg : ∀ i k, g (z0 S) i k = g S i k) : ((ask2 (z0 S) x y (n (z0 S)) (g (z0 S))).1, (ask2 (z0 S) x y (n (z0 S)) (g (z0 S))).2.1) = ((ask2 S x y (n S) (g S)).1, (ask2 S x y (n S) (g S)).2.1) := by
  unfold ask2
  rw [hn]
  by_cases e : elt S x = true ∧ inb y (n S (nth x)) = true
  · rw [if_pos (show elt (z0 S) x = true ∧ inb y (n S (nth x)) = true from e), if_pos e]
    show ((0 : Int32), g (z0 S) (nth x) (nth y)) = (0, g S (nth x) (nth y))
    rw [hg]
  · rw [if_neg (show ¬ (elt (z0 S) x = true ∧ inb y (n S (nth x)) = true) from e), if_neg e]; rfl
theorem F_elements (hM : RM S m) (h : Inv S c) : MF S m (fX11_elements m) (fun S => rt (nI (nTh S)) S) := (m_elements hM h.1.1.t.pw).toF (one_z (g := fun S => nI (nTh S)) rfl)
theorem F_kind (hM : RM S m) (h : Inv S c) (x : Int32) : MF S m (fX11_kind x m) (fun S => ask S x (fun i => sI S 2 i)) := (m_kind hM h.1.1.t.pw x).toF (ask_z (g := fun S i => sI S 2 i) (fun i => rfl))
theorem F_parent (hM : RM S m) (h : Inv S c) (x : Int32) : MF S m (fX11_parent x m) (fun S => ask S x (fun i => sI S 3 i)) := (m_parent hM h.1.1.t.pw x).toF (ask_z (g := fun S i => sI S 3 i) (fun i => rfl))
theorem F_children (hM : RM S m) (h : Inv S c) (x : Int32) : MF S m (fX11_children x m) (fun S => ask S x (fun i => nI (sK S i).length)) := (m_children hM h.1.1.t.pw x).toF (ask_z (g := fun S i => nI (sK S i).length) (fun i => rfl))
theorem F_childAt (hM : RM S m) (h : Inv S c) (x y : Int32) : MF S m (fX11_childAt x y m) (fun S => ask2 S x y (fun i => (sK S i).length) (fun i k => nI (gn (sK S i) k))) := (m_childAt hM h.1.1.t x y).toF (ask2_z (n := fun S i => (sK S i).length) (g := fun S i k => nI (gn (sK S i) k)) (fun i => rfl) (fun i k => rfl))
theorem F_nameLen (hM : RM S m) (h : Inv S c) (x : Int32) : MF S m (fX11_nameLength x m) (fun S => ask S x (fun i => nI (sL S 6 i).length)) := (m_nameLen hM h.1.1.t.pw x).toF (ask_z (g := fun S i => nI (sL S 6 i).length) (fun i => rfl))
theorem F_nameAt (hM : RM S m) (h : Inv S c) (x y : Int32) : MF S m (fX11_nameAt x y m) (fun S => ask2 S x y (fun i => (sL S 6 i).length) (fun i k => ge (sL S 6 i) k)) := (m_nameAt hM h.1.1.t.pw h.1.1.l x y).toF (ask2_z (n := fun S i => (sL S 6 i).length) (g := fun S i k => ge (sL S 6 i) k) (fun i => rfl) (fun i k => rfl))
theorem F_contLen (hM : RM S m) (h : Inv S c) (x : Int32) : MF S m (fX11_contentLength x m) (fun S => ask S x (fun i => nI (sL S 8 i).length)) := (m_contLen hM h.1.1.t.pw x).toF (ask_z (g := fun S i => nI (sL S 8 i).length) (fun i => rfl))
theorem F_contAt (hM : RM S m) (h : Inv S c) (x y : Int32) : MF S m (fX11_contentAt x y m) (fun S => ask2 S x y (fun i => (sL S 8 i).length) (fun i k => ge (sL S 8 i) k)) := (m_contAt hM h.1.1.t.pw h.1.1.l x y).toF (ask2_z (n := fun S i => (sL S 8 i).length) (g := fun S i k => ge (sL S 8 i) k) (fun i => rfl) (fun i k => rfl))
theorem F_isOn (hM : RM S m) (h : Inv S c) (x : Int32) : MF S m (fX11_isOn x m) (fun S => ask S x (fun i => if sI S 10 i = 0 then 0 else 1)) := (m_isOn hM h.1.1.t.pw x).toF (ask_z (g := fun S i => if sI S 10 i = 0 then 0 else 1) (fun i => rfl))
theorem F_presses (hM : RM S m) (h : Inv S c) (x : Int32) : MF S m (fX11_presses x m) (fun S => ask S x (fun i => sI S 11 i)) := (m_presses hM h.1.1.t.pw x).toF (ask_z (g := fun S i => sI S 11 i) (fun i => rfl))
theorem F_isShown (hM : RM S m) (h : Inv S c) (x : Int32) : MF S m (fX11_isShown x m) (fun S => ask S x (fun i => bI (shn S i))) := (m_isShown hM h.1.1.t.pw x).toF (ask_z (g := fun S i => bI (shn S i)) (fun i => by simp only [shn_z]))
theorem F_level (hM : RM S m) (h : Inv S c) (x : Int32) : MF S m (fX11_level x m) (fun S => ask S x (fun i => lvl S i)) := (m_lev hM h.1.1.t.pw x).toF (ask_z (g := fun S i => lvl S i) (fun i => lvl_cg ((sd_z S).i 3 rfl) ((sd_z S).i 13 rfl) i))
theorem F_reading (hM : RM S m) (h : Inv S c) : MF S m (fX11_reading m) (fun S => rt (nI (ord S).length) S) := (m_reading hM h.1.1.t).toF (one_z (g := fun S => nI (ord S).length) (by simp only [ord_z]))
theorem F_readingAt (hM : RM S m) (h : Inv S c) (y : Int32) : MF S m (fX11_readingAt y m) (fun S => cReadingAt S y) := (m_readingAt hM h.1.1.t y).toF (by
  show ((cReadingAt (z0 S) y).1, (cReadingAt (z0 S) y).2.1) = ((cReadingAt S y).1, (cReadingAt S y).2.1)
  unfold cReadingAt
  rw [ord_z]
  split <;> rfl)
theorem F_press (hM : RM S m) (h : Inv S c) (x : Int32) : MF S m (fX11_press x m) (fun S => cPress S x) := (m_press hM h x).toF (by
  show ((cPress (z0 S) x).1, (cPress (z0 S) x).2.1) = ((cPress S x).1, (cPress S x).2.1)
  unfold cPress
  by_cases e : ¬ ((0 : Int32) ≤ x ∧ x ≤ 8)
  · rw [if_pos e, if_pos e]; rfl
  · rw [if_neg e, if_neg e]
    by_cases f : (sI S 26 0 >>> (x &&& 31)) &&& (1 : Int32) = 1
    · rw [if_pos (show (sI (z0 S) 26 0 >>> (x &&& 31)) &&& (1 : Int32) = 1 from f), if_pos f]; rfl
    · rw [if_neg (show ¬ (sI (z0 S) 26 0 >>> (x &&& 31)) &&& (1 : Int32) = 1 from f), if_neg f]; rfl)
theorem F_cursor (hM : RM S m) : MF S m (fX11_cursor m) (fun S => rt (sI S 20 0) S) := (m_cursor hM).toF rfl
theorem F_focus (hM : RM S m) : MF S m (fX11_focus m) (fun S => rt (sI S 21 0) S) := (m_focus hM).toF rfl
theorem F_isTyping (hM : RM S m) (h : Inv S c) : MF S m (fX11_isTyping m) (fun S => rt (sI S 22 0) S) := (m_isTyping hM h.1.1.b).toF rfl
theorem F_offset (hM : RM S m) : MF S m (fX11_offset m) (fun S => rt (sI S 25 0) S) := (m_offset hM).toF rfl
theorem F_lineLen (hM : RM S m) (h : Inv S c) : MF S m (fX11_lineLength m) (fun S => rt (nI (ln S).length) S) := (m_lineLen hM h.1.1.t h.1.1.l h.1.1.k h.1.1.c).toF (one_z (g := fun S => nI (ln S).length) (by simp only [ln_z]))
theorem pin_z (S : SS) (p : Int32) : ((cPin (z0 S) p).1, (cPin (z0 S) p).2.1) = ((cPin S p).1, (cPin S p).2.1) := by
  unfold cPin
  rw [ln_z]
  by_cases e : ¬ ((0 : Int32) ≤ p ∧ p ≤ 9)
  · rw [if_pos e, if_pos e]; rfl
  · rw [if_neg e, if_neg e]; rfl
theorem F_pin (hM : RM S m) (h : Inv S c) (p : Int32) : MF S m (fX11_pin p m) (fun S => cPin S p) := (m_pin hM h.1.1.t h.1.1.l h.1.1.k h.1.1.c h.1.1.xo p).toF (pin_z S p)
theorem F_pinAnew (hM : RM S m) (h : Inv S c) (p : Int32) : MF S m (fX11_pinAnew p m) (fun S => cPin S p) := (m_pinAnew hM h.1.1.t h.1.1.l h.1.1.k h.1.1.c h.1.1.xo p).toF (pin_z S p)
theorem F_wordsLen (hM : RM S m) (h : Inv S c) (x : Int32) : MF S m (fX11_wordsLength x m) (fun S => cWordsLen S x) := (m_wordsLen hM h.1.1.t h.1.1.l x).toF (by
  show ((cWordsLen (z0 S) x).1, (cWordsLen (z0 S) x).2.1) = ((cWordsLen S x).1, (cWordsLen S x).2.1)
  unfold cWordsLen
  rw [shn_z, wd_z, elt_z]
  by_cases e : elt S x = false
  · rw [if_pos e, if_pos e]; rfl
  · rw [if_neg e, if_neg e]
    split <;> rfl)
theorem F_wordsAt (hM : RM S m) (h : Inv S c) (x y : Int32) : MF S m (fX11_wordsAt x y m) (fun S => cWordsAt S x y) := (m_wordsAt hM h.1.1.t h.1.1.l x y).toF (by
  show ((cWordsAt (z0 S) x y).1, (cWordsAt (z0 S) x y).2.1) = ((cWordsAt S x y).1, (cWordsAt S x y).2.1)
  unfold cWordsAt
  rw [shn_z, wd_z, elt_z]
  by_cases e : elt S x = false
  · rw [if_pos e, if_pos e]; rfl
  · rw [if_neg e, if_neg e]
    by_cases f : shn S (nth x) = false
    · rw [if_pos f, if_pos f]; rfl
    · rw [if_neg f, if_neg f]
      split <;> rfl)
theorem F_tick (hM : RM S m) (h : Inv S c) (hc : c + 200 < 1000000) (x : Int32) : MF S m (fX11_tick x m) (fun S => cTick S x) := m_tickC hM h hc x
theorem F_release (hM : RM S m) (h : Inv S c) (x : Int32) : MF S m (fX11_release x m) (fun S => cRelease S x) := m_release hM h x
theorem F_chord (hM : RM S m) (h : Inv S c) (x : Int32) : MF S m (fX11_chord x m) (fun S => cChord S x) := m_chordC hM h x
theorem F_time (hM : RM S m) : MF S m (fX11_time m) (fun S => rt (sI S 46 0) S) := (m_time hM).toF rfl
theorem F_speaking (hM : RM S m) : MF S m (fX11_speaking m) (fun S => rt (sI S 38 0) S) := (m_speaking hM).toF rfl
theorem F_left (hM : RM S m) : MF S m (fX11_left m) (fun S => cLeft S) := (m_left hM).toF rfl
theorem F_waiting (hM : RM S m) (h : Inv S c) (p : Int32) : MF S m (fX11_waiting p m) (fun S => cWaiting S p) := (m_waiting hM h.1.2.1 p).toF (by
  show ((cWaiting (z0 S) p).1, (cWaiting (z0 S) p).2.1) = ((cWaiting S p).1, (cWaiting S p).2.1)
  unfold cWaiting
  by_cases e : ¬ ((0 : Int32) ≤ p ∧ p ≤ 2)
  · rw [if_pos e, if_pos e]; rfl
  · rw [if_neg e, if_neg e]; rfl)
theorem F_heard (hM : RM S m) : MF S m (fX11_heard m) (fun S => rt (sI S 43 0) S) := (m_heard hM).toF rfl
theorem F_heardAt (hM : RM S m) (h : Inv S c) (hc : c < 1000000) (b : Int32) : MF S m (fX11_heardAt b m) (fun S => cHeardAt S b) := (m_heardAt hM h.1.2.2.1 hc b).toF (by
  show ((cHeardAt (z0 S) b).1, (cHeardAt (z0 S) b).2.1) = ((cHeardAt S b).1, (cHeardAt S b).2.1)
  unfold cHeardAt
  by_cases e : ((0 : Int32) ≤ b ∧ b ≤ 99) ∧ b < sI S 43 0
  · rw [if_pos (show ((0 : Int32) ≤ b ∧ b ≤ 99) ∧ b < sI (z0 S) 43 0 from e), if_pos e]; rfl
  · rw [if_neg (show ¬ (((0 : Int32) ≤ b ∧ b ≤ 99) ∧ b < sI (z0 S) 43 0) from e), if_neg e]; rfl)
theorem F_dropped (hM : RM S m) : MF S m (fX11_dropped m) (fun S => rt (sI S 44 0) S) := (m_dropped hM).toF rfl
theorem F_swallowed (hM : RM S m) : MF S m (fX11_swallowed m) (fun S => rt (sI S 45 0) S) := (m_swallowed hM).toF rfl
end MFs

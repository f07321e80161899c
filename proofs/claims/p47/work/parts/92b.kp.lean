/-! ===== what each call keeps of the cells behind, of kept texts, of children ===== -/
def KP (S S' : SS) : Prop := Bg S S' ∧ WKN S' ∧ WKM S'
section KPs
variable {S S' : SS} {c : Nat}
theorem KP.rf (hn : WKN S) (hm : WKM S) : KP S S := ⟨fun _ _ => rfl, hn, hm⟩
theorem KP.sd {S1 : SS} {ki kl kq : List Nat} (x : KP S S1) (hs : Sd ki kl kq S1 S') (h1 : (ki.all (fun k => decide (k < 1000)) && (decide (0 ∉ ki) && (decide (15 ∉ ki) && decide (17 ∉ kl)))) = true) : KP S S' := by
  simp only [Bool.and_eq_true] at h1
  exact ⟨x.1.tr (hs.big h1.1), x.2.1.sd hs (by rw [h1.2.2.1, h1.2.2.2]; rfl), x.2.2.sd hs h1.2.1⟩
theorem KP.tel {S1 : SS} (x : KP S S1) (hn : sI S1 46 0 ≠ -1) (o : Option Nat) (t : List Int32) : KP S (tel S1 o t) := ⟨x.1.tr ((sd_tel S1 o t).big rfl), x.2.1.ktel hn o t, x.2.2.sd (sd_tel S1 o t) rfl⟩
theorem KP.telW {S1 : SS} (x : KP S S1) (hn : sI S1 46 0 ≠ -1) (i : Nat) : KP S (telW S1 i) := ⟨x.1.tr ((sd_telW S1 i).big rfl), x.2.1.ktelW hn i, x.2.2.sd (sd_telW S1 i) rfl⟩
theorem KP.fit {S1 : SS} (x : KP S S1) : KP S (fit S1) := x.sd (sd_fit S1) rfl
theorem KP.los {S1 : SS} (x : KP S S1) (r : Nat) : KP S (los S1 r) := x.sd (sd_los S1 r) rfl
theorem WN.n46 (h : WN S c) (hc : c < 2000000) : sI S 46 0 ≠ -1 := by
  obtain ⟨n, h1, h2⟩ := h.1
  rw [h2]
  exact nI_m1 (by omega)
theorem Inv.n46 (h : Inv S c) (hc : c < 2000000) : sI S 46 0 ≠ -1 := h.1.2.2.1.n46 hc
theorem kAsk (hn : WKN S) (hm : WKM S) (x : Int32) (a : Nat → Int32) : KP S (ask S x a).2.2 := by unfold ask; split <;> exact KP.rf hn hm
theorem kAsk2 (hn : WKN S) (hm : WKM S) (x y : Int32) (n : Nat → Nat) (a : Nat → Nat → Int32) : KP S (ask2 S x y n a).2.2 := by unfold ask2; split <;> exact KP.rf hn hm
theorem kReadingAt (hn : WKN S) (hm : WKM S) (y : Int32) : KP S (cReadingAt S y).2.2 := by unfold cReadingAt; split <;> exact KP.rf hn hm
theorem kPin (hn : WKN S) (hm : WKM S) (p : Int32) : KP S (cPin S p).2.2 := by unfold cPin; split <;> exact KP.rf hn hm
theorem kWordsLen (hn : WKN S) (hm : WKM S) (x : Int32) : KP S (cWordsLen S x).2.2 := by
  unfold cWordsLen
  split
  · exact KP.rf hn hm
  · split <;> exact KP.rf hn hm
theorem kWordsAt (hn : WKN S) (hm : WKM S) (x y : Int32) : KP S (cWordsAt S x y).2.2 := by
  unfold cWordsAt
  split
  · exact KP.rf hn hm
  · split
    · exact KP.rf hn hm
    · split <;> exact KP.rf hn hm
theorem kWaiting (hn : WKN S) (hm : WKM S) (p : Int32) : KP S (cWaiting S p).2.2 := by unfold cWaiting; split <;> exact KP.rf hn hm
theorem kHeardAt (hn : WKN S) (hm : WKM S) (b : Int32) : KP S (cHeardAt S b).2.2 := by unfold cHeardAt; split <;> exact KP.rf hn hm
theorem kDraft (hn : WKN S) (hm : WKM S) (ch : Int32) : KP S (cDraft S ch).2.2 := by
  unfold cDraft
  split
  · exact KP.rf hn hm
  · split
    · exact KP.rf hn hm
    · exact (KP.rf hn hm).sd (Sd.L (ki := []) (kl := [18]) (kq := []) (by decide)) rfl
theorem kSetRule (hn : WKN S) (hm : WKM S) (x v : Int32) : KP S (cSetRule S x v).2.2 := by
  unfold cSetRule
  split
  · exact KP.rf hn hm
  · split
    · exact KP.rf hn hm
    · exact ((KP.rf hn hm).sd (Sd.I (ki := [13]) (kl := []) (kq := []) (by decide)) rfl).fit
theorem kSetManner (hn : WKN S) (hm : WKM S) (x v : Int32) : KP S (cSetManner S x v).2.2 := by
  unfold cSetManner
  split
  · exact KP.rf hn hm
  · split
    · exact KP.rf hn hm
    · split
      · exact KP.rf hn hm
      · have k1 : KP S (wSI S 14 (nth x) v) := (KP.rf hn hm).sd (Sd.I (ki := [14]) (kl := []) (kq := []) (by decide)) rfl
        exact ⟨k1.1.tr ((sd_swl _ _).big rfl), k1.2.1.kswl _, k1.2.2.sd (sd_swl _ _) rfl⟩
theorem kPress (hn : WKN S) (hm : WKM S) (k : Int32) : KP S (cPress S k).2.2 := by
  unfold cPress
  split
  · exact KP.rf hn hm
  · split
    · exact KP.rf hn hm
    · exact (KP.rf hn hm).sd (Sd.tr (Sd.I (ki := [26, 27]) (kl := []) (kq := []) (by decide)) (Sd.I (by decide))) rfl
theorem kChord (hn : WKN S) (hm : WKM S) (p : Int32) : KP S (cChord S p).2.2 := by
  unfold cChord
  split
  · exact KP.rf hn hm
  · split
    · exact KP.rf hn hm
    · exact (KP.rf hn hm).sd (sd_chd S p) rfl
theorem kRelease (hn : WKN S) (hm : WKM S) (k : Int32) : KP S (cRelease S k).2.2 := by
  unfold cRelease
  split
  · exact KP.rf hn hm
  · split
    · exact KP.rf hn hm
    · have k1 : KP S (rls1 S k) := (KP.rf hn hm).sd (Sd.I (ki := [26]) (kl := []) (kq := []) (by decide)) rfl
      show KP S (rls S k)
      unfold rls
      split
      · exact k1.sd (sd_chd _ _) rfl
      · exact k1
theorem kTick (h : Inv S c) (hc : c < 1000000) (hn : WKN S) (hm : WKM S) (hc2 : c + 200 < 1000000) (n : Int32) : KP S (cTick S n).2.2 := by
  unfold cTick
  by_cases q : ¬ ((1 : Int32) ≤ n ∧ n ≤ 50)
  · rw [if_pos q]; exact KP.rf hn hm
  · rw [if_neg q]
    rw [Classical.not_not] at q
    obtain ⟨k, k1, rfl⟩ := nI_of2 (n := 50) (M := 50) (by decide) (not_neg (by decide) q.1) q.2
    rw [nth_nI (by omega)]
    show KP S (tckN S k)
    exact ⟨(sd_tckN S k).big rfl, hn.ktckN h k (by omega), hm.sd (sd_tckN S k) rfl⟩
theorem kT2 (h : Inv S c) (hc : c < 1000000) (hn : WKN S) (hm : WKM S) {x : Int32} {a : SS → Int32} {F : SS → SS} (hF : ∀ i, x = nI i → th S i → 0 < i → KP S (F S)) : KP S (if elt S x = false then tw 1 S else if x = 0 ∨ 20 ≤ (sQ S 35).length then tw 2 S else rt (a S) (F S)).2.2 := by
  by_cases e : elt S x = false
  · rw [if_pos e]; exact KP.rf hn hm
  · rw [if_neg e]
    rw [Bool.not_eq_false] at e
    obtain ⟨i, rfl, hi⟩ := elt_th h.1.1.t.pw e
    by_cases q : nI i = 0 ∨ 20 ≤ (sQ S 35).length
    · rw [if_pos q]; exact KP.rf hn hm
    · rw [if_neg q]
      rw [not_or] at q
      refine hF i rfl hi ?_
      rcases Nat.eq_zero_or_pos i with z | z
      · rw [z] at q; exact absurd rfl q.1
      · exact z
theorem kRename (h : Inv S c) (hc : c < 1000000) (hn : WKN S) (hm : WKM S) (x : Int32) : KP S (cRename S x).2.2 := by
  refine kT2 (a := fun S => nI (sL S 18 0).length) (F := fun S => ren S (nth x)) h hc hn hm (fun i _ _ _ => ?_)
  have hs : Sd [] [6, 18] [] S (ren1 S (nth x)) := Sd.tr (Sd.L (by decide)) (Sd.L (by decide))
  have k1 : KP S (ren1 S (nth x)) := (KP.rf hn hm).sd hs rfl
  show KP S (fit _)
  refine KP.fit ?_
  split
  · exact k1
  · exact k1.telW (by rw [hs.i 46 rfl]; exact h.n46 (by omega)) _
theorem kSet (h : Inv S c) (hc : c < 1000000) (hn : WKN S) (hm : WKM S) (x v : Int32) : KP S (cSet S x v).2.2 := by
  unfold cSet
  split
  · exact KP.rf hn hm
  · split
    · exact KP.rf hn hm
    · have hs : Sd [10] [] [] S (wSI S 10 (nth x) v) := Sd.I (by decide)
      have k1 : KP S (wSI S 10 (nth x) v) := (KP.rf hn hm).sd hs rfl
      show KP S (fit _)
      refine KP.fit ?_
      split
      · exact k1
      · exact k1.telW (by rw [hs.i 46 rfl]; exact h.n46 (by omega)) _
theorem kHide (h : Inv S c) (hc : c < 1000000) (hn : WKN S) (hm : WKM S) (x v : Int32) : KP S (cHide S x v).2.2 := by
  refine kT2 (a := fun S => sI S 12 (nth x)) (F := fun S => fit (hd3 S (nth x) v)) h hc hn hm (fun i _ _ _ => ?_)
  refine KP.fit ?_
  have hs : ∀ w, Sd [12] [] [] S (wSI S 12 (nth x) w) := fun w => Sd.I (by decide)
  have k1 : ∀ w, KP S (wSI S 12 (nth x) w) := fun w => (KP.rf hn hm).sd (hs w) rfl
  have n1 : ∀ w, sI (wSI S 12 (nth x) w) 46 0 ≠ -1 := fun w => by rw [(hs w).i 46 rfl]; exact h.n46 (by omega)
  show KP S (hd3 S (nth x) v)
  unfold hd3
  split
  · exact ((k1 1).tel (n1 1) _ _).los _
  · split
    · exact (k1 0).telW (n1 0) _
    · exact KP.rf hn hm
theorem WKN.krm1 {T : SS} (x j : Nat) (k : WKN T) : WKN (rm1 x T j) := by
  unfold rm1
  split
  · exact (k.sd (Sd.I (ki := [1]) (kl := []) (kq := []) (by decide)) rfl).kswl j
  · exact k
theorem WKN.krmF (hn : WKN S) (x : Nat) : ∀ n, WKN (rmF S x n) := by
  intro n
  unfold rmF
  induction n with
  | zero => exact hn
  | succ n ih =>
    rw [List.range_succ, List.foldl_append]
    exact WKN.krm1 x n ih
theorem kRemove (h : Inv S c) (hc : c < 1000000) (hn : WKN S) (hm : WKM S) (x : Int32) : KP S (cRemove S x).2.2 := by
  refine kT2 (a := fun S => nI (rmN S (nth x))) (F := fun S => rm3 S (nth x)) h hc hn hm (fun i _ _ _ => ?_)
  have hs := sd_rmF (S := S) (nth x) (made S)
  have k1 : KP S (rm2 S (nth x)) := by
    refine ⟨fun k hk => hs.big rfl k hk, WKN.cg (WKN.krmF hn (nth x) (made S)) rfl rfl, ?_⟩
    have hmd : made (rm2 S (nth x)) = made S := made_cg (hs.i 0 rfl)
    intro i hi j hj
    rw [hmd] at hi ⊢
    have e : sK (rm2 S (nth x)) i = if i = dpar S (nth x) then (sK S (dpar S (nth x))).eraseIdx (plc S (nth x)) else sK S i := by
      show (if i = dpar S (nth x) then _ else sK (rmF S (nth x) (made S)) i) = _
      rw [hs.2.2.2]
    rw [e] at hj
    split at hj
    · rename_i q
      rw [← q] at hj
      exact hm i hi j (List.mem_of_mem_eraseIdx hj)
    · exact hm i hi j hj
  have n1 : sI (rm2 S (nth x)) 46 0 ≠ -1 := by
    have : sI (rm2 S (nth x)) 46 = sI S 46 := hs.i 46 rfl
    rw [this]
    exact h.n46 (by omega)
  exact ((k1.tel n1 _ _).los _).fit
theorem kAdd (h : Inv S c) (hc : c < 1000000) (hn : WKN S) (hm : WKM S) (p pl k : Int32) : KP S (cAdd S p pl k).2.2 := by
  unfold cAdd
  by_cases e : elt S p = false
  · rw [if_pos e]; exact KP.rf hn hm
  · rw [if_neg e]
    rw [Bool.not_eq_false] at e
    obtain ⟨i, rfl, hi⟩ := elt_th h.1.1.t.pw e
    have i40 := hi.l40 h.1.1.t
    rw [nth_nI (by omega)]
    split
    · exact KP.rf hn hm
    · split
      · exact KP.rf hn hm
      · rename_i q
        simp only [not_or] at q
        have m40 := h.1.1.t.m40
        have m41 : made S < 40 := by have := q.1; omega
        have z := h.1.1.2.2.2.2.2.2.2.2.2.2.2.2.2
        have hk1 : WKN (add1 S i (nth pl) k) := by
          intro j hj
          have e17 : sL (add1 S i (nth pl) k) 17 = sL S 17 := rfl
          rw [e17] at hj
          have hj2 : j ≠ made S := fun w => by
            rw [w, (z (made S) (Nat.le_refl _)).2.1] at hj
            exact absurd hj (Nat.lt_irrefl _)
          have e15 : sI (add1 S i (nth pl) k) 15 j = sI S 15 j := by
            show (up2 _ 15 (made S) (-1)) 15 j = _
            rw [up2_g, if_neg (fun w => hj2 w.2)]
            rfl
          rw [e15]
          exact hn j hj
        have hmd : made (add1 S i (nth pl) k) = made S + 1 := by
          show nth (sI (add1 S i (nth pl) k) 0 0) = _
          rw [show sI (add1 S i (nth pl) k) 0 0 = nI (made S + 1) from rfl, nth_nI (by omega)]
        have hk2 : WKM (add1 S i (nth pl) k) := by
          intro a ha j hj
          rw [hmd] at ha ⊢
          have es : sK (add1 S i (nth pl) k) a = if a = i then insA (sK S i) (nth pl) (made S) else sK S a := rfl
          rw [es] at hj
          split at hj
          · rcases insA_mem.mp hj with w | w
            · omega
            · have := hm i hi.lt j w
              omega
          · rename_i w
            by_cases a2 : a < made S
            · have := hm a a2 j hj
              omega
            · rw [(z a (by omega)).2.2.2.2.2] at hj
              cases hj
        have hb : Bg S (add1 S i (nth pl) k) := fun j hj => by
          have : Sd [0, 1, 2, 3, 13, 14, 15] [6, 18] [] S (wSL (wSL (wSI (wSI (wSI (wSI (wSI (wSI (wSI S 0 0 (nI (made S + 1))) 1 (made S) 1) 2 (made S) k) 3 (made S) (nI i)) 13 (made S) (-1)) 14 (made S) 1) 15 (made S) (-1)) 6 (made S) (sL S 18 0)) 18 0 []) :=
            Sd.tr (Sd.tr (Sd.tr (Sd.tr (Sd.tr (Sd.tr (Sd.tr (Sd.tr (Sd.I (by decide)) (Sd.I (by decide))) (Sd.I (by decide))) (Sd.I (by decide))) (Sd.I (by decide))) (Sd.I (by decide))) (Sd.I (by decide))) (Sd.L (by decide))) (Sd.L (by decide))
          exact this.big rfl j hj
        have n1 : sI (add1 S i (nth pl) k) 46 0 ≠ -1 := h.n46 (by omega)
        exact (KP.telW (S := S) ⟨hb, hk1, hk2⟩ n1 _).fit
end KPs

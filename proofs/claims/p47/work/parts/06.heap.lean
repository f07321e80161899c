/-! ===== rows over the heap ===== -/
def hk_T (ci : Nat) : u_T := match ci with
  | 0 => TX1 | 1 => TX2 | 2 => TX3 | 3 => TX4 | 4 => TX5 | 5 => TX6 | 6 => TX7 | 7 => TX8 | 8 => TX9 | _ => TX10
def hk_C (ci : Nat) : String := match ci with
  | 0 => RX1 | 1 => RX2 | 2 => RX3 | 3 => RX4 | 4 => RX5 | 5 => RX6 | 6 => RX7 | 7 => RX8 | 8 => RX9 | _ => RX10
theorem cls_at : ∀ {ci : Nat}, ci < 11 → hk_cls[ci]? = some (hk_C ci, hk_T ci, hk_N ci)
  | 0, _ => rfl
  | 1, _ => rfl
  | 2, _ => rfl
  | 3, _ => rfl
  | 4, _ => rfl
  | 5, _ => rfl
  | 6, _ => rfl
  | 7, _ => rfl
  | 8, _ => rfl
  | 9, _ => rfl
  | 10, _ => rfl
  | n + 11, h => absurd h (by omega)
theorem cls_w1 : ∀ w ∈ u_ws RX1 TX1 2, w ∈ XW := by
  show ∀ w ∈ [u_lay RX1 TX1 0, u_lay RX1 TX1 1], w ∈ XW
  exact List.forall_mem_cons.mpr ⟨xw 80 (by decide +kernel) rfl, List.forall_mem_cons.mpr ⟨xw 82 (by decide +kernel) rfl, fun _ h => absurd h List.not_mem_nil⟩⟩
theorem cls_w2 : ∀ w ∈ u_ws RX2 TX2 15, w ∈ XW := by
  show ∀ w ∈ [u_lay RX2 TX2 0, u_lay RX2 TX2 1, u_lay RX2 TX2 2, u_lay RX2 TX2 3, u_lay RX2 TX2 4, u_lay RX2 TX2 5, u_lay RX2 TX2 6, u_lay RX2 TX2 7, u_lay RX2 TX2 8, u_lay RX2 TX2 9, u_lay RX2 TX2 10, u_lay RX2 TX2 11, u_lay RX2 TX2 12, u_lay RX2 TX2 13, u_lay RX2 TX2 14], w ∈ XW
  exact List.forall_mem_cons.mpr ⟨xw 127 (by decide +kernel) rfl, List.forall_mem_cons.mpr ⟨xw 129 (by decide +kernel) rfl, List.forall_mem_cons.mpr ⟨xw 131 (by decide +kernel) rfl, List.forall_mem_cons.mpr ⟨xw 133 (by decide +kernel) rfl, List.forall_mem_cons.mpr ⟨xw 135 (by decide +kernel) rfl, List.forall_mem_cons.mpr ⟨xw 137 (by decide +kernel) rfl, List.forall_mem_cons.mpr ⟨xw 139 (by decide +kernel) rfl, List.forall_mem_cons.mpr ⟨xw 141 (by decide +kernel) rfl, List.forall_mem_cons.mpr ⟨xw 143 (by decide +kernel) rfl, List.forall_mem_cons.mpr ⟨xw 145 (by decide +kernel) rfl, List.forall_mem_cons.mpr ⟨xw 147 (by decide +kernel) rfl, List.forall_mem_cons.mpr ⟨xw 149 (by decide +kernel) rfl, List.forall_mem_cons.mpr ⟨xw 151 (by decide +kernel) rfl, List.forall_mem_cons.mpr ⟨xw 153 (by decide +kernel) rfl, List.forall_mem_cons.mpr ⟨xw 155 (by decide +kernel) rfl, fun _ h => absurd h List.not_mem_nil⟩⟩⟩⟩⟩⟩⟩⟩⟩⟩⟩⟩⟩⟩⟩
theorem cls_w3 : ∀ w ∈ u_ws RX3 TX3 3, w ∈ XW := by
  show ∀ w ∈ [u_lay RX3 TX3 0, u_lay RX3 TX3 1, u_lay RX3 TX3 2], w ∈ XW
  exact List.forall_mem_cons.mpr ⟨xw 283 (by decide +kernel) rfl, List.forall_mem_cons.mpr ⟨xw 285 (by decide +kernel) rfl, List.forall_mem_cons.mpr ⟨xw 287 (by decide +kernel) rfl, fun _ h => absurd h List.not_mem_nil⟩⟩⟩
theorem cls_w4 : ∀ w ∈ u_ws RX4 TX4 2, w ∈ XW := by
  show ∀ w ∈ [u_lay RX4 TX4 0, u_lay RX4 TX4 1], w ∈ XW
  exact List.forall_mem_cons.mpr ⟨xw 197 (by decide +kernel) rfl, List.forall_mem_cons.mpr ⟨xw 199 (by decide +kernel) rfl, fun _ h => absurd h List.not_mem_nil⟩⟩
theorem cls_w5 : ∀ w ∈ u_ws RX5 TX5 7, w ∈ XW := by
  show ∀ w ∈ [u_lay RX5 TX5 0, u_lay RX5 TX5 1, u_lay RX5 TX5 2, u_lay RX5 TX5 3, u_lay RX5 TX5 4, u_lay RX5 TX5 5, u_lay RX5 TX5 6], w ∈ XW
  exact List.forall_mem_cons.mpr ⟨xw 433 (by decide +kernel) rfl, List.forall_mem_cons.mpr ⟨xw 435 (by decide +kernel) rfl, List.forall_mem_cons.mpr ⟨xw 437 (by decide +kernel) rfl, List.forall_mem_cons.mpr ⟨xw 439 (by decide +kernel) rfl, List.forall_mem_cons.mpr ⟨xw 441 (by decide +kernel) rfl, List.forall_mem_cons.mpr ⟨xw 443 (by decide +kernel) rfl, List.forall_mem_cons.mpr ⟨xw 445 (by decide +kernel) rfl, fun _ h => absurd h List.not_mem_nil⟩⟩⟩⟩⟩⟩⟩
theorem cls_w6 : ∀ w ∈ u_ws RX6 TX6 5, w ∈ XW := by
  show ∀ w ∈ [u_lay RX6 TX6 0, u_lay RX6 TX6 1, u_lay RX6 TX6 2, u_lay RX6 TX6 3, u_lay RX6 TX6 4], w ∈ XW
  exact List.forall_mem_cons.mpr ⟨xw 252 (by decide +kernel) rfl, List.forall_mem_cons.mpr ⟨xw 254 (by decide +kernel) rfl, List.forall_mem_cons.mpr ⟨xw 256 (by decide +kernel) rfl, List.forall_mem_cons.mpr ⟨xw 258 (by decide +kernel) rfl, List.forall_mem_cons.mpr ⟨xw 260 (by decide +kernel) rfl, fun _ h => absurd h List.not_mem_nil⟩⟩⟩⟩⟩
theorem cls_w7 : ∀ w ∈ u_ws RX7 TX7 6, w ∈ XW := by
  show ∀ w ∈ [u_lay RX7 TX7 0, u_lay RX7 TX7 1, u_lay RX7 TX7 2, u_lay RX7 TX7 3, u_lay RX7 TX7 4, u_lay RX7 TX7 5], w ∈ XW
  exact List.forall_mem_cons.mpr ⟨xw 167 (by decide +kernel) rfl, List.forall_mem_cons.mpr ⟨xw 169 (by decide +kernel) rfl, List.forall_mem_cons.mpr ⟨xw 171 (by decide +kernel) rfl, List.forall_mem_cons.mpr ⟨xw 173 (by decide +kernel) rfl, List.forall_mem_cons.mpr ⟨xw 175 (by decide +kernel) rfl, List.forall_mem_cons.mpr ⟨xw 177 (by decide +kernel) rfl, fun _ h => absurd h List.not_mem_nil⟩⟩⟩⟩⟩⟩
theorem cls_w8 : ∀ w ∈ u_ws RX8 TX8 3, w ∈ XW := by
  show ∀ w ∈ [u_lay RX8 TX8 0, u_lay RX8 TX8 1, u_lay RX8 TX8 2], w ∈ XW
  exact List.forall_mem_cons.mpr ⟨xw 301 (by decide +kernel) rfl, List.forall_mem_cons.mpr ⟨xw 303 (by decide +kernel) rfl, List.forall_mem_cons.mpr ⟨xw 305 (by decide +kernel) rfl, fun _ h => absurd h List.not_mem_nil⟩⟩⟩
theorem cls_w9 : ∀ w ∈ u_ws RX9 TX9 11, w ∈ XW := by
  show ∀ w ∈ [u_lay RX9 TX9 0, u_lay RX9 TX9 1, u_lay RX9 TX9 2, u_lay RX9 TX9 3, u_lay RX9 TX9 4, u_lay RX9 TX9 5, u_lay RX9 TX9 6, u_lay RX9 TX9 7, u_lay RX9 TX9 8, u_lay RX9 TX9 9, u_lay RX9 TX9 10], w ∈ XW
  exact List.forall_mem_cons.mpr ⟨xw 216 (by decide +kernel) rfl, List.forall_mem_cons.mpr ⟨xw 218 (by decide +kernel) rfl, List.forall_mem_cons.mpr ⟨xw 220 (by decide +kernel) rfl, List.forall_mem_cons.mpr ⟨xw 222 (by decide +kernel) rfl, List.forall_mem_cons.mpr ⟨xw 224 (by decide +kernel) rfl, List.forall_mem_cons.mpr ⟨xw 226 (by decide +kernel) rfl, List.forall_mem_cons.mpr ⟨xw 228 (by decide +kernel) rfl, List.forall_mem_cons.mpr ⟨xw 230 (by decide +kernel) rfl, List.forall_mem_cons.mpr ⟨xw 232 (by decide +kernel) rfl, List.forall_mem_cons.mpr ⟨xw 234 (by decide +kernel) rfl, List.forall_mem_cons.mpr ⟨xw 236 (by decide +kernel) rfl, fun _ h => absurd h List.not_mem_nil⟩⟩⟩⟩⟩⟩⟩⟩⟩⟩⟩
theorem cls_w10 : ∀ w ∈ u_ws RX10 TX10 7, w ∈ XW := by
  show ∀ w ∈ [u_lay RX10 TX10 0, u_lay RX10 TX10 1, u_lay RX10 TX10 2, u_lay RX10 TX10 3, u_lay RX10 TX10 4, u_lay RX10 TX10 5, u_lay RX10 TX10 6], w ∈ XW
  exact List.forall_mem_cons.mpr ⟨xw 457 (by decide +kernel) rfl, List.forall_mem_cons.mpr ⟨xw 459 (by decide +kernel) rfl, List.forall_mem_cons.mpr ⟨xw 461 (by decide +kernel) rfl, List.forall_mem_cons.mpr ⟨xw 463 (by decide +kernel) rfl, List.forall_mem_cons.mpr ⟨xw 465 (by decide +kernel) rfl, List.forall_mem_cons.mpr ⟨xw 467 (by decide +kernel) rfl, List.forall_mem_cons.mpr ⟨xw 469 (by decide +kernel) rfl, fun _ h => absurd h List.not_mem_nil⟩⟩⟩⟩⟩⟩⟩
theorem cls_w11 : ∀ w ∈ u_ws RX10 TX10 7, w ∈ XW := cls_w10
theorem cls_w : ∀ {ci : Nat}, ci < 11 → ∀ w ∈ u_ws (hk_C ci) (hk_T ci) (hk_N ci), w ∈ XW
  | 0, _ => cls_w1
  | 1, _ => cls_w2
  | 2, _ => cls_w3
  | 3, _ => cls_w4
  | 4, _ => cls_w5
  | 5, _ => cls_w6
  | 6, _ => cls_w7
  | 7, _ => cls_w8
  | 8, _ => cls_w9
  | 9, _ => cls_w10
  | 10, _ => cls_w11
  | n + 11, h => absurd h (by omega)
theorem cls_ty : ∀ {ci : Nat}, ci < 11 → ∀ k, k < hk_N ci → parseFieldDescriptor (hk_T ci k).2.2.1 = some (hk_ty ci k)
  | 0, _ => tyX1_ok
  | 1, _ => tyX2_ok
  | 2, _ => tyX3_ok
  | 3, _ => tyX4_ok
  | 4, _ => tyX5_ok
  | 5, _ => tyX6_ok
  | 6, _ => tyX7_ok
  | 7, _ => tyX8_ok
  | 8, _ => tyX9_ok
  | 9, _ => tyX10_ok
  | 10, _ => tyX10_ok
  | n + 11, h => absurd h (by omega)
theorem cls_nm : ∀ {ci : Nat}, ci < 11 → ∀ a, a < hk_N ci → ∀ b, b < hk_N ci → a ≠ b → (hk_T ci a).2.1 ≠ (hk_T ci b).2.1
  | 0, _ => nmX1
  | 1, _ => nmX2
  | 2, _ => nmX3
  | 3, _ => nmX4
  | 4, _ => nmX5
  | 5, _ => nmX6
  | 6, _ => nmX7
  | 7, _ => nmX8
  | 8, _ => nmX9
  | 9, _ => nmX10
  | 10, _ => nmX10
  | n + 11, h => absurd h (by omega)
/-- the field link idx of a class: the field j of the class ci -/
def fl (own : String) (idx ci j : Nat) : Prop := ci < 11 ∧ j < hk_N ci ∧ Cond.fieldLink own idx (hk_T ci j).1 (hk_T ci j).2.1 (hk_T ci j).2.2.1 ∈ XW
theorem flds_get (h : hp) (ci a : Nat) {j : Nat} (hj : j < hk_N ci) : (flds h ci a)[j]? = some (if hk_rf ci j = true then va_rf (hR h a j) else .int (hI h a j)) := by
  unfold flds
  rw [List.getElem?_map, List.getElem?_range hj]
  rfl
theorem flds_len (h : hp) (ci a : Nat) : (flds h ci a).length = hk_N ci := by simp [flds]
theorem enc_obj {cT : Nat → ClassId} {h : hp} {a ci : Nat} (ht : (hT h a).1 = ci + 1) (hci : ci < 11) : enc cT h a = .inr (ci, flds h ci a) := by
  unfold enc
  rw [ht, if_neg (by omega), if_neg (by omega), if_neg (by omega), if_neg (by omega), if_neg (by omega), Nat.add_sub_cancel]
theorem enc_20 {cT : Nat → ClassId} {h : hp} {a : Nat} (ht : (hT h a).1 = 20) : enc cT h a = .inl (cT 20, (hT h a).2, .inl (hI h a)) := by
  unfold enc; rw [if_pos ht]
theorem enc_21 {cT : Nat → ClassId} {h : hp} {a : Nat} (ht : (hT h a).1 = 21) : enc cT h a = .inl (cT 21, (hT h a).2, .inl (hI h a)) := by
  unfold enc; rw [if_neg (by omega), if_pos ht]
theorem enc_22 {cT : Nat → ClassId} {h : hp} {a : Nat} (ht : (hT h a).1 = 22) : enc cT h a = .inl (cT 22, (hT h a).2, .inr (.inr (.inr (.inr (hR h a))))) := by
  unfold enc; rw [if_neg (by omega), if_neg (by omega), if_pos ht]
theorem enc_23 {cT : Nat → ClassId} {h : hp} {a : Nat} (ht : (hT h a).1 = 23) : enc cT h a = .inl (cT 23, (hT h a).2, .inr (.inr (.inr (.inr (hR h a))))) := by
  unfold enc; rw [if_neg (by omega), if_neg (by omega), if_neg (by omega), if_pos ht]
theorem enc_24 {cT : Nat → ClassId} {h : hp} {a : Nat} (ht : (hT h a).1 = 24) : enc cT h a = .inl (cT 24, (hT h a).2, .inr (.inl (hJ h a))) := by
  unfold enc; rw [if_neg (by omega), if_neg (by omega), if_neg (by omega), if_neg (by omega), if_pos ht]
theorem enc_eq {cT : Nat → ClassId} {h h' : hp} {b : Nat} (h1 : hT h' b = hT h b) (h2 : hI h' b = hI h b) (h3 : hR h' b = hR h b) (h4 : hJ h' b = hJ h b) : enc cT h' b = enc cT h b := by
  unfold enc flds
  rw [h1, h2, h3, h4]
theorem up2_ne {α : Type} (f : Nat → Nat → α) {a b : Nat} (k : Nat) (v : α) (hb : b ≠ a) : up2 f a k v b = f b := by
  funext j; unfold up2; rw [if_neg hb]
theorem up2_at {α : Type} (f : Nat → Nat → α) (a k j : Nat) (v : α) : up2 f a k v a j = if j = k then v else f a j := by
  unfold up2; rw [if_pos rfl]
theorem wI_enc {cT : Nat → ClassId} {h : hp} {a k : Nat} {v : Int32} : ∀ b, b ≠ a → enc cT (wI h a k v) b = enc cT h b := fun b hb => enc_eq rfl (up2_ne _ _ _ hb) rfl rfl
theorem wR_enc {cT : Nat → ClassId} {h : hp} {a k : Nat} {v : Option Nat} : ∀ b, b ≠ a → enc cT (wR h a k v) b = enc cT h b := fun b hb => enc_eq rfl rfl (up2_ne _ _ _ hb) rfl
theorem wJ_enc {cT : Nat → ClassId} {h : hp} {a k : Nat} {v : Int64} : ∀ b, b ≠ a → enc cT (wJ h a k v) b = enc cT h b := fun b hb => enc_eq rfl rfl rfl (up2_ne _ _ _ hb)
theorem wI_flds {h : hp} {a ci j : Nat} {v : Int32} (hr : hk_rf ci j = false) : flds (wI h a j v) ci a = (flds h ci a).set j (.int v) := by
  apply List.ext_getElem?
  intro i
  rw [List.getElem?_set]
  by_cases hi : i < hk_N ci
  · rw [flds_get _ _ _ hi, flds_get _ _ _ hi, flds_len]
    by_cases hij : j = i
    · subst hij
      rw [if_pos rfl, if_pos hi, hr]
      simp only [Bool.false_eq_true, if_false]
      congr 2
      exact (up2_at _ _ _ _ _).trans (if_pos rfl)
    · rw [if_neg hij]
      have e1 : hI (wI h a j v) a i = hI h a i := (up2_at _ _ _ _ _).trans (if_neg (Ne.symm hij))
      have e2 : hR (wI h a j v) a i = hR h a i := rfl
      rw [e1, e2]
  · have hl : ∀ g : hp, (flds g ci a)[i]? = none := fun g => List.getElem?_eq_none (by rw [flds_len]; omega)
    rw [hl, hl, flds_len]
    by_cases hij : j = i
    · rw [if_pos hij, if_neg (by omega)]
    · rw [if_neg hij]
theorem wR_flds {h : hp} {a ci j : Nat} {v : Option Nat} (hr : hk_rf ci j = true) : flds (wR h a j v) ci a = (flds h ci a).set j (va_rf v) := by
  apply List.ext_getElem?
  intro i
  rw [List.getElem?_set]
  by_cases hi : i < hk_N ci
  · rw [flds_get _ _ _ hi, flds_get _ _ _ hi, flds_len]
    by_cases hij : j = i
    · subst hij
      rw [if_pos rfl, if_pos hi, hr]
      simp only [if_true]
      congr 2
      exact (up2_at _ _ _ _ _).trans (if_pos rfl)
    · rw [if_neg hij]
      have e1 : hR (wR h a j v) a i = hR h a i := (up2_at _ _ _ _ _).trans (if_neg (Ne.symm hij))
      have e2 : hI (wR h a j v) a i = hI h a i := rfl
      rw [e1, e2]
  · have hl : ∀ g : hp, (flds g ci a)[i]? = none := fun g => List.getElem?_eq_none (by rw [flds_len]; omega)
    rw [hl, hl, flds_len]
    by_cases hij : j = i
    · rw [if_pos hij, if_neg (by omega)]
    · rw [if_neg hij]
theorem one_P {D : va_G} {cl : List vw_C} {q : Nat × va_E} {H : Heap} (h : va_at D cl q H) : va_P D cl [q] H := fun i x hx => by
  cases i with
  | zero => cases hx; exact h
  | succ i => simp at hx
theorem rep_at {G : gG} {h h' : hp} {H H' : Heap} {a : Nat} (hr : Rep G h H) (ha : (hT h a).1 ≠ 0) (hz : H'.size = H.size) (ho : ∀ q : Nat, q ≠ a → H'[q]? = H[q]?) (h3 : hT h' = hT h) (h4 : hN h' = hN h) (h2 : ∀ b, b ≠ a → enc (gc G) h' b = enc (gc G) h b)
    (hnew : va_at (gD G) hk_cls (a, enc (gc G) h' a) H') : Rep G h' H' := by
  refine ⟨by rw [hz, h4]; exact hr.1, fun b hb => ?_⟩
  rw [h3] at hb
  refine ⟨(hr.2 b hb).1, ?_⟩
  by_cases hab : b = a
  · subst hab; exact hnew
  · rw [h2 b hab]
    exact (hr.2 b hb).2.kept (ho b hab)
section VH
variable {G : gG} {M : gM} {d : Nat} {Q : hQ} {pc : Nat} {ls : lc} {st : List sv} {k n : Nat} {h : hp}
theorem cx_w {p : Program} {R : Room} {s : State} {m : MethodId} {args : Array Value} {meth : Method} {c : Code} {mc ms : Nat} (C : cx G M d p R s m args meth c mc ms) : ∀ w ∈ XW, w.before args s = true := fun w hw => va_Nw.use (XW_ot hw).1 (C.2.2.2.2.2.2.2.2.1.1.1 w hw)
theorem cx_own {p : Program} {R : Room} {s : State} {m : MethodId} {args : Array Value} {meth : Method} {c : Code} {mc ms : Nat} (C : cx G M d p R s m args meth c mc ms) : s.vm.findClass M.1.cls = some m.cls := C.2.2.2.2.2.2.1
theorem cx_K {p : Program} {R : Room} {s : State} {m : MethodId} {args : Array Value} {meth : Method} {c : Code} {mc ms : Nat} (C : cx G M d p R s m args meth c mc ms) : va_K (gD G) hk_cls (tysG G) s := C.2.2.2.2.2.2.2.2.1.2.1
theorem v_getI {idx ci j a : Nat} (hd : decode M.2.1 pc = .ok (.getfield idx, 3)) (hf : fl M.1.cls idx ci j) (ht : (hT h a).1 = ci + 1) (hrf : hk_rf ci j = false) (kk : gV G M d Q (pc + 3) ls (si (hI h a j) :: st) k n h) : gV G M d Q pc ls (sr (some a) :: st) k n h := by
  intro p e R s m args below meth c H locs cells slots mc ms C hr hs hk hn a' hl
  obtain ⟨hci, hj, hlk⟩ := hf
  have hat := (hr.2 a (by rw [ht]; exact Nat.succ_ne_zero _)).2
  rw [enc_obj ht hci] at hat
  refine va_get C.1 C.2.1 (cx_w C) (cls_w hci) (cx_own C) (cx_K C) (one_P hat) 0 rfl (cls_at hci) j hj (cx_w C _ hlk) (fun _ z => z) (v := .int (hI h a j)) ?_ hd (kk p e R s m args below meth c H locs cells slots mc ms C hr hs hk hn a' hl)
  rw [flds_get _ _ _ hj, hrf]
  rfl
theorem v_getR {idx ci j a : Nat} (hd : decode M.2.1 pc = .ok (.getfield idx, 3)) (hf : fl M.1.cls idx ci j) (ht : (hT h a).1 = ci + 1) (hrf : hk_rf ci j = true) (kk : gV G M d Q (pc + 3) ls (sr (hR h a j) :: st) k n h) : gV G M d Q pc ls (sr (some a) :: st) k n h := by
  intro p e R s m args below meth c H locs cells slots mc ms C hr hs hk hn a' hl
  obtain ⟨hci, hj, hlk⟩ := hf
  have hat := (hr.2 a (by rw [ht]; exact Nat.succ_ne_zero _)).2
  rw [enc_obj ht hci] at hat
  refine va_get C.1 C.2.1 (cx_w C) (cls_w hci) (cx_own C) (cx_K C) (one_P hat) 0 rfl (cls_at hci) j hj (cx_w C _ hlk) (fun _ z => z) (v := va_rf (hR h a j)) ?_ hd (kk p e R s m args below meth c H locs cells slots mc ms C hr hs hk hn a' hl)
  rw [flds_get _ _ _ hj, hrf]
  rfl
theorem v_put {idx ci j a : Nat} {val : sv} {h' : hp} (hd : decode M.2.1 pc = .ok (.putfield idx, 3)) (hf : fl M.1.cls idx ci j) (ht : (hT h a).1 = ci + 1) (hfin : (hk_T ci j).2.2.2 = false ∨ ((hk_T ci j).2.2.2 = true ∧ M.1.name = "<init>" ∧ (hk_T ci j).1 = M.1.cls)) (hnar : narrow (hk_ty ci j) (tv val) = tv val) (hfit : fits (hk_ty ci j) (tv val) = true)
    (h1 : flds h' ci a = (flds h ci a).set j (tv val)) (h2 : ∀ b, b ≠ a → enc (gc G) h' b = enc (gc G) h b) (h3 : hT h' = hT h) (h4 : hN h' = hN h) (kk : gV G M d Q (pc + 3) ls st k n h') : gV G M d Q pc ls (val :: sr (some a) :: st) k n h := by
  intro p e R s m args below meth c H locs cells slots mc ms C hr hs hk hn a' hl
  obtain ⟨hci, hj, hlk⟩ := hf
  have hne : (hT h a).1 ≠ 0 := by rw [ht]; exact Nat.succ_ne_zero _
  have hat := (hr.2 a hne).2
  rw [enc_obj ht hci] at hat
  have hc := cls_at hci
  have hts := cx_w C
  have hin := cls_w hci
  have hK := cx_K C
  have hown := cx_own C
  have hap := va_apart (own := M.1.cls) hts hin (hk_ty ci) (cls_ty hci) (cls_nm hci) hK hc
  obtain ⟨r, g1, cell, q1, q2, q3, q4⟩ := hat
  have hr' : r = (hk_C ci, hk_T ci, hk_N ci) := Option.some.inj (g1.symm.trans hc)
  subst hr'
  obtain ⟨hS, hfc, kC, hkC, hkind⟩ := hK.1 ci _ hc
  obtain ⟨cf, kf, fi, f, hi, hsl⟩ := hS j hj
  have hlay := hts _ (hin _ (u_in_lay hj))
  have hst := (u_facts hfc hkC (u_lays hts hin hj) hi).1
  have fin : ∀ H' : Heap, H'[a]? = some (cell.setSlot f.slot (tv val)) → H'.size = H.size → (∀ q, q ≠ a → H'[q]? = H[q]?) → W p (gl G) e R s m args below meth c H' (locs ++ [⟨a, f.slot⟩]) cells slots (vx_MQ below (QC G Q) (XC G Q) args s mc ms (gA G)) (F0 m (pc + 3) a' (st.map tv)) := by
    intro H' e1 e2 e3
    rw [hsl] at e1
    refine kk p e R s m args below meth c H' _ cells slots mc ms C ?_ (hs.put e2 e3 (hr.2 a hne).1) hk hn a' hl
    refine rep_at hr hne e2 e3 h3 h4 h2 ?_
    rw [enc_obj (by rw [h3]; exact ht) hci, h1]
    exact ⟨_, hc, t_OB.to (V := updV (vp_V (flds h ci a)) j (tv val)) ⟨_, e1, q2, q3, t_set q4 hap hj (tv val)⟩ (fun i _ => vp_updV_set (by rw [flds_len]; exact hj) (tv val) i)⟩
  unfold u_lay at hlay
  rcases hfin with hfin | ⟨hfin, hin2, hdecl⟩
  · rw [if_neg (by rw [hfin]; decide)] at hlay
    have h6 := u_store hfc hkC hkind hlay hi (cls_ty hci j hj) hnar hfit
    exact W.putK C.1 C.2.1 (f := f) ⟨hown, hts _ hlk, ⟨_, _, _, hi⟩, hst⟩ (by rw [q2]; exact h6) q1 q3 (by rw [hsl]; exact k2_hasslot (q4 j hj)) rfl rfl hd fin
  · rw [if_pos hfin] at hlay
    have hcf : m.cls = cf := by
      obtain ⟨_, _, c', _, _, _, -, -, hf', -, -, -, hown2, -⟩ := Cond.laysFinal_spec hlay
      have e1 : c' = cf := by have := hi.symm.trans hf'; simp at this; exact this.1.symm
      rw [hdecl] at hown2
      rw [← e1]; exact Option.some.inj (hown.symm.trans hown2)
    have h6 := u_fits hfc hkC hkind (Or.inr hlay) hi (cls_ty hci j hj) hnar hfit
    exact W.putFinK C.1 C.2.1 hown (hts _ hlk) hi hst hcf (by rw [C.2.2.2.2.2.2.2.1]; exact hin2) (by rw [q2]; exact h6) q1 q3 (by rw [hsl]; exact k2_hasslot (q4 j hj)) rfl rfl hd fin
theorem v_putI {idx ci j a : Nat} {x : Int32} (hd : decode M.2.1 pc = .ok (.putfield idx, 3)) (hf : fl M.1.cls idx ci j) (ht : (hT h a).1 = ci + 1) (hfin : (hk_T ci j).2.2.2 = false ∨ ((hk_T ci j).2.2.2 = true ∧ M.1.name = "<init>" ∧ (hk_T ci j).1 = M.1.cls)) (hty : hk_ty ci j = .int)
    (kk : gV G M d Q (pc + 3) ls st k n (wI h a j x)) : gV G M d Q pc ls (si x :: sr (some a) :: st) k n h :=
  v_put hd hf ht hfin (by rw [hty]; rfl) (by rw [hty]; rfl) (wI_flds (by unfold hk_rf; rw [hty]; rfl)) wI_enc rfl rfl kk
theorem v_putZ {idx ci j a : Nat} {x : Int32} (hd : decode M.2.1 pc = .ok (.putfield idx, 3)) (hf : fl M.1.cls idx ci j) (ht : (hT h a).1 = ci + 1) (hfin : (hk_T ci j).2.2.2 = false ∨ ((hk_T ci j).2.2.2 = true ∧ M.1.name = "<init>" ∧ (hk_T ci j).1 = M.1.cls)) (hty : hk_ty ci j = .boolean) (hx : x = 0 ∨ x = 1)
    (kk : gV G M d Q (pc + 3) ls st k n (wI h a j x)) : gV G M d Q pc ls (si x :: sr (some a) :: st) k n h :=
  v_put hd hf ht hfin (by rw [hty]; rcases hx with rfl | rfl <;> rfl) (by rw [hty]; rcases hx with rfl | rfl <;> rfl) (wI_flds (by unfold hk_rf; rw [hty]; rfl)) wI_enc rfl rfl kk
theorem v_putR {idx ci j a : Nat} {r : Option Nat} (hd : decode M.2.1 pc = .ok (.putfield idx, 3)) (hf : fl M.1.cls idx ci j) (ht : (hT h a).1 = ci + 1) (hfin : (hk_T ci j).2.2.2 = false ∨ ((hk_T ci j).2.2.2 = true ∧ M.1.name = "<init>" ∧ (hk_T ci j).1 = M.1.cls)) (hty : hk_rf ci j = true)
    (kk : gV G M d Q (pc + 3) ls st k n (wR h a j r)) : gV G M d Q pc ls (sr r :: sr (some a) :: st) k n h := by
  refine v_put hd hf ht hfin ?_ ?_ (wR_flds hty) wR_enc rfl rfl kk
  · unfold hk_rf at hty
    cases hy : hk_ty ci j <;> rw [hy] at hty <;> first | (cases hty; done) | (cases r <;> rfl)
  · unfold hk_rf at hty
    cases hy : hk_ty ci j <;> rw [hy] at hty <;> first | (cases hty; done) | (cases r <;> rfl)
/-! arrays -/
theorem v_iald {a : Nat} {i : Int32} (hd : decode M.2.1 pc = .ok (.iaload, 1)) (ht : (hT h a).1 = 20) (hin : vp_in i (hT h a).2) (kk : gV G M d Q (pc + 1) ls (si (hI h a i.toNatClampNeg) :: st) k n h) : gV G M d Q pc ls (si i :: sr (some a) :: st) k n h := by
  intro p e R s m args below meth c H locs cells slots mc ms C hr hs hk hn a' hl
  have hat := (hr.2 a (by rw [ht]; decide)).2
  rw [enc_20 ht] at hat
  exact va_iald C.1 C.2.1 (cx_K C) (one_P hat) 0 0 rfl rfl hin hd (kk p e R s m args below meth c H locs cells slots mc ms C hr hs hk hn a' hl)
theorem v_aald22 {a : Nat} {i : Int32} (hd : decode M.2.1 pc = .ok (.aaload, 1)) (ht : (hT h a).1 = 22) (hin : vp_in i (hT h a).2) (kk : gV G M d Q (pc + 1) ls (sr (hR h a i.toNatClampNeg) :: st) k n h) : gV G M d Q pc ls (si i :: sr (some a) :: st) k n h := by
  intro p e R s m args below meth c H locs cells slots mc ms C hr hs hk hn a' hl
  have hat := (hr.2 a (by rw [ht]; decide)).2
  rw [enc_22 ht] at hat
  exact va_aldq C.1 C.2.1 (cx_K C) (one_P hat) 0 2 rfl rfl hin hd (kk p e R s m args below meth c H locs cells slots mc ms C hr hs hk hn a' hl)
theorem v_aald23 {a : Nat} {i : Int32} (hd : decode M.2.1 pc = .ok (.aaload, 1)) (ht : (hT h a).1 = 23) (hin : vp_in i (hT h a).2) (kk : gV G M d Q (pc + 1) ls (sr (hR h a i.toNatClampNeg) :: st) k n h) : gV G M d Q pc ls (si i :: sr (some a) :: st) k n h := by
  intro p e R s m args below meth c H locs cells slots mc ms C hr hs hk hn a' hl
  have hat := (hr.2 a (by rw [ht]; decide)).2
  rw [enc_23 ht] at hat
  exact va_aldq C.1 C.2.1 (cx_K C) (one_P hat) 0 3 rfl rfl hin hd (kk p e R s m args below meth c H locs cells slots mc ms C hr hs hk hn a' hl)
theorem v_lald {a : Nat} {i : Int32} (hd : decode M.2.1 pc = .ok (.laload, 1)) (ht : (hT h a).1 = 24) (hin : vp_in i (hT h a).2) (kk : gV G M d Q (pc + 1) ls (sl (hJ h a i.toNatClampNeg) :: st) k n h) : gV G M d Q pc ls (si i :: sr (some a) :: st) k n h := by
  intro p e R s m args below meth c H locs cells slots mc ms C hr hs hk hn a' hl
  have hat := (hr.2 a (by rw [ht]; decide)).2
  rw [enc_24 ht] at hat
  exact va_lald C.1 C.2.1 (cx_K C) (one_P hat) 0 4 rfl rfl hin hd (kk p e R s m args below meth c H locs cells slots mc ms C hr hs hk hn a' hl)
theorem v_alen {a : Nat} (hd : decode M.2.1 pc = .ok (.arraylength, 1)) (ht : (hT h a).1 = 20 ∨ (hT h a).1 = 21 ∨ (hT h a).1 = 22 ∨ (hT h a).1 = 23 ∨ (hT h a).1 = 24) (kk : gV G M d Q (pc + 1) ls (si (nI (hT h a).2) :: st) k n h) : gV G M d Q pc ls (sr (some a) :: st) k n h := by
  intro p e R s m args below meth c H locs cells slots mc ms C hr hs hk hn a' hl
  have K := kk p e R s m args below meth c H locs cells slots mc ms C hr hs hk hn a' hl
  have hat := (hr.2 a (by omega)).2
  rcases ht with ht | ht | ht | ht | ht
  · rw [enc_20 ht] at hat
    exact va_alen C.1 C.2.1 (cx_K C) (one_P hat) 0 0 rfl rfl rfl hd K
  · rw [enc_21 ht] at hat
    exact va_alen C.1 C.2.1 (cx_K C) (one_P hat) 0 1 rfl rfl rfl hd K
  · rw [enc_22 ht] at hat
    exact va_alen C.1 C.2.1 (cx_K C) (one_P hat) 0 2 rfl rfl rfl hd K
  · rw [enc_23 ht] at hat
    exact va_alen C.1 C.2.1 (cx_K C) (one_P hat) 0 3 rfl rfl rfl hd K
  · rw [enc_24 ht] at hat
    exact va_alen C.1 C.2.1 (cx_K C) (one_P hat) 0 4 rfl rfl rfl hd K
theorem v_iast {a : Nat} {i x : Int32} (hd : decode M.2.1 pc = .ok (.iastore, 1)) (ht : (hT h a).1 = 20) (hin : vp_in i (hT h a).2) (kk : gV G M d Q (pc + 1) ls st k n (wI h a i.toNatClampNeg x)) : gV G M d Q pc ls (si x :: si i :: sr (some a) :: st) k n h := by
  intro p e R s m args below meth c H locs cells slots mc ms C hr hs hk hn a' hl
  have hne : (hT h a).1 ≠ 0 := by rw [ht]; decide
  have hat := (hr.2 a hne).2
  rw [enc_20 ht] at hat
  refine W.iast C.1 C.2.1 hat (((cx_K C).2 0 _ rfl).1 (hT h a).2 (fun j => .int (hI h a j))) (fun q => by cases q) (by show ¬ (i < 0 ∨ (arrV _ _ _).slots.size ≤ _); rw [arrV_size]; exact hin) rfl rfl hd fun H1 e1 z oq => ?_
  refine kk p e R s m args below meth c H1 _ cells slots mc ms C ?_ (hs.put z oq (hr.2 a hne).1) hk hn a' hl
  refine rep_at hr hne z oq rfl rfl wI_enc ?_
  rw [enc_20 (show (hT (wI h a i.toNatClampNeg x) a).1 = 20 from ht)]
  show H1[a]? = some (vp_cell _ _)
  rw [e1, vp_cell_i, vp_cell_i, arrV_store]
  congr 2
  funext q
  show updV _ _ _ q = .int (up2 _ a _ x a q)
  rw [up2_at]
  by_cases hq : q = i.toNatClampNeg
  · subst hq; simp [updV]
  · simp [updV, hq]; rfl
theorem v_last {a : Nat} {i : Int32} {x : Int64} (hd : decode M.2.1 pc = .ok (.lastore, 1)) (ht : (hT h a).1 = 24) (hin : vp_in i (hT h a).2) (kk : gV G M d Q (pc + 1) ls st k n (wJ h a i.toNatClampNeg x)) : gV G M d Q pc ls (sl x :: si i :: sr (some a) :: st) k n h := by
  intro p e R s m args below meth c H locs cells slots mc ms C hr hs hk hn a' hl
  have hne : (hT h a).1 ≠ 0 := by rw [ht]; decide
  have hat := (hr.2 a hne).2
  rw [enc_24 ht] at hat
  refine W.last C.1 C.2.1 hat (((cx_K C).2 4 _ rfl).1 (hT h a).2 (fun j => .long (hJ h a j))) (fun q => by cases q) (by show ¬ (i < 0 ∨ (arrV _ _ _).slots.size ≤ _); rw [arrV_size]; exact hin) rfl rfl hd fun H1 e1 z oq => ?_
  refine kk p e R s m args below meth c H1 _ cells slots mc ms C ?_ (hs.put z oq (hr.2 a hne).1) hk hn a' hl
  refine rep_at hr hne z oq rfl rfl wJ_enc ?_
  rw [enc_24 (show (hT (wJ h a i.toNatClampNeg x) a).1 = 24 from ht)]
  show H1[a]? = some (vp_cell _ _)
  rw [e1, vp_cell_l, vp_cell_l, arrV_store]
  congr 2
  funext q
  show updV _ _ _ q = .long (up2 _ a _ x a q)
  rw [up2_at]
  by_cases hq : q = i.toNatClampNeg
  · subst hq; simp [updV]
  · simp [updV, hq]; rfl
/-- a store into an array of references: the kind kd (22, 23) of the class ci (1, 0) at the place t of the types -/
theorem v_aast0 {a ci kd t : Nat} {i : Int32} {r : Option Nat} (hd : decode M.2.1 pc = .ok (.aastore, 1)) (ht : (hT h a).1 = kd) (hk0 : kd = 22 ∨ kd = 23) (hci : ci < 11) (hty : (tysG G)[t]? = some (gc G kd, .object (hk_C ci))) (hin : vp_in i (hT h a).2) (hr' : ∀ v, r = some v → (hT h v).1 = ci + 1)
    (kk : gV G M d Q (pc + 1) ls st k n (wR h a i.toNatClampNeg r)) : gV G M d Q pc ls (sr r :: si i :: sr (some a) :: st) k n h := by
  intro p e R s m args below meth c H locs cells slots mc ms C hr hs hk hn a' hl
  have hne : (hT h a).1 ≠ 0 := by rw [ht]; omega
  have hat := (hr.2 a hne).2
  have he : ∀ g : hp, (hT g a).1 = kd → enc (gc G) g a = .inl (gc G kd, (hT g a).2, .inr (.inr (.inr (.inr (hR g a))))) := by
    intro g hg
    rcases hk0 with rfl | rfl
    · exact enc_22 hg
    · exact enc_23 hg
  rw [he h ht] at hat
  have h0 : ¬ i < 0 := fun q => hin (Or.inl q)
  have hlt : i.toNatClampNeg < (hT h a).2 := Nat.not_le.mp fun q => hin (Or.inr q)
  have hcls := ((cx_K C).1 ci _ (cls_at hci)).2
  have fin : ∀ H1 : Heap, H1[a]? = some ((vp_cell (gc G kd) ((hT h a).2, .inr (.inr (.inr (.inr (hR h a)))))).setSlot i.toNatClampNeg (va_rf r)) → H1.size = H.size → (∀ q, q ≠ a → H1[q]? = H[q]?) → W p (gl G) e R s m args below meth c H1 (locs ++ [⟨a, i.toNatClampNeg⟩]) cells slots (vx_MQ below (QC G Q) (XC G Q) args s mc ms (gA G)) (F0 m (pc + 1) a' (st.map tv)) := by
    intro H1 e1 z oq
    refine kk p e R s m args below meth c H1 _ cells slots mc ms C ?_ (hs.put z oq (hr.2 a hne).1) hk hn a' hl
    refine rep_at hr hne z oq rfl rfl wR_enc ?_
    rw [he (wR h a i.toNatClampNeg r) ht]
    show H1[a]? = some (vp_cell _ _)
    rw [e1, vp_cell_q, vp_cell_q, arrV_store]
    congr 2
    funext q
    show updV _ _ _ q = va_rf (up2 _ a _ r a q)
    rw [up2_at]
    by_cases hq : q = i.toNatClampNeg
    · subst hq; simp [updV]
    · simp [updV, hq]; rfl
  cases r with
  | none => exact va_WaastN (C := hk_C ci) C.1 C.2.1 hat (((cx_K C).2 t _ hty).1 (hT h a).2 (fun j => va_rf (hR h a j))) (fun h => by cases h) (by show ¬ (i < 0 ∨ (arrV _ _ _).slots.size ≤ _); rw [arrV_size]; exact hin) rfl rfl hd fin
  | some v =>
    have hv := hr' v rfl
    have hatv := (hr.2 v (by rw [hv]; exact Nat.succ_ne_zero _)).2
    rw [enc_obj hv hci] at hatv
    obtain ⟨r9, hr9, cellV, g1, g2, g3, -⟩ := hatv
    obtain ⟨kA, comp, k1, k2, k3, -⟩ := ((cx_K C).2 t _ hty).2
    have hcomp : comp = (gD G).1 ci := Option.some.inj (k3.symm.trans hcls.1)
    subst hcomp
    obtain ⟨kC, hkC, -⟩ := hcls.2
    exact W.aast C.1 C.2.1 hat (fun q h => by cases h) (fun h => by cases h) k1 k2 rfl hkC ⟨h0, by show _ < (arrV _ _ _).slots.size; rw [arrV_size]; exact hlt⟩ g1 (fun q h => by rw [g3] at h; cases h) (by rw [g2]; exact hkC) (by rw [g2]; exact va_assign hcls) rfl rfl hd fin
theorem v_aast22 {a : Nat} {i : Int32} {r : Option Nat} (hd : decode M.2.1 pc = .ok (.aastore, 1)) (ht : (hT h a).1 = 22) (hin : vp_in i (hT h a).2) (hr' : ∀ v, r = some v → (hT h v).1 = 2) (kk : gV G M d Q (pc + 1) ls st k n (wR h a i.toNatClampNeg r)) : gV G M d Q pc ls (sr r :: si i :: sr (some a) :: st) k n h :=
  v_aast0 (ci := 1) (kd := 22) (t := 2) hd ht (Or.inl rfl) (by decide) rfl hin hr' kk
theorem v_aast23 {a : Nat} {i : Int32} {r : Option Nat} (hd : decode M.2.1 pc = .ok (.aastore, 1)) (ht : (hT h a).1 = 23) (hin : vp_in i (hT h a).2) (hr' : ∀ v, r = some v → (hT h v).1 = 1) (kk : gV G M d Q (pc + 1) ls st k n (wR h a i.toNatClampNeg r)) : gV G M d Q pc ls (sr r :: si i :: sr (some a) :: st) k n h :=
  v_aast0 (ci := 0) (kd := 23) (t := 3) hd ht (Or.inr rfl) (by decide) rfl hin hr' kk
end VH

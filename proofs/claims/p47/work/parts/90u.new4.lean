/-! ===== the class anew ===== -/
section BD
variable {B : Nat} {L : List cel} {h : hp}
theorem o2_o2 {ρ ρ' β : Type} (o : Option (ρ × hp)) (f : ρ → hp → Option (ρ' × hp)) (g : ρ' → hp → Option β) : o2 (o2 o f) g = o2 o (fun x h => o2 (f x h) g) := by
  cases o with
  | none => rfl
  | some a => rfl
theorem kE_len (i n k : Nat) (u : rfx) : (kE i n k u).length = 8 := rfl
theorem kT_len (i : Nat) : (kT i).length = 11 := rfl
theorem kV_len (i : Nat) : (kV i).length = 64 := by
  unfold kV
  rw [List.length_cons, List.length_append, List.length_append, List.length_append, List.length_append, kQ_len, kQ_len, kC_len, kC_len]; rfl
theorem kG_len (i : Nat) (u w : rfx) : (kG i u w).length = 3 := rfl
theorem kRd_len (i : Nat) (u w s : rfx) : (kRd i u w s).length = 9 := rfl
def kD (i : Nat) : List cel := ((10, 0), [], [(2, some (.inl (i + 76))), (1, some (.inl (i + 12))), (0, some (.inl (i + 1)))]) :: (kT (i + 1) ++ kV (i + 12) ++ kG (i + 76) (some (.inl (i + 1))) (some (.inl (i + 12))) ++ kRd (i + 79) (some (.inl (i + 1))) (some (.inl (i + 12))) (some (.inl (i + 2))))
theorem kD_len (i : Nat) : (kD i).length = 88 := by
  unfold kD
  rw [List.length_cons, List.length_append, List.length_append, List.length_append, kT_len, kV_len, kG_len, kRd_len]
theorem b_D1 : fX10_init (B + L.length) (bl B (L ++ ((10, 0), [], []) :: []) h) = o2 (fX3_keep (B + (L.length + 80)) (some (B + (L.length + 2))) (0 : Int32) (bl B (L ++ kD L.length) h)) fun _ h15 => (oPR 9 3 (some (B + L.length)) (some (B + (L.length + 79))) h15).bind fun h16 => o2 (fX1_init (hN h16) (12 : Int32) (wN h16 (1, 0))) fun _ h18 => (oPR 9 4 (some (B + L.length)) (some (hN h16)) h18).bind fun h19 => some (((), h19)) := by
  unfold fX10_init
  rw [bl_Tr, o2s, bl_ptr rfl, sb, bl_V, o2s, bl_ptr rfl, sb, bl_gRw (x := some (.inl (L.length + 1))) rfl rfl, sb, bl_gRw (x := some (.inl (L.length + 12))) rfl rfl, sb, bl_G, o2s, bl_ptr rfl, sb, bl_gRw (x := some (.inl (L.length + 1))) rfl rfl, sb, bl_gRw (x := some (.inl (L.length + 12))) rfl rfl, sb]
  simp only [List.nil_append, List.length_append, kT_len, kV_len, kG_len, List.length_nil, Nat.zero_add, Nat.reduceAdd]
  have hR := b_Rd (B := B) (h := h) (L := L ++ ((10, 0), [], [(2, some (.inl (L.length + 76))), (1, some (.inl (L.length + 12))), (0, some (.inl (L.length + 1)))]) :: (kT (L.length + 1) ++ kV (L.length + 12) ++ kG (L.length + 76) (some (.inl (L.length + 1))) (some (.inl (L.length + 12))))) (L.length + 1) (some (.inl (L.length + 12))) (some (.inl (L.length + 2))) (by rw [len_c, List.length_append, List.length_append, kT_len, kV_len, kG_len]; omega) (by rw [gd_r]; rfl) (by rw [gd_r]; rfl)
  rw [app_c, len_c, List.length_append, List.length_append, kT_len, kV_len, kG_len] at hR
  rw [hR, o2_o2]
  simp only [bl_N, List.length_cons, List.length_append, kT_len, kV_len, kG_len, Nat.reduceAdd]
  rfl
end BD

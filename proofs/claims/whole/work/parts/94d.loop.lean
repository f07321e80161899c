/-! ===== the law's loop ===== -/
theorem dL_law_0 : decode cL_law 0 = .ok (.new 8, 3) := by decide +kernel
theorem dL_law_3 : decode cL_law 3 = .ok (.dup, 1) := by decide +kernel
theorem dL_law_4 : decode cL_law 4 = .ok (.invokespecial 113, 3) := by decide +kernel
theorem dL_law_7 : decode cL_law 7 = .ok (.astore_n 1, 1) := by decide +kernel
theorem dL_law_8 : decode cL_law 8 = .ok (.new 114, 3) := by decide +kernel
theorem dL_law_11 : decode cL_law 11 = .ok (.dup, 1) := by decide +kernel
theorem dL_law_12 : decode cL_law 12 = .ok (.invokespecial 116, 3) := by decide +kernel
theorem dL_law_15 : decode cL_law 15 = .ok (.astore_n 2, 1) := by decide +kernel
theorem dL_law_16 : decode cL_law 16 = .ok (.iconst 1, 1) := by decide +kernel
theorem dL_law_17 : decode cL_law 17 = .ok (.newarray .long, 2) := by decide +kernel
theorem dL_law_19 : decode cL_law 19 = .ok (.astore_n 3, 1) := by decide +kernel
theorem dL_law_20 : decode cL_law 20 = .ok (.iconst 0, 1) := by decide +kernel
theorem dL_law_21 : decode cL_law 21 = .ok (.istore 4, 2) := by decide +kernel
theorem dL_law_23 : decode cL_law 23 = .ok (.iload 4, 2) := by decide +kernel
theorem dL_law_25 : decode cL_law 25 = .ok (.aload_n 0, 1) := by decide +kernel
theorem dL_law_26 : decode cL_law 26 = .ok (.arraylength, 1) := by decide +kernel
theorem dL_law_27 : decode cL_law 27 = .ok (.iconst 4, 1) := by decide +kernel
theorem dL_law_28 : decode cL_law 28 = .ok (.isub, 1) := by decide +kernel
theorem dL_law_29 : decode cL_law 29 = .ok (.if_icmp .gt 2290, 3) := by decide +kernel
theorem dL_law_32 : decode cL_law 32 = .ok (.aload_n 0, 1) := by decide +kernel
theorem dL_law_33 : decode cL_law 33 = .ok (.iload 4, 2) := by decide +kernel
theorem dL_law_35 : decode cL_law 35 = .ok (.iaload, 1) := by decide +kernel
theorem dL_law_36 : decode cL_law 36 = .ok (.bipush 63, 2) := by decide +kernel
theorem dL_law_38 : decode cL_law 38 = .ok (.iand, 1) := by decide +kernel
theorem dL_law_39 : decode cL_law 39 = .ok (.tableswitch 2274 0 43 #[189, 245, 325, 381, 472, 528, 619, 687, 755, 768, 824, 880, 936, 1004, 1060, 1128, 1184, 1252, 1315, 1371, 1434, 1490, 1503, 1559, 1615, 1671, 1727, 1740, 1753, 1766, 1779, 1792, 1848, 1904, 1960, 2028, 2084, 2097, 2110, 2123, 2179, 2192, 2248, 2261], 189) := by decide +kernel
theorem dL_law_2313 : decode cL_law 2313 = .ok (.iinc 4 4, 3) := by decide +kernel
theorem dL_law_2316 : decode cL_law 2316 = .ok (.goto (-2293), 3) := by decide +kernel
theorem dL_law_2319 : decode cL_law 2319 = .ok (.iconst 1, 1) := by decide +kernel
theorem dL_law_2320 : decode cL_law 2320 = .ok (.ireturn, 1) := by decide +kernel
theorem and63 (x : Int32) : ∃ k, k < 64 ∧ x &&& 63 = nI k := by
  refine ⟨(x &&& 63).toNatClampNeg, ?_, ?_⟩
  · have h1 : (x &&& 63).toBitVec = x.toBitVec &&& 63#32 := rfl
    have h2 : (x.toBitVec &&& 63#32).toNat ≤ 63 := by
      rw [BitVec.toNat_and]
      exact Nat.and_le_right
    have h3 : (x &&& 63).toInt = ((x &&& 63).toBitVec).toInt := rfl
    have h4 : ((x &&& 63).toBitVec).toInt = ((x.toBitVec &&& 63#32).toNat : Int) := by
      rw [h1, BitVec.toInt_eq_toNat_of_lt (by omega)]
    show (x &&& 63).toInt.toNat < 64
    rw [h3, h4]
    omega
  · have h1 : (x &&& 63).toBitVec = x.toBitVec &&& 63#32 := rfl
    have h2 : (x.toBitVec &&& 63#32).toNat ≤ 63 := by
      rw [BitVec.toNat_and]
      exact Nat.and_le_right
    apply Int32.toBitVec_inj.mp
    show _ = BitVec.ofNat 32 _
    have h3 : (x &&& 63).toNatClampNeg = (x.toBitVec &&& 63#32).toNat := by
      show (x &&& 63).toInt.toNat = _
      have : (x &&& 63).toInt = ((x.toBitVec &&& 63#32).toNat : Int) := by
        show ((x &&& 63).toBitVec).toInt = _
        rw [h1, BitVec.toInt_eq_toNat_of_lt (by omega)]
      rw [this]
      rfl
    rw [h3, h1]
    exact (BitVec.ofNat_toNat _ _).symm ▸ (by simp)
theorem sub4 {L i : Nat} (hL : L ≤ 2048) (hi : i ≤ 2048) : (nI L - 4 < nI i ↔ L < i + 4) := by
  by_cases q : 4 ≤ L
  · rw [show (4 : Int32) = nI 4 from rfl, nI_sub q, nI_ltI (by omega) (by omega)]
    omega
  · have q4 : L = 0 ∨ L = 1 ∨ L = 2 ∨ L = 3 := by omega
    have hn : nI L - 4 < 0 := by rcases q4 with rfl | rfl | rfl | rfl <;> decide
    have h0 : (0 : Int32) ≤ nI i := nI_pos' (by omega)
    refine ⟨fun _ => by omega, fun _ => Int32.lt_of_lt_of_le hn h0⟩
def QL : hQ := fun o _ => o = .inl (some (si 1))
theorem law_next {nm : String} {hh : List (Nat × Nat × Nat × Nat)} {G : gG} {b L B i : Nat} {xs : Nat → Int32} {h : hp} {Q : hQ} {K N : Nat} (kk : gZ (LF b L xs) G (mLw nm hh) 60 Q 23 [some (sr (some b)), some (sr (some B)), some (sr (some (B + 90))), some (sr (some (B + 121))), some (si (nI (i + 4))), none, none] [] K N h) : gZ (LF b L xs) G (mLw nm hh) 60 Q 2313 [some (sr (some b)), some (sr (some B)), some (sr (some (B + 90))), some (sr (some (B + 121))), some (si (nI i)), none, none] [] K N h := by
  refine z_iinc (pc := 2313) (i := 4) (nI (i + 4)) [some (sr (some b)), some (sr (some B)), some (sr (some (B + 90))), some (sr (some (B + 121))), some (si (nI (i + 4))), none, none] dL_law_2313 rfl (nI_add i 4) rfl rfl ?_
  exact z_goto (pc := 2316) 23 dL_law_2316 rfl kk
theorem law_one {nm : String} {hh : List (Nat × Nat × Nat × Nat)} {G : gG} {b L B i c : Nat} {xs : Nat → Int32} {h : hp} {Q : hQ} {K N : Nat} (hb : ¬ gb G ≤ b) (hL : L ≤ 2048) (hi : i + 4 ≤ L) (hc : c + 300 < 1000000) (j : JJ B h c) (kk : ∀ h2, JJ B h2 (c + 100) → gZ (LF b L xs) G (mLw nm hh) 60 Q 2313 [some (sr (some b)), some (sr (some B)), some (sr (some (B + 90))), some (sr (some (B + 121))), some (si (nI i)), none, none] [] K N h2) : gZ (LF b L xs) G (mLw nm hh) 60 Q 32 [some (sr (some b)), some (sr (some B)), some (sr (some (B + 90))), some (sr (some (B + 121))), some (si (nI i)), none, none] [] (10 + K) (343 + N) h := by
  refine z_aload_n (pc := 32) (i := 0) dL_law_32 rfl rfl ?_
  refine z_iload (pc := 33) (i := 4) dL_law_33 rfl ?_
  refine z_sld (pc := 35) hb dL_law_35 (vp_in_nI (by omega) (by omega)) ?_
  rw [nI_clamp (show i < 2 ^ 31 by omega)]
  refine z_bipush (pc := 36) (v := 63) dL_law_36 rfl ?_
  refine z_iand (pc := 38) dL_law_38 ?_
  obtain ⟨k, hk, e⟩ := and63 (xs i)
  rw [e]
  have jm : JJ B h (c + 100) := by
    obtain ⟨E, T, j1, j2, j3, j4⟩ := j
    exact ⟨E, T, j1, j2, j3.more (by omega), j4⟩
  rcases (show (k = 0 ∨ k = 1 ∨ k = 2 ∨ k = 3 ∨ k = 4 ∨ k = 5 ∨ k = 6 ∨ k = 7 ∨ k = 8 ∨ k = 9 ∨ k = 10 ∨ k = 11 ∨ k = 12 ∨ k = 13 ∨ k = 14 ∨ k = 15 ∨ k = 16 ∨ k = 17 ∨ k = 18 ∨ k = 19 ∨ k = 20 ∨ k = 21 ∨ k = 22 ∨ k = 23 ∨ k = 24 ∨ k = 25 ∨ k = 26 ∨ k = 27 ∨ k = 28 ∨ k = 29 ∨ k = 30 ∨ k = 31 ∨ k = 32 ∨ k = 33 ∨ k = 34 ∨ k = 35 ∨ k = 36 ∨ k = 37 ∨ k = 38 ∨ k = 39 ∨ k = 40 ∨ k = 41 ∨ k = 42 ∨ k = 43) ∨ 44 ≤ k by omega) with (rfl | rfl | rfl | rfl | rfl | rfl | rfl | rfl | rfl | rfl | rfl | rfl | rfl | rfl | rfl | rfl | rfl | rfl | rfl | rfl | rfl | rfl | rfl | rfl | rfl | rfl | rfl | rfl | rfl | rfl | rfl | rfl | rfl | rfl | rfl | rfl | rfl | rfl | rfl | rfl | rfl | rfl | rfl | rfl) | q
  · exact z_tableIn (pc := 39) 228 dL_law_39 (by decide +kernel) (by decide +kernel) (show (#[189, 245, 325, 381, 472, 528, 619, 687, 755, 768, 824, 880, 936, 1004, 1060, 1128, 1184, 1252, 1315, 1371, 1434, 1490, 1503, 1559, 1615, 1671, 1727, 1740, 1753, 1766, 1779, 1792, 1848, 1904, 1960, 2028, 2084, 2097, 2110, 2123, 2179, 2192, 2248, 2261] : Array Int)[0]? = some 189 from rfl) rfl (sL_draft hb hL hi hc j kk)
  · exact z_tableIn (pc := 39) 284 dL_law_39 (by decide +kernel) (by decide +kernel) (show (#[189, 245, 325, 381, 472, 528, 619, 687, 755, 768, 824, 880, 936, 1004, 1060, 1128, 1184, 1252, 1315, 1371, 1434, 1490, 1503, 1559, 1615, 1671, 1727, 1740, 1753, 1766, 1779, 1792, 1848, 1904, 1960, 2028, 2084, 2097, 2110, 2123, 2179, 2192, 2248, 2261] : Array Int)[1]? = some 245 from rfl) rfl (sL_add hb hL hi hc j kk)
  · exact z_tableIn (pc := 39) 364 dL_law_39 (by decide +kernel) (by decide +kernel) (show (#[189, 245, 325, 381, 472, 528, 619, 687, 755, 768, 824, 880, 936, 1004, 1060, 1128, 1184, 1252, 1315, 1371, 1434, 1490, 1503, 1559, 1615, 1671, 1727, 1740, 1753, 1766, 1779, 1792, 1848, 1904, 1960, 2028, 2084, 2097, 2110, 2123, 2179, 2192, 2248, 2261] : Array Int)[2]? = some 325 from rfl) rfl (sL_remove hb hL hi hc j kk)
  · exact z_tableIn (pc := 39) 420 dL_law_39 (by decide +kernel) (by decide +kernel) (show (#[189, 245, 325, 381, 472, 528, 619, 687, 755, 768, 824, 880, 936, 1004, 1060, 1128, 1184, 1252, 1315, 1371, 1434, 1490, 1503, 1559, 1615, 1671, 1727, 1740, 1753, 1766, 1779, 1792, 1848, 1904, 1960, 2028, 2084, 2097, 2110, 2123, 2179, 2192, 2248, 2261] : Array Int)[3]? = some 381 from rfl) rfl (sL_hide hb hL hi hc j kk)
  · exact z_tableIn (pc := 39) 511 dL_law_39 (by decide +kernel) (by decide +kernel) (show (#[189, 245, 325, 381, 472, 528, 619, 687, 755, 768, 824, 880, 936, 1004, 1060, 1128, 1184, 1252, 1315, 1371, 1434, 1490, 1503, 1559, 1615, 1671, 1727, 1740, 1753, 1766, 1779, 1792, 1848, 1904, 1960, 2028, 2084, 2097, 2110, 2123, 2179, 2192, 2248, 2261] : Array Int)[4]? = some 472 from rfl) rfl (sL_rename hb hL hi hc j kk)
  · exact z_tableIn (pc := 39) 567 dL_law_39 (by decide +kernel) (by decide +kernel) (show (#[189, 245, 325, 381, 472, 528, 619, 687, 755, 768, 824, 880, 936, 1004, 1060, 1128, 1184, 1252, 1315, 1371, 1434, 1490, 1503, 1559, 1615, 1671, 1727, 1740, 1753, 1766, 1779, 1792, 1848, 1904, 1960, 2028, 2084, 2097, 2110, 2123, 2179, 2192, 2248, 2261] : Array Int)[5]? = some 528 from rfl) rfl (sL_set hb hL hi hc j kk)
  · exact z_tableIn (pc := 39) 658 dL_law_39 (by decide +kernel) (by decide +kernel) (show (#[189, 245, 325, 381, 472, 528, 619, 687, 755, 768, 824, 880, 936, 1004, 1060, 1128, 1184, 1252, 1315, 1371, 1434, 1490, 1503, 1559, 1615, 1671, 1727, 1740, 1753, 1766, 1779, 1792, 1848, 1904, 1960, 2028, 2084, 2097, 2110, 2123, 2179, 2192, 2248, 2261] : Array Int)[6]? = some 619 from rfl) rfl (sL_setRule hb hL hi hc j kk)
  · exact z_tableIn (pc := 39) 726 dL_law_39 (by decide +kernel) (by decide +kernel) (show (#[189, 245, 325, 381, 472, 528, 619, 687, 755, 768, 824, 880, 936, 1004, 1060, 1128, 1184, 1252, 1315, 1371, 1434, 1490, 1503, 1559, 1615, 1671, 1727, 1740, 1753, 1766, 1779, 1792, 1848, 1904, 1960, 2028, 2084, 2097, 2110, 2123, 2179, 2192, 2248, 2261] : Array Int)[7]? = some 687 from rfl) rfl (sL_setManner hb hL hi hc j kk)
  · exact z_tableIn (pc := 39) 794 dL_law_39 (by decide +kernel) (by decide +kernel) (show (#[189, 245, 325, 381, 472, 528, 619, 687, 755, 768, 824, 880, 936, 1004, 1060, 1128, 1184, 1252, 1315, 1371, 1434, 1490, 1503, 1559, 1615, 1671, 1727, 1740, 1753, 1766, 1779, 1792, 1848, 1904, 1960, 2028, 2084, 2097, 2110, 2123, 2179, 2192, 2248, 2261] : Array Int)[8]? = some 755 from rfl) rfl (sL_elements hb hL hi hc j kk)
  · exact z_tableIn (pc := 39) 807 dL_law_39 (by decide +kernel) (by decide +kernel) (show (#[189, 245, 325, 381, 472, 528, 619, 687, 755, 768, 824, 880, 936, 1004, 1060, 1128, 1184, 1252, 1315, 1371, 1434, 1490, 1503, 1559, 1615, 1671, 1727, 1740, 1753, 1766, 1779, 1792, 1848, 1904, 1960, 2028, 2084, 2097, 2110, 2123, 2179, 2192, 2248, 2261] : Array Int)[9]? = some 768 from rfl) rfl (sL_kind hb hL hi hc j kk)
  · exact z_tableIn (pc := 39) 863 dL_law_39 (by decide +kernel) (by decide +kernel) (show (#[189, 245, 325, 381, 472, 528, 619, 687, 755, 768, 824, 880, 936, 1004, 1060, 1128, 1184, 1252, 1315, 1371, 1434, 1490, 1503, 1559, 1615, 1671, 1727, 1740, 1753, 1766, 1779, 1792, 1848, 1904, 1960, 2028, 2084, 2097, 2110, 2123, 2179, 2192, 2248, 2261] : Array Int)[10]? = some 824 from rfl) rfl (sL_parent hb hL hi hc j kk)
  · exact z_tableIn (pc := 39) 919 dL_law_39 (by decide +kernel) (by decide +kernel) (show (#[189, 245, 325, 381, 472, 528, 619, 687, 755, 768, 824, 880, 936, 1004, 1060, 1128, 1184, 1252, 1315, 1371, 1434, 1490, 1503, 1559, 1615, 1671, 1727, 1740, 1753, 1766, 1779, 1792, 1848, 1904, 1960, 2028, 2084, 2097, 2110, 2123, 2179, 2192, 2248, 2261] : Array Int)[11]? = some 880 from rfl) rfl (sL_children hb hL hi hc j kk)
  · exact z_tableIn (pc := 39) 975 dL_law_39 (by decide +kernel) (by decide +kernel) (show (#[189, 245, 325, 381, 472, 528, 619, 687, 755, 768, 824, 880, 936, 1004, 1060, 1128, 1184, 1252, 1315, 1371, 1434, 1490, 1503, 1559, 1615, 1671, 1727, 1740, 1753, 1766, 1779, 1792, 1848, 1904, 1960, 2028, 2084, 2097, 2110, 2123, 2179, 2192, 2248, 2261] : Array Int)[12]? = some 936 from rfl) rfl (sL_childAt hb hL hi hc j kk)
  · exact z_tableIn (pc := 39) 1043 dL_law_39 (by decide +kernel) (by decide +kernel) (show (#[189, 245, 325, 381, 472, 528, 619, 687, 755, 768, 824, 880, 936, 1004, 1060, 1128, 1184, 1252, 1315, 1371, 1434, 1490, 1503, 1559, 1615, 1671, 1727, 1740, 1753, 1766, 1779, 1792, 1848, 1904, 1960, 2028, 2084, 2097, 2110, 2123, 2179, 2192, 2248, 2261] : Array Int)[13]? = some 1004 from rfl) rfl (sL_nameLength hb hL hi hc j kk)
  · exact z_tableIn (pc := 39) 1099 dL_law_39 (by decide +kernel) (by decide +kernel) (show (#[189, 245, 325, 381, 472, 528, 619, 687, 755, 768, 824, 880, 936, 1004, 1060, 1128, 1184, 1252, 1315, 1371, 1434, 1490, 1503, 1559, 1615, 1671, 1727, 1740, 1753, 1766, 1779, 1792, 1848, 1904, 1960, 2028, 2084, 2097, 2110, 2123, 2179, 2192, 2248, 2261] : Array Int)[14]? = some 1060 from rfl) rfl (sL_nameAt hb hL hi hc j kk)
  · exact z_tableIn (pc := 39) 1167 dL_law_39 (by decide +kernel) (by decide +kernel) (show (#[189, 245, 325, 381, 472, 528, 619, 687, 755, 768, 824, 880, 936, 1004, 1060, 1128, 1184, 1252, 1315, 1371, 1434, 1490, 1503, 1559, 1615, 1671, 1727, 1740, 1753, 1766, 1779, 1792, 1848, 1904, 1960, 2028, 2084, 2097, 2110, 2123, 2179, 2192, 2248, 2261] : Array Int)[15]? = some 1128 from rfl) rfl (sL_contentLength hb hL hi hc j kk)
  · exact z_tableIn (pc := 39) 1223 dL_law_39 (by decide +kernel) (by decide +kernel) (show (#[189, 245, 325, 381, 472, 528, 619, 687, 755, 768, 824, 880, 936, 1004, 1060, 1128, 1184, 1252, 1315, 1371, 1434, 1490, 1503, 1559, 1615, 1671, 1727, 1740, 1753, 1766, 1779, 1792, 1848, 1904, 1960, 2028, 2084, 2097, 2110, 2123, 2179, 2192, 2248, 2261] : Array Int)[16]? = some 1184 from rfl) rfl (sL_contentAt hb hL hi hc j kk)
  · exact z_tableIn (pc := 39) 1291 dL_law_39 (by decide +kernel) (by decide +kernel) (show (#[189, 245, 325, 381, 472, 528, 619, 687, 755, 768, 824, 880, 936, 1004, 1060, 1128, 1184, 1252, 1315, 1371, 1434, 1490, 1503, 1559, 1615, 1671, 1727, 1740, 1753, 1766, 1779, 1792, 1848, 1904, 1960, 2028, 2084, 2097, 2110, 2123, 2179, 2192, 2248, 2261] : Array Int)[17]? = some 1252 from rfl) rfl (sL_isOn hb hL hi hc j kk)
  · exact z_tableIn (pc := 39) 1354 dL_law_39 (by decide +kernel) (by decide +kernel) (show (#[189, 245, 325, 381, 472, 528, 619, 687, 755, 768, 824, 880, 936, 1004, 1060, 1128, 1184, 1252, 1315, 1371, 1434, 1490, 1503, 1559, 1615, 1671, 1727, 1740, 1753, 1766, 1779, 1792, 1848, 1904, 1960, 2028, 2084, 2097, 2110, 2123, 2179, 2192, 2248, 2261] : Array Int)[18]? = some 1315 from rfl) rfl (sL_presses hb hL hi hc j kk)
  · exact z_tableIn (pc := 39) 1410 dL_law_39 (by decide +kernel) (by decide +kernel) (show (#[189, 245, 325, 381, 472, 528, 619, 687, 755, 768, 824, 880, 936, 1004, 1060, 1128, 1184, 1252, 1315, 1371, 1434, 1490, 1503, 1559, 1615, 1671, 1727, 1740, 1753, 1766, 1779, 1792, 1848, 1904, 1960, 2028, 2084, 2097, 2110, 2123, 2179, 2192, 2248, 2261] : Array Int)[19]? = some 1371 from rfl) rfl (sL_isShown hb hL hi hc j kk)
  · exact z_tableIn (pc := 39) 1473 dL_law_39 (by decide +kernel) (by decide +kernel) (show (#[189, 245, 325, 381, 472, 528, 619, 687, 755, 768, 824, 880, 936, 1004, 1060, 1128, 1184, 1252, 1315, 1371, 1434, 1490, 1503, 1559, 1615, 1671, 1727, 1740, 1753, 1766, 1779, 1792, 1848, 1904, 1960, 2028, 2084, 2097, 2110, 2123, 2179, 2192, 2248, 2261] : Array Int)[20]? = some 1434 from rfl) rfl (sL_level hb hL hi hc j kk)
  · exact z_tableIn (pc := 39) 1529 dL_law_39 (by decide +kernel) (by decide +kernel) (show (#[189, 245, 325, 381, 472, 528, 619, 687, 755, 768, 824, 880, 936, 1004, 1060, 1128, 1184, 1252, 1315, 1371, 1434, 1490, 1503, 1559, 1615, 1671, 1727, 1740, 1753, 1766, 1779, 1792, 1848, 1904, 1960, 2028, 2084, 2097, 2110, 2123, 2179, 2192, 2248, 2261] : Array Int)[21]? = some 1490 from rfl) rfl (sL_reading hb hL hi hc j kk)
  · exact z_tableIn (pc := 39) 1542 dL_law_39 (by decide +kernel) (by decide +kernel) (show (#[189, 245, 325, 381, 472, 528, 619, 687, 755, 768, 824, 880, 936, 1004, 1060, 1128, 1184, 1252, 1315, 1371, 1434, 1490, 1503, 1559, 1615, 1671, 1727, 1740, 1753, 1766, 1779, 1792, 1848, 1904, 1960, 2028, 2084, 2097, 2110, 2123, 2179, 2192, 2248, 2261] : Array Int)[22]? = some 1503 from rfl) rfl (sL_readingAt hb hL hi hc j kk)
  · exact z_tableIn (pc := 39) 1598 dL_law_39 (by decide +kernel) (by decide +kernel) (show (#[189, 245, 325, 381, 472, 528, 619, 687, 755, 768, 824, 880, 936, 1004, 1060, 1128, 1184, 1252, 1315, 1371, 1434, 1490, 1503, 1559, 1615, 1671, 1727, 1740, 1753, 1766, 1779, 1792, 1848, 1904, 1960, 2028, 2084, 2097, 2110, 2123, 2179, 2192, 2248, 2261] : Array Int)[23]? = some 1559 from rfl) rfl (sL_press hb hL hi hc j kk)
  · exact z_tableIn (pc := 39) 1654 dL_law_39 (by decide +kernel) (by decide +kernel) (show (#[189, 245, 325, 381, 472, 528, 619, 687, 755, 768, 824, 880, 936, 1004, 1060, 1128, 1184, 1252, 1315, 1371, 1434, 1490, 1503, 1559, 1615, 1671, 1727, 1740, 1753, 1766, 1779, 1792, 1848, 1904, 1960, 2028, 2084, 2097, 2110, 2123, 2179, 2192, 2248, 2261] : Array Int)[24]? = some 1615 from rfl) rfl (sL_release hb hL hi hc j kk)
  · exact z_tableIn (pc := 39) 1710 dL_law_39 (by decide +kernel) (by decide +kernel) (show (#[189, 245, 325, 381, 472, 528, 619, 687, 755, 768, 824, 880, 936, 1004, 1060, 1128, 1184, 1252, 1315, 1371, 1434, 1490, 1503, 1559, 1615, 1671, 1727, 1740, 1753, 1766, 1779, 1792, 1848, 1904, 1960, 2028, 2084, 2097, 2110, 2123, 2179, 2192, 2248, 2261] : Array Int)[25]? = some 1671 from rfl) rfl (sL_chord hb hL hi hc j kk)
  · exact z_tableIn (pc := 39) 1766 dL_law_39 (by decide +kernel) (by decide +kernel) (show (#[189, 245, 325, 381, 472, 528, 619, 687, 755, 768, 824, 880, 936, 1004, 1060, 1128, 1184, 1252, 1315, 1371, 1434, 1490, 1503, 1559, 1615, 1671, 1727, 1740, 1753, 1766, 1779, 1792, 1848, 1904, 1960, 2028, 2084, 2097, 2110, 2123, 2179, 2192, 2248, 2261] : Array Int)[26]? = some 1727 from rfl) rfl (sL_cursor hb hL hi hc j kk)
  · exact z_tableIn (pc := 39) 1779 dL_law_39 (by decide +kernel) (by decide +kernel) (show (#[189, 245, 325, 381, 472, 528, 619, 687, 755, 768, 824, 880, 936, 1004, 1060, 1128, 1184, 1252, 1315, 1371, 1434, 1490, 1503, 1559, 1615, 1671, 1727, 1740, 1753, 1766, 1779, 1792, 1848, 1904, 1960, 2028, 2084, 2097, 2110, 2123, 2179, 2192, 2248, 2261] : Array Int)[27]? = some 1740 from rfl) rfl (sL_focus hb hL hi hc j kk)
  · exact z_tableIn (pc := 39) 1792 dL_law_39 (by decide +kernel) (by decide +kernel) (show (#[189, 245, 325, 381, 472, 528, 619, 687, 755, 768, 824, 880, 936, 1004, 1060, 1128, 1184, 1252, 1315, 1371, 1434, 1490, 1503, 1559, 1615, 1671, 1727, 1740, 1753, 1766, 1779, 1792, 1848, 1904, 1960, 2028, 2084, 2097, 2110, 2123, 2179, 2192, 2248, 2261] : Array Int)[28]? = some 1753 from rfl) rfl (sL_isTyping hb hL hi hc j kk)
  · exact z_tableIn (pc := 39) 1805 dL_law_39 (by decide +kernel) (by decide +kernel) (show (#[189, 245, 325, 381, 472, 528, 619, 687, 755, 768, 824, 880, 936, 1004, 1060, 1128, 1184, 1252, 1315, 1371, 1434, 1490, 1503, 1559, 1615, 1671, 1727, 1740, 1753, 1766, 1779, 1792, 1848, 1904, 1960, 2028, 2084, 2097, 2110, 2123, 2179, 2192, 2248, 2261] : Array Int)[29]? = some 1766 from rfl) rfl (sL_offset hb hL hi hc j kk)
  · exact z_tableIn (pc := 39) 1818 dL_law_39 (by decide +kernel) (by decide +kernel) (show (#[189, 245, 325, 381, 472, 528, 619, 687, 755, 768, 824, 880, 936, 1004, 1060, 1128, 1184, 1252, 1315, 1371, 1434, 1490, 1503, 1559, 1615, 1671, 1727, 1740, 1753, 1766, 1779, 1792, 1848, 1904, 1960, 2028, 2084, 2097, 2110, 2123, 2179, 2192, 2248, 2261] : Array Int)[30]? = some 1779 from rfl) rfl (sL_lineLength hb hL hi hc j kk)
  · exact z_tableIn (pc := 39) 1831 dL_law_39 (by decide +kernel) (by decide +kernel) (show (#[189, 245, 325, 381, 472, 528, 619, 687, 755, 768, 824, 880, 936, 1004, 1060, 1128, 1184, 1252, 1315, 1371, 1434, 1490, 1503, 1559, 1615, 1671, 1727, 1740, 1753, 1766, 1779, 1792, 1848, 1904, 1960, 2028, 2084, 2097, 2110, 2123, 2179, 2192, 2248, 2261] : Array Int)[31]? = some 1792 from rfl) rfl (sL_pin hb hL hi hc j kk)
  · exact z_tableIn (pc := 39) 1887 dL_law_39 (by decide +kernel) (by decide +kernel) (show (#[189, 245, 325, 381, 472, 528, 619, 687, 755, 768, 824, 880, 936, 1004, 1060, 1128, 1184, 1252, 1315, 1371, 1434, 1490, 1503, 1559, 1615, 1671, 1727, 1740, 1753, 1766, 1779, 1792, 1848, 1904, 1960, 2028, 2084, 2097, 2110, 2123, 2179, 2192, 2248, 2261] : Array Int)[32]? = some 1848 from rfl) rfl (sL_pinAnew hb hL hi hc j kk)
  · exact z_tableIn (pc := 39) 1943 dL_law_39 (by decide +kernel) (by decide +kernel) (show (#[189, 245, 325, 381, 472, 528, 619, 687, 755, 768, 824, 880, 936, 1004, 1060, 1128, 1184, 1252, 1315, 1371, 1434, 1490, 1503, 1559, 1615, 1671, 1727, 1740, 1753, 1766, 1779, 1792, 1848, 1904, 1960, 2028, 2084, 2097, 2110, 2123, 2179, 2192, 2248, 2261] : Array Int)[33]? = some 1904 from rfl) rfl (sL_wordsLength hb hL hi hc j kk)
  · exact z_tableIn (pc := 39) 1999 dL_law_39 (by decide +kernel) (by decide +kernel) (show (#[189, 245, 325, 381, 472, 528, 619, 687, 755, 768, 824, 880, 936, 1004, 1060, 1128, 1184, 1252, 1315, 1371, 1434, 1490, 1503, 1559, 1615, 1671, 1727, 1740, 1753, 1766, 1779, 1792, 1848, 1904, 1960, 2028, 2084, 2097, 2110, 2123, 2179, 2192, 2248, 2261] : Array Int)[34]? = some 1960 from rfl) rfl (sL_wordsAt hb hL hi hc j kk)
  · exact z_tableIn (pc := 39) 2067 dL_law_39 (by decide +kernel) (by decide +kernel) (show (#[189, 245, 325, 381, 472, 528, 619, 687, 755, 768, 824, 880, 936, 1004, 1060, 1128, 1184, 1252, 1315, 1371, 1434, 1490, 1503, 1559, 1615, 1671, 1727, 1740, 1753, 1766, 1779, 1792, 1848, 1904, 1960, 2028, 2084, 2097, 2110, 2123, 2179, 2192, 2248, 2261] : Array Int)[35]? = some 2028 from rfl) rfl (sL_tick hb hL hi hc j kk)
  · exact z_tableIn (pc := 39) 2123 dL_law_39 (by decide +kernel) (by decide +kernel) (show (#[189, 245, 325, 381, 472, 528, 619, 687, 755, 768, 824, 880, 936, 1004, 1060, 1128, 1184, 1252, 1315, 1371, 1434, 1490, 1503, 1559, 1615, 1671, 1727, 1740, 1753, 1766, 1779, 1792, 1848, 1904, 1960, 2028, 2084, 2097, 2110, 2123, 2179, 2192, 2248, 2261] : Array Int)[36]? = some 2084 from rfl) rfl (sL_time hb hL hi hc j kk)
  · exact z_tableIn (pc := 39) 2136 dL_law_39 (by decide +kernel) (by decide +kernel) (show (#[189, 245, 325, 381, 472, 528, 619, 687, 755, 768, 824, 880, 936, 1004, 1060, 1128, 1184, 1252, 1315, 1371, 1434, 1490, 1503, 1559, 1615, 1671, 1727, 1740, 1753, 1766, 1779, 1792, 1848, 1904, 1960, 2028, 2084, 2097, 2110, 2123, 2179, 2192, 2248, 2261] : Array Int)[37]? = some 2097 from rfl) rfl (sL_speaking hb hL hi hc j kk)
  · exact z_tableIn (pc := 39) 2149 dL_law_39 (by decide +kernel) (by decide +kernel) (show (#[189, 245, 325, 381, 472, 528, 619, 687, 755, 768, 824, 880, 936, 1004, 1060, 1128, 1184, 1252, 1315, 1371, 1434, 1490, 1503, 1559, 1615, 1671, 1727, 1740, 1753, 1766, 1779, 1792, 1848, 1904, 1960, 2028, 2084, 2097, 2110, 2123, 2179, 2192, 2248, 2261] : Array Int)[38]? = some 2110 from rfl) rfl (sL_left hb hL hi hc j kk)
  · exact z_tableIn (pc := 39) 2162 dL_law_39 (by decide +kernel) (by decide +kernel) (show (#[189, 245, 325, 381, 472, 528, 619, 687, 755, 768, 824, 880, 936, 1004, 1060, 1128, 1184, 1252, 1315, 1371, 1434, 1490, 1503, 1559, 1615, 1671, 1727, 1740, 1753, 1766, 1779, 1792, 1848, 1904, 1960, 2028, 2084, 2097, 2110, 2123, 2179, 2192, 2248, 2261] : Array Int)[39]? = some 2123 from rfl) rfl (sL_waiting hb hL hi hc j kk)
  · exact z_tableIn (pc := 39) 2218 dL_law_39 (by decide +kernel) (by decide +kernel) (show (#[189, 245, 325, 381, 472, 528, 619, 687, 755, 768, 824, 880, 936, 1004, 1060, 1128, 1184, 1252, 1315, 1371, 1434, 1490, 1503, 1559, 1615, 1671, 1727, 1740, 1753, 1766, 1779, 1792, 1848, 1904, 1960, 2028, 2084, 2097, 2110, 2123, 2179, 2192, 2248, 2261] : Array Int)[40]? = some 2179 from rfl) rfl (sL_heard hb hL hi hc j kk)
  · exact z_tableIn (pc := 39) 2231 dL_law_39 (by decide +kernel) (by decide +kernel) (show (#[189, 245, 325, 381, 472, 528, 619, 687, 755, 768, 824, 880, 936, 1004, 1060, 1128, 1184, 1252, 1315, 1371, 1434, 1490, 1503, 1559, 1615, 1671, 1727, 1740, 1753, 1766, 1779, 1792, 1848, 1904, 1960, 2028, 2084, 2097, 2110, 2123, 2179, 2192, 2248, 2261] : Array Int)[41]? = some 2192 from rfl) rfl (sL_heardAt hb hL hi hc j kk)
  · exact z_tableIn (pc := 39) 2287 dL_law_39 (by decide +kernel) (by decide +kernel) (show (#[189, 245, 325, 381, 472, 528, 619, 687, 755, 768, 824, 880, 936, 1004, 1060, 1128, 1184, 1252, 1315, 1371, 1434, 1490, 1503, 1559, 1615, 1671, 1727, 1740, 1753, 1766, 1779, 1792, 1848, 1904, 1960, 2028, 2084, 2097, 2110, 2123, 2179, 2192, 2248, 2261] : Array Int)[42]? = some 2248 from rfl) rfl (sL_dropped hb hL hi hc j kk)
  · exact z_tableIn (pc := 39) 2300 dL_law_39 (by decide +kernel) (by decide +kernel) (show (#[189, 245, 325, 381, 472, 528, 619, 687, 755, 768, 824, 880, 936, 1004, 1060, 1128, 1184, 1252, 1315, 1371, 1434, 1490, 1503, 1559, 1615, 1671, 1727, 1740, 1753, 1766, 1779, 1792, 1848, 1904, 1960, 2028, 2084, 2097, 2110, 2123, 2179, 2192, 2248, 2261] : Array Int)[43]? = some 2261 from rfl) rfl (sL_swallowed hb hL hi hc j kk)
  · refine z_tableOut (pc := 39) 2313 dL_law_39 (Or.inr ?_) rfl (z_room (k' := K) (n' := N) (by omega) (by omega) (kk h jm))
    have : (nI k).toInt = (k : Int) := nI_toInt (by omega)
    rw [this]
    omega
theorem law_loop {nm : String} {hh : List (Nat × Nat × Nat × Nat)} {G : gG} {b L B : Nat} {xs : Nat → Int32} (hb : ¬ gb G ≤ b) (hL : L ≤ 2048) : ∀ (f i c : Nat) (h : hp) (K N : Nat), i ≤ L → L < i + 4 * f + 4 → c + 100 * f + 300 < 1000000 → JJ B h c → 10 * f ≤ K → 343 * f ≤ N → gZ (LF b L xs) G (mLw nm hh) 60 QL 23 [some (sr (some b)), some (sr (some B)), some (sr (some (B + 90))), some (sr (some (B + 121))), some (si (nI i)), none, none] [] K N h := by
  intro f
  induction f with
  | zero =>
    intro i c h K N hi hf hc j hK hN
    refine z_iload (pc := 23) (i := 4) dL_law_23 rfl ?_
    refine z_aload_n (pc := 25) (i := 0) dL_law_25 rfl rfl ?_
    refine z_slen (pc := 26) hb dL_law_26 ?_
    refine z_iconst (pc := 27) (v := 4) dL_law_27 rfl ?_
    refine z_isub (pc := 28) dL_law_28 ?_
    refine z_icmp_gt (pc := 29) 2319 dL_law_29 rfl (fun _ => ?_) (fun q => absurd ((sub4 hL (by omega)).mpr (by omega)) q)
    refine z_iconst (pc := 2319) (v := 1) dL_law_2319 rfl ?_
    exact z_iret (pc := 2320) dL_law_2320 rfl narrow_b1 rfl
  | succ f ih =>
    intro i c h K N hi hf hc j hK hN
    refine z_iload (pc := 23) (i := 4) dL_law_23 rfl ?_
    refine z_aload_n (pc := 25) (i := 0) dL_law_25 rfl rfl ?_
    refine z_slen (pc := 26) hb dL_law_26 ?_
    refine z_iconst (pc := 27) (v := 4) dL_law_27 rfl ?_
    refine z_isub (pc := 28) dL_law_28 ?_
    refine z_icmp_gt (pc := 29) 2319 dL_law_29 rfl (fun _ => ?_) (fun q => ?_)
    · refine z_iconst (pc := 2319) (v := 1) dL_law_2319 rfl ?_
      exact z_iret (pc := 2320) dL_law_2320 rfl narrow_b1 rfl
    · have q2 : i + 4 ≤ L := by
        by_cases w : i + 4 ≤ L
        · exact w
        · exact absurd ((sub4 hL (by omega)).mpr (by omega)) q
      refine z_room (k' := 10 + (K - 10)) (n' := 343 + (N - 343)) (by omega) (by omega) ?_
      exact law_one hb hL q2 (by omega) j (fun h2 j2 => law_next (ih (i + 4) (c + 100) h2 (K - 10) (N - 343) q2 (by omega) (by omega) j2 (by omega) (by omega)))
theorem J0 {B : Nat} {g : hp} (x : Fin0 B g) (hNg : hN g = B + 90) : JJ B (wN (jn (B + 90) (jg (B + 90) g) m00) (24, 1)) 0 := by
  have w := wm_lo S00 m00
  have l : Lo8 S00 (wm S00 m00) := ⟨fun k hk _ => w.1 k hk, w.2⟩
  refine ⟨fun _ => B + 2, wm S00 m00, (law_new x hNg).1, by rw [wm_mSt]; exact RM_00.wm, Inv_00.lo8 l, ?_, ?_⟩
  · intro i hi
    rw [l.l 17] at hi
    exact absurd hi (Nat.lt_irrefl 0)
  · intro i hi j hj
    rw [l.2.2.2] at hj
    exact absurd hj List.not_mem_nil
theorem clL_8 : Cond.classLink RL 8 RX10 ∈ XW := xw 110 (by decide +kernel) rfl
theorem clL_114 : Cond.classLink RL 114 RX11 ∈ XW := xw 1391 (by decide +kernel) rfl
theorem lkL_113 : Cond.methodLink RL 113 yX10_init ∈ XW := xw 112 (by decide +kernel) rfl
theorem lkL_116 : Cond.methodLink RL 116 yX11_init ∈ XW := xw 1393 (by decide +kernel) rfl
theorem insL_9 : Cond.instantiable (hk_C 9) (hk_N 9) ∈ XW := xw 111 (by decide +kernel) rfl
theorem insL_10 : Cond.instantiable (hk_C 10) (hk_N 10) ∈ XW := xw 1392 (by decide +kernel) rfl
theorem iniL_9 : Cond.initialized (hk_C 9) ∈ XW := xw 87 (by decide +kernel) rfl
theorem iniL_10 : Cond.initialized (hk_C 10) ∈ XW := xw 102 (by decide +kernel) rfl
theorem law_body {nm : String} {hh : List (Nat × Nat × Nat × Nat)} {G : gG} {b L : Nat} {xs : Nat → Int32} (hb : ¬ gb G ≤ b) (hL : L ≤ 2048) (h : hp) : gZ (LF b L xs) G (mLw nm hh) 60 QL 0 [some (sr (some b)), none, none, none, none, none, none] [] 6000 200000 h := by
  obtain ⟨g, e1, e2, e3⟩ := c_new h
  refine z_room (k' := 123 + (1 + (30 + (1 + 5120))) + 1) (n' := 5952 + (54 + (9613 + (1 + 175616))) + 7) (by decide) (by decide) ?_
  refine z_new (pc := 0) (ci := 9) dL_law_0 (by decide) clL_8 insL_9 iniL_9 ?_
  refine z_dup (pc := 3) dL_law_3 rfl ?_
  refine y_I (pc := 4) (b := hN h) (as := []) (st := [sr (some (hN h))]) (N := mX10_init) (k := 1 + (30 + (1 + 5120))) (n := 54 + (9613 + (1 + 175616))) (k1 := 123) (n1 := 5952) dL_law_4 lkL_113 caX10_init ciX10_init rfl rfl rfl (tX10_init (hN h) (wN h (10, 0)) (fun o9 h9 => o9 = .inl none ∧ h9 = g) (okB_of e1 ⟨rfl, rfl⟩)) ⟨by decide, by decide⟩ (Nat.le_of_ble_eq_true rfl) (fun v h3 q => ?_) (fun E h3 q => nomatch q.1)
  obtain ⟨q1, rfl⟩ := q
  have q3 : v = none := Sum.inl.inj q1
  subst q3
  show gZ (LF b L xs) G (mLw nm hh) 60 QL 7 [some (sr (some b)), none, none, none, none, none, none] [sr (some (hN h))] (1 + (30 + (1 + 5120))) (54 + (9613 + (1 + 175616))) h3
  refine z_astore_n (pc := 7) (i := 1) [some (sr (some b)), some (sr (some (hN h))), none, none, none, none, none] dL_law_7 rfl (show 1 < 7 by decide) rfl rfl ?_
  refine z_room (k' := (30 + (1 + 5120)) + 1) (n' := (9613 + (1 + 175616)) + 54) (by decide) (by decide) ?_
  refine z_new (pc := 8) (ci := 10) dL_law_8 (by decide) clL_114 insL_10 iniL_10 ?_
  refine z_dup (pc := 11) dL_law_11 rfl ?_
  refine y_I (pc := 12) (b := hN h3) (as := []) (st := [sr (some (hN h3))]) (N := mX11_init) (k := 1 + 5120) (n := 1 + 175616) (k1 := 30) (n1 := 9613) dL_law_12 lkL_116 caX11_init ciX11_init rfl rfl rfl (tX11_init (hN h3) (wN h3 (11, 0)) (fun o9 h9 => o9 = .inl none ∧ h9 = jn (hN h3) (jg (hN h3) h3) m00) (okB_of (X11_new h3) ⟨rfl, rfl⟩)) ⟨by decide, by decide⟩ (Nat.le_of_ble_eq_true rfl) (fun v h4 q => ?_) (fun E h4 q => nomatch q.1)
  obtain ⟨q1, rfl⟩ := q
  have q3 : v = none := Sum.inl.inj q1
  subst q3
  show gZ (LF b L xs) G (mLw nm hh) 60 QL 15 [some (sr (some b)), some (sr (some (hN h))), none, none, none, none, none] [sr (some (hN h3))] (1 + 5120) (1 + 175616) (jn (hN h3) (jg (hN h3) h3) m00)
  refine z_astore_n (pc := 15) (i := 2) [some (sr (some b)), some (sr (some (hN h))), some (sr (some (hN h3))), none, none, none, none] dL_law_15 rfl (show 2 < 7 by decide) rfl rfl ?_
  refine z_iconst (pc := 16) (v := 1) dL_law_16 rfl ?_
  refine z_room (k' := 5120 + 1) (n' := 175616 + 1) (by decide) (by decide) ?_
  refine z_newJ (pc := 17) (len := 1) dL_law_17 rfl (by decide) ?_
  have hN4 : hN (jn (hN h3) (jg (hN h3) h3) m00) = hN h + 121 := by
    show hN h3 + 31 = _
    omega
  rw [hN4]
  refine z_astore_n (pc := 19) (i := 3) [some (sr (some b)), some (sr (some (hN h))), some (sr (some (hN h3))), some (sr (some (hN h + 121))), none, none, none] dL_law_19 rfl (show 3 < 7 by decide) rfl rfl ?_
  refine z_iconst (pc := 20) (v := 0) dL_law_20 rfl ?_
  refine z_istore (pc := 21) (i := 4) [some (sr (some b)), some (sr (some (hN h))), some (sr (some (hN h3))), some (sr (some (hN h + 121))), some (si 0), none, none] dL_law_21 (show 4 < 7 by decide) rfl rfl ?_
  rw [e3]
  exact law_loop hb hL 512 0 0 _ 5120 175616 (Nat.zero_le _) (by omega) (by decide) (J0 e2 e3) (by decide) (by decide)

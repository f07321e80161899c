/-! ===== the class hides, removes, adds ===== -/
section TR3
variable {B : Nat} {E : Nat → Nat} {S : SS} {li : List Int32} {od : List Nat} {h h' : hp}
theorem RW.e7 (x : RW B E S li od h) {i : Nat} (hi : i < made S) : oGI 1 7 (some (E i)) h = some (sI S 12 i) := x.es.hid hi
/-- who is lost with what is hidden -/
theorem gon_hide {U : SS} {x : Nat} (hW : WT S) (h1 : sI U 1 = sI S 1) (hsh : ∀ j, j < made S → shn U j = (shn S j && !wthn S j x)) {f : Nat} (hf : th S f) (hs : shn S f = true) : gonA U (nI f) = wthn S f x := by
  rw [gon_nI (hf.l40 hW), h1, decide_eq_false hf.2, Bool.false_or, hsh f hf.lt, hs, Bool.true_and, Bool.not_not]
theorem C_hide (x : RC B E S h) {c : Nat} (hv : Inv S c) (hc : c < 1000000) (v w : Int32) (hw : w = 0 ∨ w = 1) : CS B [exI, exS] (fX10_hide B v w h) (cHide S v w) := by
  have hC := hv.1.1
  have hW := hC.t
  refine t2_c x hW.pw hv.2.2 v (g := fun i => sI S 12 i) (G := fun i => fit (hd3 S i w)) (fun i hi i0 ha => ?_)
  have hs : Sd [12] [] [] S (wSI S 12 i w) := Sd.I (by decide)
  have hT0 : CoreT (wSI S 12 i w) := hC.toT.w12 hw i0 hi.lt
  have x1 := RW.en x hi.lt (f := 7) (k := 12) (by decide) w
  obtain ⟨h9, a9, x9, -⟩ := t_reorder x1 hT0.1
  have hi9 : th (wSI S 12 i w) i := (th_cg (hs.i 0 rfl) (hs.i 1 rfl) i).mpr hi
  have hb12 := hC.b 12 (by decide) i
  have eo : oBo (sI S 12 i) = some () := by
    unfold oBo
    rw [if_pos hb12]
  have hlT : ln (wSI S 12 i w) = ln S := ln_sd hs rfl
  have pre : ∀ (K : Option ((Int32 ⊕ String) × hp)) (Z : Option ((Int32 ⊕ String) × hp)), True := fun _ _ => trivial
  -- nothing is told
  have quiet : fit (hd3 S i w) = wSI S 12 i w → ∃ E' h', some (Sum.inl (sI S 12 i), h9) = some ((.inl (sI S 12 i) : Int32 ⊕ String), h') ∧ RC B E' (fit (hd3 S i w)) h' := fun e => by
    refine ⟨E, h9, rfl, ?_⟩
    rw [e]
    unfold RC
    rw [hlT]
    exact x9
  have fitT : fit (wSI S 12 i w) = wSI S 12 i w := fit_keep hv.2.1 hlT (hs.i 25 rfl)
  have same : sI S 12 i = w → wSI S 12 i w = S := fun e => wSI_same e
  -- the words are told
  have told : sI S 12 i ≠ 0 → w = 0 → ∃ E' h', ((oGR 9 2 (some B) h9).bind fun x10 => (oOb 5 x10 h9).bind fun b => o2 (fX6_tellWords b (some (E i)) h9) fun _ h12 => (oBo (sI S 12 i)).bind fun _ => some ((.inl (sI S 12 i) : Int32 ⊕ String), h12)) = some (.inl (sI S 12 i), h') ∧ RC B E' (fit (hd3 S i w)) h' := fun q1 q2 => by
    have hI0 : InvT (wSI S 12 i w) c 20 := ⟨hT0, hv.1.2.1.i (by decide) (by decide), hv.1.2.2.1.sd hs rfl, by show (sQ S 35).length ≤ 20; omega⟩
    obtain ⟨h2, a2, x2⟩ := g_telW x9 hT0.1 hT0.2.1 hI0.2.1 hI0.2.2.1 (by omega) (show (sQ S 35).length < 21 by omega) hi9
    refine ⟨E, h2, by rw [x9.p02, sb, x9.o76, sb, a2, o2s, eo, sb], ?_⟩
    have e : hd3 S i w = telW (wSI S 12 i w) i := by
      unfold hd3
      rw [if_neg (fun z => z.1 q2), if_pos ⟨q1, q2⟩, q2]
    have hst := sd_telW (wSI S 12 i w) i
    have hl2 : ln (telW (wSI S 12 i w) i) = ln S := by rw [ln_sd hst rfl, hlT]
    have hf2 : fit (telW (wSI S 12 i w) i) = telW (wSI S 12 i w) i := fit_keep hv.2.1 hl2 (by rw [hst.i 25 rfl, hs.i 25 rfl])
    rw [e, hf2]
    unfold RC
    rw [hl2, ord_sd hst rfl]
    exact x2
  have shT : ∀ j, j < made S → w = 1 → shn (wSI S 12 i w) j = (shn S j && !wthn S j i) := fun j hj q => by
    rw [q]; exact hid_shn hW j hj
  rw [RW.e7 x hi.lt, sb, x.es.ob hi.lt, sb, e_shown x.es hW.pw hi.lt, sb, oPZ_ok (x.es.t hi.lt) hw, sb, x1.p00, sb, x1.o1, sb, a9, o2s, bI_i]
  by_cases qs : shn S i = true
  · -- it was shown
    rw [if_pos qs]
    have h12 : sI S 12 i = 0 := by
      have := (shn_up hW i0 hi qs).2
      exact Classical.byContradiction (fun z => by unfold hid at this; exact absurd z (of_decide_eq_false this))
    by_cases q0 : w = 0
    · rw [if_pos q0, if_pos h12, eo, sb]
      refine quiet ?_
      have e : hd3 S i w = S := by
        unfold hd3
        rw [if_neg (fun z => z.1 q0), if_neg (fun z => z.1 h12)]
      rw [e, hv.2.1, same (by rw [h12, q0])]
    · have q1 : w = 1 := hw.resolve_left q0
      rw [if_neg q0]
      have hI0 : InvT (wSI S 12 i w) c 19 := ⟨hT0, hv.1.2.1.i (by decide) (by decide), hv.1.2.2.1.sd hs rfl, by show (sQ S 35).length ≤ 19; omega⟩
      have hrg : ∀ r, rgn (wSI S 12 i w) i = some r → sI (wSI S 12 i w) 2 r = 7 ∧ th (wSI S 12 i w) r := fun r hr => rgn_th hT0.1 hi9 hr
      have hrS : rgn (wSI S 12 i w) i = rgS S i := by
        rw [rgn_cg (hs.i 3 rfl) (hs.i 2 rfl)]
        unfold rgS
        rw [if_pos qs]
      have hgS : gone (wSI S 12 i w) i = gone S i := by
        unfold gone
        rw [hs.i 2 rfl]; rfl
      obtain ⟨h18, a18, x18⟩ := g_gone x9 hT0.1.pw hT0.2.1 hI0.2.1 hI0.2.2.1 (by omega) (show (sQ S 35).length < 21 by omega) (i := i) hi9.lt (fun r hr => ⟨(hrg r hr).2.lt, (hrg r hr).1⟩)
      rw [hrS, hgS] at x18
      have hI1 : InvT (tel (wSI S 12 i w) (rgS S i) (gone S i)) c 20 := hI0.kTel (fun r hr => hrg r (by rw [hrS]; exact hr)) (gone_len hC.l i)
      have hs1 := sd_tel (wSI S 12 i w) (rgS S i) (gone S i)
      have hs2 : Sd [12, 15, 38, 44, 45] [17, 33] [30, 35] S (tel (wSI S 12 i w) (rgS S i) (gone S i)) := (hs.mono (by decide)).tr (hs1.mono (by decide))
      have e12 : sI (tel (wSI S 12 i w) (rgS S i) (gone S i)) 12 = sI (wSI S 12 i w) 12 := hs1.i 12 rfl
      have shU : ∀ j, j < made S → shn (tel (wSI S 12 i w) (rgS S i) (gone S i)) j = (shn S j && !wthn S j i) := fun j hj => by
        rw [shn_cg (S := wSI S 12 i w) (hs1.i 3 rfl) e12]
        exact shT j hj q1
      have hon := hide_on hv hi i0 ha
      rw [← q1] at hon
      have hh : ∀ j, j ≠ i → hid (tel (wSI S 12 i w) (rgS S i) (gone S i)) j = hid S j := fun j hj => by
        unfold hid
        rw [e12, sI_I, if_neg (fun z => hj z.2)]
      have e3d : hd3 S i w = los (tel (wSI S 12 i w) (rgS S i) (gone S i)) (rfgO S i) := by
        unfold hd3
        rw [if_pos ⟨q0, h12⟩, q1]
      have hoT : ord (wSI S 12 i w) = ord (los (tel (wSI S 12 i w) (rgS S i) (gone S i)) (rfgO S i)) := by
        rw [ord_sd (sd_los _ _) rfl, ord_sd hs1 rfl]
      generalize hU : tel (wSI S 12 i w) (rgS S i) (gone S i) = U at *
      have hiU : th U i := (th_cg (hs2.i 0 rfl) (hs2.i 1 rfl) i).mpr hi
      have hmU : made U = made S := made_cg (hs2.i 0 rfl)
      have hcU : cur U = cur S := cur_cg (hs2.i 20 rfl)
      have er : rfgO U i = rfgO S i := by
        obtain ⟨n1, n2⟩ := sib_ne hW i0 hi
        unfold rfgO
        rw [dpar_cg (hs2.i 3 rfl), plc_cg (hs2.i 3 rfl) hs2.2.2.2, hs2.2.2.2]
        exact rfg_cg (fun j hj => hh j (n1 j hj)) (fun j hj => hh j (n2 j hj))
      have eref := e_refuge x18.es hI1.1.1 hiU i0
      rw [er] at eref
      have gf : ∀ f, th S f → shn S f = true → gonA U (nI f) = wthn U f i := fun f hf hsf => by
        rw [gon_hide hW (hs2.i 1 rfl) shU hf hsf, wthn_cg (hs2.i 3 rfl)]
      obtain ⟨h22, a22, x22⟩ := r_lose x18 hI1.1.1 hI1.1.2.1 hI1.2.1 (by have := hI1.2.2.2; omega) (y := i) (r := rfgO S i) hiU.lt (by
        rw [hs2.i 21 rfl]
        rcases hC.xf with q | ⟨f, f1, f2, f3, f4⟩
        · exact Or.inl q
        · exact Or.inr ⟨f, by rw [hmU]; exact f2.lt, f1, gf f f2 f3⟩) (by rw [hs2.i 20 rfl, hcU]; exact hC.c.1) (by rw [hcU, hmU]; exact hC.c.2.lt) (by rw [hcU]; exact gf _ hC.c.2 hC.xs) (fun g => by
        rw [hs2.i 20 rfl, hC.c.1, gon_hide hW (hs2.i 1 rfl) shU hC.c.2 hC.xs] at g
        have hin : i ∈ an S (cur S) := of_decide_eq_true g
        have hxs := anc_shn hW _ hC.c.2.lt hC.xs i hin
        obtain ⟨u1, u2⟩ := hW.up i0 hi
        have hps := (shn_up hW i0 hi hxs).1
        obtain ⟨n1, n2⟩ := sib_ne hW i0 hi
        have er2 : rfgO S i = rfg U (dpar S i) ((sK S (dpar S i)).drop (plc S i + 1)) ((sK S (dpar S i)).take (plc S i)) := (rfg_cg (fun j hj => hh j (n1 j hj)) (fun j hj => hh j (n2 j hj))).symm
        rw [er2]
        have hpT : shn U (dpar S i) = true := by
          rw [shU _ u1.lt, hps]
          have : wthn S (dpar S i) i = false := decide_eq_false (hW.not_up i0 hi)
          rw [this]; rfl
        exact rfg_in hI1.1.1 ((th_cg (hs2.i 0 rfl) (hs2.i 1 rfl) _).mpr u1) hpT (fun j hj => by rw [hs2.2.2.2]; exact List.mem_of_mem_drop hj) (fun j hj => by rw [hs2.2.2.2]; exact List.mem_of_mem_take hj)) hon
      refine ⟨E, h22, ?_, ?_⟩
      · rw [x9.p02, sb, x9.o76, sb, a18, o2s, x18.p03, sb, x18.es.ob hiU.lt, sb, eref, sb, x18.ob79, sb, a22, o2s, eo, sb]
      · rw [e3d]
        exact RC.ofK x22 hoT
  · -- it was not shown
    rw [if_neg qs]
    by_cases q4 : sI S 12 i = 0
    · rw [if_pos q4, eo, sb]
      refine quiet ?_
      by_cases q0 : w = 0
      · have e : hd3 S i w = S := by
          unfold hd3
          rw [if_neg (fun z => z.1 q0), if_neg (fun z => z.1 q4)]
        rw [e, hv.2.1, same (by rw [q4, q0])]
      · have q1 : w = 1 := hw.resolve_left q0
        have hrS : rgS S i = none := by
          unfold rgS
          rw [if_neg qs]
        have gf : ∀ f, th S f → shn S f = true → gonA (wSI S 12 i w) (nI f) = false := fun f hf hsf => by
          rw [gon_hide hW (hs.i 1 rfl) (fun j hj => shT j hj q1) hf hsf]
          refine decide_eq_false (fun z => qs ?_)
          exact anc_shn hW _ hf.lt hsf i z
        have hl1 : los1 (wSI S 12 i w) = wSI S 12 i w := by
          unfold los1
          rw [if_neg]
          rw [hs.i 21 rfl]
          rcases hC.xf with q | ⟨f, f1, f2, f3, f4⟩
          · rw [q]
            unfold gonA
            rw [decide_eq_false (by decide), Bool.false_and]; decide
          · rw [f1, gf f f2 f3]; decide
        have hl3 : los (wSI S 12 i w) (rfgO S i) = wSI S 12 i w := by
          unfold los los3
          rw [hl1, if_neg]
          rw [hs.i 20 rfl, hC.c.1, gf _ hC.c.2 hC.xs]; decide
        have e : hd3 S i w = wSI S 12 i w := by
          unfold hd3
          rw [if_pos ⟨q0, q4⟩, hrS, ← q1]
          exact hl3
        rw [e, fitT]
    · rw [if_neg q4]
      by_cases q0 : w = 0
      · rw [if_pos q0]
        exact told q4 q0
      · have q1 : w = 1 := hw.resolve_left q0
        rw [if_neg q0, eo, sb]
        refine quiet ?_
        have e : hd3 S i w = S := by
          unfold hd3
          rw [if_neg (fun z => q4 z.2), if_neg (fun z => q0 z.2)]
        rw [e, hv.2.1, same (by rw [q1]; exact hb12.resolve_left q4)]
theorem C_remove (x : RC B E S h) {c : Nat} (hv : Inv S c) (hc : c < 1000000) (v : Int32) : CS B [exI, exS] (fX10_remove B v h) (cRemove S v) := by
  have hC := hv.1.1
  have hW := hC.t
  refine t2_c x hW.pw hv.2.2 v (g := fun i => nI (rmN S i)) (G := fun i => rm3 S i) (fun i hi i0 ha => ?_)
  have eref := e_refuge x.es hW hi i0
  obtain ⟨h8, a8, x8⟩ := g_forget x hW.pw hi.lt
  obtain ⟨h11, a11, x11⟩ := t_takeOut hW hi i0 x8
  have hI0 : InvT (rm2 S i) c 19 := rm2_InvT hv hi i0 (by omega)
  have hm2 : made (rm2 S i) = made S := rm2_made i
  obtain ⟨u1, u2⟩ := hW.up i0 hi
  have hrg : ∀ r, rgn S i = some r → sI (rm2 S i) 2 r = 7 ∧ th (rm2 S i) r := fun r hr => by
    have h2 := rgn_th hW hi hr
    rw [rgn_s hW.pw i0 hi.lt] at hr
    have hm : r ∈ an S (dpar S i) := List.mem_of_find?_eq_some hr
    refine ⟨by rw [rm2_i i 2 (by decide) (by decide)]; exact h2.1, (rm2_th i r).mpr ⟨h2.2, fun z => ?_⟩⟩
    have q1 := an_mem hW.pw u1.lt r hm
    have q2 := an_mem hW.pw h2.2.lt i z
    have q3 := (hW.pw.par i0 hi.lt).1
    omega
  have hrr : rgn (rm2 S i) i = rgn S i := rgn_cg (rm2_i i 3 (by decide) (by decide)) (rm2_i i 2 (by decide) (by decide)) i
  have hgg : gone (rm2 S i) i = gone S i := by
    unfold gone
    rw [rm2_l i 6 (by decide), rm2_i i 2 (by decide) (by decide)]
  have hq2 : sQ (rm2 S i) 35 = sQ S 35 := by rw [rm2_q]
  have key : ∃ h16, (if bI (shn S i) = 0 then (some h11) else (oGR 9 2 (some B) h11).bind fun x14 => (oOb 5 x14 h11).bind fun b => o2 (fX6_tellGone b (some (E i)) h11) fun _ h16 => some h16) = some h16 ∧ RW B E (tel (rm2 S i) (rgS S i) (gone S i)) (ln S) (ord (rm2 S i)) h16 := by
    rw [bI_i]
    unfold rgS
    by_cases qs : shn S i = true
    · rw [if_pos qs, if_pos qs]
      obtain ⟨h16, a16, x16⟩ := g_gone x11 hI0.1.1.pw hI0.1.2.1 hI0.2.1 hI0.2.2.1 (by omega) (show (sQ (rm2 S i) 35).length < 21 by rw [hq2]; omega) (i := i) (by rw [hm2]; exact hi.lt) (fun r hr => by
        rw [hrr] at hr
        exact ⟨(hrg r hr).2.lt, (hrg r hr).1⟩)
      rw [hrr, hgg] at x16
      exact ⟨h16, by rw [x11.p02, sb, x11.o76, sb, a16, o2s], x16⟩
    · rw [if_neg qs, if_neg qs]
      exact ⟨h11, rfl, x11⟩
  obtain ⟨h16, a16, x16⟩ := key
  have hI1 : InvT (tel (rm2 S i) (rgS S i) (gone S i)) c 20 := hI0.kTel (fun r hr => by
    unfold rgS at hr
    split at hr
    · exact hrg r hr
    · cases hr) (gone_len hC.l i)
  have hs1 := sd_tel (rm2 S i) (rgS S i) (gone S i)
  have hon := rem_Inv0 hv hi i0 ha
  have hoT : ord (rm2 S i) = ord (los (tel (rm2 S i) (rgS S i) (gone S i)) (rfgO S i)) := by
    rw [ord_sd (sd_los _ _) rfl, ord_sd hs1 rfl]
  have hk : ∀ k, k ≠ 1 → k ≠ 45 → decide (k ∉ [15, 38, 44, 45]) = true → sI (tel (rm2 S i) (rgS S i) (gone S i)) k = sI S k := fun k h1 h2 h3 => (hs1.i k h3).trans (rm2_i i k h1 h2)
  have e1 : sI (tel (rm2 S i) (rgS S i) (gone S i)) 1 = sI (rm2 S i) 1 := hs1.i 1 rfl
  have eK : sK (tel (rm2 S i) (rgS S i) (gone S i)) = sK (rm2 S i) := hs1.2.2.2
  have htT : ∀ j, th (tel (rm2 S i) (rgS S i) (gone S i)) j ↔ (th S j ∧ i ∉ an S j) := fun j => (th_cg (hs1.i 0 rfl) (hs1.i 1 rfl) j).trans (rm2_th i j)
  generalize hU : tel (rm2 S i) (rgS S i) (gone S i) = U at *
  have e20 : sI U 20 = sI S 20 := hk 20 (by decide) (by decide) rfl
  have e21 : sI U 21 = sI S 21 := hk 21 (by decide) (by decide) rfl
  have e12 : sI U 12 = sI S 12 := hk 12 (by decide) (by decide) rfl
  have e3 : sI U 3 = sI S 3 := hk 3 (by decide) (by decide) rfl
  have e0 : sI U 0 = sI S 0 := hk 0 (by decide) (by decide) rfl
  have hcU : cur U = cur S := cur_cg e20
  have hmU : made U = made S := made_cg e0
  have shU : ∀ j, shn U j = shn S j := shn_cg e3 e12
  have gf : ∀ f, th S f → shn S f = true → gonA U (nI f) = wthn S f i := fun f hf hsf => by
    rw [gon_nI (hf.l40 hW), shU, hsf, e1, rm2_1]
    by_cases q : wthn S f i = true
    · rw [if_pos ⟨hf.lt, q⟩, q, decide_eq_true rfl]; rfl
    · have q' : wthn S f i = false := by
        cases hh : wthn S f i with
        | true => exact absurd hh q
        | false => rfl
      rw [if_neg (fun z => q z.2), decide_eq_false hf.2, q']; rfl
  have gf' : ∀ f, th S f → shn S f = true → gonA U (nI f) = wthn U f i := fun f hf hsf => by rw [gf f hf hsf, wthn_cg e3]
  obtain ⟨h19, a19, x19⟩ := r_lose x16 hI1.1.1 hI1.1.2.1 hI1.2.1 (by have := hI1.2.2.2; omega) (y := i) (r := rfgO S i) (by rw [hmU]; exact hi.lt) (by
    rw [e21]
    rcases hC.xf with q | ⟨f, f1, f2, f3, f4⟩
    · exact Or.inl q
    · exact Or.inr ⟨f, by rw [hmU]; exact f2.lt, f1, gf' f f2 f3⟩) (by rw [e20, hcU]; exact hC.c.1) (by rw [hcU, hmU]; exact hC.c.2.lt) (by rw [hcU]; exact gf' _ hC.c.2 hC.xs) (fun g => by
    rw [e20, hC.c.1, gf _ hC.c.2 hC.xs] at g
    have hin : i ∈ an S (cur S) := of_decide_eq_true g
    have hxs := anc_shn hW _ hC.c.2.lt hC.xs i hin
    have hps := (shn_up hW i0 hi hxs).1
    have hh : ∀ j, hid U j = hid S j := fun j => by unfold hid; rw [e12]
    have er : rfgO S i = rfg U (dpar S i) ((sK S (dpar S i)).drop (plc S i + 1)) ((sK S (dpar S i)).take (plc S i)) := (rfg_cg (fun j _ => hh j) (fun j _ => hh j)).symm
    rw [er]
    have hKT : sK U (dpar S i) = (sK S (dpar S i)).take (plc S i) ++ (sK S (dpar S i)).drop (plc S i + 1) := by
      rw [eK, rm2_K, if_pos rfl, eraseIdx_split]
    exact rfg_in hI1.1.1 ((htT _).mpr ⟨u1, hW.not_up i0 hi⟩) (by rw [shU]; exact hps) (fun j hj => by rw [hKT]; exact List.mem_append_right _ hj) (fun j hj => by rw [hKT]; exact List.mem_append_left _ hj)) hon
  refine ⟨E, h19, ?_, ?_⟩
  · rw [x.es.ob hi.lt, sb, e_shown x.es hW.pw hi.lt, sb, sb, eref, sb, RW.p02 x, sb, RW.o76 x, sb, a8, o2s, x8.p00, sb, x8.o1, sb, a11, o2s, a16, sb, x16.p03, sb, x16.ob79, sb, a19, o2s]
  · show RC B E (rm3 S i) h19
    unfold rm3
    rw [hU]
    exact RC.ofK x19 hoT
end TR3

/-! ===== the law's arrays over the heap: reading, writing ===== -/
def LQ (B : Nat) (h : hp) (m : LY) : Prop := ∀ j, j < 5 → hT h (B + 90 + j) = lT j ∧ (∀ k, hI h (B + 90 + j) k = m.1 j k) ∧ ∀ k, hJ h (B + 90 + j) k = m.2 j k
theorem gL1 {h : hp} {a n k : Nat} (ht : hT h a = (20, n)) (hk : k < n) (hn : n < 2 ^ 31) : oIL (some a) (nI k) h = some (hI h a k) := by
  show (if (hT h a).1 = 20 ∧ inb (nI k) (hT h a).2 = true then some (hI h a (nI k).toNatClampNeg) else none) = _
  rw [ht, if_pos ⟨rfl, inb_nI hk hn⟩, nI_clamp (by omega)]
theorem gJ1 {h : hp} {a n k : Nat} (ht : hT h a = (24, n)) (hk : k < n) (hn : n < 2 ^ 31) : oJL (some a) (nI k) h = some (hJ h a k) := by
  show (if (hT h a).1 = 24 ∧ inb (nI k) (hT h a).2 = true then some (hJ h a (nI k).toNatClampNeg) else none) = _
  rw [ht, if_pos ⟨rfl, inb_nI hk hn⟩, nI_clamp (by omega)]
theorem pL1 {h : hp} {a n k : Nat} {x : Int32} (ht : hT h a = (20, n)) (hk : k < n) (hn : n < 2 ^ 31) : oIS (some a) (nI k) x h = some (wI h a k x) := by
  show (if (hT h a).1 = 20 ∧ inb (nI k) (hT h a).2 = true then some (wI h a (nI k).toNatClampNeg x) else none) = _
  rw [ht, if_pos ⟨rfl, inb_nI hk hn⟩, nI_clamp (by omega)]
theorem pJ1 {h : hp} {a n k : Nat} {x : Int64} (ht : hT h a = (24, n)) (hk : k < n) (hn : n < 2 ^ 31) : oJS (some a) (nI k) x h = some (wJ h a k x) := by
  show (if (hT h a).1 = 24 ∧ inb (nI k) (hT h a).2 = true then some (wJ h a (nI k).toNatClampNeg x) else none) = _
  rw [ht, if_pos ⟨rfl, inb_nI hk hn⟩, nI_clamp (by omega)]
theorem i60 (j : Nat) : (6 : Int32) * nI j = nI (6 * j) := by rw [show (6 : Int32) = nI 6 from rfl, nI_mul]
theorem i6r (j r : Nat) : (6 : Int32) * nI j + nI r = nI (6 * j + r) := by rw [i60, nI_add]
theorem i61 (j : Nat) : (6 : Int32) * nI j + (1 : Int32) = nI (6 * j + 1) := i6r j 1
theorem i62 (j : Nat) : (6 : Int32) * nI j + (2 : Int32) = nI (6 * j + 2) := i6r j 2
theorem i63 (j : Nat) : (6 : Int32) * nI j + (3 : Int32) = nI (6 * j + 3) := i6r j 3
theorem i64 (j : Nat) : (6 : Int32) * nI j + (4 : Int32) = nI (6 * j + 4) := i6r j 4
theorem i65 (j : Nat) : (6 : Int32) * nI j + (5 : Int32) = nI (6 * j + 5) := i6r j 5
section LQs
variable {B : Nat} {h : hp} {m : LY}
theorem LQ.n (x : LQ B h m) {k : Nat} (hk : k < 7) : oIL (some (B + 90)) (nI k) h = some (m.1 0 k) := by
  obtain ⟨h1, h2, -⟩ := x 0 (by decide)
  rw [gL1 (n := 7) h1 hk (by decide)]
  exact congrArg some (h2 k)
theorem LQ.e (x : LQ B h m) {k : Nat} (hk : k < 60) : oIL (some (B + 91)) (nI k) h = some (m.1 1 k) := by
  obtain ⟨h1, h2, -⟩ := x 1 (by decide)
  rw [gL1 (n := 60) h1 hk (by decide)]
  exact congrArg some (h2 k)
theorem LQ.c (x : LQ B h m) {k : Nat} (hk : k < 10) : oJL (some (B + 92)) (nI k) h = some (m.2 2 k) := by
  obtain ⟨h1, -, h2⟩ := x 2 (by decide)
  rw [gJ1 (n := 10) h1 hk (by decide)]
  exact congrArg some (h2 k)
theorem LQ.t (x : LQ B h m) {k : Nat} (hk : k < 20) : oJL (some (B + 93)) (nI k) h = some (m.2 3 k) := by
  obtain ⟨h1, -, h2⟩ := x 3 (by decide)
  rw [gJ1 (n := 20) h1 hk (by decide)]
  exact congrArg some (h2 k)
theorem LQ.mt (x : LQ B h m) {k : Nat} (hk : k < 10) : oIL (some (B + 94)) (nI k) h = some (m.1 4 k) := by
  obtain ⟨h1, h2, -⟩ := x 4 (by decide)
  rw [gL1 (n := 10) h1 hk (by decide)]
  exact congrArg some (h2 k)
theorem LQ.n0 (x : LQ B h m) : oIL (some (B + 90)) (0 : Int32) h = some (m.1 0 0) := x.n (k := 0) (by decide)
theorem LQ.n1 (x : LQ B h m) : oIL (some (B + 90)) (1 : Int32) h = some (m.1 0 1) := x.n (k := 1) (by decide)
theorem LQ.n2 (x : LQ B h m) : oIL (some (B + 90)) (2 : Int32) h = some (m.1 0 2) := x.n (k := 2) (by decide)
theorem LQ.n3 (x : LQ B h m) : oIL (some (B + 90)) (3 : Int32) h = some (m.1 0 3) := x.n (k := 3) (by decide)
theorem LQ.n4 (x : LQ B h m) : oIL (some (B + 90)) (4 : Int32) h = some (m.1 0 4) := x.n (k := 4) (by decide)
theorem LQ.n5 (x : LQ B h m) : oIL (some (B + 90)) (5 : Int32) h = some (m.1 0 5) := x.n (k := 5) (by decide)
theorem LQ.n6 (x : LQ B h m) : oIL (some (B + 90)) (6 : Int32) h = some (m.1 0 6) := x.n (k := 6) (by decide)
theorem LQ.e0 (x : LQ B h m) {j : Nat} (hj : j < 10) : oIL (some (B + 91)) ((6 : Int32) * nI j) h = some (m.1 1 (6 * j)) := by rw [i60]; exact x.e (by omega)
theorem LQ.e1 (x : LQ B h m) {j : Nat} (hj : j < 10) : oIL (some (B + 91)) ((6 : Int32) * nI j + (1 : Int32)) h = some (m.1 1 (6 * j + 1)) := by rw [i61]; exact x.e (by omega)
theorem LQ.e2 (x : LQ B h m) {j : Nat} (hj : j < 10) : oIL (some (B + 91)) ((6 : Int32) * nI j + (2 : Int32)) h = some (m.1 1 (6 * j + 2)) := by rw [i62]; exact x.e (by omega)
theorem LQ.e3 (x : LQ B h m) {j : Nat} (hj : j < 10) : oIL (some (B + 91)) ((6 : Int32) * nI j + (3 : Int32)) h = some (m.1 1 (6 * j + 3)) := by rw [i63]; exact x.e (by omega)
theorem LQ.e4 (x : LQ B h m) {j : Nat} (hj : j < 10) : oIL (some (B + 91)) ((6 : Int32) * nI j + (4 : Int32)) h = some (m.1 1 (6 * j + 4)) := by rw [i64]; exact x.e (by omega)
theorem LQ.e5 (x : LQ B h m) {j : Nat} (hj : j < 10) : oIL (some (B + 91)) ((6 : Int32) * nI j + (5 : Int32)) h = some (m.1 1 (6 * j + 5)) := by rw [i65]; exact x.e (by omega)
end LQs
/-! one row of ints anywhere -/
def sw (h : hp) (a : Nat) (f : Nat → Int32) : hp := (h.1, h.2.1, (fun b k => if b = a then f k else h.2.2.1 b k), h.2.2.2.1, h.2.2.2.2)
theorem sw_T (h : hp) (a : Nat) (f : Nat → Int32) (b : Nat) : hT (sw h a f) b = hT h b := rfl
theorem sw_N (h : hp) (a : Nat) (f : Nat → Int32) : hN (sw h a f) = hN h := rfl
theorem sw_Is (h : hp) (a : Nat) (f : Nat → Int32) (k : Nat) : hI (sw h a f) a k = f k := if_pos rfl
theorem sw_Io (h : hp) {a b : Nat} (f : Nat → Int32) (hb : b ≠ a) (k : Nat) : hI (sw h a f) b k = hI h b k := if_neg hb
theorem sw_J (h : hp) (a : Nat) (f : Nat → Int32) (b k : Nat) : hJ (sw h a f) b k = hJ h b k := rfl
theorem sw_R (h : hp) (a : Nat) (f : Nat → Int32) (b k : Nat) : hR (sw h a f) b k = hR h b k := rfl
theorem sw_self (h : hp) (a : Nat) : sw h a (hI h a) = h := by
  refine Prod.ext rfl (Prod.ext rfl (Prod.ext (funext fun b => funext fun k => ?_) rfl))
  show (if b = a then hI h a k else h.2.2.1 b k) = _
  by_cases q : b = a
  · rw [if_pos q, q]; rfl
  · rw [if_neg q]
theorem wI_sw (h : hp) (a : Nat) (f : Nat → Int32) (k : Nat) (v : Int32) : wI (sw h a f) a k v = sw h a (fun j => if j = k then v else f j) := by
  refine Prod.ext rfl (Prod.ext rfl (Prod.ext (funext fun b => funext fun j => ?_) rfl))
  show up2 (fun b k => if b = a then f k else h.2.2.1 b k) a k v b j = if b = a then (if j = k then v else f j) else h.2.2.1 b j
  unfold up2
  by_cases q : b = a
  · rw [if_pos q, if_pos q]
    show (if j = k then v else (if b = a then f j else h.2.2.1 b j)) = _
    rw [if_pos q]
  · rw [if_neg q, if_neg q]
    show (if b = a then f j else h.2.2.1 b j) = _
    rw [if_neg q]
theorem LQ.sw {B : Nat} {h : hp} {m : LY} (x : LQ B h m) {a : Nat} (ha : B + 95 ≤ a) (f : Nat → Int32) : LQ B (sw h a f) m := fun j hj => by
  obtain ⟨h1, h2, h3⟩ := x j hj
  exact ⟨h1, fun k => by rw [sw_Io h f (by omega)]; exact h2 k, fun k => h3 k⟩
theorem pSW {h : hp} {a n k : Nat} {f : Nat → Int32} {v : Int32} (ht : hT h a = (20, n)) (hk : k < n) (hn : n < 2 ^ 31) : oIS (some a) (nI k) v (sw h a f) = some (sw h a (fun j => if j = k then v else f j)) := by
  rw [pL1 (n := n) (by rw [sw_T]; exact ht) hk hn, wI_sw]
theorem gSW {h : hp} {a n k : Nat} {f : Nat → Int32} (ht : hT h a = (20, n)) (hk : k < n) (hn : n < 2 ^ 31) : oIL (some a) (nI k) (sw h a f) = some (f k) := by
  rw [gL1 (n := n) (by rw [sw_T]; exact ht) hk hn, sw_Is]
/-! all six arrays -/
def lu (m : LY) (j k : Nat) (v : Int32) : LY := (up2 m.1 j k v, m.2)
def lv (m : LY) (j k : Nat) (v : Int64) : LY := (m.1, up2 m.2 j k v)
theorem lu_1 (m : LY) (j k : Nat) (v : Int32) (a b : Nat) : (lu m j k v).1 a b = if a = j ∧ b = k then v else m.1 a b := up2_g _ _ _ _ _ _
theorem lu_2 (m : LY) (j k : Nat) (v : Int32) : (lu m j k v).2 = m.2 := rfl
theorem lv_1 (m : LY) (j k : Nat) (v : Int64) : (lv m j k v).1 = m.1 := rfl
theorem lv_2 (m : LY) (j k : Nat) (v : Int64) (a b : Nat) : (lv m j k v).2 a b = if a = j ∧ b = k then v else m.2 a b := up2_g _ _ _ _ _ _
def LT6 (B : Nat) (h : hp) : Prop := ∀ j, j < 6 → hT h (B + 90 + j) = lT j
theorem LT6.lq {B : Nat} {h : hp} (x : LT6 B h) (m : LY) : LQ B (lw B h m) m := fun j hj => ⟨x j (by omega), fun k => lw_I h m (by omega) k, fun k => lw_J h m (by omega) k⟩
theorem lw_wI {B : Nat} (h : hp) (m : LY) {j k : Nat} {v : Int32} (hj : j < 6) : wI (lw B h m) (B + 90 + j) k v = lw B h (lu m j k v) := by
  refine Prod.ext rfl (Prod.ext rfl (Prod.ext (funext fun b => funext fun i => ?_) (Prod.ext rfl rfl)))
  show up2 (fun a k => if B + 90 ≤ a ∧ a < B + 96 then m.1 (a - (B + 90)) k else h.2.2.1 a k) (B + 90 + j) k v b i = if B + 90 ≤ b ∧ b < B + 96 then up2 m.1 j k v (b - (B + 90)) i else h.2.2.1 b i
  rw [up2_g]
  by_cases q : B + 90 ≤ b ∧ b < B + 96
  · rw [if_pos q, up2_g, if_pos q]
    by_cases w : b = B + 90 + j ∧ i = k
    · rw [if_pos w, if_pos ⟨by omega, w.2⟩]
    · rw [if_neg w, if_neg (fun z => w ⟨by omega, z.2⟩)]
  · rw [if_neg q, if_neg (fun z => q (by omega)), if_neg q]
theorem lw_wJ {B : Nat} (h : hp) (m : LY) {j k : Nat} {v : Int64} (hj : j < 6) : wJ (lw B h m) (B + 90 + j) k v = lw B h (lv m j k v) := by
  refine Prod.ext rfl (Prod.ext rfl (Prod.ext rfl (Prod.ext rfl (funext fun b => funext fun i => ?_))))
  show up2 (fun a k => if B + 90 ≤ a ∧ a < B + 96 then m.2 (a - (B + 90)) k else h.2.2.2.2 a k) (B + 90 + j) k v b i = if B + 90 ≤ b ∧ b < B + 96 then up2 m.2 j k v (b - (B + 90)) i else h.2.2.2.2 b i
  rw [up2_g]
  by_cases q : B + 90 ≤ b ∧ b < B + 96
  · rw [if_pos q, up2_g, if_pos q]
    by_cases w : b = B + 90 + j ∧ i = k
    · rw [if_pos w, if_pos ⟨by omega, w.2⟩]
    · rw [if_neg w, if_neg (fun z => w ⟨by omega, z.2⟩)]
  · rw [if_neg q, if_neg (fun z => q (by omega)), if_neg q]
theorem lw_of {B : Nat} {h : hp} {m : LY} (x : ∀ j, j < 6 → (∀ k, hI h (B + 90 + j) k = m.1 j k) ∧ ∀ k, hJ h (B + 90 + j) k = m.2 j k) : lw B h m = h := by
  refine Prod.ext rfl (Prod.ext rfl (Prod.ext (funext fun b => funext fun i => ?_) (Prod.ext rfl (funext fun b => funext fun i => ?_))))
  · show (if B + 90 ≤ b ∧ b < B + 96 then m.1 (b - (B + 90)) i else h.2.2.1 b i) = h.2.2.1 b i
    by_cases q : B + 90 ≤ b ∧ b < B + 96
    · have := (x (b - (B + 90)) (by omega)).1 i
      rw [show B + 90 + (b - (B + 90)) = b by omega] at this
      rw [if_pos q, ← this]; rfl
    · rw [if_neg q]
  · show (if B + 90 ≤ b ∧ b < B + 96 then m.2 (b - (B + 90)) i else h.2.2.2.2 b i) = h.2.2.2.2 b i
    by_cases q : B + 90 ≤ b ∧ b < B + 96
    · have := (x (b - (B + 90)) (by omega)).2 i
      rw [show B + 90 + (b - (B + 90)) = b by omega] at this
      rw [if_pos q, ← this]; rfl
    · rw [if_neg q]
section LW
variable {B : Nat} {h : hp} {m : LY}
theorem LT6.pn (x : LT6 B h) {k : Nat} {v : Int32} (hk : k < 7) : oIS (some (B + 90)) (nI k) v (lw B h m) = some (lw B h (lu m 0 k v)) := by
  rw [pL1 (h := lw B h m) (a := B + 90) (n := 7) (show hT (lw B h m) (B + 90) = (20, 7) from x 0 (by decide)) hk (by decide)]
  exact congrArg some (lw_wI h m (j := 0) (by decide))
theorem LT6.pe (x : LT6 B h) {k : Nat} {v : Int32} (hk : k < 60) : oIS (some (B + 91)) (nI k) v (lw B h m) = some (lw B h (lu m 1 k v)) := by
  rw [pL1 (h := lw B h m) (a := B + 91) (n := 60) (show hT (lw B h m) (B + 91) = (20, 60) from x 1 (by decide)) hk (by decide)]
  exact congrArg some (lw_wI h m (j := 1) (by decide))
theorem LT6.pm (x : LT6 B h) {k : Nat} {v : Int32} (hk : k < 10) : oIS (some (B + 94)) (nI k) v (lw B h m) = some (lw B h (lu m 4 k v)) := by
  rw [pL1 (h := lw B h m) (a := B + 94) (n := 10) (show hT (lw B h m) (B + 94) = (20, 10) from x 4 (by decide)) hk (by decide)]
  exact congrArg some (lw_wI h m (j := 4) (by decide))
theorem LT6.pc (x : LT6 B h) {k : Nat} {v : Int64} (hk : k < 10) : oJS (some (B + 92)) (nI k) v (lw B h m) = some (lw B h (lv m 2 k v)) := by
  rw [pJ1 (h := lw B h m) (a := B + 92) (n := 10) (show hT (lw B h m) (B + 92) = (24, 10) from x 2 (by decide)) hk (by decide)]
  exact congrArg some (lw_wJ h m (j := 2) (by decide))
theorem LT6.pt (x : LT6 B h) {k : Nat} {v : Int64} (hk : k < 20) : oJS (some (B + 93)) (nI k) v (lw B h m) = some (lw B h (lv m 3 k v)) := by
  rw [pJ1 (h := lw B h m) (a := B + 93) (n := 20) (show hT (lw B h m) (B + 93) = (24, 20) from x 3 (by decide)) hk (by decide)]
  exact congrArg some (lw_wJ h m (j := 3) (by decide))
theorem LT6.pn1 (x : LT6 B h) {v : Int32} : oIS (some (B + 90)) (1 : Int32) v (lw B h m) = some (lw B h (lu m 0 1 v)) := x.pn (k := 1) (by decide)
theorem LT6.pn2 (x : LT6 B h) {v : Int32} : oIS (some (B + 90)) (2 : Int32) v (lw B h m) = some (lw B h (lu m 0 2 v)) := x.pn (k := 2) (by decide)
theorem LT6.pn3 (x : LT6 B h) {v : Int32} : oIS (some (B + 90)) (3 : Int32) v (lw B h m) = some (lw B h (lu m 0 3 v)) := x.pn (k := 3) (by decide)
theorem LT6.pn4 (x : LT6 B h) {v : Int32} : oIS (some (B + 90)) (4 : Int32) v (lw B h m) = some (lw B h (lu m 0 4 v)) := x.pn (k := 4) (by decide)
theorem LT6.pn5 (x : LT6 B h) {v : Int32} : oIS (some (B + 90)) (5 : Int32) v (lw B h m) = some (lw B h (lu m 0 5 v)) := x.pn (k := 5) (by decide)
theorem LT6.pn6 (x : LT6 B h) {v : Int32} : oIS (some (B + 90)) (6 : Int32) v (lw B h m) = some (lw B h (lu m 0 6 v)) := x.pn (k := 6) (by decide)
theorem LT6.pn0 (x : LT6 B h) {v : Int32} : oIS (some (B + 90)) (0 : Int32) v (lw B h m) = some (lw B h (lu m 0 0 v)) := x.pn (k := 0) (by decide)
theorem LT6.pe0 (x : LT6 B h) {j : Nat} {v : Int32} (hj : j < 10) : oIS (some (B + 91)) ((6 : Int32) * nI j) v (lw B h m) = some (lw B h (lu m 1 (6 * j) v)) := by rw [i60]; exact x.pe (by omega)
theorem LT6.pe1 (x : LT6 B h) {j : Nat} {v : Int32} (hj : j < 10) : oIS (some (B + 91)) ((6 : Int32) * nI j + (1 : Int32)) v (lw B h m) = some (lw B h (lu m 1 (6 * j + 1) v)) := by rw [i61]; exact x.pe (by omega)
theorem LT6.pe2 (x : LT6 B h) {j : Nat} {v : Int32} (hj : j < 10) : oIS (some (B + 91)) ((6 : Int32) * nI j + (2 : Int32)) v (lw B h m) = some (lw B h (lu m 1 (6 * j + 2) v)) := by rw [i62]; exact x.pe (by omega)
theorem LT6.pe3 (x : LT6 B h) {j : Nat} {v : Int32} (hj : j < 10) : oIS (some (B + 91)) ((6 : Int32) * nI j + (3 : Int32)) v (lw B h m) = some (lw B h (lu m 1 (6 * j + 3) v)) := by rw [i63]; exact x.pe (by omega)
theorem LT6.pe4 (x : LT6 B h) {j : Nat} {v : Int32} (hj : j < 10) : oIS (some (B + 91)) ((6 : Int32) * nI j + (4 : Int32)) v (lw B h m) = some (lw B h (lu m 1 (6 * j + 4) v)) := by rw [i64]; exact x.pe (by omega)
theorem LT6.pe5 (x : LT6 B h) {j : Nat} {v : Int32} (hj : j < 10) : oIS (some (B + 91)) ((6 : Int32) * nI j + (5 : Int32)) v (lw B h m) = some (lw B h (lu m 1 (6 * j + 5) v)) := by rw [i65]; exact x.pe (by omega)
end LW


def bcU (x y : Int32) : Int32 := (x.toUInt32 >>> (y.toUInt32 &&& Int32.toUInt32 31)).toInt32
def bc1 (x : Int32) : Int32 := x - (bcU x 1 &&& 1431655765)
def bc2 (x : Int32) : Int32 := (x &&& 858993459) + (bcU x 2 &&& 858993459)
def bc3 (x : Int32) : Int32 := (x + bcU x 4) &&& 252645135
def bc4 (x : Int32) : Int32 := x + bcU x 8
def bc5 (x : Int32) : Int32 := x + bcU x 16
theorem bc_tab : ∀ n, n < 127 → 0 ≤ (bc5 (bc4 (bc3 (bc2 (bc1 (nI n))))) &&& 63).toInt ∧ (bc5 (bc4 (bc3 (bc2 (bc1 (nI n))))) &&& 63).toInt ≤ 6 := by decide +kernel
theorem bc_small {x : Int32} (h : 0 ≤ x.toInt ∧ x.toInt ≤ 126) : 0 ≤ (bc5 (bc4 (bc3 (bc2 (bc1 x)))) &&& 63).toInt ∧ (bc5 (bc4 (bc3 (bc2 (bc1 x)))) &&& 63).toInt ≤ 6 := by
  obtain ⟨n, _, rfl, hn⟩ := cv_nn h.1
  exact bc_tab n (by omega)

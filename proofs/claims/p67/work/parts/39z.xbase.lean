theorem na_00 {ng ac : Int32} {f : Nat → Int32} (h1 : ng.toInt = 0) (h2 : ac.toInt = 0) : ng.toInt = na f ac.toInt.toNat := by
  rw [h2, h1]
  rfl
theorem na_copy {ng ac : Int32} {f g f' : Nat → Int32} (h : ng.toInt = na f ac.toInt.toNat) (e : f' = va_cpy f g (0 : Int32).toNatClampNeg (0 : Int32).toNatClampNeg (40 : Int32).toNatClampNeg) (hac : ac.toInt ≤ 40) : ng.toInt = na f' ac.toInt.toNat := by
  rw [h, e]
  refine (na_cong (fun j hj => ?_)).symm
  show va_cpy f g 0 0 40 j = f j
  unfold va_cpy
  rw [if_pos (by omega)]
  congr 1
  omega

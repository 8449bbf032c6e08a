/-- all numbers of a row between two bounds -/
def rg (lo hi : Int) (n : Nat) (f : Nat → Int32) : Prop := ∀ j, j < n → lo ≤ (f j).toInt ∧ (f j).toInt ≤ hi
def rgL (lo hi : Int) (n : Nat) (f : Nat → Int64) : Prop := ∀ j, j < n → lo ≤ (f j).toInt ∧ (f j).toInt ≤ hi
theorem rg_upd {lo hi : Int} {n : Nat} {f : Nat → Int32} {k : Nat} {x : Int32} (h : rg lo hi n f) (hx : lo ≤ x.toInt ∧ x.toInt ≤ hi) : rg lo hi n (upd f k x) := by
  intro j hj
  unfold upd
  split
  · exact hx
  · exact h j hj
theorem rg_weak {lo hi lo2 hi2 : Int} {n : Nat} {f : Nat → Int32} (h : rg lo hi n f) (h1 : lo2 ≤ lo) (h2 : hi ≤ hi2) : rg lo2 hi2 n f := fun j hj => ⟨Int.le_trans h1 (h j hj).1, Int.le_trans (h j hj).2 h2⟩
theorem cv_nn {x : Int32} (h : 0 ≤ x.toInt) : ∃ n : Nat, n < 2 ^ 31 ∧ x = nI n ∧ x.toInt = n := by
  obtain ⟨n, hn, e⟩ := cv_of h
  exact ⟨n, hn, e, by rw [e]; exact nI_toInt hn⟩
theorem cv_bv {x : Int32} (h : 0 ≤ x.toInt) : x.toBitVec.toNat = x.toInt.toNat := by
  obtain ⟨n, hn, e, e2⟩ := cv_nn h
  rw [e2, e, pk_tn (by omega)]
  rfl
theorem cv_ofbv {x : Int32} {n : Nat} (h : x.toBitVec.toNat = n) (hn : n < 2 ^ 31) : x.toInt = n := by
  have e : x = nI n := by
    apply Int32.toBitVec_inj.mp
    apply BitVec.eq_of_toNat_eq
    rw [h, pk_tn (by omega)]
  rw [e]
  exact nI_toInt hn
theorem cv_andR {x y : Int32} {m : Int} (h0 : 0 ≤ y.toInt) (h : y.toInt ≤ m) : 0 ≤ (x &&& y).toInt ∧ (x &&& y).toInt ≤ m := by
  have h1 : (x &&& y).toBitVec.toNat = x.toBitVec.toNat &&& y.toBitVec.toNat := by rw [Int32.toBitVec_and, BitVec.toNat_and]
  have h2 : x.toBitVec.toNat &&& y.toBitVec.toNat ≤ y.toBitVec.toNat := Nat.and_le_right
  have h3 := cv_bv h0
  obtain ⟨n, hn, e, e2⟩ := cv_nn h0
  have h4 := cv_ofbv h1 (by omega)
  omega
theorem cv_andL {x y : Int32} {m : Int} (h0 : 0 ≤ x.toInt) (h : x.toInt ≤ m) : 0 ≤ (x &&& y).toInt ∧ (x &&& y).toInt ≤ m := by
  rw [Int32.and_comm]
  exact cv_andR h0 h
theorem cv_or {x y : Int32} (k : Nat) (hk : k < 31) (hx0 : 0 ≤ x.toInt) (hx : x.toInt < 2 ^ k) (hy0 : 0 ≤ y.toInt) (hy : y.toInt < 2 ^ k) : 0 ≤ (x ||| y).toInt ∧ (x ||| y).toInt < 2 ^ k := by
  have h1 : (x ||| y).toBitVec.toNat = x.toBitVec.toNat ||| y.toBitVec.toNat := by rw [Int32.toBitVec_or, BitVec.toNat_or]
  have ex := cv_bv hx0
  have ey := cv_bv hy0
  have hp : ((2 : Int) ^ k) = ((2 ^ k : Nat) : Int) := by simp
  have h2 : x.toBitVec.toNat ||| y.toBitVec.toNat < 2 ^ k := Nat.or_lt_two_pow (by omega) (by omega)
  have h3 : (2 : Nat) ^ k < 2 ^ 31 := Nat.pow_lt_pow_right (by decide) hk
  have h4 := cv_ofbv h1 (by omega)
  omega
theorem cv_xor {x y : Int32} (k : Nat) (hk : k < 31) (hx0 : 0 ≤ x.toInt) (hx : x.toInt < 2 ^ k) (hy0 : 0 ≤ y.toInt) (hy : y.toInt < 2 ^ k) : 0 ≤ (x ^^^ y).toInt ∧ (x ^^^ y).toInt < 2 ^ k := by
  have h1 : (x ^^^ y).toBitVec.toNat = x.toBitVec.toNat ^^^ y.toBitVec.toNat := by rw [Int32.toBitVec_xor, BitVec.toNat_xor]
  have ex := cv_bv hx0
  have ey := cv_bv hy0
  have hp : ((2 : Int) ^ k) = ((2 ^ k : Nat) : Int) := by simp
  have h2 : x.toBitVec.toNat ^^^ y.toBitVec.toNat < 2 ^ k := Nat.xor_lt_two_pow (by omega) (by omega)
  have h3 : (2 : Nat) ^ k < 2 ^ 31 := Nat.pow_lt_pow_right (by decide) hk
  have h4 := cv_ofbv h1 (by omega)
  omega
theorem cv_shl1t : ∀ n, n < 31 → ((1 : Int32) <<< (nI n &&& 31)).toInt = 2 ^ n := by decide
theorem cv_shl1 {y : Int32} (lo hi : Nat) (h : lo ≤ hi) (hh : hi ≤ 30) (h0 : (lo : Int) ≤ y.toInt) (h1 : y.toInt ≤ (hi : Int)) : (2 : Int) ^ lo ≤ ((1 : Int32) <<< (y &&& 31)).toInt ∧ ((1 : Int32) <<< (y &&& 31)).toInt ≤ 2 ^ hi := by
  obtain ⟨n, hn, e, e2⟩ := cv_nn (x := y) (by omega)
  rw [e, cv_shl1t n (by omega)]
  have a1 : (2 : Nat) ^ lo ≤ 2 ^ n := Nat.pow_le_pow_right (by decide) (by omega)
  have a2 : (2 : Nat) ^ n ≤ 2 ^ hi := Nat.pow_le_pow_right (by decide) (by omega)
  constructor
  · exact_mod_cast a1
  · exact_mod_cast a2
theorem cv_negI {x : Int32} (h : -2147483648 < x.toInt) : (-x).toInt = -x.toInt := by
  rw [Int32.toInt_neg]
  refine cv_bmod ?_ ?_
  · have := x.toInt_lt; omega
  · omega
theorem cv_divI {x y : Int32} (h0 : 0 ≤ x.toInt) (hy : 0 < y.toInt) : (x / y).toInt = x.toInt / y.toInt := by
  obtain ⟨a, ha, e, e2⟩ := cv_nn h0
  obtain ⟨b, hb, g, g2⟩ := cv_nn (x := y) (by omega)
  rw [e2, g2, e, g, pk_div ha (by omega) hb, nI_toInt (by have := Nat.div_le_self a b; omega)]
  exact_mod_cast rfl
theorem cv_remI {x y : Int32} (h0 : 0 ≤ x.toInt) (hy : 0 < y.toInt) : (x - x / y * y).toInt = x.toInt % y.toInt := by
  obtain ⟨a, ha, e, e2⟩ := cv_nn h0
  obtain ⟨b, hb, g, g2⟩ := cv_nn (x := y) (by omega)
  rw [e2, g2, e, g, pk_rem ha (by omega) hb, nI_toInt (by have := Nat.mod_le a b; omega)]
  exact_mod_cast rfl
theorem cv_rem {x y : Int32} (h0 : 0 ≤ x.toInt) (hy : 0 < y.toInt) : 0 ≤ (x - x / y * y).toInt ∧ (x - x / y * y).toInt < y.toInt ∧ (x - x / y * y).toInt ≤ x.toInt := by
  rw [cv_remI h0 hy]
  exact ⟨Int.emod_nonneg _ (by omega), Int.emod_lt_of_pos _ hy, by
    obtain ⟨a, ha⟩ := Int.eq_ofNat_of_zero_le h0
    obtain ⟨b, hb⟩ := Int.eq_ofNat_of_zero_le (show 0 ≤ y.toInt by omega)
    rw [ha, hb]
    exact_mod_cast Nat.mod_le a b⟩
theorem cv_l2i {x : Int64} (h1 : -2147483648 ≤ x.toInt) (h2 : x.toInt < 2147483648) : x.toInt32.toInt = x.toInt := by
  rw [Int64.toInt_toInt32]
  exact cv_bmod h1 h2
theorem cv_shr {x y : Int32} (h0 : 0 ≤ x.toInt) : 0 ≤ (x >>> (y &&& 31)).toInt ∧ (x >>> (y &&& 31)).toInt ≤ x.toInt := by
  obtain ⟨n, hn, e, e2⟩ := cv_nn h0
  obtain ⟨k, hk⟩ : ∃ k, ((y &&& 31).toBitVec.smod 32).toNat = k := ⟨_, rfl⟩
  have h := pk_shrN hn (y &&& 31) k hk
  have hq := Nat.div_le_self n (2 ^ k)
  have h3 : (nI (n / 2 ^ k)).toInt = ((n / 2 ^ k : Nat) : Int) := nI_toInt (by omega)
  generalize n / 2 ^ k = q at h hq h3
  have e4 : (x >>> (y &&& 31)).toInt = (q : Int) := by rw [e, h, h3]
  omega
theorem cv_min {x y : Int32} : (if y < x then y else x).toInt ≤ x.toInt ∧ (if y < x then y else x).toInt ≤ y.toInt ∧ ((if y < x then y else x).toInt = x.toInt ∨ (if y < x then y else x).toInt = y.toInt) := by
  split
  · rename_i h; have := cv_lt h; omega
  · rename_i h; have := cv_nlt h; omega
theorem cv_max {x y : Int32} : x.toInt ≤ (if x < y then y else x).toInt ∧ y.toInt ≤ (if x < y then y else x).toInt ∧ ((if x < y then y else x).toInt = x.toInt ∨ (if x < y then y else x).toInt = y.toInt) := by
  split
  · rename_i h; have := cv_lt h; omega
  · rename_i h; have := cv_nlt h; omega
theorem cv_abs {x : Int32} (h : -2147483648 < x.toInt) : ((if 0 ≤ x then x else 0 - x).toInt = x.toInt ∧ 0 ≤ x.toInt) ∨ ((if 0 ≤ x then x else 0 - x).toInt = -x.toInt ∧ x.toInt < 0) := by
  have h0 : (0 : Int32).toInt = 0 := rfl
  have hr := x.toInt_lt
  split
  · rename_i g; have := cv_le g; left; omega
  · rename_i g
    have := cv_nle g
    right
    rw [cv_subI (by omega) (by omega)]
    omega
theorem cv_lo {x : Int32} : -2147483648 ≤ x.toInt := x.le_toInt
theorem cv_hi {x : Int32} : x.toInt ≤ 2147483647 := by have := x.toInt_lt; omega
theorem cv_nz {x : Int32} (h0 : 0 ≤ x.toInt) (h1 : x.toInt ≤ 1) : narrow .boolean (.int x) = .int x := by
  rcases (show x.toInt = 0 ∨ x.toInt = 1 by omega) with h | h
  · have e : x = 0 := Int32.toInt_inj.mp h
    rw [e]
    rfl
  · have e : x = 1 := Int32.toInt_inj.mp h
    rw [e]
    rfl
theorem rg_cpy {lo hi : Int} {n0 n1 sp dp n : Nat} {f g : Nat → Int32} (hf : rg lo hi n0 f) (hg : rg lo hi n1 g) (h : sp + n ≤ n0) : rg lo hi n1 (va_cpy f g sp dp n) := by
  intro j hj
  unfold va_cpy
  split
  · exact hf _ (by omega)
  · exact hg j hj
theorem rg_cpyall {lo hi : Int} {n0 n1 sp dp n : Nat} {f g : Nat → Int32} (hf : rg lo hi n0 f) (h : sp + n ≤ n0) (h2 : dp = 0 ∧ n = n1) : rg lo hi n1 (va_cpy f g sp dp n) := by
  intro j hj
  unfold va_cpy
  rw [if_pos (by omega)]
  exact hf _ (by omega)
/-- acts: -1 (a night), or 8 times a place and another one -/
def ra (n : Nat) (f : Nat → Int32) : Prop := ∀ j, j < n → (f j).toInt = -1 ∨ (0 ≤ (f j).toInt ∧ (f j).toInt ≤ 54 ∧ (f j).toInt % 8 ≤ 6)
theorem ra_upd {n : Nat} {f : Nat → Int32} {k : Nat} {x : Int32} (h : ra n f) (hx : x.toInt = -1 ∨ (0 ≤ x.toInt ∧ x.toInt ≤ 54 ∧ x.toInt % 8 ≤ 6)) : ra n (upd f k x) := by
  intro j hj
  unfold upd
  split
  · exact hx
  · exact h j hj
theorem ra_cpyall {n0 n1 sp dp n : Nat} {f g : Nat → Int32} (hf : ra n0 f) (h : sp + n ≤ n0) (h2 : dp = 0 ∧ n = n1) : ra n1 (va_cpy f g sp dp n) := by
  intro j hj
  unfold va_cpy
  rw [if_pos (by omega)]
  exact hf _ (by omega)
/-- how many of the first n acts are nights -/
def na (f : Nat → Int32) : Nat → Int
  | 0 => 0
  | n + 1 => na f n + (if (f n).toInt = -1 then 1 else 0)
theorem na_le (f : Nat → Int32) : ∀ n, 0 ≤ na f n ∧ na f n ≤ n
  | 0 => ⟨Int.le_refl _, Int.le_refl _⟩
  | n + 1 => by
    have h := na_le f n
    show 0 ≤ na f n + _ ∧ na f n + _ ≤ _
    split <;> omega
theorem na_cong {f g : Nat → Int32} : ∀ {n : Nat}, (∀ j, j < n → g j = f j) → na g n = na f n
  | 0, _ => rfl
  | n + 1, h => by
    show na g n + _ = na f n + _
    rw [na_cong (fun j hj => h j (by omega)), h n (by omega)]
theorem na_upd (f : Nat → Int32) (n : Nat) (x : Int32) : na (upd f n x) (n + 1) = na f n + (if x.toInt = -1 then 1 else 0) := by
  show na (upd f n x) n + _ = _
  rw [na_cong (f := f) (fun j hj => pk_un (by omega)), pk_us]
theorem na_night {ng ac ng' ac' x : Int32} {f f' : Nat → Int32} (h : ng.toInt = na f ac.toInt.toNat) (hf : f' = upd f ac.toNatClampNeg x) (hx : x = -1) (h0 : 0 ≤ ac.toInt) (hac : ac'.toInt = ac.toInt + 1) (hng : ng'.toInt = ng.toInt + 1) : ng'.toInt = na f' ac'.toInt.toNat := by
  rw [hf, show ac'.toInt.toNat = ac.toInt.toNat + 1 by omega]
  show _ = na (upd f ac.toInt.toNat x) _
  rw [na_upd, hx, hng, h]
  rfl
theorem na_swap {ng ac ac' x : Int32} {f f' : Nat → Int32} (h : ng.toInt = na f ac.toInt.toNat) (hf : f' = upd f ac.toNatClampNeg x) (hx : x.toInt ≠ -1) (h0 : 0 ≤ ac.toInt) (hac : ac'.toInt = ac.toInt + 1) : ng.toInt = na f' ac'.toInt.toNat := by
  rw [hf, show ac'.toInt.toNat = ac.toInt.toNat + 1 by omega]
  show _ = na (upd f ac.toInt.toNat x) _
  rw [na_upd, if_neg hx, h]
  omega
theorem na_undoN {ng ac ng' ac' x : Int32} {f : Nat → Int32} (h : ng.toInt = na f ac.toInt.toNat) (hf : x = f ac'.toNatClampNeg) (hx : x.toInt = -1) (h0 : 1 ≤ ac.toInt) (hac : ac'.toInt = ac.toInt - 1) (hng : ng'.toInt = ng.toInt - 1) : ng'.toInt = na f ac'.toInt.toNat := by
  rw [show ac.toInt.toNat = ac'.toInt.toNat + 1 by omega] at h
  have h2 : na f (ac'.toInt.toNat + 1) = na f ac'.toInt.toNat + (if (f ac'.toInt.toNat).toInt = -1 then 1 else 0) := rfl
  have h3 : (f ac'.toInt.toNat).toInt = -1 := by rw [← hx, hf]; rfl
  rw [h2, if_pos h3] at h
  omega
theorem na_undoS {ng ac ac' x : Int32} {f : Nat → Int32} (h : ng.toInt = na f ac.toInt.toNat) (hf : x = f ac'.toNatClampNeg) (hx : x.toInt ≠ -1) (h0 : 1 ≤ ac.toInt) (hac : ac'.toInt = ac.toInt - 1) : ng.toInt = na f ac'.toInt.toNat := by
  rw [show ac.toInt.toNat = ac'.toInt.toNat + 1 by omega] at h
  have h2 : na f (ac'.toInt.toNat + 1) = na f ac'.toInt.toNat + (if (f ac'.toInt.toNat).toInt = -1 then 1 else 0) := rfl
  have h3 : (f ac'.toInt.toNat).toInt ≠ -1 := by
    intro q
    apply hx
    rw [hf]
    exact q
  rw [h2, if_neg h3] at h
  omega
theorem cv_loL {x : Int64} : -9223372036854775808 ≤ x.toInt := x.le_toInt
theorem cv_hiL {x : Int64} : x.toInt ≤ 9223372036854775807 := by have := x.toInt_lt; omega
theorem cv_shlc {x s : Int32} (k : Nat) (hs : ((s &&& 31).toBitVec.smod 32).toNat = k) (h0 : 0 ≤ x.toInt) (h : x.toInt * 2 ^ k < 2147483648) : (x <<< (s &&& 31)).toInt = x.toInt * 2 ^ k := by
  obtain ⟨n, hn, e, e2⟩ := cv_nn h0
  rw [e2] at h ⊢
  have hp : ((n : Int) * 2 ^ k) = ((n * 2 ^ k : Nat) : Int) := by rw [Int.natCast_mul, Int.natCast_pow]; rfl
  rw [hp] at h ⊢
  have h1 : n * 2 ^ k < 2147483648 := Int.ofNat_lt.mp h
  rw [e, pk_shlN (s &&& 31) k hs (by omega), nI_toInt (by omega)]

/-- the bits of the first n numbers -/
def sb (f : Nat → Int64) : Nat → Int32
  | 0 => 0
  | n + 1 => sb f n ||| ((1 : Int32) <<< ((f n).toInt32 &&& 31))
/-- a row of all HEADS -/
def tok (pl ln : Int32) (f : Nat → Int64) : Prop := ln.toInt = pl.toInt ∧ (∀ j : Nat, (j : Int) < pl.toInt → 0 ≤ (f j).toInt ∧ (f j).toInt < pl.toInt) ∧ sb f pl.toInt.toNat = ((1 : Int32) <<< (pl &&& 31)) - 1
def tokI (pl i : Int) (f : Nat → Int64) : Prop := ∀ j : Nat, (j : Int) < i → 0 ≤ (f j).toInt ∧ (f j).toInt < pl
theorem tokI_zero {pl : Int} {f : Nat → Int64} : tokI pl 0 f := fun j h => by omega
theorem tokI_step {pl : Int} {i j : Int32} {f : Nat → Int64} {y : Int64} (h : tokI pl i.toInt f) (ey : y = f i.toNatClampNeg) (h0 : 0 ≤ i.toInt) (hj : j.toInt = i.toInt + 1) (hy : 0 ≤ y.toInt ∧ y.toInt < pl) : tokI pl j.toInt f := by
  intro k hk
  by_cases q : (k : Int) < i.toInt
  · exact h k q
  · have e : k = i.toNatClampNeg := by
      show k = i.toInt.toNat
      omega
    rw [e, ← ey]
    exact hy
theorem sb_step {i j u u' a b : Int32} {f : Nat → Int64} {y : Int64} (h : u = sb f i.toInt.toNat) (ey : y = f i.toNatClampNeg) (ea : a = y.toInt32) (eb : b = (1 : Int32) <<< (a &&& 31)) (eu : u' = u ||| b) (h0 : 0 ≤ i.toInt) (hj : j.toInt = i.toInt + 1) : u' = sb f j.toInt.toNat := by
  rw [show j.toInt.toNat = i.toInt.toNat + 1 by omega]
  show u' = sb f i.toInt.toNat ||| ((1 : Int32) <<< ((f i.toInt.toNat).toInt32 &&& 31))
  rw [eu, h, eb, ea, ey]
  rfl
theorem tok_out {pl ln i : Int32} {f : Nat → Int64} {y : Int64} (ey : y = f i.toNatClampNeg) (h0 : 0 ≤ i.toInt) (hi : i.toInt < pl.toInt) (hy : y.toInt < 0 ∨ pl.toInt ≤ y.toInt) : ¬ tok pl ln f := by
  intro h
  have q := h.2.1 i.toNatClampNeg (by show ((i.toInt.toNat : Nat) : Int) < _; omega)
  rw [← ey] at q
  omega
theorem tok_bits {pl ln i u a b : Int32} {f : Nat → Int64} (h : u = sb f i.toInt.toNat) (ea : a = (1 : Int32) <<< (pl &&& 31)) (eb : b = a - 1) (hi : i.toInt = pl.toInt) (hu : u.toInt ≠ b.toInt) : ¬ tok pl ln f := by
  intro q
  apply hu
  rw [h, hi, q.2.2, eb, ea]
theorem tok_in {pl ln i u a b : Int32} {f : Nat → Int64} (h : u = sb f i.toInt.toNat) (ht : tokI pl.toInt i.toInt f) (ea : a = (1 : Int32) <<< (pl &&& 31)) (eb : b = a - 1) (hl : ln.toInt = pl.toInt) (hi : i.toInt = pl.toInt) (hu : u.toInt = b.toInt) : tok pl ln f := by
  refine ⟨hl, fun j hj => ht j (by omega), ?_⟩
  rw [← hi, ← h, Int32.toInt_inj.mp hu, eb, ea]
/-- what slide() and its like read -/
def TOK (p pl : Int32) (fm fl : Nat → Int32) (n0 n1 n2 n3 : Nat → Int64) : Prop := pl.toInt ≠ 0 ∧ ((p.toInt = 0 ∧ (fm 0).toInt ≠ 0 ∧ tok pl (fl 0) n0) ∨ (p.toInt = 1 ∧ (fm 1).toInt ≠ 0 ∧ tok pl (fl 1) n1) ∨ (p.toInt = 2 ∧ (fm 2).toInt ≠ 0 ∧ tok pl (fl 2) n2) ∨ (p.toInt = 3 ∧ (fm 3).toInt ≠ 0 ∧ tok pl (fl 3) n3))
section TK
variable {p pl : Int32} {fm fl : Nat → Int32} {n0 n1 n2 n3 : Nat → Int64}
theorem TOK.b (h : TOK p pl fm fl n0 n1 n2 n3) : 0 ≤ p.toInt ∧ p.toInt < 4 ∧ pl.toInt ≠ 0 := by
  obtain ⟨h0, ⟨h1, -⟩ | ⟨h1, -⟩ | ⟨h1, -⟩ | ⟨h1, -⟩⟩ := h <;> exact ⟨by omega, by omega, h0⟩
theorem TOK.at0 (h : TOK p pl fm fl n0 n1 n2 n3) (hp : p.toInt = 0) : (fm 0).toInt ≠ 0 ∧ tok pl (fl 0) n0 := by
  obtain ⟨h0, ⟨h1, h2⟩ | ⟨h1, h2⟩ | ⟨h1, h2⟩ | ⟨h1, h2⟩⟩ := h <;> first | exact h2 | (exfalso; omega)
theorem TOK.at1 (h : TOK p pl fm fl n0 n1 n2 n3) (hp : p.toInt = 1) : (fm 1).toInt ≠ 0 ∧ tok pl (fl 1) n1 := by
  obtain ⟨h0, ⟨h1, h2⟩ | ⟨h1, h2⟩ | ⟨h1, h2⟩ | ⟨h1, h2⟩⟩ := h <;> first | exact h2 | (exfalso; omega)
theorem TOK.at2 (h : TOK p pl fm fl n0 n1 n2 n3) (hp : p.toInt = 2) : (fm 2).toInt ≠ 0 ∧ tok pl (fl 2) n2 := by
  obtain ⟨h0, ⟨h1, h2⟩ | ⟨h1, h2⟩ | ⟨h1, h2⟩ | ⟨h1, h2⟩⟩ := h <;> first | exact h2 | (exfalso; omega)
theorem TOK.at3 (h : TOK p pl fm fl n0 n1 n2 n3) (hp : p.toInt = 3) : (fm 3).toInt ≠ 0 ∧ tok pl (fl 3) n3 := by
  obtain ⟨h0, ⟨h1, h2⟩ | ⟨h1, h2⟩ | ⟨h1, h2⟩ | ⟨h1, h2⟩⟩ := h <;> first | exact h2 | (exfalso; omega)
theorem TOK.mk0 (h : pl.toInt ≠ 0) (hp : p.toInt = 0) (hm : (fm 0).toInt ≠ 0) (ht : tok pl (fl 0) n0) : TOK p pl fm fl n0 n1 n2 n3 := ⟨h, Or.inl ⟨hp, hm, ht⟩⟩
theorem TOK.mk1 (h : pl.toInt ≠ 0) (hp : p.toInt = 1) (hm : (fm 1).toInt ≠ 0) (ht : tok pl (fl 1) n1) : TOK p pl fm fl n0 n1 n2 n3 := ⟨h, Or.inr (Or.inl ⟨hp, hm, ht⟩)⟩
theorem TOK.mk2 (h : pl.toInt ≠ 0) (hp : p.toInt = 2) (hm : (fm 2).toInt ≠ 0) (ht : tok pl (fl 2) n2) : TOK p pl fm fl n0 n1 n2 n3 := ⟨h, Or.inr (Or.inr (Or.inl ⟨hp, hm, ht⟩))⟩
theorem TOK.mk3 (h : pl.toInt ≠ 0) (hp : p.toInt = 3) (hm : (fm 3).toInt ≠ 0) (ht : tok pl (fl 3) n3) : TOK p pl fm fl n0 n1 n2 n3 := ⟨h, Or.inr (Or.inr (Or.inr ⟨hp, hm, ht⟩))⟩
end TK

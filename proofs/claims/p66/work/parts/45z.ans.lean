/-- what write(), paste(), back() answer, by what the SLOTS and IMAGES hold -/
def wrs (p0 p1 : Int32) (fm fl : Nat → Int32) : Int32 := if 0 ≤ p0.toInt ∧ p0.toInt < 4 then (if (fm p0.toNatClampNeg).toInt = 0 then -6 else if 0 ≤ p1.toInt ∧ p1.toInt < (fl p0.toNatClampNeg).toInt then 0 else -7) else -2
def pst (p0 p1 p2 p3 p4 : Int32) (fm fl fw : Nat → Int32) : Int32 := if (0 ≤ p0.toInt ∧ p0.toInt < 4) ∧ (0 ≤ p2.toInt ∧ p2.toInt < 4) then (if (fm p0.toNatClampNeg).toInt = 0 ∨ (fm p2.toNatClampNeg).toInt = 0 then -6 else if (fw p0.toNatClampNeg).toInt ≠ (fw p2.toNatClampNeg).toInt then -8 else if 0 ≤ p1.toInt ∧ 0 ≤ p3.toInt ∧ 0 ≤ p4.toInt ∧ p1.toInt + p4.toInt ≤ (fl p0.toNatClampNeg).toInt ∧ p3.toInt + p4.toInt ≤ (fl p2.toNatClampNeg).toInt then 0 else -7) else -2
def bks (p0 : Int32) (fk : Nat → Int32) : Int32 := if 0 ≤ p0.toInt ∧ p0.toInt ≤ 2 then (if (fk p0.toNatClampNeg).toInt = 0 then -6 else 0) else -2
def ims (p0 : Int32) : Int32 := if 0 ≤ p0.toInt ∧ p0.toInt ≤ 2 then 0 else -2
def rws (p0 p1 p2 : Int32) : Int32 := if (0 ≤ p0.toInt ∧ p0.toInt < 4) ∧ (0 ≤ p1.toInt ∧ p1.toInt < 4) ∧ p2.toInt ≤ 60 then (if p2.toInt < 0 then -3 else 0) else -2
/-- what image() and row() do to them -/
def kq (p : Int32) (f f' : Nat → Int32) : Prop := (0 ≤ p.toInt ∧ p.toInt ≤ 2 → f' = upd f p.toNatClampNeg 1) ∧ (¬ (0 ≤ p.toInt ∧ p.toInt ≤ 2) → f' = f)
def rwq (p0 p1 p2 : Int32) (fm fl fw fm' fl' fw' : Nat → Int32) : Prop := ((0 ≤ p0.toInt ∧ p0.toInt < 4) ∧ (0 ≤ p1.toInt ∧ p1.toInt < 4) ∧ 0 ≤ p2.toInt ∧ p2.toInt ≤ 60 → fm' = upd fm p0.toNatClampNeg 1 ∧ fl' = upd fl p0.toNatClampNeg p2 ∧ fw' = upd fw p0.toNatClampNeg p1) ∧ (¬ ((0 ≤ p0.toInt ∧ p0.toInt < 4) ∧ (0 ≤ p1.toInt ∧ p1.toInt < 4) ∧ 0 ≤ p2.toInt ∧ p2.toInt ≤ 60) → fm' = fm ∧ fl' = fl ∧ fw' = fw)
theorem cv_sum {x y : Int32} {n : Nat} (h0 : 0 ≤ x.toInt) (h1 : 0 ≤ y.toInt) (h : x.toInt + y.toInt ≤ n) : x.toNatClampNeg + y.toNatClampNeg ≤ n := by
  show x.toInt.toNat + y.toInt.toNat ≤ n
  omega

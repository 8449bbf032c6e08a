theorem cv_01 {x : Int32} (h : 0 ≤ x.toInt ∧ x.toInt ≤ 1) : x = 0 ∨ x = 1 := by
  rcases (show x.toInt = 0 ∨ x.toInt = 1 by omega) with c | c
  · exact Or.inl (Int32.toInt_inj.mp c)
  · exact Or.inr (Int32.toInt_inj.mp c)

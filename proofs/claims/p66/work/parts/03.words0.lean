/-- all the words of the tables that a call keeps -/
def uU : List Cond := lw_tbl.filter goodWord
theorem uU_in {w : Cond} (h : w ∈ uU) : w ∈ lw_tbl := (List.mem_filter.mp h).1
theorem uU_good {w : Cond} (h : w ∈ uU) : (w.onTables && w.keeps) = true ∨ ∃ ty, w = .arrayClass ty := good_of_word (List.mem_filter.mp h).2
theorem ut1 {w : Cond} (h : w ∈ tables_1_1) (g : goodWord w = true) : w ∈ uU := List.mem_filter.mpr ⟨List.mem_append_right _ (show w ∈ tables_1 from List.mem_append_left _ h), g⟩
theorem ut2 {w : Cond} (h : w ∈ tables_1_2) (g : goodWord w = true) : w ∈ uU := List.mem_filter.mpr ⟨List.mem_append_right _ (show w ∈ tables_1 from List.mem_append_right _ (List.mem_append_left _ h)), g⟩
theorem ut3 {w : Cond} (h : w ∈ tables_1_3) (g : goodWord w = true) : w ∈ uU := List.mem_filter.mpr ⟨List.mem_append_right _ (show w ∈ tables_1 from List.mem_append_right _ (List.mem_append_right _ (List.mem_append_left _ h))), g⟩
theorem ut4 {w : Cond} (h : w ∈ tables_1_4) (g : goodWord w = true) : w ∈ uU := List.mem_filter.mpr ⟨List.mem_append_right _ (show w ∈ tables_1 from List.mem_append_right _ (List.mem_append_right _ (List.mem_append_right _ (List.mem_append_left _ h)))), g⟩
theorem ut5 {w : Cond} (h : w ∈ tables_1_5) (g : goodWord w = true) : w ∈ uU := List.mem_filter.mpr ⟨List.mem_append_right _ (show w ∈ tables_1 from List.mem_append_right _ (List.mem_append_right _ (List.mem_append_right _ (List.mem_append_right _ (List.mem_append_left _ h))))), g⟩
theorem ut6 {w : Cond} (h : w ∈ tables_1_6) (g : goodWord w = true) : w ∈ uU := List.mem_filter.mpr ⟨List.mem_append_right _ (show w ∈ tables_1 from List.mem_append_right _ (List.mem_append_right _ (List.mem_append_right _ (List.mem_append_right _ (List.mem_append_right _ (List.mem_append_left _ h)))))), g⟩
theorem ut7 {w : Cond} (h : w ∈ tables_1_7) (g : goodWord w = true) : w ∈ uU := List.mem_filter.mpr ⟨List.mem_append_right _ (show w ∈ tables_1 from List.mem_append_right _ (List.mem_append_right _ (List.mem_append_right _ (List.mem_append_right _ (List.mem_append_right _ (List.mem_append_right _ (List.mem_append_left _ h))))))), g⟩
theorem ut8 {w : Cond} (h : w ∈ tables_1_8) (g : goodWord w = true) : w ∈ uU := List.mem_filter.mpr ⟨List.mem_append_right _ (show w ∈ tables_1 from List.mem_append_right _ (List.mem_append_right _ (List.mem_append_right _ (List.mem_append_right _ (List.mem_append_right _ (List.mem_append_right _ (List.mem_append_right _ (List.mem_append_left _ h)))))))), g⟩
theorem ut9 {w : Cond} (h : w ∈ tables_1_9) (g : goodWord w = true) : w ∈ uU := List.mem_filter.mpr ⟨List.mem_append_right _ (show w ∈ tables_1 from List.mem_append_right _ (List.mem_append_right _ (List.mem_append_right _ (List.mem_append_right _ (List.mem_append_right _ (List.mem_append_right _ (List.mem_append_right _ (List.mem_append_right _ (h))))))))), g⟩
theorem us1 {q : MethodName × Nat} (h : q ∈ lw_privs_1) : Cond.selects q.1.cls q.1 q.1 ∈ uU := List.mem_filter.mpr ⟨List.mem_append_left _ (List.mem_map.mpr ⟨q, (show q ∈ lw_privs from List.mem_append_left _ h), rfl⟩), rfl⟩
theorem us2 {q : MethodName × Nat} (h : q ∈ lw_privs_2) : Cond.selects q.1.cls q.1 q.1 ∈ uU := List.mem_filter.mpr ⟨List.mem_append_left _ (List.mem_map.mpr ⟨q, (show q ∈ lw_privs from List.mem_append_right _ (List.mem_append_left _ h)), rfl⟩), rfl⟩
theorem us3 {q : MethodName × Nat} (h : q ∈ lw_privs_3) : Cond.selects q.1.cls q.1 q.1 ∈ uU := List.mem_filter.mpr ⟨List.mem_append_left _ (List.mem_map.mpr ⟨q, (show q ∈ lw_privs from List.mem_append_right _ (List.mem_append_right _ (List.mem_append_left _ h))), rfl⟩), rfl⟩
theorem us4 {q : MethodName × Nat} (h : q ∈ lw_privs_4) : Cond.selects q.1.cls q.1 q.1 ∈ uU := List.mem_filter.mpr ⟨List.mem_append_left _ (List.mem_map.mpr ⟨q, (show q ∈ lw_privs from List.mem_append_right _ (List.mem_append_right _ (List.mem_append_right _ (List.mem_append_left _ h)))), rfl⟩), rfl⟩
theorem us5 {q : MethodName × Nat} (h : q ∈ lw_privs_5) : Cond.selects q.1.cls q.1 q.1 ∈ uU := List.mem_filter.mpr ⟨List.mem_append_left _ (List.mem_map.mpr ⟨q, (show q ∈ lw_privs from List.mem_append_right _ (List.mem_append_right _ (List.mem_append_right _ (List.mem_append_right _ (List.mem_append_left _ h))))), rfl⟩), rfl⟩
theorem us6 {q : MethodName × Nat} (h : q ∈ lw_privs_6) : Cond.selects q.1.cls q.1 q.1 ∈ uU := List.mem_filter.mpr ⟨List.mem_append_left _ (List.mem_map.mpr ⟨q, (show q ∈ lw_privs from List.mem_append_right _ (List.mem_append_right _ (List.mem_append_right _ (List.mem_append_right _ (List.mem_append_right _ (List.mem_append_left _ h)))))), rfl⟩), rfl⟩
theorem us7 {q : MethodName × Nat} (h : q ∈ lw_privs_7) : Cond.selects q.1.cls q.1 q.1 ∈ uU := List.mem_filter.mpr ⟨List.mem_append_left _ (List.mem_map.mpr ⟨q, (show q ∈ lw_privs from List.mem_append_right _ (List.mem_append_right _ (List.mem_append_right _ (List.mem_append_right _ (List.mem_append_right _ (List.mem_append_right _ (h))))))), rfl⟩), rfl⟩
abbrev wk (y : MethodName) (c : ByteArray) (n : Nat) (r : Option FieldType) : List Cond := Cond.code y c n r :: uU
theorem gdI {y : MethodName} {c : ByteArray} {n : Nat} {r : Option FieldType} (h5 : Cond.code y c n r ∈ uU) : GoodIn uU (wk y c n r) := by
  intro w hw
  rcases List.mem_cons.mp hw with rfl | h
  · exact ⟨h5, uU_good h5⟩
  · exact ⟨h, uU_good h⟩
theorem gdV {own : String} {idx : Nat} {C : String} {y : MethodName} {c : ByteArray} {n : Nat} {r : Option FieldType} (h1 : Cond.methodLink own idx y ∈ uU) (h2 : Cond.instanceMethod y ∈ uU) (h3 : Cond.selects C y y ∈ uU) (h4 : Cond.initialized C ∈ uU) (h5 : Cond.code y c n r ∈ uU) : GoodIn uU (wsV own idx C y (wk y c n r)) := by
  intro w hw
  rcases List.mem_append.mp hw with h | h
  · have hm : w ∈ uU := by
      simp only [List.mem_cons, List.not_mem_nil, or_false] at h
      rcases h with rfl | rfl | rfl | rfl <;> assumption
    exact ⟨hm, uU_good hm⟩
  · exact gdI h5 w h
theorem gdS {own : String} {idx : Nat} {y : MethodName} {c : ByteArray} {n : Nat} {r : Option FieldType} (h1 : Cond.methodLink own idx y ∈ uU) (h2 : Cond.static y ∈ uU) (h4 : Cond.initialized y.cls ∈ uU) (h5 : Cond.code y c n r ∈ uU) : GoodIn uU (va_wsS own idx y (wk y c n r)) := by
  intro w hw
  rcases List.mem_append.mp hw with h | h
  · have hm : w ∈ uU := by
      simp only [List.mem_cons, List.not_mem_nil, or_false] at h
      rcases h with rfl | rfl | rfl <;> assumption
    exact ⟨hm, uU_good hm⟩
  · exact gdI h5 w h

/- X12_in -/
set_option maxHeartbeats 4000000 in
set_option maxRecDepth 100000 in
theorem m_in (l : Launch) (dC : Nat → ClassId) (dI : Nat → Nat → Nat) (cyI cyB cyJ cyZ cyH cyN : ClassId) (p0 p1 p2 : Int64) : Met l yX12_in (wk yX12_in cX12_in 6 (some .boolean)) ({ frames := 1, cells := 0, slots := 0, locals := 60 }) (va_Pc [.long p0, .long p1, .long p2] (fun _ => True)) (vp_Si (fun r : Int32 => r = (if (p1.toInt ≤ p0.toInt ∧ p0.toInt ≤ p2.toInt) then 1 else 0))) 0 0 (fun _ => False) := by
  refine Met.ofW (cc := cX12_in) (maxL := 6) (ret := (some .boolean)) (by decide) rfl ?_
  intro p e s m args below meth c s₁ B hml hv
  obtain ⟨rfl, -⟩ := hv
  have hx := B.exec
  have hb := B.bytes
  have hr := B.returns
  have hts : ∀ w ∈ uU, w.before ([.long p0, .long p1, .long p2] : List Value).toArray s = true := fun w h => atoms_spec (ws := wk yX12_in cX12_in 6 (some .boolean)) B.pre w (List.mem_cons_of_mem _ h)
  have hown : s.vm.findClass RX12 = some m.cls := findClass_of_methodNamed B.named
  have hlocks := B.notSynchronized
  have hl := lv_entry ([.long p0, .long p1, .long p2]) (n := 6) (Nat.le_of_ble_eq_true rfl)
  rw [lg_entry_eq]
  generalize (lg_sl ([.long p0, .long p1, .long p2]) ++ List.replicate (6 - (lg_sl ([.long p0, .long p1, .long p2])).length) Slot.unset).toArray = ls at hl ⊢
  have hl : lv_has ls 6 [(0, .long p0), (2, .long p1), (4, .long p2)] := hl
  obtain ⟨Q9, hQ9⟩ : ∃ Q9 : State → Prop, Q9 = MQ below (vp_Si (fun r : Int32 => r = (if (p1.toInt ≤ p0.toInt ∧ p0.toInt ≤ p2.toInt) then 1 else 0))) ([.long p0, .long p1, .long p2] : List Value).toArray s 0 0 (fun _ => False) := ⟨_, rfl⟩
  rw [← hQ9]
  refine lv_lload_n hx hb dX12_in_0 rfl (lv_at hl 0 rfl) ?_
  refine lv_lload_n hx hb dX12_in_1 rfl (lv_at hl 1 rfl) ?_
  refine W.lcmp hx hb dX12_in_2 ?_
  refine lv_if_lt (tgt := 17) hx hb dX12_in_3 (by decide) (fun c_1 => ?_) (fun c_1 => ?_)
  · have c_1 : p0.toInt < p1.toInt := cv_clt c_1
    refine lv_iconst (v := 0) hx hb dX12_in_17 (by decide) ?_
    rw [hQ9]
    exact W.zret (v := 0) (ty := .boolean) hx hb hr rfl (fun t ht hW => ⟨0, rfl, (by first | (rw [if_pos (by omega)]; done) | (rw [if_neg (by omega)]; done) | (rw [if_neg (by omega), if_pos (by omega)]; done) | (rw [if_neg (by omega), if_neg (by omega)]; done)), ht⟩) (fun q h => by cases h) dX12_in_18
  · have c_1 : p1.toInt ≤ p0.toInt := cv_cnlt c_1
    refine lv_lload_n hx hb dX12_in_6 rfl (lv_at hl 0 rfl) ?_
    refine lv_lload hx hb dX12_in_7 (lv_at hl 2 rfl) ?_
    refine W.lcmp hx hb dX12_in_9 ?_
    refine lv_if_gt (tgt := 17) hx hb dX12_in_10 (by decide) (fun c_2 => ?_) (fun c_2 => ?_)
    · have c_2 : p2.toInt < p0.toInt := cv_cgt c_2
      refine lv_iconst (v := 0) hx hb dX12_in_17 (by decide) ?_
      rw [hQ9]
      exact W.zret (v := 0) (ty := .boolean) hx hb hr rfl (fun t ht hW => ⟨0, rfl, (by first | (rw [if_pos (by omega)]; done) | (rw [if_neg (by omega)]; done) | (rw [if_neg (by omega), if_pos (by omega)]; done) | (rw [if_neg (by omega), if_neg (by omega)]; done)), ht⟩) (fun q h => by cases h) dX12_in_18
    · have c_2 : p0.toInt ≤ p2.toInt := cv_cngt c_2
      refine lv_iconst (v := 1) hx hb dX12_in_13 (by decide) ?_
      refine lv_goto (tgt := 18) hx hb dX12_in_14 (by decide) ?_
      rw [hQ9]
      exact W.zret (v := 1) (ty := .boolean) hx hb hr rfl (fun t ht hW => ⟨1, rfl, (by first | (rw [if_pos (by omega)]; done) | (rw [if_neg (by omega)]; done) | (rw [if_neg (by omega), if_pos (by omega)]; done) | (rw [if_neg (by omega), if_neg (by omega)]; done)), ht⟩) (fun q h => by cases h) dX12_in_18

/- X12_isSlot -/
set_option maxHeartbeats 4000000 in
set_option maxRecDepth 100000 in
theorem m_isSlot (l : Launch) (dC : Nat → ClassId) (dI : Nat → Nat → Nat) (cyI cyB cyJ cyZ cyH cyN : ClassId) (p0 : Int32) : Met l yX12_isSlot (wk yX12_isSlot cX12_isSlot 1 (some .boolean)) ({ frames := 2, cells := 0, slots := 0, locals := 85 }) (va_Pc [.int p0] (fun _ => True)) (vp_Si (fun r : Int32 => r = (if (0 ≤ p0.toInt ∧ p0.toInt ≤ 3) then 1 else 0))) 0 0 (fun _ => False) := by
  refine Met.ofW (cc := cX12_isSlot) (maxL := 1) (ret := (some .boolean)) (by decide) rfl ?_
  intro p e s m args below meth c s₁ B hml hv
  obtain ⟨rfl, -⟩ := hv
  have hx := B.exec
  have hb := B.bytes
  have hr := B.returns
  have hts : ∀ w ∈ uU, w.before ([.int p0] : List Value).toArray s = true := fun w h => atoms_spec (ws := wk yX12_isSlot cX12_isSlot 1 (some .boolean)) B.pre w (List.mem_cons_of_mem _ h)
  have hown : s.vm.findClass RX12 = some m.cls := findClass_of_methodNamed B.named
  have hlocks := B.notSynchronized
  have hl := lv_entry ([.int p0]) (n := 1) (Nat.le_of_ble_eq_true rfl)
  rw [lg_entry_eq]
  generalize (lg_sl ([.int p0]) ++ List.replicate (1 - (lg_sl ([.int p0])).length) Slot.unset).toArray = ls at hl ⊢
  have hl : lv_has ls 1 [(0, .int p0)] := hl
  obtain ⟨Q9, hQ9⟩ : ∃ Q9 : State → Prop, Q9 = MQ below (vp_Si (fun r : Int32 => r = (if (0 ≤ p0.toInt ∧ p0.toInt ≤ 3) then 1 else 0))) ([.int p0] : List Value).toArray s 0 0 (fun _ => False) := ⟨_, rfl⟩
  rw [← hQ9]
  refine lv_iload_n hx hb dX12_isSlot_0 rfl (lv_at hl 0 rfl) ?_
  obtain ⟨y_1, ey_1⟩ : ∃ z : Int64, z = p0.toInt64 := ⟨_, rfl⟩
  have fy_1 : y_1.toInt = p0.toInt := by rw [ey_1]; exact Int32.toInt_toInt64 _
  refine lv_i2l (v := y_1) hx hb dX12_isSlot_1 ey_1.symm ?_
  refine lv_lconst (v := 0) hx hb dX12_isSlot_2 (by decide) ?_
  refine lv_ldc2 (v := 3) hx hb hown (hts _ wd_6_177) dX12_isSlot_3 ?_
  refine vp_callSi (va_Run.run (va_runS (As := [.long y_1, .long 0, .long 3]) (rest := []) ⟨hx, hb, hml, hown, hts⟩ (m_in l dC dI cyI cyB cyJ cyZ cyH cyN y_1 0 3) (va_cwS 3 hts (gdS wd_6_178 wd_6_179 wd_1_11 wd_6_180) rfl rfl rfl (by decide +kernel) ⟨Nat.le_of_ble_eq_true rfl, Nat.le_of_ble_eq_true rfl⟩) ⟨fun a U g mk q => q, fun U hU hW => ⟨rfl, trivial⟩⟩ rfl rfl hl.1 rfl (lv_room (Nat.le_of_ble_eq_true rfl)) dX12_isSlot_6 ⟨Nat.le_of_ble_eq_true rfl, Nat.le_of_ble_eq_true rfl⟩)) (fun r_2 hw => ?_)
  by_cases c_3 : ((0 : Int64).toInt ≤ y_1.toInt ∧ y_1.toInt ≤ (3 : Int64).toInt)
  · rw [if_pos c_3] at hw; subst hw; have c_3 : (0 ≤ y_1.toInt ∧ y_1.toInt ≤ 3) := c_3
    rw [hQ9]
    exact W.zret (v := 1) (ty := .boolean) hx hb hr rfl (fun t ht hW => ⟨1, rfl, (by first | (rw [if_pos (by omega)]; done) | (rw [if_neg (by omega)]; done) | (rw [if_neg (by omega), if_pos (by omega)]; done) | (rw [if_neg (by omega), if_neg (by omega)]; done)), ht⟩) (fun q h => by cases h) dX12_isSlot_9
  · rw [if_neg c_3] at hw; subst hw; have c_3 : ¬ (0 ≤ y_1.toInt ∧ y_1.toInt ≤ 3) := c_3
    rw [hQ9]
    exact W.zret (v := 0) (ty := .boolean) hx hb hr rfl (fun t ht hW => ⟨0, rfl, (by first | (rw [if_pos (by omega)]; done) | (rw [if_neg (by omega)]; done) | (rw [if_neg (by omega), if_pos (by omega)]; done) | (rw [if_neg (by omega), if_neg (by omega)]; done)), ht⟩) (fun q h => by cases h) dX12_isSlot_9

/- X12_isHalf -/
set_option maxHeartbeats 4000000 in
set_option maxRecDepth 100000 in
theorem m_isHalf (l : Launch) (dC : Nat → ClassId) (dI : Nat → Nat → Nat) (cyI cyB cyJ cyZ cyH cyN : ClassId) (p0 : Int32) : Met l yX12_isHalf (wk yX12_isHalf cX12_isHalf 1 (some .boolean)) ({ frames := 2, cells := 0, slots := 0, locals := 85 }) (va_Pc [.int p0] (fun _ => True)) (vp_Si (fun r : Int32 => r = (if (0 ≤ p0.toInt ∧ p0.toInt ≤ 1) then 1 else 0))) 0 0 (fun _ => False) := by
  refine Met.ofW (cc := cX12_isHalf) (maxL := 1) (ret := (some .boolean)) (by decide) rfl ?_
  intro p e s m args below meth c s₁ B hml hv
  obtain ⟨rfl, -⟩ := hv
  have hx := B.exec
  have hb := B.bytes
  have hr := B.returns
  have hts : ∀ w ∈ uU, w.before ([.int p0] : List Value).toArray s = true := fun w h => atoms_spec (ws := wk yX12_isHalf cX12_isHalf 1 (some .boolean)) B.pre w (List.mem_cons_of_mem _ h)
  have hown : s.vm.findClass RX12 = some m.cls := findClass_of_methodNamed B.named
  have hlocks := B.notSynchronized
  have hl := lv_entry ([.int p0]) (n := 1) (Nat.le_of_ble_eq_true rfl)
  rw [lg_entry_eq]
  generalize (lg_sl ([.int p0]) ++ List.replicate (1 - (lg_sl ([.int p0])).length) Slot.unset).toArray = ls at hl ⊢
  have hl : lv_has ls 1 [(0, .int p0)] := hl
  obtain ⟨Q9, hQ9⟩ : ∃ Q9 : State → Prop, Q9 = MQ below (vp_Si (fun r : Int32 => r = (if (0 ≤ p0.toInt ∧ p0.toInt ≤ 1) then 1 else 0))) ([.int p0] : List Value).toArray s 0 0 (fun _ => False) := ⟨_, rfl⟩
  rw [← hQ9]
  refine lv_iload_n hx hb dX12_isHalf_0 rfl (lv_at hl 0 rfl) ?_
  obtain ⟨y_1, ey_1⟩ : ∃ z : Int64, z = p0.toInt64 := ⟨_, rfl⟩
  have fy_1 : y_1.toInt = p0.toInt := by rw [ey_1]; exact Int32.toInt_toInt64 _
  refine lv_i2l (v := y_1) hx hb dX12_isHalf_1 ey_1.symm ?_
  refine lv_lconst (v := 0) hx hb dX12_isHalf_2 (by decide) ?_
  refine lv_lconst (v := 1) hx hb dX12_isHalf_3 (by decide) ?_
  refine vp_callSi (va_Run.run (va_runS (As := [.long y_1, .long 0, .long 1]) (rest := []) ⟨hx, hb, hml, hown, hts⟩ (m_in l dC dI cyI cyB cyJ cyZ cyH cyN y_1 0 1) (va_cwS 3 hts (gdS wd_6_178 wd_6_179 wd_1_11 wd_6_180) rfl rfl rfl (by decide +kernel) ⟨Nat.le_of_ble_eq_true rfl, Nat.le_of_ble_eq_true rfl⟩) ⟨fun a U g mk q => q, fun U hU hW => ⟨rfl, trivial⟩⟩ rfl rfl hl.1 rfl (lv_room (Nat.le_of_ble_eq_true rfl)) dX12_isHalf_4 ⟨Nat.le_of_ble_eq_true rfl, Nat.le_of_ble_eq_true rfl⟩)) (fun r_2 hw => ?_)
  by_cases c_3 : ((0 : Int64).toInt ≤ y_1.toInt ∧ y_1.toInt ≤ (1 : Int64).toInt)
  · rw [if_pos c_3] at hw; subst hw; have c_3 : (0 ≤ y_1.toInt ∧ y_1.toInt ≤ 1) := c_3
    rw [hQ9]
    exact W.zret (v := 1) (ty := .boolean) hx hb hr rfl (fun t ht hW => ⟨1, rfl, (by first | (rw [if_pos (by omega)]; done) | (rw [if_neg (by omega)]; done) | (rw [if_neg (by omega), if_pos (by omega)]; done) | (rw [if_neg (by omega), if_neg (by omega)]; done)), ht⟩) (fun q h => by cases h) dX12_isHalf_7
  · rw [if_neg c_3] at hw; subst hw; have c_3 : ¬ (0 ≤ y_1.toInt ∧ y_1.toInt ≤ 1) := c_3
    rw [hQ9]
    exact W.zret (v := 0) (ty := .boolean) hx hb hr rfl (fun t ht hW => ⟨0, rfl, (by first | (rw [if_pos (by omega)]; done) | (rw [if_neg (by omega)]; done) | (rw [if_neg (by omega), if_pos (by omega)]; done) | (rw [if_neg (by omega), if_neg (by omega)]; done)), ht⟩) (fun q h => by cases h) dX12_isHalf_7

/- X12_isLater -/
set_option maxHeartbeats 4000000 in
set_option maxRecDepth 100000 in
theorem m_isLater (l : Launch) (dC : Nat → ClassId) (dI : Nat → Nat → Nat) (cyI cyB cyJ cyZ cyH cyN : ClassId) (p0 : Int32) : Met l yX12_isLater (wk yX12_isLater cX12_isLater 1 (some .boolean)) ({ frames := 2, cells := 0, slots := 0, locals := 85 }) (va_Pc [.int p0] (fun _ => True)) (vp_Si (fun r : Int32 => r = (if (0 ≤ p0.toInt ∧ p0.toInt ≤ 1000000000) then 1 else 0))) 0 0 (fun _ => False) := by
  refine Met.ofW (cc := cX12_isLater) (maxL := 1) (ret := (some .boolean)) (by decide) rfl ?_
  intro p e s m args below meth c s₁ B hml hv
  obtain ⟨rfl, -⟩ := hv
  have hx := B.exec
  have hb := B.bytes
  have hr := B.returns
  have hts : ∀ w ∈ uU, w.before ([.int p0] : List Value).toArray s = true := fun w h => atoms_spec (ws := wk yX12_isLater cX12_isLater 1 (some .boolean)) B.pre w (List.mem_cons_of_mem _ h)
  have hown : s.vm.findClass RX12 = some m.cls := findClass_of_methodNamed B.named
  have hlocks := B.notSynchronized
  have hl := lv_entry ([.int p0]) (n := 1) (Nat.le_of_ble_eq_true rfl)
  rw [lg_entry_eq]
  generalize (lg_sl ([.int p0]) ++ List.replicate (1 - (lg_sl ([.int p0])).length) Slot.unset).toArray = ls at hl ⊢
  have hl : lv_has ls 1 [(0, .int p0)] := hl
  obtain ⟨Q9, hQ9⟩ : ∃ Q9 : State → Prop, Q9 = MQ below (vp_Si (fun r : Int32 => r = (if (0 ≤ p0.toInt ∧ p0.toInt ≤ 1000000000) then 1 else 0))) ([.int p0] : List Value).toArray s 0 0 (fun _ => False) := ⟨_, rfl⟩
  rw [← hQ9]
  refine lv_iload_n hx hb dX12_isLater_0 rfl (lv_at hl 0 rfl) ?_
  obtain ⟨y_1, ey_1⟩ : ∃ z : Int64, z = p0.toInt64 := ⟨_, rfl⟩
  have fy_1 : y_1.toInt = p0.toInt := by rw [ey_1]; exact Int32.toInt_toInt64 _
  refine lv_i2l (v := y_1) hx hb dX12_isLater_1 ey_1.symm ?_
  refine lv_lconst (v := 0) hx hb dX12_isLater_2 (by decide) ?_
  refine lv_ldc2 (v := 1000000000) hx hb hown (hts _ wd_7_131) dX12_isLater_3 ?_
  refine vp_callSi (va_Run.run (va_runS (As := [.long y_1, .long 0, .long 1000000000]) (rest := []) ⟨hx, hb, hml, hown, hts⟩ (m_in l dC dI cyI cyB cyJ cyZ cyH cyN y_1 0 1000000000) (va_cwS 3 hts (gdS wd_6_178 wd_6_179 wd_1_11 wd_6_180) rfl rfl rfl (by decide +kernel) ⟨Nat.le_of_ble_eq_true rfl, Nat.le_of_ble_eq_true rfl⟩) ⟨fun a U g mk q => q, fun U hU hW => ⟨rfl, trivial⟩⟩ rfl rfl hl.1 rfl (lv_room (Nat.le_of_ble_eq_true rfl)) dX12_isLater_6 ⟨Nat.le_of_ble_eq_true rfl, Nat.le_of_ble_eq_true rfl⟩)) (fun r_2 hw => ?_)
  by_cases c_3 : ((0 : Int64).toInt ≤ y_1.toInt ∧ y_1.toInt ≤ (1000000000 : Int64).toInt)
  · rw [if_pos c_3] at hw; subst hw; have c_3 : (0 ≤ y_1.toInt ∧ y_1.toInt ≤ 1000000000) := c_3
    rw [hQ9]
    exact W.zret (v := 1) (ty := .boolean) hx hb hr rfl (fun t ht hW => ⟨1, rfl, (by first | (rw [if_pos (by omega)]; done) | (rw [if_neg (by omega)]; done) | (rw [if_neg (by omega), if_pos (by omega)]; done) | (rw [if_neg (by omega), if_neg (by omega)]; done)), ht⟩) (fun q h => by cases h) dX12_isLater_9
  · rw [if_neg c_3] at hw; subst hw; have c_3 : ¬ (0 ≤ y_1.toInt ∧ y_1.toInt ≤ 1000000000) := c_3
    rw [hQ9]
    exact W.zret (v := 0) (ty := .boolean) hx hb hr rfl (fun t ht hW => ⟨0, rfl, (by first | (rw [if_pos (by omega)]; done) | (rw [if_neg (by omega)]; done) | (rw [if_neg (by omega), if_pos (by omega)]; done) | (rw [if_neg (by omega), if_neg (by omega)]; done)), ht⟩) (fun q h => by cases h) dX12_isLater_9

/- X12_isBit -/
set_option maxHeartbeats 4000000 in
set_option maxRecDepth 100000 in
theorem m_isBit (l : Launch) (dC : Nat → ClassId) (dI : Nat → Nat → Nat) (cyI cyB cyJ cyZ cyH cyN : ClassId) (p0 p1 : Int32) : Met l yX12_isBit (wk yX12_isBit cX12_isBit 2 (some .boolean)) ({ frames := 1, cells := 0, slots := 0, locals := 60 }) (va_Pc [.int p0, .int p1] (fun _ => True)) (vp_Si (fun r : Int32 => r = (if ((p0 >>> (p1 &&& 31)) &&& 1 = 1) then 1 else 0))) 0 0 (fun _ => False) := by
  refine Met.ofW (cc := cX12_isBit) (maxL := 2) (ret := (some .boolean)) (by decide) rfl ?_
  intro p e s m args below meth c s₁ B hml hv
  obtain ⟨rfl, -⟩ := hv
  have hx := B.exec
  have hb := B.bytes
  have hr := B.returns
  have hts : ∀ w ∈ uU, w.before ([.int p0, .int p1] : List Value).toArray s = true := fun w h => atoms_spec (ws := wk yX12_isBit cX12_isBit 2 (some .boolean)) B.pre w (List.mem_cons_of_mem _ h)
  have hown : s.vm.findClass RX12 = some m.cls := findClass_of_methodNamed B.named
  have hlocks := B.notSynchronized
  have hl := lv_entry ([.int p0, .int p1]) (n := 2) (Nat.le_of_ble_eq_true rfl)
  rw [lg_entry_eq]
  generalize (lg_sl ([.int p0, .int p1]) ++ List.replicate (2 - (lg_sl ([.int p0, .int p1])).length) Slot.unset).toArray = ls at hl ⊢
  have hl : lv_has ls 2 [(0, .int p0), (1, .int p1)] := hl
  obtain ⟨Q9, hQ9⟩ : ∃ Q9 : State → Prop, Q9 = MQ below (vp_Si (fun r : Int32 => r = (if ((p0 >>> (p1 &&& 31)) &&& 1 = 1) then 1 else 0))) ([.int p0, .int p1] : List Value).toArray s 0 0 (fun _ => False) := ⟨_, rfl⟩
  rw [← hQ9]
  refine lv_iload_n hx hb dX12_isBit_0 rfl (lv_at hl 0 rfl) ?_
  refine lv_iload_n hx hb dX12_isBit_1 rfl (lv_at hl 1 rfl) ?_
  refine lv_ishr hx hb dX12_isBit_2 ?_
  refine lv_topi (fun x_1 ex_1 => ?_)
  refine lv_iconst (v := 1) hx hb dX12_isBit_3 (by decide) ?_
  refine lv_iand hx hb dX12_isBit_4 ?_
  refine lv_topi (fun x_2 ex_2 => ?_)
  have fx_2 : 0 ≤ x_2.toInt ∧ x_2.toInt ≤ 1 := by rw [ex_2]; exact cv_andR (by decide) (by decide)
  refine lv_iconst (v := 1) hx hb dX12_isBit_5 (by decide) ?_
  refine lv_icmp_ne (tgt := 13) hx hb dX12_isBit_6 (by decide) (fun c_3 => ?_) (fun c_3 => ?_)
  · have c_3 : x_2.toInt ≠ 1 := cv_ne c_3
    refine lv_iconst (v := 0) hx hb dX12_isBit_13 (by decide) ?_
    rw [hQ9]
    exact W.zret (v := 0) (ty := .boolean) hx hb hr rfl (fun t ht hW => ⟨0, rfl, (by rw [if_neg (by rw [← ex_1, ← ex_2]; exact fun h9 => absurd (congrArg Int32.toInt h9) (by have : (1 : Int32).toInt = 1 := rfl; omega))]), ht⟩) (fun q h => by cases h) dX12_isBit_14
  · have c_3 : x_2.toInt = 1 := cv_eq c_3
    refine lv_iconst (v := 1) hx hb dX12_isBit_9 (by decide) ?_
    refine lv_goto (tgt := 14) hx hb dX12_isBit_10 (by decide) ?_
    rw [hQ9]
    exact W.zret (v := 1) (ty := .boolean) hx hb hr rfl (fun t ht hW => ⟨1, rfl, (by rw [if_pos (by rw [← ex_1, ← ex_2]; exact Int32.toInt_inj.mp (by have : (1 : Int32).toInt = 1 := rfl; omega))]), ht⟩) (fun q h => by cases h) dX12_isBit_14

/- X12_sizeOf -/
set_option maxHeartbeats 4000000 in
set_option maxRecDepth 100000 in
theorem m_sizeOf (l : Launch) (dC : Nat → ClassId) (dI : Nat → Nat → Nat) (cyI cyB cyJ cyZ cyH cyN : ClassId) (p0 : Int32) (g0 : 0 ≤ p0.toInt ∧ p0.toInt ≤ 127) : Met l yX12_sizeOf (wk yX12_sizeOf cX12_sizeOf 3 (some .int)) ({ frames := 1, cells := 0, slots := 0, locals := 60 }) (va_Pc [.int p0] (fun _ => True)) (vp_Si (fun r : Int32 => r.toInt = cb p0 7)) 0 0 (fun _ => False) := by
  refine Met.ofW (cc := cX12_sizeOf) (maxL := 3) (ret := (some .int)) (by decide) rfl ?_
  intro p e s m args below meth c s₁ B hml hv
  obtain ⟨rfl, -⟩ := hv
  have hx := B.exec
  have hb := B.bytes
  have hr := B.returns
  have hts : ∀ w ∈ uU, w.before ([.int p0] : List Value).toArray s = true := fun w h => atoms_spec (ws := wk yX12_sizeOf cX12_sizeOf 3 (some .int)) B.pre w (List.mem_cons_of_mem _ h)
  have hown : s.vm.findClass RX12 = some m.cls := findClass_of_methodNamed B.named
  have hlocks := B.notSynchronized
  have hl := lv_entry ([.int p0]) (n := 3) (Nat.le_of_ble_eq_true rfl)
  rw [lg_entry_eq]
  generalize (lg_sl ([.int p0]) ++ List.replicate (3 - (lg_sl ([.int p0])).length) Slot.unset).toArray = ls at hl ⊢
  have hl : lv_has ls 3 [(0, .int p0)] := hl
  obtain ⟨Q9, hQ9⟩ : ∃ Q9 : State → Prop, Q9 = MQ below (vp_Si (fun r : Int32 => r.toInt = cb p0 7)) ([.int p0] : List Value).toArray s 0 0 (fun _ => False) := ⟨_, rfl⟩
  rw [← hQ9]
  have hp9 := cb_le p0 7
  refine lv_iconst (v := 0) hx hb dX12_sizeOf_0 (by decide) ?_
  refine lv_istore_n (lv' := [(1, .int 0), (0, .int p0)]) hx hb dX12_sizeOf_1 rfl hl (by decide) rfl (fun ls hl => ?_)
  refine lv_iload_n hx hb dX12_sizeOf_2 rfl (lv_at hl 1 rfl) ?_
  refine lv_istore_n (lv' := [(2, .int p0), (1, .int 0), (0, .int p0)]) hx hb dX12_sizeOf_3 rfl hl (by decide) rfl (fun ls hl => ?_)
  have key_3 : ∀ (nkey_3 : Nat) (u_1 : Int32) (u_2 : Int32) (ls : Array Slot), (0 ≤ u_1.toInt ∧ u_1.toInt ≤ 7) → (0 ≤ u_2.toInt ∧ u_2.toInt ≤ 127) → (u_1.toInt + cb u_2 7 = cb p0 7) → lv_has ls 3 [(2, .int u_2), (1, .int u_1), (0, .int p0)] → (u_2.toInt).toNat < nkey_3 → W p l e ({ frames := 1, cells := 0, slots := 0, locals := 60 }) s m ([.int p0] : List Value).toArray below meth c s.heap [] 0 0 Q9 (F0 m 4 ls []) := by
    intro nkey_3
    induction nkey_3 with
    | zero => intro u_1 u_2 ls hu_1 hu_2 hcb9 hl hnkey_3; exact absurd hnkey_3 (Nat.not_lt_zero _)
    | succ nkey_3 ihkey_3 =>
      intro u_1 u_2 ls hu_1 hu_2 hcb9 hl hnkey_3
      refine lv_iload_n hx hb dX12_sizeOf_4 rfl (lv_at hl 0 rfl) ?_
      refine lv_if_eq (tgt := 20) hx hb dX12_sizeOf_5 (by decide) (fun c_4 => ?_) (fun c_4 => ?_)
      · have c_4 : u_2.toInt = 0 := cv_eq c_4
        refine lv_iload_n hx hb dX12_sizeOf_20 rfl (lv_at hl 1 rfl) ?_
        rw [hQ9]
        exact W.iret (v := u_1) hx hb hr (fun t ht hW => ⟨u_1, rfl, (by have h9 : cb u_2 7 = 0 := (by rw [Int32.toInt_inj.mp (show u_2.toInt = (0 : Int32).toInt from by assumption)]; decide); omega), ht⟩) (fun q h => by cases h) dX12_sizeOf_21
      · have c_4 : u_2.toInt ≠ 0 := cv_ne c_4
        obtain ⟨x_5, ex_5⟩ : ∃ y : Int32, y = u_1 + 1 := ⟨_, rfl⟩
        refine lv_iinc (v := x_5) (lv' := [(1, .int x_5), (2, .int u_2), (0, .int p0)]) hx hb dX12_sizeOf_8 hl (k := 1) rfl (by rw [ex_5]; rfl) (by decide) rfl (fun ls hl => ?_)
        have fx_5 : x_5.toInt = u_1.toInt + 1 := by rw [ex_5]; exact cv_addI (by have : (1 : Int32).toInt = 1 := rfl; omega) (by have : (1 : Int32).toInt = 1 := rfl; omega)
        refine lv_iload_n hx hb dX12_sizeOf_11 rfl (lv_at hl 1 rfl) ?_
        refine lv_iload_n hx hb dX12_sizeOf_12 rfl (lv_at hl 1 rfl) ?_
        refine lv_iconst (v := 1) hx hb dX12_sizeOf_13 (by decide) ?_
        refine lv_isub hx hb dX12_sizeOf_14 ?_
        refine lv_topi (fun x_6 ex_6 => ?_)
        have fx_6 : x_6.toInt = u_2.toInt - 1 := by rw [ex_6]; exact cv_subI (by have : (1 : Int32).toInt = 1 := rfl; omega) (by have : (1 : Int32).toInt = 1 := rfl; omega)
        refine lv_iand hx hb dX12_sizeOf_15 ?_
        refine lv_topi (fun x_7 ex_7 => ?_)
        have fx_7 : 0 ≤ x_7.toInt ∧ x_7.toInt ≤ x_6.toInt := by rw [ex_7]; exact cv_andR (by omega) (Int.le_refl _)
        refine lv_istore_n (lv' := [(2, .int x_7), (1, .int x_5), (0, .int p0)]) hx hb dX12_sizeOf_16 rfl hl (by decide) rfl (fun ls hl => ?_)
        refine lv_goto (tgt := 4) hx hb dX12_sizeOf_17 (by decide) ?_
        have hl9 := cb_lowI (by assumption) ex_7 (by omega) (by omega)
        have hn9 := cb_le x_7 7
        exact ihkey_3 x_5 x_7 _ (by omega) (by omega) (by omega) (lv_sub hl [0, 1, 2] rfl) (by omega)
  exact key_3 _ 0 p0 _ (by decide) (by omega) (show 0 + cb p0 7 = cb p0 7 from by omega) (lv_sub hl [0, 1, 2] rfl) (Nat.lt_succ_self _)

/- X12_places -/
set_option maxHeartbeats 4000000 in
set_option maxRecDepth 100000 in
theorem m_places (l : Launch) (dC : Nat → ClassId) (dI : Nat → Nat → Nat) (cyI cyB cyJ cyZ cyH cyN : ClassId) (m0 mwidth mmany mcells mmoved mtape mlines mhas mtold mlaw msuit mapart mact misKept mseen mhung mgoal mleaps mqueue mrow mwanted mfirst moften mlots mthen : Nat) (m_thrown m_taped m_at m_token m_place m_value : Int32) (m_word : Int64) (m_bad m_badPlace m_fault m_faultPlace m_gone m_reached m_fitMany m_fitFirst m_askBest m_askLeaves m_bestFirst m_bestWays : Int32) (m_lotsAll : Int64) (m_has : Nat → Int32) (g0 : 0 ≤ m_taped.toInt ∧ m_taped.toInt ≤ 800) (g1 : 0 ≤ m_at.toInt ∧ m_at.toInt ≤ 800) (g2 : 0 ≤ m_gone.toInt ∧ m_gone.toInt ≤ 40) (g3 : (m_has 0).toInt = 0 ∨ (2 ≤ (m_has 0).toInt ∧ (m_has 0).toInt ≤ 7)) (g4 : 0 ≤ (m_has 1).toInt ∧ (m_has 1).toInt ≤ 6) (g5 : 0 ≤ (m_has 3).toInt ∧ (m_has 3).toInt ≤ 40) : Met l yX12_places (wk yX12_places cX12_places 1 (some .int)) ({ frames := 1, cells := 0, slots := 0, locals := 60 }) (va_Pc [.ref m0] (fun U => va_P (dC, dI) vwCl [(m0, .inr (11, [.int m_thrown, .ref mwidth, .ref mmany, .ref mcells, .ref mmoved, .ref mtape, .int m_taped, .int m_at, .int m_token, .int m_place, .int m_value, .long m_word, .int m_bad, .int m_badPlace, .int m_fault, .int m_faultPlace, .ref mlines, .ref mhas, .ref mtold, .ref mlaw, .ref msuit, .ref mapart, .ref mact, .ref misKept, .ref mseen, .ref mhung, .int m_gone, .ref mgoal, .ref mleaps, .ref mqueue, .ref mrow, .int m_reached, .ref mwanted, .ref mfirst, .ref moften, .int m_fitMany, .int m_fitFirst, .int m_askBest, .int m_askLeaves, .int m_bestFirst, .int m_bestWays, .ref mlots, .ref mthen, .long m_lotsAll])), (mhas, .inl (cyI, 20, .inl m_has))] U.heap ∧ va_K (dC, dI) vwCl [(cyI, .int), (cyB, .byte), (cyJ, .long), (cyZ, .boolean), (cyH, .object RX2), (cyN, .array .long)] U)) (vp_Si (fun r : Int32 => r = m_has 0)) 0 0 (fun _ => False) := by
  refine Met.ofW (cc := cX12_places) (maxL := 1) (ret := (some .int)) (by decide) rfl ?_
  intro p e s m args below meth c s₁ B hml hv
  obtain ⟨rfl, hP, hK⟩ := hv
  have hx := B.exec
  have hb := B.bytes
  have hr := B.returns
  have hts : ∀ w ∈ uU, w.before ([.ref m0] : List Value).toArray s = true := fun w h => atoms_spec (ws := wk yX12_places cX12_places 1 (some .int)) B.pre w (List.mem_cons_of_mem _ h)
  have hown : s.vm.findClass RX12 = some m.cls := findClass_of_methodNamed B.named
  have hlocks := B.notSynchronized
  have hl := lv_entry ([.ref m0]) (n := 1) (Nat.le_of_ble_eq_true rfl)
  rw [lg_entry_eq]
  generalize (lg_sl ([.ref m0]) ++ List.replicate (1 - (lg_sl ([.ref m0])).length) Slot.unset).toArray = ls at hl ⊢
  have hl : lv_has ls 1 [(0, .ref m0)] := hl
  obtain ⟨Q9, hQ9⟩ : ∃ Q9 : State → Prop, Q9 = MQ below (vp_Si (fun r : Int32 => r = m_has 0)) ([.ref m0] : List Value).toArray s 0 0 (fun _ => False) := ⟨_, rfl⟩
  rw [← hQ9]
  refine lv_aload_n hx hb dX12_places_0 rfl (lv_at hl 0 rfl) ?_
  refine va_get (D := (dC, dI)) (ci := 11) (v := .ref mhas) (C := RX12) (T := TX12) (N := 44) hx hb hts uinX12 hown hK hP 0 rfl rfl 17 (by decide) (hts _ wd_6_54) (fun _ h9 => h9) rfl dX12_places_1 ?_
  refine lv_iconst (v := 0) hx hb dX12_places_4 (by decide) ?_
  refine va_iald hx hb hK hP 1 0 rfl rfl (vp_in_iff.mpr (by decide)) dX12_places_5 ?_
  refine cv_topi (b := m_has 0) rfl ?_
  rw [hQ9]
  exact W.iret (v := (m_has 0)) hx hb hr (fun t ht hW => ⟨(m_has 0), rfl, rfl, ht⟩) (fun q h => by cases h) dX12_places_6

/- X12_isHall -/
set_option maxHeartbeats 4000000 in
set_option maxRecDepth 100000 in
theorem m_isHall (l : Launch) (dC : Nat → ClassId) (dI : Nat → Nat → Nat) (cyI cyB cyJ cyZ cyH cyN : ClassId) (m0 mwidth mmany mcells mmoved mtape mlines mhas mtold mlaw msuit mapart mact misKept mseen mhung mgoal mleaps mqueue mrow mwanted mfirst moften mlots mthen : Nat) (m_thrown m_taped m_at m_token m_place m_value : Int32) (m_word : Int64) (m_bad m_badPlace m_fault m_faultPlace m_gone m_reached m_fitMany m_fitFirst m_askBest m_askLeaves m_bestFirst m_bestWays : Int32) (m_lotsAll : Int64) (m_lines m_has : Nat → Int32) (g0 : 0 ≤ m_taped.toInt ∧ m_taped.toInt ≤ 800) (g1 : 0 ≤ m_at.toInt ∧ m_at.toInt ≤ 800) (g2 : 0 ≤ m_gone.toInt ∧ m_gone.toInt ≤ 40) (g3 : (m_has 0).toInt = 0 ∨ (2 ≤ (m_has 0).toInt ∧ (m_has 0).toInt ≤ 7)) (g4 : 0 ≤ (m_has 1).toInt ∧ (m_has 1).toInt ≤ 6) (g5 : 0 ≤ (m_has 3).toInt ∧ (m_has 3).toInt ≤ 40) (g6 : 0 < (m_lines 0).toInt → 2 ≤ (m_has 0).toInt) : Met l yX12_isHall (wk yX12_isHall cX12_isHall 1 (some .boolean)) ({ frames := 1, cells := 0, slots := 0, locals := 60 }) (va_Pc [.ref m0] (fun U => va_P (dC, dI) vwCl [(m0, .inr (11, [.int m_thrown, .ref mwidth, .ref mmany, .ref mcells, .ref mmoved, .ref mtape, .int m_taped, .int m_at, .int m_token, .int m_place, .int m_value, .long m_word, .int m_bad, .int m_badPlace, .int m_fault, .int m_faultPlace, .ref mlines, .ref mhas, .ref mtold, .ref mlaw, .ref msuit, .ref mapart, .ref mact, .ref misKept, .ref mseen, .ref mhung, .int m_gone, .ref mgoal, .ref mleaps, .ref mqueue, .ref mrow, .int m_reached, .ref mwanted, .ref mfirst, .ref moften, .int m_fitMany, .int m_fitFirst, .int m_askBest, .int m_askLeaves, .int m_bestFirst, .int m_bestWays, .ref mlots, .ref mthen, .long m_lotsAll])), (mlines, .inl (cyI, 5, .inl m_lines)), (mhas, .inl (cyI, 20, .inl m_has))] U.heap ∧ va_K (dC, dI) vwCl [(cyI, .int), (cyB, .byte), (cyJ, .long), (cyZ, .boolean), (cyH, .object RX2), (cyN, .array .long)] U)) (vp_Si (fun r : Int32 => r = (if (0 < (m_lines 0).toInt) then 1 else 0))) 0 0 (fun _ => False) := by
  refine Met.ofW (cc := cX12_isHall) (maxL := 1) (ret := (some .boolean)) (by decide) rfl ?_
  intro p e s m args below meth c s₁ B hml hv
  obtain ⟨rfl, hP, hK⟩ := hv
  have hx := B.exec
  have hb := B.bytes
  have hr := B.returns
  have hts : ∀ w ∈ uU, w.before ([.ref m0] : List Value).toArray s = true := fun w h => atoms_spec (ws := wk yX12_isHall cX12_isHall 1 (some .boolean)) B.pre w (List.mem_cons_of_mem _ h)
  have hown : s.vm.findClass RX12 = some m.cls := findClass_of_methodNamed B.named
  have hlocks := B.notSynchronized
  have hl := lv_entry ([.ref m0]) (n := 1) (Nat.le_of_ble_eq_true rfl)
  rw [lg_entry_eq]
  generalize (lg_sl ([.ref m0]) ++ List.replicate (1 - (lg_sl ([.ref m0])).length) Slot.unset).toArray = ls at hl ⊢
  have hl : lv_has ls 1 [(0, .ref m0)] := hl
  obtain ⟨Q9, hQ9⟩ : ∃ Q9 : State → Prop, Q9 = MQ below (vp_Si (fun r : Int32 => r = (if (0 < (m_lines 0).toInt) then 1 else 0))) ([.ref m0] : List Value).toArray s 0 0 (fun _ => False) := ⟨_, rfl⟩
  rw [← hQ9]
  refine lv_aload_n hx hb dX12_isHall_0 rfl (lv_at hl 0 rfl) ?_
  refine va_get (D := (dC, dI)) (ci := 11) (v := .ref mlines) (C := RX12) (T := TX12) (N := 44) hx hb hts uinX12 hown hK hP 0 rfl rfl 16 (by decide) (hts _ wd_6_53) (fun _ h9 => h9) rfl dX12_isHall_1 ?_
  refine lv_iconst (v := 0) hx hb dX12_isHall_4 (by decide) ?_
  refine va_iald hx hb hK hP 1 0 rfl rfl (vp_in_iff.mpr (by decide)) dX12_isHall_5 ?_
  refine cv_topi (b := m_lines 0) rfl ?_
  refine lv_if_le (tgt := 13) hx hb dX12_isHall_6 (by decide) (fun c_1 => ?_) (fun c_1 => ?_)
  · have c_1 : (m_lines 0).toInt ≤ 0 := cv_le c_1
    refine lv_iconst (v := 0) hx hb dX12_isHall_13 (by decide) ?_
    rw [hQ9]
    exact W.zret (v := 0) (ty := .boolean) hx hb hr rfl (fun t ht hW => ⟨0, rfl, (by first | (rw [if_pos (by omega)]; done) | (rw [if_neg (by omega)]; done) | (rw [if_neg (by omega), if_pos (by omega)]; done) | (rw [if_neg (by omega), if_neg (by omega)]; done)), ht⟩) (fun q h => by cases h) dX12_isHall_14
  · have c_1 : 0 < (m_lines 0).toInt := cv_nle c_1
    refine lv_iconst (v := 1) hx hb dX12_isHall_9 (by decide) ?_
    refine lv_goto (tgt := 14) hx hb dX12_isHall_10 (by decide) ?_
    rw [hQ9]
    exact W.zret (v := 1) (ty := .boolean) hx hb hr rfl (fun t ht hW => ⟨1, rfl, (by first | (rw [if_pos (by omega)]; done) | (rw [if_neg (by omega)]; done) | (rw [if_neg (by omega), if_pos (by omega)]; done) | (rw [if_neg (by omega), if_neg (by omega)]; done)), ht⟩) (fun q h => by cases h) dX12_isHall_14

/- X12_isPlace -/
set_option maxHeartbeats 4000000 in
set_option maxRecDepth 100000 in
theorem m_isPlace (l : Launch) (dC : Nat → ClassId) (dI : Nat → Nat → Nat) (cyI cyB cyJ cyZ cyH cyN : ClassId) (m0 mwidth mmany mcells mmoved mtape mlines mhas mtold mlaw msuit mapart mact misKept mseen mhung mgoal mleaps mqueue mrow mwanted mfirst moften mlots mthen : Nat) (m_thrown m_taped m_at m_token m_place m_value : Int32) (m_word : Int64) (m_bad m_badPlace m_fault m_faultPlace m_gone m_reached m_fitMany m_fitFirst m_askBest m_askLeaves m_bestFirst m_bestWays : Int32) (m_lotsAll : Int64) (m_has : Nat → Int32) (p0 : Int64) (g0 : 0 ≤ m_taped.toInt ∧ m_taped.toInt ≤ 800) (g1 : 0 ≤ m_at.toInt ∧ m_at.toInt ≤ 800) (g2 : 0 ≤ m_gone.toInt ∧ m_gone.toInt ≤ 40) (g3 : (m_has 0).toInt = 0 ∨ (2 ≤ (m_has 0).toInt ∧ (m_has 0).toInt ≤ 7)) (g4 : 0 ≤ (m_has 1).toInt ∧ (m_has 1).toInt ≤ 6) (g5 : 0 ≤ (m_has 3).toInt ∧ (m_has 3).toInt ≤ 40) : Met l yX12_isPlace (wk yX12_isPlace cX12_isPlace 3 (some .boolean)) ({ frames := 2, cells := 0, slots := 0, locals := 85 }) (va_Pc [.ref m0, .long p0] (fun U => va_P (dC, dI) vwCl [(m0, .inr (11, [.int m_thrown, .ref mwidth, .ref mmany, .ref mcells, .ref mmoved, .ref mtape, .int m_taped, .int m_at, .int m_token, .int m_place, .int m_value, .long m_word, .int m_bad, .int m_badPlace, .int m_fault, .int m_faultPlace, .ref mlines, .ref mhas, .ref mtold, .ref mlaw, .ref msuit, .ref mapart, .ref mact, .ref misKept, .ref mseen, .ref mhung, .int m_gone, .ref mgoal, .ref mleaps, .ref mqueue, .ref mrow, .int m_reached, .ref mwanted, .ref mfirst, .ref moften, .int m_fitMany, .int m_fitFirst, .int m_askBest, .int m_askLeaves, .int m_bestFirst, .int m_bestWays, .ref mlots, .ref mthen, .long m_lotsAll])), (mhas, .inl (cyI, 20, .inl m_has))] U.heap ∧ va_K (dC, dI) vwCl [(cyI, .int), (cyB, .byte), (cyJ, .long), (cyZ, .boolean), (cyH, .object RX2), (cyN, .array .long)] U)) (vp_Si (fun r : Int32 => r = (if (0 ≤ p0.toInt ∧ p0.toInt < (m_has 0).toInt) then 1 else 0))) 0 0 (fun _ => False) := by
  refine Met.ofW (cc := cX12_isPlace) (maxL := 3) (ret := (some .boolean)) (by decide) rfl ?_
  intro p e s m args below meth c s₁ B hml hv
  obtain ⟨rfl, hP, hK⟩ := hv
  have hx := B.exec
  have hb := B.bytes
  have hr := B.returns
  have hts : ∀ w ∈ uU, w.before ([.ref m0, .long p0] : List Value).toArray s = true := fun w h => atoms_spec (ws := wk yX12_isPlace cX12_isPlace 3 (some .boolean)) B.pre w (List.mem_cons_of_mem _ h)
  have hown : s.vm.findClass RX12 = some m.cls := findClass_of_methodNamed B.named
  have hlocks := B.notSynchronized
  have hl := lv_entry ([.ref m0, .long p0]) (n := 3) (Nat.le_of_ble_eq_true rfl)
  rw [lg_entry_eq]
  generalize (lg_sl ([.ref m0, .long p0]) ++ List.replicate (3 - (lg_sl ([.ref m0, .long p0])).length) Slot.unset).toArray = ls at hl ⊢
  have hl : lv_has ls 3 [(0, .ref m0), (1, .long p0)] := hl
  obtain ⟨Q9, hQ9⟩ : ∃ Q9 : State → Prop, Q9 = MQ below (vp_Si (fun r : Int32 => r = (if (0 ≤ p0.toInt ∧ p0.toInt < (m_has 0).toInt) then 1 else 0))) ([.ref m0, .long p0] : List Value).toArray s 0 0 (fun _ => False) := ⟨_, rfl⟩
  rw [← hQ9]
  refine lv_lload_n hx hb dX12_isPlace_0 rfl (lv_at hl 1 rfl) ?_
  refine lv_lconst (v := 0) hx hb dX12_isPlace_1 (by decide) ?_
  refine lv_aload_n hx hb dX12_isPlace_2 rfl (lv_at hl 0 rfl) ?_
  have hPc := hP.sub (ws' := [(m0, .inr (11, [.int m_thrown, .ref mwidth, .ref mmany, .ref mcells, .ref mmoved, .ref mtape, .int m_taped, .int m_at, .int m_token, .int m_place, .int m_value, .long m_word, .int m_bad, .int m_badPlace, .int m_fault, .int m_faultPlace, .ref mlines, .ref mhas, .ref mtold, .ref mlaw, .ref msuit, .ref mapart, .ref mact, .ref misKept, .ref mseen, .ref mhung, .int m_gone, .ref mgoal, .ref mleaps, .ref mqueue, .ref mrow, .int m_reached, .ref mwanted, .ref mfirst, .ref moften, .int m_fitMany, .int m_fitFirst, .int m_askBest, .int m_askLeaves, .int m_bestFirst, .int m_bestWays, .ref mlots, .ref mthen, .long m_lotsAll])), (mhas, .inl (cyI, 20, .inl m_has))]) [0, 1] rfl
  have hKc := hK.sub (tys' := [(cyI, .int), (cyB, .byte), (cyJ, .long), (cyZ, .boolean), (cyH, .object RX2), (cyN, .array .long)]) [0, 1, 2, 3, 4, 5] rfl
  refine vp_callSi (va_Run.run (va_runV (As := []) (rest := [.long 0, .long p0]) ⟨hx, hb, hml, hown, hts⟩ (m_places l dC dI cyI cyB cyJ cyZ cyH cyN m0 mwidth mmany mcells mmoved mtape mlines mhas mtold mlaw msuit mapart mact misKept mseen mhung mgoal mleaps mqueue mrow mwanted mfirst moften mlots mthen m_thrown m_taped m_at m_token m_place m_value m_word m_bad m_badPlace m_fault m_faultPlace m_gone m_reached m_fitMany m_fitFirst m_askBest m_askLeaves m_bestFirst m_bestWays m_lotsAll m_has (by omega) (by omega) (by omega) g3 g4 g5) (cwV 0 hts (gdV wd_7_86 wd_7_88 wd_s4_14 wd_1_11 wd_7_89) rfl rfl rfl (by decide +kernel) ⟨Nat.le_of_ble_eq_true rfl, Nat.le_of_ble_eq_true rfl⟩) ⟨fun a U g mk q => by obtain ⟨q0, qP, qK⟩ := q; exact ⟨q0, qP, va_K.moved (u := U) (U := U.calling g mk a) (Vm.Alike.refl U.vm) qK⟩, va_recv hKc hPc (ci := 11) (q0 := 0) rfl rfl, fun U hU hW => ⟨rfl, by rw [hU]; exact hPc, va_K.moved hW.alike hKc⟩⟩ rfl rfl hl.1 rfl (lv_room (Nat.le_of_ble_eq_true rfl)) dX12_isPlace_3 ⟨Nat.le_of_ble_eq_true rfl, Nat.le_of_ble_eq_true rfl⟩)) (fun r_1 hw => ?_)
  subst hw
  obtain ⟨y_2, ey_2⟩ : ∃ z : Int64, z = (m_has 0).toInt64 := ⟨_, rfl⟩
  have fy_2 : y_2.toInt = (m_has 0).toInt := by rw [ey_2]; exact Int32.toInt_toInt64 _
  refine lv_i2l (v := y_2) hx hb dX12_isPlace_6 ey_2.symm ?_
  refine lv_lconst (v := 1) hx hb dX12_isPlace_7 (by decide) ?_
  refine lv_lsub hx hb dX12_isPlace_8 ?_
  refine lv_topl (fun y_3 ey_3 => ?_)
  have fy_3 : y_3.toInt = y_2.toInt - 1 := by rw [ey_3]; exact cv_subL (by rw [show (1 : Int64).toInt = 1 from rfl]; omega) (by rw [show (1 : Int64).toInt = 1 from rfl]; omega)
  refine vp_callSi (va_Run.run (va_runS (As := [.long p0, .long 0, .long y_3]) (rest := []) ⟨hx, hb, hml, hown, hts⟩ (m_in l dC dI cyI cyB cyJ cyZ cyH cyN p0 0 y_3) (va_cwS 3 hts (gdS wd_6_178 wd_6_179 wd_1_11 wd_6_180) rfl rfl rfl (by decide +kernel) ⟨Nat.le_of_ble_eq_true rfl, Nat.le_of_ble_eq_true rfl⟩) ⟨fun a U g mk q => q, fun U hU hW => ⟨rfl, trivial⟩⟩ rfl rfl hl.1 rfl (lv_room (Nat.le_of_ble_eq_true rfl)) dX12_isPlace_9 ⟨Nat.le_of_ble_eq_true rfl, Nat.le_of_ble_eq_true rfl⟩)) (fun r_4 hw => ?_)
  by_cases c_5 : ((0 : Int64).toInt ≤ p0.toInt ∧ p0.toInt ≤ y_3.toInt)
  · rw [if_pos c_5] at hw; subst hw; have c_5 : (0 ≤ p0.toInt ∧ p0.toInt ≤ y_3.toInt) := c_5
    rw [hQ9]
    exact W.zret (v := 1) (ty := .boolean) hx hb hr rfl (fun t ht hW => ⟨1, rfl, (by first | (rw [if_pos (by omega)]; done) | (rw [if_neg (by omega)]; done) | (rw [if_neg (by omega), if_pos (by omega)]; done) | (rw [if_neg (by omega), if_neg (by omega)]; done)), ht⟩) (fun q h => by cases h) dX12_isPlace_12
  · rw [if_neg c_5] at hw; subst hw; have c_5 : ¬ (0 ≤ p0.toInt ∧ p0.toInt ≤ y_3.toInt) := c_5
    rw [hQ9]
    exact W.zret (v := 0) (ty := .boolean) hx hb hr rfl (fun t ht hW => ⟨0, rfl, (by first | (rw [if_pos (by omega)]; done) | (rw [if_neg (by omega)]; done) | (rw [if_neg (by omega), if_pos (by omega)]; done) | (rw [if_neg (by omega), if_neg (by omega)]; done)), ht⟩) (fun q h => by cases h) dX12_isPlace_12

/- X12_change -/
set_option maxHeartbeats 4000000 in
set_option maxRecDepth 100000 in
theorem m_change (l : Launch) (dC : Nat → ClassId) (dI : Nat → Nat → Nat) (cyI cyB cyJ cyZ cyH cyN : ClassId) (sz : Nat) (r0 : Nat) (f0 m_has : Nat → Int32) (p0 p1 : Int32) (g0 : rg 0 6 7 f0) (g1 : 0 ≤ p0.toInt ∧ p0.toInt ≤ 6) (g2 : 0 ≤ p1.toInt ∧ p1.toInt ≤ 6) (g3 : pm (m_has 0).toInt f0) (g4 : p0.toInt < (m_has 0).toInt) (g5 : p1.toInt < (m_has 0).toInt) : Met l yX12_change (wk yX12_change cX12_change 4 none) ({ frames := 1, cells := 0, slots := 0, locals := 60 }) (va_Pc [.ref r0, .int p0, .int p1] (fun U => U.heap.size = sz ∧ va_P (dC, dI) vwCl [(r0, .inl (cyI, 7, .inl f0))] U.heap ∧ va_K (dC, dI) vwCl [(cyI, .int), (cyB, .byte), (cyJ, .long), (cyZ, .boolean), (cyH, .object RX2), (cyN, .array .long)] U ∧ va_D (fun _ => True) [(r0, .inl (cyI, 7, .inl f0))])) (va_Qv (fun _ : Unit => True) (fun (_ : Unit) (t : State) => ∃ y0 : Nat → Int32, (rg 0 6 7 y0) ∧ (pm (m_has 0).toInt y0) ∧ va_P (dC, dI) vwCl [(r0, .inl (cyI, 7, .inl y0))] t.heap ∧ va_D (va_A [(r0, .inl (cyI, 7, .inl f0))] sz) [(r0, .inl (cyI, 7, .inl y0))]) (va_A [(r0, .inl (cyI, 7, .inl f0))] sz)) 0 0 (va_A [(r0, .inl (cyI, 7, .inl f0))] sz) := by
  refine Met.ofW (cc := cX12_change) (maxL := 4) (ret := none) (by decide) rfl ?_
  intro p e s m args below meth c s₁ B hml hv
  obtain ⟨rfl, hsz, hP, hK, hD0⟩ := hv
  have hx := B.exec
  have hb := B.bytes
  have hr := B.returns
  have hts : ∀ w ∈ uU, w.before ([.ref r0, .int p0, .int p1] : List Value).toArray s = true := fun w h => atoms_spec (ws := wk yX12_change cX12_change 4 none) B.pre w (List.mem_cons_of_mem _ h)
  have hown : s.vm.findClass RX12 = some m.cls := findClass_of_methodNamed B.named
  have hlocks := B.notSynchronized
  subst hsz
  have hD := hD0.self (sz := s.heap.size)
  generalize hAe : va_A [(r0, .inl (cyI, 7, .inl f0))] s.heap.size = A at hD ⊢
  have hA : ∀ q : Nat, s.heap.size ≤ q → A q := fun q h => by rw [← hAe]; exact Or.inr h
  have hS : va_S A s.heap s.heap [] := va_S.rf
  have hP : va_P (dC, dI) vwCl [(r0, .inl (cyI, 7, .inl f0))] s.heap := hP
  have hl := lv_entry ([.ref r0, .int p0, .int p1]) (n := 4) (Nat.le_of_ble_eq_true rfl)
  rw [lg_entry_eq]
  generalize (lg_sl ([.ref r0, .int p0, .int p1]) ++ List.replicate (4 - (lg_sl ([.ref r0, .int p0, .int p1])).length) Slot.unset).toArray = ls at hl ⊢
  have hl : lv_has ls 4 [(0, .ref r0), (1, .int p0), (2, .int p1)] := hl
  obtain ⟨H, hHe⟩ : ∃ H, H = s.heap := ⟨_, rfl⟩
  have hP : va_P (dC, dI) vwCl [(r0, .inl (cyI, 7, .inl f0))] H := by rw [hHe]; exact hP
  have hS : va_S A s.heap H [] := by rw [hHe]; exact hS
  refine cv_heap hHe ?_
  obtain ⟨Q9, hQ9⟩ : ∃ Q9 : State → Prop, Q9 = MQ below (va_Qv (fun _ : Unit => True) (fun (_ : Unit) (t : State) => ∃ y0 : Nat → Int32, (rg 0 6 7 y0) ∧ (pm (m_has 0).toInt y0) ∧ va_P (dC, dI) vwCl [(r0, .inl (cyI, 7, .inl y0))] t.heap ∧ va_D A [(r0, .inl (cyI, 7, .inl y0))]) A) ([.ref r0, .int p0, .int p1] : List Value).toArray s 0 0 A := ⟨_, rfl⟩
  rw [← hQ9]
  refine lv_aload_n hx hb dX12_change_0 rfl (lv_at hl 0 rfl) ?_
  refine lv_iload_n hx hb dX12_change_1 rfl (lv_at hl 1 rfl) ?_
  refine va_iald hx hb hK hP 0 0 rfl rfl (vp_in_iff.mpr (by omega)) dX12_change_2 ?_
  refine lv_topi (fun x_1 ex_1 => ?_)
  have fx_1 : 0 ≤ x_1.toInt ∧ x_1.toInt ≤ 6 := by rw [ex_1]; exact g0 _ (cv_ix (by omega) (by omega))
  refine lv_istore_n (lv' := [(3, .int x_1), (0, .ref r0), (1, .int p0), (2, .int p1)]) hx hb dX12_change_3 rfl hl (by decide) rfl (fun ls hl => ?_)
  refine lv_aload_n hx hb dX12_change_4 rfl (lv_at hl 1 rfl) ?_
  refine lv_iload_n hx hb dX12_change_5 rfl (lv_at hl 2 rfl) ?_
  refine lv_aload_n hx hb dX12_change_6 rfl (lv_at hl 1 rfl) ?_
  refine lv_iload_n hx hb dX12_change_7 rfl (lv_at hl 3 rfl) ?_
  refine va_iald hx hb hK hP 0 0 rfl rfl (vp_in_iff.mpr (by omega)) dX12_change_8 ?_
  refine lv_topi (fun x_2 ex_2 => ?_)
  have fx_2 : 0 ≤ x_2.toInt ∧ x_2.toInt ≤ 6 := by rw [ex_2]; exact g0 _ (cv_ix (by omega) (by omega))
  refine va_iast hx hb hK hP hD hS 0 0 rfl rfl (vp_in_iff.mpr (by omega)) dX12_change_9 (fun H locs hP hD hS => ?_)
  obtain ⟨f_3, ef_3⟩ : ∃ z9 : Nat → Int32, z9 = upd f0 p0.toNatClampNeg x_2 := ⟨_, rfl⟩
  rw [← ef_3] at hP hD
  have hP : va_P (dC, dI) vwCl [(r0, .inl (cyI, 7, .inl f_3))] H := hP
  have hD : va_D A [(r0, .inl (cyI, 7, .inl f_3))] := hD
  have hf_3 : rg 0 6 7 f_3 := by rw [ef_3]; exact rg_upd (g0) ⟨by omega, by omega⟩
  refine lv_aload_n hx hb dX12_change_10 rfl (lv_at hl 1 rfl) ?_
  refine lv_iload_n hx hb dX12_change_11 rfl (lv_at hl 3 rfl) ?_
  refine lv_iload_n hx hb dX12_change_12 rfl (lv_at hl 0 rfl) ?_
  refine va_iast hx hb hK hP hD hS 0 0 rfl rfl (vp_in_iff.mpr (by omega)) dX12_change_13 (fun H locs hP hD hS => ?_)
  obtain ⟨f_4, ef_4⟩ : ∃ z9 : Nat → Int32, z9 = upd f_3 p1.toNatClampNeg x_1 := ⟨_, rfl⟩
  rw [← ef_4] at hP hD
  have hP : va_P (dC, dI) vwCl [(r0, .inl (cyI, 7, .inl f_4))] H := hP
  have hD : va_D A [(r0, .inl (cyI, 7, .inl f_4))] := hD
  have hf_4 : rg 0 6 7 f_4 := by rw [ef_4]; exact rg_upd (hf_3) ⟨by omega, by omega⟩
  rw [hQ9]
  have hP9 := hP.sub (ws' := [(r0, .inl (cyI, 7, .inl f_4))]) [0] rfl
  have hD9 := hD.sub (ws' := [(r0, .inl (cyI, 7, .inl f_4))]) [0] (by decide) rfl
  exact W.vret hx hb hr (fun t ht hW => ⟨⟨(), rfl, trivial, ⟨f_4, hf_4, (pm_swap (a := p0) (b := p1) g3 (by assumption) (by assumption) (by assumption) (by assumption) (by omega) (by omega) (by omega) (by omega)), by rw [ht]; exact hP9, hD9⟩⟩, hS.F ht⟩) hS.2.2 dX12_change_14

/- X12_applies -/
set_option maxHeartbeats 4000000 in
set_option maxRecDepth 100000 in
theorem m_applies (l : Launch) (dC : Nat → ClassId) (dI : Nat → Nat → Nat) (cyI cyB cyJ cyZ cyH cyN : ClassId) (m0 mwidth mmany mcells mmoved mtape mlines mhas mtold mlaw msuit mapart mact misKept mseen mhung mgoal mleaps mqueue mrow mwanted mfirst moften mlots mthen : Nat) (m_thrown m_taped m_at m_token m_place m_value : Int32) (m_word : Int64) (m_bad m_badPlace m_fault m_faultPlace m_gone m_reached m_fitMany m_fitFirst m_askBest m_askLeaves m_bestFirst m_bestWays : Int32) (m_lotsAll : Int64) (m_has m_law : Nat → Int32) (p0 p1 : Int32) (g0 : 0 ≤ m_taped.toInt ∧ m_taped.toInt ≤ 800) (g1 : 0 ≤ m_at.toInt ∧ m_at.toInt ≤ 800) (g2 : 0 ≤ m_gone.toInt ∧ m_gone.toInt ≤ 40) (g3 : 0 ≤ p0.toInt ∧ p0.toInt ≤ 5) (g4 : (m_has 0).toInt = 0 ∨ (2 ≤ (m_has 0).toInt ∧ (m_has 0).toInt ≤ 7)) (g5 : 0 ≤ (m_has 1).toInt ∧ (m_has 1).toInt ≤ 6) (g6 : 0 ≤ (m_has 3).toInt ∧ (m_has 3).toInt ≤ 40) (g7 : lk (m_has 0).toInt (m_has 1).toInt m_law) (g8 : p0.toInt < (m_has 1).toInt) : Met l yX12_applies (wk yX12_applies cX12_applies 3 (some .boolean)) ({ frames := 1, cells := 0, slots := 0, locals := 60 }) (va_Pc [.ref m0, .int p0, .int p1] (fun U => va_P (dC, dI) vwCl [(m0, .inr (11, [.int m_thrown, .ref mwidth, .ref mmany, .ref mcells, .ref mmoved, .ref mtape, .int m_taped, .int m_at, .int m_token, .int m_place, .int m_value, .long m_word, .int m_bad, .int m_badPlace, .int m_fault, .int m_faultPlace, .ref mlines, .ref mhas, .ref mtold, .ref mlaw, .ref msuit, .ref mapart, .ref mact, .ref misKept, .ref mseen, .ref mhung, .int m_gone, .ref mgoal, .ref mleaps, .ref mqueue, .ref mrow, .int m_reached, .ref mwanted, .ref mfirst, .ref moften, .int m_fitMany, .int m_fitFirst, .int m_askBest, .int m_askLeaves, .int m_bestFirst, .int m_bestWays, .ref mlots, .ref mthen, .long m_lotsAll])), (mhas, .inl (cyI, 20, .inl m_has)), (mlaw, .inl (cyI, 120, .inl m_law))] U.heap ∧ va_K (dC, dI) vwCl [(cyI, .int), (cyB, .byte), (cyJ, .long), (cyZ, .boolean), (cyH, .object RX2), (cyN, .array .long)] U)) (vp_Si (fun r : Int32 => 0 ≤ r.toInt ∧ r.toInt ≤ 1)) 0 0 (fun _ => False) := by
  refine Met.ofW (cc := cX12_applies) (maxL := 3) (ret := (some .boolean)) (by decide) rfl ?_
  intro p e s m args below meth c s₁ B hml hv
  obtain ⟨rfl, hP, hK⟩ := hv
  have hx := B.exec
  have hb := B.bytes
  have hr := B.returns
  have hts : ∀ w ∈ uU, w.before ([.ref m0, .int p0, .int p1] : List Value).toArray s = true := fun w h => atoms_spec (ws := wk yX12_applies cX12_applies 3 (some .boolean)) B.pre w (List.mem_cons_of_mem _ h)
  have hown : s.vm.findClass RX12 = some m.cls := findClass_of_methodNamed B.named
  have hlocks := B.notSynchronized
  have hl := lv_entry ([.ref m0, .int p0, .int p1]) (n := 3) (Nat.le_of_ble_eq_true rfl)
  rw [lg_entry_eq]
  generalize (lg_sl ([.ref m0, .int p0, .int p1]) ++ List.replicate (3 - (lg_sl ([.ref m0, .int p0, .int p1])).length) Slot.unset).toArray = ls at hl ⊢
  have hl : lv_has ls 3 [(0, .ref m0), (1, .int p0), (2, .int p1)] := hl
  obtain ⟨Q9, hQ9⟩ : ∃ Q9 : State → Prop, Q9 = MQ below (vp_Si (fun r : Int32 => 0 ≤ r.toInt ∧ r.toInt ≤ 1)) ([.ref m0, .int p0, .int p1] : List Value).toArray s 0 0 (fun _ => False) := ⟨_, rfl⟩
  rw [← hQ9]
  refine lv_iload_n hx hb dX12_applies_0 rfl (lv_at hl 2 rfl) ?_
  refine lv_aload_n hx hb dX12_applies_1 rfl (lv_at hl 0 rfl) ?_
  refine va_get (D := (dC, dI)) (ci := 11) (v := .ref mlaw) (C := RX12) (T := TX12) (N := 44) hx hb hts uinX12 hown hK hP 0 rfl rfl 19 (by decide) (hts _ wd_6_56) (fun _ h9 => h9) rfl dX12_applies_2 ?_
  refine lv_iconst (v := 4) hx hb dX12_applies_5 (by decide) ?_
  refine lv_iload_n hx hb dX12_applies_6 rfl (lv_at hl 1 rfl) ?_
  refine lv_imul hx hb dX12_applies_7 ?_
  refine lv_topi (fun x_1 ex_1 => ?_)
  have fx_1 : x_1.toInt = 4 * p0.toInt := by rw [ex_1]; exact cv_mulI (by rw [show (4 : Int32).toInt = 4 from rfl]; omega) (by rw [show (4 : Int32).toInt = 4 from rfl]; omega)
  refine lv_iconst (v := 3) hx hb dX12_applies_8 (by decide) ?_
  refine lv_iadd hx hb dX12_applies_9 ?_
  refine lv_topi (fun x_2 ex_2 => ?_)
  have fx_2 : x_2.toInt = x_1.toInt + 3 := by rw [ex_2]; exact cv_addI (by have : (3 : Int32).toInt = 3 := rfl; omega) (by have : (3 : Int32).toInt = 3 := rfl; omega)
  refine va_iald hx hb hK hP 2 0 rfl rfl (vp_in_iff.mpr (by omega)) dX12_applies_10 ?_
  refine lv_topi (fun x_3 ex_3 => ?_)
  refine lv_isub hx hb dX12_applies_11 ?_
  refine lv_topi (fun x_4 ex_4 => ?_)
  refine lv_aload_n hx hb dX12_applies_12 rfl (lv_at hl 0 rfl) ?_
  refine va_get (D := (dC, dI)) (ci := 11) (v := .ref mlaw) (C := RX12) (T := TX12) (N := 44) hx hb hts uinX12 hown hK hP 0 rfl rfl 19 (by decide) (hts _ wd_6_56) (fun _ h9 => h9) rfl dX12_applies_13 ?_
  refine lv_iconst (v := 4) hx hb dX12_applies_16 (by decide) ?_
  refine lv_iload_n hx hb dX12_applies_17 rfl (lv_at hl 1 rfl) ?_
  refine lv_imul hx hb dX12_applies_18 ?_
  refine lv_topi (fun x_5 ex_5 => ?_)
  have fx_5 : x_5.toInt = 4 * p0.toInt := by rw [ex_5]; exact cv_mulI (by rw [show (4 : Int32).toInt = 4 from rfl]; omega) (by rw [show (4 : Int32).toInt = 4 from rfl]; omega)
  refine lv_iconst (v := 2) hx hb dX12_applies_19 (by decide) ?_
  refine lv_iadd hx hb dX12_applies_20 ?_
  refine lv_topi (fun x_6 ex_6 => ?_)
  have fx_6 : x_6.toInt = x_5.toInt + 2 := by rw [ex_6]; exact cv_addI (by have : (2 : Int32).toInt = 2 := rfl; omega) (by have : (2 : Int32).toInt = 2 := rfl; omega)
  refine va_iald hx hb hK hP 2 0 rfl rfl (vp_in_iff.mpr (by omega)) dX12_applies_21 ?_
  refine lv_topi (fun x_7 ex_7 => ?_)
  have fx_7 : 1 ≤ x_7.toInt ∧ x_7.toInt ≤ 6 := lk_2 g7 ex_7 (l := p0) (by omega) (by omega) (by omega)
  refine lv_irem hx hb dX12_applies_22 (fun q => by have := congrArg Int32.toInt q; have h0 : (0 : Int32).toInt = 0 := rfl; omega) ?_
  refine lv_topi (fun x_8 ex_8 => ?_)
  have join_10 : ∀ (u_9 : Int32) (ls : Array Slot), (0 ≤ u_9.toInt ∧ u_9.toInt ≤ 1) → lv_has ls 3 [(0, .ref m0), (1, .int p0), (2, .int p1)] → W p l e ({ frames := 1, cells := 0, slots := 0, locals := 60 }) s m ([.ref m0, .int p0, .int p1] : List Value).toArray below meth c s.heap [] 0 0 Q9 (F0 m 31 ls [.int u_9]) := by
    intro u_9 ls hu_9 hl
    rw [hQ9]
    exact W.zret (v := u_9) (ty := .boolean) hx hb hr (cv_nz (by omega) (by omega)) (fun t ht hW => ⟨u_9, rfl, (by omega), ht⟩) (fun q h => by cases h) dX12_applies_31
  refine lv_if_ne (tgt := 30) hx hb dX12_applies_23 (by decide) (fun c_11 => ?_) (fun c_11 => ?_)
  · have c_11 : x_8.toInt ≠ 0 := cv_ne c_11
    refine lv_iconst (v := 0) hx hb dX12_applies_30 (by decide) ?_
    exact join_10 0 _ (by decide) (lv_sub hl [0, 1, 2] rfl)
  · have c_11 : x_8.toInt = 0 := cv_eq c_11
    refine lv_iconst (v := 1) hx hb dX12_applies_26 (by decide) ?_
    refine lv_goto (tgt := 31) hx hb dX12_applies_27 (by decide) ?_
    exact join_10 1 _ (by decide) (lv_sub hl [0, 1, 2] rfl)

/- X12_nightGoes -/
set_option maxHeartbeats 4000000 in
set_option maxRecDepth 100000 in
theorem m_nightGoes (l : Launch) (dC : Nat → ClassId) (dI : Nat → Nat → Nat) (cyI cyB cyJ cyZ cyH cyN : ClassId) (sz : Nat) (m0 mwidth mmany mcells mmoved mtape mlines mhas mtold mlaw msuit mapart mact misKept mseen mhung mgoal mleaps mqueue mrow mwanted mfirst moften mlots mthen : Nat) (m_thrown m_taped m_at m_token m_place m_value : Int32) (m_word : Int64) (m_bad m_badPlace m_fault m_faultPlace m_gone m_reached m_fitMany m_fitFirst m_askBest m_askLeaves m_bestFirst m_bestWays : Int32) (m_lotsAll : Int64) (m_has m_law : Nat → Int32) (r0 : Nat) (f0 : Nat → Int32) (p1 p2 : Int32) (g0 : rg 0 6 7 f0) (g1 : 0 ≤ m_taped.toInt ∧ m_taped.toInt ≤ 800) (g2 : 0 ≤ m_at.toInt ∧ m_at.toInt ≤ 800) (g3 : 0 ≤ m_gone.toInt ∧ m_gone.toInt ≤ 40) (g4 : (m_has 0).toInt = 0 ∨ (2 ≤ (m_has 0).toInt ∧ (m_has 0).toInt ≤ 7)) (g5 : 0 ≤ (m_has 1).toInt ∧ (m_has 1).toInt ≤ 6) (g6 : 0 ≤ (m_has 3).toInt ∧ (m_has 3).toInt ≤ 40) (g7 : lk (m_has 0).toInt (m_has 1).toInt m_law) (g8 : pm (m_has 0).toInt f0) : Met l yX12_nightGoes (wk yX12_nightGoes cX12_nightGoes 5 none) ({ frames := 2, cells := 0, slots := 0, locals := 83 }) (va_Pc [.ref m0, .ref r0, .int p1, .int p2] (fun U => U.heap.size = sz ∧ va_P (dC, dI) vwCl [(m0, .inr (11, [.int m_thrown, .ref mwidth, .ref mmany, .ref mcells, .ref mmoved, .ref mtape, .int m_taped, .int m_at, .int m_token, .int m_place, .int m_value, .long m_word, .int m_bad, .int m_badPlace, .int m_fault, .int m_faultPlace, .ref mlines, .ref mhas, .ref mtold, .ref mlaw, .ref msuit, .ref mapart, .ref mact, .ref misKept, .ref mseen, .ref mhung, .int m_gone, .ref mgoal, .ref mleaps, .ref mqueue, .ref mrow, .int m_reached, .ref mwanted, .ref mfirst, .ref moften, .int m_fitMany, .int m_fitFirst, .int m_askBest, .int m_askLeaves, .int m_bestFirst, .int m_bestWays, .ref mlots, .ref mthen, .long m_lotsAll])), (mhas, .inl (cyI, 20, .inl m_has)), (mlaw, .inl (cyI, 120, .inl m_law)), (r0, .inl (cyI, 7, .inl f0))] U.heap ∧ va_K (dC, dI) vwCl [(cyI, .int), (cyB, .byte), (cyJ, .long), (cyZ, .boolean), (cyH, .object RX2), (cyN, .array .long)] U ∧ va_D (fun _ => True) [(m0, .inr (11, [.int m_thrown, .ref mwidth, .ref mmany, .ref mcells, .ref mmoved, .ref mtape, .int m_taped, .int m_at, .int m_token, .int m_place, .int m_value, .long m_word, .int m_bad, .int m_badPlace, .int m_fault, .int m_faultPlace, .ref mlines, .ref mhas, .ref mtold, .ref mlaw, .ref msuit, .ref mapart, .ref mact, .ref misKept, .ref mseen, .ref mhung, .int m_gone, .ref mgoal, .ref mleaps, .ref mqueue, .ref mrow, .int m_reached, .ref mwanted, .ref mfirst, .ref moften, .int m_fitMany, .int m_fitFirst, .int m_askBest, .int m_askLeaves, .int m_bestFirst, .int m_bestWays, .ref mlots, .ref mthen, .long m_lotsAll])), (mhas, .inl (cyI, 20, .inl m_has)), (mlaw, .inl (cyI, 120, .inl m_law)), (r0, .inl (cyI, 7, .inl f0))])) (va_Qv (fun _ : Unit => True) (fun (_ : Unit) (t : State) => ∃ y0 : Nat → Int32, (rg 0 6 7 y0) ∧ (pm (m_has 0).toInt y0) ∧ va_P (dC, dI) vwCl [(m0, .inr (11, [.int m_thrown, .ref mwidth, .ref mmany, .ref mcells, .ref mmoved, .ref mtape, .int m_taped, .int m_at, .int m_token, .int m_place, .int m_value, .long m_word, .int m_bad, .int m_badPlace, .int m_fault, .int m_faultPlace, .ref mlines, .ref mhas, .ref mtold, .ref mlaw, .ref msuit, .ref mapart, .ref mact, .ref misKept, .ref mseen, .ref mhung, .int m_gone, .ref mgoal, .ref mleaps, .ref mqueue, .ref mrow, .int m_reached, .ref mwanted, .ref mfirst, .ref moften, .int m_fitMany, .int m_fitFirst, .int m_askBest, .int m_askLeaves, .int m_bestFirst, .int m_bestWays, .ref mlots, .ref mthen, .long m_lotsAll])), (mhas, .inl (cyI, 20, .inl m_has)), (mlaw, .inl (cyI, 120, .inl m_law)), (r0, .inl (cyI, 7, .inl y0))] t.heap ∧ va_D (va_A [(m0, .inr (11, [.int m_thrown, .ref mwidth, .ref mmany, .ref mcells, .ref mmoved, .ref mtape, .int m_taped, .int m_at, .int m_token, .int m_place, .int m_value, .long m_word, .int m_bad, .int m_badPlace, .int m_fault, .int m_faultPlace, .ref mlines, .ref mhas, .ref mtold, .ref mlaw, .ref msuit, .ref mapart, .ref mact, .ref misKept, .ref mseen, .ref mhung, .int m_gone, .ref mgoal, .ref mleaps, .ref mqueue, .ref mrow, .int m_reached, .ref mwanted, .ref mfirst, .ref moften, .int m_fitMany, .int m_fitFirst, .int m_askBest, .int m_askLeaves, .int m_bestFirst, .int m_bestWays, .ref mlots, .ref mthen, .long m_lotsAll])), (mhas, .inl (cyI, 20, .inl m_has)), (mlaw, .inl (cyI, 120, .inl m_law)), (r0, .inl (cyI, 7, .inl f0))] sz) [(m0, .inr (11, [.int m_thrown, .ref mwidth, .ref mmany, .ref mcells, .ref mmoved, .ref mtape, .int m_taped, .int m_at, .int m_token, .int m_place, .int m_value, .long m_word, .int m_bad, .int m_badPlace, .int m_fault, .int m_faultPlace, .ref mlines, .ref mhas, .ref mtold, .ref mlaw, .ref msuit, .ref mapart, .ref mact, .ref misKept, .ref mseen, .ref mhung, .int m_gone, .ref mgoal, .ref mleaps, .ref mqueue, .ref mrow, .int m_reached, .ref mwanted, .ref mfirst, .ref moften, .int m_fitMany, .int m_fitFirst, .int m_askBest, .int m_askLeaves, .int m_bestFirst, .int m_bestWays, .ref mlots, .ref mthen, .long m_lotsAll])), (mhas, .inl (cyI, 20, .inl m_has)), (mlaw, .inl (cyI, 120, .inl m_law)), (r0, .inl (cyI, 7, .inl y0))]) (va_A [(m0, .inr (11, [.int m_thrown, .ref mwidth, .ref mmany, .ref mcells, .ref mmoved, .ref mtape, .int m_taped, .int m_at, .int m_token, .int m_place, .int m_value, .long m_word, .int m_bad, .int m_badPlace, .int m_fault, .int m_faultPlace, .ref mlines, .ref mhas, .ref mtold, .ref mlaw, .ref msuit, .ref mapart, .ref mact, .ref misKept, .ref mseen, .ref mhung, .int m_gone, .ref mgoal, .ref mleaps, .ref mqueue, .ref mrow, .int m_reached, .ref mwanted, .ref mfirst, .ref moften, .int m_fitMany, .int m_fitFirst, .int m_askBest, .int m_askLeaves, .int m_bestFirst, .int m_bestWays, .ref mlots, .ref mthen, .long m_lotsAll])), (mhas, .inl (cyI, 20, .inl m_has)), (mlaw, .inl (cyI, 120, .inl m_law)), (r0, .inl (cyI, 7, .inl f0))] sz)) 0 0 (va_A [(m0, .inr (11, [.int m_thrown, .ref mwidth, .ref mmany, .ref mcells, .ref mmoved, .ref mtape, .int m_taped, .int m_at, .int m_token, .int m_place, .int m_value, .long m_word, .int m_bad, .int m_badPlace, .int m_fault, .int m_faultPlace, .ref mlines, .ref mhas, .ref mtold, .ref mlaw, .ref msuit, .ref mapart, .ref mact, .ref misKept, .ref mseen, .ref mhung, .int m_gone, .ref mgoal, .ref mleaps, .ref mqueue, .ref mrow, .int m_reached, .ref mwanted, .ref mfirst, .ref moften, .int m_fitMany, .int m_fitFirst, .int m_askBest, .int m_askLeaves, .int m_bestFirst, .int m_bestWays, .ref mlots, .ref mthen, .long m_lotsAll])), (mhas, .inl (cyI, 20, .inl m_has)), (mlaw, .inl (cyI, 120, .inl m_law)), (r0, .inl (cyI, 7, .inl f0))] sz) := by
  refine Met.ofW (cc := cX12_nightGoes) (maxL := 5) (ret := none) (by decide) rfl ?_
  intro p e s m args below meth c s₁ B hml hv
  obtain ⟨rfl, hsz, hP, hK, hD0⟩ := hv
  have hx := B.exec
  have hb := B.bytes
  have hr := B.returns
  have hts : ∀ w ∈ uU, w.before ([.ref m0, .ref r0, .int p1, .int p2] : List Value).toArray s = true := fun w h => atoms_spec (ws := wk yX12_nightGoes cX12_nightGoes 5 none) B.pre w (List.mem_cons_of_mem _ h)
  have hown : s.vm.findClass RX12 = some m.cls := findClass_of_methodNamed B.named
  have hlocks := B.notSynchronized
  subst hsz
  have hD := hD0.self (sz := s.heap.size)
  generalize hAe : va_A [(m0, .inr (11, [.int m_thrown, .ref mwidth, .ref mmany, .ref mcells, .ref mmoved, .ref mtape, .int m_taped, .int m_at, .int m_token, .int m_place, .int m_value, .long m_word, .int m_bad, .int m_badPlace, .int m_fault, .int m_faultPlace, .ref mlines, .ref mhas, .ref mtold, .ref mlaw, .ref msuit, .ref mapart, .ref mact, .ref misKept, .ref mseen, .ref mhung, .int m_gone, .ref mgoal, .ref mleaps, .ref mqueue, .ref mrow, .int m_reached, .ref mwanted, .ref mfirst, .ref moften, .int m_fitMany, .int m_fitFirst, .int m_askBest, .int m_askLeaves, .int m_bestFirst, .int m_bestWays, .ref mlots, .ref mthen, .long m_lotsAll])), (mhas, .inl (cyI, 20, .inl m_has)), (mlaw, .inl (cyI, 120, .inl m_law)), (r0, .inl (cyI, 7, .inl f0))] s.heap.size = A at hD ⊢
  have hA : ∀ q : Nat, s.heap.size ≤ q → A q := fun q h => by rw [← hAe]; exact Or.inr h
  have hS : va_S A s.heap s.heap [] := va_S.rf
  have hP : va_P (dC, dI) vwCl [(m0, .inr (11, [.int m_thrown, .ref mwidth, .ref mmany, .ref mcells, .ref mmoved, .ref mtape, .int m_taped, .int m_at, .int m_token, .int m_place, .int m_value, .long m_word, .int m_bad, .int m_badPlace, .int m_fault, .int m_faultPlace, .ref mlines, .ref mhas, .ref mtold, .ref mlaw, .ref msuit, .ref mapart, .ref mact, .ref misKept, .ref mseen, .ref mhung, .int m_gone, .ref mgoal, .ref mleaps, .ref mqueue, .ref mrow, .int m_reached, .ref mwanted, .ref mfirst, .ref moften, .int m_fitMany, .int m_fitFirst, .int m_askBest, .int m_askLeaves, .int m_bestFirst, .int m_bestWays, .ref mlots, .ref mthen, .long m_lotsAll])), (mhas, .inl (cyI, 20, .inl m_has)), (mlaw, .inl (cyI, 120, .inl m_law)), (r0, .inl (cyI, 7, .inl f0))] s.heap := hP
  have hl := lv_entry ([.ref m0, .ref r0, .int p1, .int p2]) (n := 5) (Nat.le_of_ble_eq_true rfl)
  rw [lg_entry_eq]
  generalize (lg_sl ([.ref m0, .ref r0, .int p1, .int p2]) ++ List.replicate (5 - (lg_sl ([.ref m0, .ref r0, .int p1, .int p2])).length) Slot.unset).toArray = ls at hl ⊢
  have hl : lv_has ls 5 [(0, .ref m0), (1, .ref r0), (2, .int p1), (3, .int p2)] := hl
  obtain ⟨H, hHe⟩ : ∃ H, H = s.heap := ⟨_, rfl⟩
  have hP : va_P (dC, dI) vwCl [(m0, .inr (11, [.int m_thrown, .ref mwidth, .ref mmany, .ref mcells, .ref mmoved, .ref mtape, .int m_taped, .int m_at, .int m_token, .int m_place, .int m_value, .long m_word, .int m_bad, .int m_badPlace, .int m_fault, .int m_faultPlace, .ref mlines, .ref mhas, .ref mtold, .ref mlaw, .ref msuit, .ref mapart, .ref mact, .ref misKept, .ref mseen, .ref mhung, .int m_gone, .ref mgoal, .ref mleaps, .ref mqueue, .ref mrow, .int m_reached, .ref mwanted, .ref mfirst, .ref moften, .int m_fitMany, .int m_fitFirst, .int m_askBest, .int m_askLeaves, .int m_bestFirst, .int m_bestWays, .ref mlots, .ref mthen, .long m_lotsAll])), (mhas, .inl (cyI, 20, .inl m_has)), (mlaw, .inl (cyI, 120, .inl m_law)), (r0, .inl (cyI, 7, .inl f0))] H := by rw [hHe]; exact hP
  have hS : va_S A s.heap H [] := by rw [hHe]; exact hS
  refine cv_heap hHe ?_
  obtain ⟨Q9, hQ9⟩ : ∃ Q9 : State → Prop, Q9 = MQ below (va_Qv (fun _ : Unit => True) (fun (_ : Unit) (t : State) => ∃ y0 : Nat → Int32, (rg 0 6 7 y0) ∧ (pm (m_has 0).toInt y0) ∧ va_P (dC, dI) vwCl [(m0, .inr (11, [.int m_thrown, .ref mwidth, .ref mmany, .ref mcells, .ref mmoved, .ref mtape, .int m_taped, .int m_at, .int m_token, .int m_place, .int m_value, .long m_word, .int m_bad, .int m_badPlace, .int m_fault, .int m_faultPlace, .ref mlines, .ref mhas, .ref mtold, .ref mlaw, .ref msuit, .ref mapart, .ref mact, .ref misKept, .ref mseen, .ref mhung, .int m_gone, .ref mgoal, .ref mleaps, .ref mqueue, .ref mrow, .int m_reached, .ref mwanted, .ref mfirst, .ref moften, .int m_fitMany, .int m_fitFirst, .int m_askBest, .int m_askLeaves, .int m_bestFirst, .int m_bestWays, .ref mlots, .ref mthen, .long m_lotsAll])), (mhas, .inl (cyI, 20, .inl m_has)), (mlaw, .inl (cyI, 120, .inl m_law)), (r0, .inl (cyI, 7, .inl y0))] t.heap ∧ va_D A [(m0, .inr (11, [.int m_thrown, .ref mwidth, .ref mmany, .ref mcells, .ref mmoved, .ref mtape, .int m_taped, .int m_at, .int m_token, .int m_place, .int m_value, .long m_word, .int m_bad, .int m_badPlace, .int m_fault, .int m_faultPlace, .ref mlines, .ref mhas, .ref mtold, .ref mlaw, .ref msuit, .ref mapart, .ref mact, .ref misKept, .ref mseen, .ref mhung, .int m_gone, .ref mgoal, .ref mleaps, .ref mqueue, .ref mrow, .int m_reached, .ref mwanted, .ref mfirst, .ref moften, .int m_fitMany, .int m_fitFirst, .int m_askBest, .int m_askLeaves, .int m_bestFirst, .int m_bestWays, .ref mlots, .ref mthen, .long m_lotsAll])), (mhas, .inl (cyI, 20, .inl m_has)), (mlaw, .inl (cyI, 120, .inl m_law)), (r0, .inl (cyI, 7, .inl y0))]) A) ([.ref m0, .ref r0, .int p1, .int p2] : List Value).toArray s 0 0 A := ⟨_, rfl⟩
  rw [← hQ9]
  refine lv_iconst (v := 0) hx hb dX12_nightGoes_0 (by decide) ?_
  refine lv_istore (lv' := [(4, .int 0), (0, .ref m0), (1, .ref r0), (2, .int p1), (3, .int p2)]) hx hb dX12_nightGoes_1 hl (by decide) rfl (fun ls hl => ?_)
  have key_3 : ∀ (nkey_3 : Nat) (u_1 : Int32) (f_2 : Nat → Int32) (H : Heap) (locs : List Loc) (ls : Array Slot), (0 ≤ u_1.toInt ∧ u_1.toInt ≤ 6) → rg 0 6 7 f_2 → pm (m_has 0).toInt f_2 → va_P (dC, dI) vwCl [(m0, .inr (11, [.int m_thrown, .ref mwidth, .ref mmany, .ref mcells, .ref mmoved, .ref mtape, .int m_taped, .int m_at, .int m_token, .int m_place, .int m_value, .long m_word, .int m_bad, .int m_badPlace, .int m_fault, .int m_faultPlace, .ref mlines, .ref mhas, .ref mtold, .ref mlaw, .ref msuit, .ref mapart, .ref mact, .ref misKept, .ref mseen, .ref mhung, .int m_gone, .ref mgoal, .ref mleaps, .ref mqueue, .ref mrow, .int m_reached, .ref mwanted, .ref mfirst, .ref moften, .int m_fitMany, .int m_fitFirst, .int m_askBest, .int m_askLeaves, .int m_bestFirst, .int m_bestWays, .ref mlots, .ref mthen, .long m_lotsAll])), (mhas, .inl (cyI, 20, .inl m_has)), (mlaw, .inl (cyI, 120, .inl m_law)), (r0, .inl (cyI, 7, .inl f_2))] H → va_D A [(m0, .inr (11, [.int m_thrown, .ref mwidth, .ref mmany, .ref mcells, .ref mmoved, .ref mtape, .int m_taped, .int m_at, .int m_token, .int m_place, .int m_value, .long m_word, .int m_bad, .int m_badPlace, .int m_fault, .int m_faultPlace, .ref mlines, .ref mhas, .ref mtold, .ref mlaw, .ref msuit, .ref mapart, .ref mact, .ref misKept, .ref mseen, .ref mhung, .int m_gone, .ref mgoal, .ref mleaps, .ref mqueue, .ref mrow, .int m_reached, .ref mwanted, .ref mfirst, .ref moften, .int m_fitMany, .int m_fitFirst, .int m_askBest, .int m_askLeaves, .int m_bestFirst, .int m_bestWays, .ref mlots, .ref mthen, .long m_lotsAll])), (mhas, .inl (cyI, 20, .inl m_has)), (mlaw, .inl (cyI, 120, .inl m_law)), (r0, .inl (cyI, 7, .inl f_2))] → va_S A s.heap H locs → lv_has ls 5 [(4, .int u_1), (0, .ref m0), (1, .ref r0), (2, .int p1), (3, .int p2)] → (6 - u_1.toInt).toNat < nkey_3 → W p l e ({ frames := 2, cells := 0, slots := 0, locals := 83 }) s m ([.ref m0, .ref r0, .int p1, .int p2] : List Value).toArray below meth c H locs 0 0 Q9 (F0 m 3 ls []) := by
    intro nkey_3
    induction nkey_3 with
    | zero => intro u_1 f_2 H locs ls hu_1 hf_2 hxf_2 hP hD hS hl hnkey_3; exact absurd hnkey_3 (Nat.not_lt_zero _)
    | succ nkey_3 ihkey_3 =>
      intro u_1 f_2 H locs ls hu_1 hf_2 hxf_2 hP hD hS hl hnkey_3
      refine lv_iload hx hb dX12_nightGoes_3 (lv_at hl 0 rfl) ?_
      refine lv_aload_n hx hb dX12_nightGoes_5 rfl (lv_at hl 1 rfl) ?_
      refine va_get (D := (dC, dI)) (ci := 11) (v := .ref mhas) (C := RX12) (T := TX12) (N := 44) hx hb hts uinX12 hown hK hP 0 rfl rfl 17 (by decide) (hts _ wd_6_54) (fun _ h9 => h9) rfl dX12_nightGoes_6 ?_
      refine lv_iconst (v := 1) hx hb dX12_nightGoes_9 (by decide) ?_
      refine va_iald hx hb hK hP 1 0 rfl rfl (vp_in_iff.mpr (by decide)) dX12_nightGoes_10 ?_
      refine cv_topi (b := m_has 1) rfl ?_
      refine lv_icmp_ge (tgt := 63) hx hb dX12_nightGoes_11 (by decide) (fun c_4 => ?_) (fun c_4 => ?_)
      · have c_4 : (m_has 1).toInt ≤ u_1.toInt := cv_le c_4
        rw [hQ9]
        have hP9 := hP.sub (ws' := [(m0, .inr (11, [.int m_thrown, .ref mwidth, .ref mmany, .ref mcells, .ref mmoved, .ref mtape, .int m_taped, .int m_at, .int m_token, .int m_place, .int m_value, .long m_word, .int m_bad, .int m_badPlace, .int m_fault, .int m_faultPlace, .ref mlines, .ref mhas, .ref mtold, .ref mlaw, .ref msuit, .ref mapart, .ref mact, .ref misKept, .ref mseen, .ref mhung, .int m_gone, .ref mgoal, .ref mleaps, .ref mqueue, .ref mrow, .int m_reached, .ref mwanted, .ref mfirst, .ref moften, .int m_fitMany, .int m_fitFirst, .int m_askBest, .int m_askLeaves, .int m_bestFirst, .int m_bestWays, .ref mlots, .ref mthen, .long m_lotsAll])), (mhas, .inl (cyI, 20, .inl m_has)), (mlaw, .inl (cyI, 120, .inl m_law)), (r0, .inl (cyI, 7, .inl f_2))]) [0, 1, 2, 3] rfl
        have hD9 := hD.sub (ws' := [(m0, .inr (11, [.int m_thrown, .ref mwidth, .ref mmany, .ref mcells, .ref mmoved, .ref mtape, .int m_taped, .int m_at, .int m_token, .int m_place, .int m_value, .long m_word, .int m_bad, .int m_badPlace, .int m_fault, .int m_faultPlace, .ref mlines, .ref mhas, .ref mtold, .ref mlaw, .ref msuit, .ref mapart, .ref mact, .ref misKept, .ref mseen, .ref mhung, .int m_gone, .ref mgoal, .ref mleaps, .ref mqueue, .ref mrow, .int m_reached, .ref mwanted, .ref mfirst, .ref moften, .int m_fitMany, .int m_fitFirst, .int m_askBest, .int m_askLeaves, .int m_bestFirst, .int m_bestWays, .ref mlots, .ref mthen, .long m_lotsAll])), (mhas, .inl (cyI, 20, .inl m_has)), (mlaw, .inl (cyI, 120, .inl m_law)), (r0, .inl (cyI, 7, .inl f_2))]) [0, 1, 2, 3] (by decide) rfl
        exact W.vret hx hb hr (fun t ht hW => ⟨⟨(), rfl, trivial, ⟨f_2, hf_2, hxf_2, by rw [ht]; exact hP9, hD9⟩⟩, hS.F ht⟩) hS.2.2 dX12_nightGoes_63
      · have c_4 : u_1.toInt < (m_has 1).toInt := cv_nle c_4
        refine lv_iload_n hx hb dX12_nightGoes_14 rfl (lv_at hl 4 rfl) ?_
        refine lv_iload hx hb dX12_nightGoes_15 (lv_at hl 0 rfl) ?_
        refine vp_callSi (va_Run.run (va_runS (As := [.int p2, .int u_1]) (rest := []) ⟨hx, hb, hml, hown, hts⟩ (m_isBit l dC dI cyI cyB cyJ cyZ cyH cyN p2 u_1) (va_cwS 2 hts (gdS wd_7_106 wd_7_107 wd_1_11 wd_7_108) rfl rfl rfl (by decide +kernel) ⟨Nat.le_of_ble_eq_true rfl, Nat.le_of_ble_eq_true rfl⟩) ⟨fun a U g mk q => q, fun U hU hW => ⟨rfl, trivial⟩⟩ rfl rfl hl.1 rfl (lv_room (Nat.le_of_ble_eq_true rfl)) dX12_nightGoes_17 ⟨Nat.le_of_ble_eq_true rfl, Nat.le_of_ble_eq_true rfl⟩)) (fun r_5 hw => ?_)
        have join_8 : ∀ (f_7 : Nat → Int32) (H : Heap) (locs : List Loc) (ls : Array Slot), rg 0 6 7 f_7 → pm (m_has 0).toInt f_7 → va_P (dC, dI) vwCl [(m0, .inr (11, [.int m_thrown, .ref mwidth, .ref mmany, .ref mcells, .ref mmoved, .ref mtape, .int m_taped, .int m_at, .int m_token, .int m_place, .int m_value, .long m_word, .int m_bad, .int m_badPlace, .int m_fault, .int m_faultPlace, .ref mlines, .ref mhas, .ref mtold, .ref mlaw, .ref msuit, .ref mapart, .ref mact, .ref misKept, .ref mseen, .ref mhung, .int m_gone, .ref mgoal, .ref mleaps, .ref mqueue, .ref mrow, .int m_reached, .ref mwanted, .ref mfirst, .ref moften, .int m_fitMany, .int m_fitFirst, .int m_askBest, .int m_askLeaves, .int m_bestFirst, .int m_bestWays, .ref mlots, .ref mthen, .long m_lotsAll])), (mhas, .inl (cyI, 20, .inl m_has)), (mlaw, .inl (cyI, 120, .inl m_law)), (r0, .inl (cyI, 7, .inl f_7))] H → va_D A [(m0, .inr (11, [.int m_thrown, .ref mwidth, .ref mmany, .ref mcells, .ref mmoved, .ref mtape, .int m_taped, .int m_at, .int m_token, .int m_place, .int m_value, .long m_word, .int m_bad, .int m_badPlace, .int m_fault, .int m_faultPlace, .ref mlines, .ref mhas, .ref mtold, .ref mlaw, .ref msuit, .ref mapart, .ref mact, .ref misKept, .ref mseen, .ref mhung, .int m_gone, .ref mgoal, .ref mleaps, .ref mqueue, .ref mrow, .int m_reached, .ref mwanted, .ref mfirst, .ref moften, .int m_fitMany, .int m_fitFirst, .int m_askBest, .int m_askLeaves, .int m_bestFirst, .int m_bestWays, .ref mlots, .ref mthen, .long m_lotsAll])), (mhas, .inl (cyI, 20, .inl m_has)), (mlaw, .inl (cyI, 120, .inl m_law)), (r0, .inl (cyI, 7, .inl f_7))] → va_S A s.heap H locs → lv_has ls 5 [(4, .int u_1), (0, .ref m0), (1, .ref r0), (2, .int p1), (3, .int p2)] → W p l e ({ frames := 2, cells := 0, slots := 0, locals := 83 }) s m ([.ref m0, .ref r0, .int p1, .int p2] : List Value).toArray below meth c H locs 0 0 Q9 (F0 m 57 ls []) := by
          intro f_7 H locs ls hf_7 hxf_7 hP hD hS hl
          obtain ⟨x_9, ex_9⟩ : ∃ y : Int32, y = u_1 + 1 := ⟨_, rfl⟩
          refine lv_iinc (v := x_9) (lv' := [(4, .int x_9), (0, .ref m0), (1, .ref r0), (2, .int p1), (3, .int p2)]) hx hb dX12_nightGoes_57 hl (k := 0) rfl (by rw [ex_9]; rfl) (by decide) rfl (fun ls hl => ?_)
          have fx_9 : x_9.toInt = u_1.toInt + 1 := by rw [ex_9]; exact cv_addI (by have : (1 : Int32).toInt = 1 := rfl; omega) (by have : (1 : Int32).toInt = 1 := rfl; omega)
          refine lv_goto (tgt := 3) hx hb dX12_nightGoes_60 (by decide) ?_
          exact ihkey_3 x_9 f_7 _ _ _ (by omega) hf_7 hxf_7 hP hD hS (lv_sub hl [0, 1, 2, 3, 4] rfl) (by omega)
        by_cases c_6 : ((p2 >>> (u_1 &&& 31)) &&& 1 = 1)
        · rw [if_pos c_6] at hw; subst hw; have c_6 : ((p2 >>> (u_1 &&& 31)) &&& 1 = 1) := c_6
          refine lv_if_ne (tgt := 57) hx hb dX12_nightGoes_20 (by decide) (fun _ => ?_) (fun c_10 => absurd c_10 (by decide))
          exact join_8 f_2 _ _ _ hf_2 hxf_2 hP hD hS (lv_sub hl [0, 1, 2, 3, 4] rfl)
        · rw [if_neg c_6] at hw; subst hw; have c_6 : ¬ ((p2 >>> (u_1 &&& 31)) &&& 1 = 1) := c_6
          refine lv_if_ne (tgt := 57) hx hb dX12_nightGoes_20 (by decide) (fun c_11 => absurd c_11 (by decide)) (fun _ => ?_)
          refine lv_aload_n hx hb dX12_nightGoes_23 rfl (lv_at hl 1 rfl) ?_
          refine lv_iload hx hb dX12_nightGoes_24 (lv_at hl 0 rfl) ?_
          refine lv_iload_n hx hb dX12_nightGoes_26 rfl (lv_at hl 3 rfl) ?_
          have hPc := hP.sub (ws' := [(m0, .inr (11, [.int m_thrown, .ref mwidth, .ref mmany, .ref mcells, .ref mmoved, .ref mtape, .int m_taped, .int m_at, .int m_token, .int m_place, .int m_value, .long m_word, .int m_bad, .int m_badPlace, .int m_fault, .int m_faultPlace, .ref mlines, .ref mhas, .ref mtold, .ref mlaw, .ref msuit, .ref mapart, .ref mact, .ref misKept, .ref mseen, .ref mhung, .int m_gone, .ref mgoal, .ref mleaps, .ref mqueue, .ref mrow, .int m_reached, .ref mwanted, .ref mfirst, .ref moften, .int m_fitMany, .int m_fitFirst, .int m_askBest, .int m_askLeaves, .int m_bestFirst, .int m_bestWays, .ref mlots, .ref mthen, .long m_lotsAll])), (mhas, .inl (cyI, 20, .inl m_has)), (mlaw, .inl (cyI, 120, .inl m_law))]) [0, 1, 2] rfl
          have hKc := hK.sub (tys' := [(cyI, .int), (cyB, .byte), (cyJ, .long), (cyZ, .boolean), (cyH, .object RX2), (cyN, .array .long)]) [0, 1, 2, 3, 4, 5] rfl
          refine vp_callSi (va_Run.run (va_runV (As := [.int u_1, .int p1]) (rest := []) ⟨hx, hb, hml, hown, hts⟩ (m_applies l dC dI cyI cyB cyJ cyZ cyH cyN m0 mwidth mmany mcells mmoved mtape mlines mhas mtold mlaw msuit mapart mact misKept mseen mhung mgoal mleaps mqueue mrow mwanted mfirst moften mlots mthen m_thrown m_taped m_at m_token m_place m_value m_word m_bad m_badPlace m_fault m_faultPlace m_gone m_reached m_fitMany m_fitFirst m_askBest m_askLeaves m_bestFirst m_bestWays m_lotsAll m_has m_law u_1 p1 (by omega) (by omega) (by omega) (by omega) g4 g5 g6 g7 (by omega)) (cwV 2 hts (gdV wd_7_109 wd_7_111 wd_s5_1 wd_1_11 wd_7_112) rfl rfl rfl (by decide +kernel) ⟨Nat.le_of_ble_eq_true rfl, Nat.le_of_ble_eq_true rfl⟩) ⟨fun a U g mk q => by obtain ⟨q0, qP, qK⟩ := q; exact ⟨q0, qP, va_K.moved (u := U) (U := U.calling g mk a) (Vm.Alike.refl U.vm) qK⟩, va_recv hKc hPc (ci := 11) (q0 := 0) rfl rfl, fun U hU hW => ⟨rfl, by rw [hU]; exact hPc, va_K.moved hW.alike hKc⟩⟩ rfl rfl hl.1 rfl (lv_room (Nat.le_of_ble_eq_true rfl)) dX12_nightGoes_27 ⟨Nat.le_of_ble_eq_true rfl, Nat.le_of_ble_eq_true rfl⟩)) (fun r_12 hw => ?_)
          have hrr_12 := hw
          refine lv_if_eq (tgt := 57) hx hb dX12_nightGoes_30 (by decide) (fun c_13 => ?_) (fun c_13 => ?_)
          · have c_13 : r_12.toInt = 0 := cv_eq c_13
            exact join_8 f_2 _ _ _ hf_2 hxf_2 hP hD hS (lv_sub hl [0, 1, 2, 3, 4] rfl)
          · have c_13 : r_12.toInt ≠ 0 := cv_ne c_13
            refine lv_aload_n hx hb dX12_nightGoes_33 rfl (lv_at hl 2 rfl) ?_
            refine lv_aload_n hx hb dX12_nightGoes_34 rfl (lv_at hl 1 rfl) ?_
            refine va_get (D := (dC, dI)) (ci := 11) (v := .ref mlaw) (C := RX12) (T := TX12) (N := 44) hx hb hts uinX12 hown hK hP 0 rfl rfl 19 (by decide) (hts _ wd_6_56) (fun _ h9 => h9) rfl dX12_nightGoes_35 ?_
            refine lv_iconst (v := 4) hx hb dX12_nightGoes_38 (by decide) ?_
            refine lv_iload hx hb dX12_nightGoes_39 (lv_at hl 0 rfl) ?_
            refine lv_imul hx hb dX12_nightGoes_41 ?_
            refine lv_topi (fun x_14 ex_14 => ?_)
            have fx_14 : x_14.toInt = 4 * u_1.toInt := by rw [ex_14]; exact cv_mulI (by rw [show (4 : Int32).toInt = 4 from rfl]; omega) (by rw [show (4 : Int32).toInt = 4 from rfl]; omega)
            refine va_iald hx hb hK hP 2 0 rfl rfl (vp_in_iff.mpr (by omega)) dX12_nightGoes_42 ?_
            refine lv_topi (fun x_15 ex_15 => ?_)
            have fx_15 : 0 ≤ x_15.toInt ∧ x_15.toInt < (m_has 0).toInt := lk_0 g7 ex_15 (l := u_1) (by omega) (by omega) (by omega)
            refine lv_aload_n hx hb dX12_nightGoes_43 rfl (lv_at hl 1 rfl) ?_
            refine va_get (D := (dC, dI)) (ci := 11) (v := .ref mlaw) (C := RX12) (T := TX12) (N := 44) hx hb hts uinX12 hown hK hP 0 rfl rfl 19 (by decide) (hts _ wd_6_56) (fun _ h9 => h9) rfl dX12_nightGoes_44 ?_
            refine lv_iconst (v := 4) hx hb dX12_nightGoes_47 (by decide) ?_
            refine lv_iload hx hb dX12_nightGoes_48 (lv_at hl 0 rfl) ?_
            refine lv_imul hx hb dX12_nightGoes_50 ?_
            refine lv_topi (fun x_16 ex_16 => ?_)
            have fx_16 : x_16.toInt = 4 * u_1.toInt := by rw [ex_16]; exact cv_mulI (by rw [show (4 : Int32).toInt = 4 from rfl]; omega) (by rw [show (4 : Int32).toInt = 4 from rfl]; omega)
            refine lv_iconst (v := 1) hx hb dX12_nightGoes_51 (by decide) ?_
            refine lv_iadd hx hb dX12_nightGoes_52 ?_
            refine lv_topi (fun x_17 ex_17 => ?_)
            have fx_17 : x_17.toInt = x_16.toInt + 1 := by rw [ex_17]; exact cv_addI (by have : (1 : Int32).toInt = 1 := rfl; omega) (by have : (1 : Int32).toInt = 1 := rfl; omega)
            refine va_iald hx hb hK hP 2 0 rfl rfl (vp_in_iff.mpr (by omega)) dX12_nightGoes_53 ?_
            refine lv_topi (fun x_18 ex_18 => ?_)
            have fx_18 : 0 ≤ x_18.toInt ∧ x_18.toInt < (m_has 0).toInt := lk_1 g7 ex_18 (l := u_1) (by omega) (by omega) (by omega)
            have hPc := hP.sub (ws' := [(r0, .inl (cyI, 7, .inl f_2))]) [3] rfl
            have hKc := hK.sub (tys' := [(cyI, .int), (cyB, .byte), (cyJ, .long), (cyZ, .boolean), (cyH, .object RX2), (cyN, .array .long)]) [0, 1, 2, 3, 4, 5] rfl
            have hDc := hD.sub (ws' := [(r0, .inl (cyI, 7, .inl f_2))]) [3] (by decide) rfl
            have hFc := va_free (wc := [(r0, .inl (cyI, 7, .inl f_2))]) hD hS hA [3] rfl
            refine va_callv (va_runS (As := [.ref r0, .int x_15, .int x_18]) (rest := []) ⟨hx, hb, hml, hown, hts⟩ (m_change l dC dI cyI cyB cyJ cyZ cyH cyN H.size r0 f_2 m_has x_15 x_18 hf_2 (by omega) (by omega) hxf_2 (by omega) (by omega)) (va_cwS 3 hts (gdS wd_7_113 wd_7_114 wd_1_11 wd_7_115) rfl rfl rfl (by decide +kernel) ⟨Nat.le_of_ble_eq_true rfl, Nat.le_of_ble_eq_true rfl⟩) ⟨fun a U g mk q => by obtain ⟨q0, q1, qP, qK, qD⟩ := q; exact ⟨q0, q1, qP, va_K.moved (u := U) (U := U.calling g mk a) (Vm.Alike.refl U.vm) qK, qD⟩, fun U hU hW => ⟨rfl, by rw [hU], by rw [hU]; exact hPc, va_K.moved hW.alike hKc, hDc.weaken (fun _ _ _ _ => trivial)⟩⟩ rfl rfl hl.1 rfl (lv_room (Nat.le_of_ble_eq_true rfl)) dX12_nightGoes_54 ⟨Nat.le_of_ble_eq_true rfl, Nat.le_of_ble_eq_true rfl⟩) hS (fun q _ h => hFc q h) hFc (fun  u t H1 locs ht hvm hw hB hz1 hk1 hS => ?_)
            obtain ⟨y0_19, hp_20, hp_21, hP1, hD1⟩ := hB
            rw [ht] at hP1
            obtain ⟨hP, hD⟩ := va_join (wr := [(m0, .inr (11, [.int m_thrown, .ref mwidth, .ref mmany, .ref mcells, .ref mmoved, .ref mtape, .int m_taped, .int m_at, .int m_token, .int m_place, .int m_value, .long m_word, .int m_bad, .int m_badPlace, .int m_fault, .int m_faultPlace, .ref mlines, .ref mhas, .ref mtold, .ref mlaw, .ref msuit, .ref mapart, .ref mact, .ref misKept, .ref mseen, .ref mhung, .int m_gone, .ref mgoal, .ref mleaps, .ref mqueue, .ref mrow, .int m_reached, .ref mwanted, .ref mfirst, .ref moften, .int m_fitMany, .int m_fitFirst, .int m_askBest, .int m_askLeaves, .int m_bestFirst, .int m_bestWays, .ref mlots, .ref mthen, .long m_lotsAll])), (mhas, .inl (cyI, 20, .inl m_has)), (mlaw, .inl (cyI, 120, .inl m_law))]) (w1 := [(r0, .inl (cyI, 7, .inl y0_19))]) hP hD [3] [0, 1, 2] rfl rfl (by decide) (by decide) hk1 hFc hP1 hD1
            generalize H1 = H at hP hS ⊢
            have hP : va_P (dC, dI) vwCl [(m0, .inr (11, [.int m_thrown, .ref mwidth, .ref mmany, .ref mcells, .ref mmoved, .ref mtape, .int m_taped, .int m_at, .int m_token, .int m_place, .int m_value, .long m_word, .int m_bad, .int m_badPlace, .int m_fault, .int m_faultPlace, .ref mlines, .ref mhas, .ref mtold, .ref mlaw, .ref msuit, .ref mapart, .ref mact, .ref misKept, .ref mseen, .ref mhung, .int m_gone, .ref mgoal, .ref mleaps, .ref mqueue, .ref mrow, .int m_reached, .ref mwanted, .ref mfirst, .ref moften, .int m_fitMany, .int m_fitFirst, .int m_askBest, .int m_askLeaves, .int m_bestFirst, .int m_bestWays, .ref mlots, .ref mthen, .long m_lotsAll])), (mhas, .inl (cyI, 20, .inl m_has)), (mlaw, .inl (cyI, 120, .inl m_law)), (r0, .inl (cyI, 7, .inl y0_19))] H := hP
            have hD : va_D A [(m0, .inr (11, [.int m_thrown, .ref mwidth, .ref mmany, .ref mcells, .ref mmoved, .ref mtape, .int m_taped, .int m_at, .int m_token, .int m_place, .int m_value, .long m_word, .int m_bad, .int m_badPlace, .int m_fault, .int m_faultPlace, .ref mlines, .ref mhas, .ref mtold, .ref mlaw, .ref msuit, .ref mapart, .ref mact, .ref misKept, .ref mseen, .ref mhung, .int m_gone, .ref mgoal, .ref mleaps, .ref mqueue, .ref mrow, .int m_reached, .ref mwanted, .ref mfirst, .ref moften, .int m_fitMany, .int m_fitFirst, .int m_askBest, .int m_askLeaves, .int m_bestFirst, .int m_bestWays, .ref mlots, .ref mthen, .long m_lotsAll])), (mhas, .inl (cyI, 20, .inl m_has)), (mlaw, .inl (cyI, 120, .inl m_law)), (r0, .inl (cyI, 7, .inl y0_19))] := hD
            exact join_8 y0_19 _ _ _ hp_20 hp_21 hP hD hS (lv_sub hl [0, 1, 2, 3, 4] rfl)
  exact key_3 _ 0 f0 _ _ _ (by decide) g0 g8 hP hD hS (lv_sub hl [0, 1, 2, 3, 4] rfl) (Nat.lt_succ_self _)

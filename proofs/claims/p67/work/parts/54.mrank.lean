/- X12_ways -/
set_option maxHeartbeats 4000000 in
set_option maxRecDepth 100000 in
theorem m_ways0 (l : Launch) (dC : Nat → ClassId) (dI : Nat → Nat → Nat) (cyI cyB cyJ cyZ cyH cyN : ClassId) : Met l yX12_ways (wk yX12_ways cX12_ways 1 (some .int)) ({ frames := 1, cells := 0, slots := 0, locals := 60 }) (va_Pc [.int 0] (fun _ => True)) (vp_Si (fun r : Int32 => r = 1)) 0 0 (fun _ => False) := by
  refine Met.ofW (cc := cX12_ways) (maxL := 1) (ret := (some .int)) (by decide) rfl ?_
  intro p e s m args below meth c s₁ B hml hv
  obtain ⟨rfl, -⟩ := hv
  have hx := B.exec
  have hb := B.bytes
  have hr := B.returns
  have hts : ∀ w ∈ uU, w.before ([.int 0] : List Value).toArray s = true := fun w h => atoms_spec (ws := wk yX12_ways cX12_ways 1 (some .int)) B.pre w (List.mem_cons_of_mem _ h)
  have hown : s.vm.findClass RX12 = some m.cls := findClass_of_methodNamed B.named
  have hlocks := B.notSynchronized
  have hl := lv_entry ([.int 0]) (n := 1) (Nat.le_of_ble_eq_true rfl)
  rw [lg_entry_eq]
  generalize (lg_sl ([.int 0]) ++ List.replicate (1 - (lg_sl ([.int 0])).length) Slot.unset).toArray = ls at hl ⊢
  have hl : lv_has ls 1 [(0, .int 0)] := hl
  obtain ⟨Q9, hQ9⟩ : ∃ Q9 : State → Prop, Q9 = MQ below (vp_Si (fun r : Int32 => r = 1)) ([.int 0] : List Value).toArray s 0 0 (fun _ => False) := ⟨_, rfl⟩
  rw [← hQ9]
  refine lv_iload_n hx hb dX12_ways_0 rfl (lv_at hl 0 rfl) ?_
  refine lv_iconst (v := 2) hx hb dX12_ways_1 (by decide) ?_
  refine lv_icmp_ge (tgt := 9) hx hb dX12_ways_2 (by decide) (fun c_1 => absurd c_1 (by decide)) (fun _ => ?_)
  refine lv_iconst (v := 1) hx hb dX12_ways_5 (by decide) ?_
  refine lv_goto (tgt := 17) hx hb dX12_ways_6 (by decide) ?_
  rw [hQ9]
  exact W.iret (v := 1) hx hb hr (fun t ht hW => ⟨1, rfl, rfl, ht⟩) (fun q h => by cases h) dX12_ways_17

/- X12_ways -/
set_option maxHeartbeats 4000000 in
set_option maxRecDepth 100000 in
theorem m_ways1 (l : Launch) (dC : Nat → ClassId) (dI : Nat → Nat → Nat) (cyI cyB cyJ cyZ cyH cyN : ClassId) : Met l yX12_ways (wk yX12_ways cX12_ways 1 (some .int)) ({ frames := 1, cells := 0, slots := 0, locals := 60 }) (va_Pc [.int 1] (fun _ => True)) (vp_Si (fun r : Int32 => r = 1)) 0 0 (fun _ => False) := by
  refine Met.ofW (cc := cX12_ways) (maxL := 1) (ret := (some .int)) (by decide) rfl ?_
  intro p e s m args below meth c s₁ B hml hv
  obtain ⟨rfl, -⟩ := hv
  have hx := B.exec
  have hb := B.bytes
  have hr := B.returns
  have hts : ∀ w ∈ uU, w.before ([.int 1] : List Value).toArray s = true := fun w h => atoms_spec (ws := wk yX12_ways cX12_ways 1 (some .int)) B.pre w (List.mem_cons_of_mem _ h)
  have hown : s.vm.findClass RX12 = some m.cls := findClass_of_methodNamed B.named
  have hlocks := B.notSynchronized
  have hl := lv_entry ([.int 1]) (n := 1) (Nat.le_of_ble_eq_true rfl)
  rw [lg_entry_eq]
  generalize (lg_sl ([.int 1]) ++ List.replicate (1 - (lg_sl ([.int 1])).length) Slot.unset).toArray = ls at hl ⊢
  have hl : lv_has ls 1 [(0, .int 1)] := hl
  obtain ⟨Q9, hQ9⟩ : ∃ Q9 : State → Prop, Q9 = MQ below (vp_Si (fun r : Int32 => r = 1)) ([.int 1] : List Value).toArray s 0 0 (fun _ => False) := ⟨_, rfl⟩
  rw [← hQ9]
  refine lv_iload_n hx hb dX12_ways_0 rfl (lv_at hl 0 rfl) ?_
  refine lv_iconst (v := 2) hx hb dX12_ways_1 (by decide) ?_
  refine lv_icmp_ge (tgt := 9) hx hb dX12_ways_2 (by decide) (fun c_1 => absurd c_1 (by decide)) (fun _ => ?_)
  refine lv_iconst (v := 1) hx hb dX12_ways_5 (by decide) ?_
  refine lv_goto (tgt := 17) hx hb dX12_ways_6 (by decide) ?_
  rw [hQ9]
  exact W.iret (v := 1) hx hb hr (fun t ht hW => ⟨1, rfl, rfl, ht⟩) (fun q h => by cases h) dX12_ways_17

/- X12_ways -/
set_option maxHeartbeats 4000000 in
set_option maxRecDepth 100000 in
theorem m_ways2 (l : Launch) (dC : Nat → ClassId) (dI : Nat → Nat → Nat) (cyI cyB cyJ cyZ cyH cyN : ClassId) : Met l yX12_ways (wk yX12_ways cX12_ways 1 (some .int)) ({ frames := 2, cells := 0, slots := 0, locals := 80 }) (va_Pc [.int 2] (fun _ => True)) (vp_Si (fun r : Int32 => r = 2)) 0 0 (fun _ => False) := by
  refine Met.ofW (cc := cX12_ways) (maxL := 1) (ret := (some .int)) (by decide) rfl ?_
  intro p e s m args below meth c s₁ B hml hv
  obtain ⟨rfl, -⟩ := hv
  have hx := B.exec
  have hb := B.bytes
  have hr := B.returns
  have hts : ∀ w ∈ uU, w.before ([.int 2] : List Value).toArray s = true := fun w h => atoms_spec (ws := wk yX12_ways cX12_ways 1 (some .int)) B.pre w (List.mem_cons_of_mem _ h)
  have hown : s.vm.findClass RX12 = some m.cls := findClass_of_methodNamed B.named
  have hlocks := B.notSynchronized
  have hl := lv_entry ([.int 2]) (n := 1) (Nat.le_of_ble_eq_true rfl)
  rw [lg_entry_eq]
  generalize (lg_sl ([.int 2]) ++ List.replicate (1 - (lg_sl ([.int 2])).length) Slot.unset).toArray = ls at hl ⊢
  have hl : lv_has ls 1 [(0, .int 2)] := hl
  obtain ⟨Q9, hQ9⟩ : ∃ Q9 : State → Prop, Q9 = MQ below (vp_Si (fun r : Int32 => r = 2)) ([.int 2] : List Value).toArray s 0 0 (fun _ => False) := ⟨_, rfl⟩
  rw [← hQ9]
  refine lv_iload_n hx hb dX12_ways_0 rfl (lv_at hl 0 rfl) ?_
  refine lv_iconst (v := 2) hx hb dX12_ways_1 (by decide) ?_
  refine lv_icmp_ge (tgt := 9) hx hb dX12_ways_2 (by decide) (fun _ => ?_) (fun c_1 => absurd c_1 (by decide))
  refine lv_iload_n hx hb dX12_ways_9 rfl (lv_at hl 0 rfl) ?_
  refine lv_iload_n hx hb dX12_ways_10 rfl (lv_at hl 0 rfl) ?_
  refine lv_iconst (v := 1) hx hb dX12_ways_11 (by decide) ?_
  refine lv_isub hx hb dX12_ways_12 ?_
  refine cv_topi (b := 1) (by decide) ?_
  refine vp_callSi (va_Run.run (va_runS (As := [.int 1]) (rest := [.int 2]) ⟨hx, hb, hml, hown, hts⟩ (m_ways1 l dC dI cyI cyB cyJ cyZ cyH cyN) (va_cwS 1 hts (gdS wd_8_24 wd_8_25 wd_1_11 wd_8_26) rfl rfl rfl (by decide +kernel) ⟨Nat.le_of_ble_eq_true rfl, Nat.le_of_ble_eq_true rfl⟩) ⟨fun a U g mk q => q, fun U hU hW => ⟨rfl, trivial⟩⟩ rfl rfl hl.1 rfl (lv_room (Nat.le_of_ble_eq_true rfl)) dX12_ways_13 ⟨Nat.le_of_ble_eq_true rfl, Nat.le_of_ble_eq_true rfl⟩)) (fun r_2 hw => ?_)
  subst hw
  refine lv_imul hx hb dX12_ways_16 ?_
  refine cv_topi (b := 2) (by decide) ?_
  rw [hQ9]
  exact W.iret (v := 2) hx hb hr (fun t ht hW => ⟨2, rfl, rfl, ht⟩) (fun q h => by cases h) dX12_ways_17

/- X12_ways -/
set_option maxHeartbeats 4000000 in
set_option maxRecDepth 100000 in
theorem m_ways3 (l : Launch) (dC : Nat → ClassId) (dI : Nat → Nat → Nat) (cyI cyB cyJ cyZ cyH cyN : ClassId) : Met l yX12_ways (wk yX12_ways cX12_ways 1 (some .int)) ({ frames := 3, cells := 0, slots := 0, locals := 100 }) (va_Pc [.int 3] (fun _ => True)) (vp_Si (fun r : Int32 => r = 6)) 0 0 (fun _ => False) := by
  refine Met.ofW (cc := cX12_ways) (maxL := 1) (ret := (some .int)) (by decide) rfl ?_
  intro p e s m args below meth c s₁ B hml hv
  obtain ⟨rfl, -⟩ := hv
  have hx := B.exec
  have hb := B.bytes
  have hr := B.returns
  have hts : ∀ w ∈ uU, w.before ([.int 3] : List Value).toArray s = true := fun w h => atoms_spec (ws := wk yX12_ways cX12_ways 1 (some .int)) B.pre w (List.mem_cons_of_mem _ h)
  have hown : s.vm.findClass RX12 = some m.cls := findClass_of_methodNamed B.named
  have hlocks := B.notSynchronized
  have hl := lv_entry ([.int 3]) (n := 1) (Nat.le_of_ble_eq_true rfl)
  rw [lg_entry_eq]
  generalize (lg_sl ([.int 3]) ++ List.replicate (1 - (lg_sl ([.int 3])).length) Slot.unset).toArray = ls at hl ⊢
  have hl : lv_has ls 1 [(0, .int 3)] := hl
  obtain ⟨Q9, hQ9⟩ : ∃ Q9 : State → Prop, Q9 = MQ below (vp_Si (fun r : Int32 => r = 6)) ([.int 3] : List Value).toArray s 0 0 (fun _ => False) := ⟨_, rfl⟩
  rw [← hQ9]
  refine lv_iload_n hx hb dX12_ways_0 rfl (lv_at hl 0 rfl) ?_
  refine lv_iconst (v := 2) hx hb dX12_ways_1 (by decide) ?_
  refine lv_icmp_ge (tgt := 9) hx hb dX12_ways_2 (by decide) (fun _ => ?_) (fun c_1 => absurd c_1 (by decide))
  refine lv_iload_n hx hb dX12_ways_9 rfl (lv_at hl 0 rfl) ?_
  refine lv_iload_n hx hb dX12_ways_10 rfl (lv_at hl 0 rfl) ?_
  refine lv_iconst (v := 1) hx hb dX12_ways_11 (by decide) ?_
  refine lv_isub hx hb dX12_ways_12 ?_
  refine cv_topi (b := 2) (by decide) ?_
  refine vp_callSi (va_Run.run (va_runS (As := [.int 2]) (rest := [.int 3]) ⟨hx, hb, hml, hown, hts⟩ (m_ways2 l dC dI cyI cyB cyJ cyZ cyH cyN) (va_cwS 1 hts (gdS wd_8_24 wd_8_25 wd_1_11 wd_8_26) rfl rfl rfl (by decide +kernel) ⟨Nat.le_of_ble_eq_true rfl, Nat.le_of_ble_eq_true rfl⟩) ⟨fun a U g mk q => q, fun U hU hW => ⟨rfl, trivial⟩⟩ rfl rfl hl.1 rfl (lv_room (Nat.le_of_ble_eq_true rfl)) dX12_ways_13 ⟨Nat.le_of_ble_eq_true rfl, Nat.le_of_ble_eq_true rfl⟩)) (fun r_2 hw => ?_)
  subst hw
  refine lv_imul hx hb dX12_ways_16 ?_
  refine cv_topi (b := 6) (by decide) ?_
  rw [hQ9]
  exact W.iret (v := 6) hx hb hr (fun t ht hW => ⟨6, rfl, rfl, ht⟩) (fun q h => by cases h) dX12_ways_17

/- X12_ways -/
set_option maxHeartbeats 4000000 in
set_option maxRecDepth 100000 in
theorem m_ways4 (l : Launch) (dC : Nat → ClassId) (dI : Nat → Nat → Nat) (cyI cyB cyJ cyZ cyH cyN : ClassId) : Met l yX12_ways (wk yX12_ways cX12_ways 1 (some .int)) ({ frames := 4, cells := 0, slots := 0, locals := 120 }) (va_Pc [.int 4] (fun _ => True)) (vp_Si (fun r : Int32 => r = 24)) 0 0 (fun _ => False) := by
  refine Met.ofW (cc := cX12_ways) (maxL := 1) (ret := (some .int)) (by decide) rfl ?_
  intro p e s m args below meth c s₁ B hml hv
  obtain ⟨rfl, -⟩ := hv
  have hx := B.exec
  have hb := B.bytes
  have hr := B.returns
  have hts : ∀ w ∈ uU, w.before ([.int 4] : List Value).toArray s = true := fun w h => atoms_spec (ws := wk yX12_ways cX12_ways 1 (some .int)) B.pre w (List.mem_cons_of_mem _ h)
  have hown : s.vm.findClass RX12 = some m.cls := findClass_of_methodNamed B.named
  have hlocks := B.notSynchronized
  have hl := lv_entry ([.int 4]) (n := 1) (Nat.le_of_ble_eq_true rfl)
  rw [lg_entry_eq]
  generalize (lg_sl ([.int 4]) ++ List.replicate (1 - (lg_sl ([.int 4])).length) Slot.unset).toArray = ls at hl ⊢
  have hl : lv_has ls 1 [(0, .int 4)] := hl
  obtain ⟨Q9, hQ9⟩ : ∃ Q9 : State → Prop, Q9 = MQ below (vp_Si (fun r : Int32 => r = 24)) ([.int 4] : List Value).toArray s 0 0 (fun _ => False) := ⟨_, rfl⟩
  rw [← hQ9]
  refine lv_iload_n hx hb dX12_ways_0 rfl (lv_at hl 0 rfl) ?_
  refine lv_iconst (v := 2) hx hb dX12_ways_1 (by decide) ?_
  refine lv_icmp_ge (tgt := 9) hx hb dX12_ways_2 (by decide) (fun _ => ?_) (fun c_1 => absurd c_1 (by decide))
  refine lv_iload_n hx hb dX12_ways_9 rfl (lv_at hl 0 rfl) ?_
  refine lv_iload_n hx hb dX12_ways_10 rfl (lv_at hl 0 rfl) ?_
  refine lv_iconst (v := 1) hx hb dX12_ways_11 (by decide) ?_
  refine lv_isub hx hb dX12_ways_12 ?_
  refine cv_topi (b := 3) (by decide) ?_
  refine vp_callSi (va_Run.run (va_runS (As := [.int 3]) (rest := [.int 4]) ⟨hx, hb, hml, hown, hts⟩ (m_ways3 l dC dI cyI cyB cyJ cyZ cyH cyN) (va_cwS 1 hts (gdS wd_8_24 wd_8_25 wd_1_11 wd_8_26) rfl rfl rfl (by decide +kernel) ⟨Nat.le_of_ble_eq_true rfl, Nat.le_of_ble_eq_true rfl⟩) ⟨fun a U g mk q => q, fun U hU hW => ⟨rfl, trivial⟩⟩ rfl rfl hl.1 rfl (lv_room (Nat.le_of_ble_eq_true rfl)) dX12_ways_13 ⟨Nat.le_of_ble_eq_true rfl, Nat.le_of_ble_eq_true rfl⟩)) (fun r_2 hw => ?_)
  subst hw
  refine lv_imul hx hb dX12_ways_16 ?_
  refine cv_topi (b := 24) (by decide) ?_
  rw [hQ9]
  exact W.iret (v := 24) hx hb hr (fun t ht hW => ⟨24, rfl, rfl, ht⟩) (fun q h => by cases h) dX12_ways_17

/- X12_ways -/
set_option maxHeartbeats 4000000 in
set_option maxRecDepth 100000 in
theorem m_ways5 (l : Launch) (dC : Nat → ClassId) (dI : Nat → Nat → Nat) (cyI cyB cyJ cyZ cyH cyN : ClassId) : Met l yX12_ways (wk yX12_ways cX12_ways 1 (some .int)) ({ frames := 5, cells := 0, slots := 0, locals := 140 }) (va_Pc [.int 5] (fun _ => True)) (vp_Si (fun r : Int32 => r = 120)) 0 0 (fun _ => False) := by
  refine Met.ofW (cc := cX12_ways) (maxL := 1) (ret := (some .int)) (by decide) rfl ?_
  intro p e s m args below meth c s₁ B hml hv
  obtain ⟨rfl, -⟩ := hv
  have hx := B.exec
  have hb := B.bytes
  have hr := B.returns
  have hts : ∀ w ∈ uU, w.before ([.int 5] : List Value).toArray s = true := fun w h => atoms_spec (ws := wk yX12_ways cX12_ways 1 (some .int)) B.pre w (List.mem_cons_of_mem _ h)
  have hown : s.vm.findClass RX12 = some m.cls := findClass_of_methodNamed B.named
  have hlocks := B.notSynchronized
  have hl := lv_entry ([.int 5]) (n := 1) (Nat.le_of_ble_eq_true rfl)
  rw [lg_entry_eq]
  generalize (lg_sl ([.int 5]) ++ List.replicate (1 - (lg_sl ([.int 5])).length) Slot.unset).toArray = ls at hl ⊢
  have hl : lv_has ls 1 [(0, .int 5)] := hl
  obtain ⟨Q9, hQ9⟩ : ∃ Q9 : State → Prop, Q9 = MQ below (vp_Si (fun r : Int32 => r = 120)) ([.int 5] : List Value).toArray s 0 0 (fun _ => False) := ⟨_, rfl⟩
  rw [← hQ9]
  refine lv_iload_n hx hb dX12_ways_0 rfl (lv_at hl 0 rfl) ?_
  refine lv_iconst (v := 2) hx hb dX12_ways_1 (by decide) ?_
  refine lv_icmp_ge (tgt := 9) hx hb dX12_ways_2 (by decide) (fun _ => ?_) (fun c_1 => absurd c_1 (by decide))
  refine lv_iload_n hx hb dX12_ways_9 rfl (lv_at hl 0 rfl) ?_
  refine lv_iload_n hx hb dX12_ways_10 rfl (lv_at hl 0 rfl) ?_
  refine lv_iconst (v := 1) hx hb dX12_ways_11 (by decide) ?_
  refine lv_isub hx hb dX12_ways_12 ?_
  refine cv_topi (b := 4) (by decide) ?_
  refine vp_callSi (va_Run.run (va_runS (As := [.int 4]) (rest := [.int 5]) ⟨hx, hb, hml, hown, hts⟩ (m_ways4 l dC dI cyI cyB cyJ cyZ cyH cyN) (va_cwS 1 hts (gdS wd_8_24 wd_8_25 wd_1_11 wd_8_26) rfl rfl rfl (by decide +kernel) ⟨Nat.le_of_ble_eq_true rfl, Nat.le_of_ble_eq_true rfl⟩) ⟨fun a U g mk q => q, fun U hU hW => ⟨rfl, trivial⟩⟩ rfl rfl hl.1 rfl (lv_room (Nat.le_of_ble_eq_true rfl)) dX12_ways_13 ⟨Nat.le_of_ble_eq_true rfl, Nat.le_of_ble_eq_true rfl⟩)) (fun r_2 hw => ?_)
  subst hw
  refine lv_imul hx hb dX12_ways_16 ?_
  refine cv_topi (b := 120) (by decide) ?_
  rw [hQ9]
  exact W.iret (v := 120) hx hb hr (fun t ht hW => ⟨120, rfl, rfl, ht⟩) (fun q h => by cases h) dX12_ways_17

/- X12_ways -/
set_option maxHeartbeats 4000000 in
set_option maxRecDepth 100000 in
theorem m_ways6 (l : Launch) (dC : Nat → ClassId) (dI : Nat → Nat → Nat) (cyI cyB cyJ cyZ cyH cyN : ClassId) : Met l yX12_ways (wk yX12_ways cX12_ways 1 (some .int)) ({ frames := 6, cells := 0, slots := 0, locals := 160 }) (va_Pc [.int 6] (fun _ => True)) (vp_Si (fun r : Int32 => r = 720)) 0 0 (fun _ => False) := by
  refine Met.ofW (cc := cX12_ways) (maxL := 1) (ret := (some .int)) (by decide) rfl ?_
  intro p e s m args below meth c s₁ B hml hv
  obtain ⟨rfl, -⟩ := hv
  have hx := B.exec
  have hb := B.bytes
  have hr := B.returns
  have hts : ∀ w ∈ uU, w.before ([.int 6] : List Value).toArray s = true := fun w h => atoms_spec (ws := wk yX12_ways cX12_ways 1 (some .int)) B.pre w (List.mem_cons_of_mem _ h)
  have hown : s.vm.findClass RX12 = some m.cls := findClass_of_methodNamed B.named
  have hlocks := B.notSynchronized
  have hl := lv_entry ([.int 6]) (n := 1) (Nat.le_of_ble_eq_true rfl)
  rw [lg_entry_eq]
  generalize (lg_sl ([.int 6]) ++ List.replicate (1 - (lg_sl ([.int 6])).length) Slot.unset).toArray = ls at hl ⊢
  have hl : lv_has ls 1 [(0, .int 6)] := hl
  obtain ⟨Q9, hQ9⟩ : ∃ Q9 : State → Prop, Q9 = MQ below (vp_Si (fun r : Int32 => r = 720)) ([.int 6] : List Value).toArray s 0 0 (fun _ => False) := ⟨_, rfl⟩
  rw [← hQ9]
  refine lv_iload_n hx hb dX12_ways_0 rfl (lv_at hl 0 rfl) ?_
  refine lv_iconst (v := 2) hx hb dX12_ways_1 (by decide) ?_
  refine lv_icmp_ge (tgt := 9) hx hb dX12_ways_2 (by decide) (fun _ => ?_) (fun c_1 => absurd c_1 (by decide))
  refine lv_iload_n hx hb dX12_ways_9 rfl (lv_at hl 0 rfl) ?_
  refine lv_iload_n hx hb dX12_ways_10 rfl (lv_at hl 0 rfl) ?_
  refine lv_iconst (v := 1) hx hb dX12_ways_11 (by decide) ?_
  refine lv_isub hx hb dX12_ways_12 ?_
  refine cv_topi (b := 5) (by decide) ?_
  refine vp_callSi (va_Run.run (va_runS (As := [.int 5]) (rest := [.int 6]) ⟨hx, hb, hml, hown, hts⟩ (m_ways5 l dC dI cyI cyB cyJ cyZ cyH cyN) (va_cwS 1 hts (gdS wd_8_24 wd_8_25 wd_1_11 wd_8_26) rfl rfl rfl (by decide +kernel) ⟨Nat.le_of_ble_eq_true rfl, Nat.le_of_ble_eq_true rfl⟩) ⟨fun a U g mk q => q, fun U hU hW => ⟨rfl, trivial⟩⟩ rfl rfl hl.1 rfl (lv_room (Nat.le_of_ble_eq_true rfl)) dX12_ways_13 ⟨Nat.le_of_ble_eq_true rfl, Nat.le_of_ble_eq_true rfl⟩)) (fun r_2 hw => ?_)
  subst hw
  refine lv_imul hx hb dX12_ways_16 ?_
  refine cv_topi (b := 720) (by decide) ?_
  rw [hQ9]
  exact W.iret (v := 720) hx hb hr (fun t ht hW => ⟨720, rfl, rfl, ht⟩) (fun q h => by cases h) dX12_ways_17

/- X12_ways -/
set_option maxHeartbeats 4000000 in
set_option maxRecDepth 100000 in
theorem m_ways7 (l : Launch) (dC : Nat → ClassId) (dI : Nat → Nat → Nat) (cyI cyB cyJ cyZ cyH cyN : ClassId) : Met l yX12_ways (wk yX12_ways cX12_ways 1 (some .int)) ({ frames := 7, cells := 0, slots := 0, locals := 180 }) (va_Pc [.int 7] (fun _ => True)) (vp_Si (fun r : Int32 => r = 5040)) 0 0 (fun _ => False) := by
  refine Met.ofW (cc := cX12_ways) (maxL := 1) (ret := (some .int)) (by decide) rfl ?_
  intro p e s m args below meth c s₁ B hml hv
  obtain ⟨rfl, -⟩ := hv
  have hx := B.exec
  have hb := B.bytes
  have hr := B.returns
  have hts : ∀ w ∈ uU, w.before ([.int 7] : List Value).toArray s = true := fun w h => atoms_spec (ws := wk yX12_ways cX12_ways 1 (some .int)) B.pre w (List.mem_cons_of_mem _ h)
  have hown : s.vm.findClass RX12 = some m.cls := findClass_of_methodNamed B.named
  have hlocks := B.notSynchronized
  have hl := lv_entry ([.int 7]) (n := 1) (Nat.le_of_ble_eq_true rfl)
  rw [lg_entry_eq]
  generalize (lg_sl ([.int 7]) ++ List.replicate (1 - (lg_sl ([.int 7])).length) Slot.unset).toArray = ls at hl ⊢
  have hl : lv_has ls 1 [(0, .int 7)] := hl
  obtain ⟨Q9, hQ9⟩ : ∃ Q9 : State → Prop, Q9 = MQ below (vp_Si (fun r : Int32 => r = 5040)) ([.int 7] : List Value).toArray s 0 0 (fun _ => False) := ⟨_, rfl⟩
  rw [← hQ9]
  refine lv_iload_n hx hb dX12_ways_0 rfl (lv_at hl 0 rfl) ?_
  refine lv_iconst (v := 2) hx hb dX12_ways_1 (by decide) ?_
  refine lv_icmp_ge (tgt := 9) hx hb dX12_ways_2 (by decide) (fun _ => ?_) (fun c_1 => absurd c_1 (by decide))
  refine lv_iload_n hx hb dX12_ways_9 rfl (lv_at hl 0 rfl) ?_
  refine lv_iload_n hx hb dX12_ways_10 rfl (lv_at hl 0 rfl) ?_
  refine lv_iconst (v := 1) hx hb dX12_ways_11 (by decide) ?_
  refine lv_isub hx hb dX12_ways_12 ?_
  refine cv_topi (b := 6) (by decide) ?_
  refine vp_callSi (va_Run.run (va_runS (As := [.int 6]) (rest := [.int 7]) ⟨hx, hb, hml, hown, hts⟩ (m_ways6 l dC dI cyI cyB cyJ cyZ cyH cyN) (va_cwS 1 hts (gdS wd_8_24 wd_8_25 wd_1_11 wd_8_26) rfl rfl rfl (by decide +kernel) ⟨Nat.le_of_ble_eq_true rfl, Nat.le_of_ble_eq_true rfl⟩) ⟨fun a U g mk q => q, fun U hU hW => ⟨rfl, trivial⟩⟩ rfl rfl hl.1 rfl (lv_room (Nat.le_of_ble_eq_true rfl)) dX12_ways_13 ⟨Nat.le_of_ble_eq_true rfl, Nat.le_of_ble_eq_true rfl⟩)) (fun r_2 hw => ?_)
  subst hw
  refine lv_imul hx hb dX12_ways_16 ?_
  refine cv_topi (b := 5040) (by decide) ?_
  rw [hQ9]
  exact W.iret (v := 5040) hx hb hr (fun t ht hW => ⟨5040, rfl, rfl, ht⟩) (fun q h => by cases h) dX12_ways_17

/- X12_ways -/
set_option maxHeartbeats 4000000 in
set_option maxRecDepth 100000 in
theorem m_waysS (l : Launch) (dC : Nat → ClassId) (dI : Nat → Nat → Nat) (cyI cyB cyJ cyZ cyH cyN : ClassId) (p0 : Int32) (g0 : 0 ≤ p0.toInt ∧ p0.toInt ≤ 7) : Met l yX12_ways (wk yX12_ways cX12_ways 1 (some .int)) ({ frames := 7, cells := 0, slots := 0, locals := 180 }) (va_Pc [.int p0] (fun _ => True)) (vp_Si (fun r : Int32 => r.toInt = fct p0.toInt)) 0 0 (fun _ => False) := by
  refine Met.ofW (cc := cX12_ways) (maxL := 1) (ret := (some .int)) (by decide) rfl ?_
  intro p e s m args below meth c s₁ B hml hv
  obtain ⟨rfl, -⟩ := hv
  have hx := B.exec
  have hb := B.bytes
  have hr := B.returns
  have hts : ∀ w ∈ uU, w.before ([.int p0] : List Value).toArray s = true := fun w h => atoms_spec (ws := wk yX12_ways cX12_ways 1 (some .int)) B.pre w (List.mem_cons_of_mem _ h)
  have hown : s.vm.findClass RX12 = some m.cls := findClass_of_methodNamed B.named
  have hlocks := B.notSynchronized
  have hl := lv_entry ([.int p0]) (n := 1) (Nat.le_of_ble_eq_true rfl)
  rw [lg_entry_eq]
  generalize (lg_sl ([.int p0]) ++ List.replicate (1 - (lg_sl ([.int p0])).length) Slot.unset).toArray = ls at hl ⊢
  have hl : lv_has ls 1 [(0, .int p0)] := hl
  obtain ⟨Q9, hQ9⟩ : ∃ Q9 : State → Prop, Q9 = MQ below (vp_Si (fun r : Int32 => r.toInt = fct p0.toInt)) ([.int p0] : List Value).toArray s 0 0 (fun _ => False) := ⟨_, rfl⟩
  rw [← hQ9]
  rcases (show p0.toInt = 0 ∨ p0.toInt = 1 ∨ p0.toInt = 2 ∨ p0.toInt = 3 ∨ p0.toInt = 4 ∨ p0.toInt = 5 ∨ p0.toInt = 6 ∨ p0.toInt = 7 by omega) with c_1 | c_1 | c_1 | c_1 | c_1 | c_1 | c_1 | c_1
  · rw [Int32.toInt_inj.mp (show p0.toInt = (0 : Int32).toInt from c_1)] at hl
    refine lv_iload_n hx hb dX12_ways_0 rfl (lv_at hl 0 rfl) ?_
    refine lv_iconst (v := 2) hx hb dX12_ways_1 (by decide) ?_
    refine lv_icmp_ge (tgt := 9) hx hb dX12_ways_2 (by decide) (fun c_2 => absurd c_2 (by decide)) (fun _ => ?_)
    refine lv_iconst (v := 1) hx hb dX12_ways_5 (by decide) ?_
    refine lv_goto (tgt := 17) hx hb dX12_ways_6 (by decide) ?_
    rw [hQ9]
    exact W.iret (v := 1) hx hb hr (fun t ht hW => ⟨1, rfl, (by rw [show p0.toInt = 0 by omega]; decide), ht⟩) (fun q h => by cases h) dX12_ways_17
  · rw [Int32.toInt_inj.mp (show p0.toInt = (1 : Int32).toInt from c_1)] at hl
    refine lv_iload_n hx hb dX12_ways_0 rfl (lv_at hl 0 rfl) ?_
    refine lv_iconst (v := 2) hx hb dX12_ways_1 (by decide) ?_
    refine lv_icmp_ge (tgt := 9) hx hb dX12_ways_2 (by decide) (fun c_3 => absurd c_3 (by decide)) (fun _ => ?_)
    refine lv_iconst (v := 1) hx hb dX12_ways_5 (by decide) ?_
    refine lv_goto (tgt := 17) hx hb dX12_ways_6 (by decide) ?_
    rw [hQ9]
    exact W.iret (v := 1) hx hb hr (fun t ht hW => ⟨1, rfl, (by rw [show p0.toInt = 1 by omega]; decide), ht⟩) (fun q h => by cases h) dX12_ways_17
  · rw [Int32.toInt_inj.mp (show p0.toInt = (2 : Int32).toInt from c_1)] at hl
    refine lv_iload_n hx hb dX12_ways_0 rfl (lv_at hl 0 rfl) ?_
    refine lv_iconst (v := 2) hx hb dX12_ways_1 (by decide) ?_
    refine lv_icmp_ge (tgt := 9) hx hb dX12_ways_2 (by decide) (fun _ => ?_) (fun c_4 => absurd c_4 (by decide))
    refine lv_iload_n hx hb dX12_ways_9 rfl (lv_at hl 0 rfl) ?_
    refine lv_iload_n hx hb dX12_ways_10 rfl (lv_at hl 0 rfl) ?_
    refine lv_iconst (v := 1) hx hb dX12_ways_11 (by decide) ?_
    refine lv_isub hx hb dX12_ways_12 ?_
    refine cv_topi (b := 1) (by decide) ?_
    refine vp_callSi (va_Run.run (va_runS (As := [.int 1]) (rest := [.int 2]) ⟨hx, hb, hml, hown, hts⟩ (m_ways1 l dC dI cyI cyB cyJ cyZ cyH cyN) (va_cwS 1 hts (gdS wd_8_24 wd_8_25 wd_1_11 wd_8_26) rfl rfl rfl (by decide +kernel) ⟨Nat.le_of_ble_eq_true rfl, Nat.le_of_ble_eq_true rfl⟩) ⟨fun a U g mk q => q, fun U hU hW => ⟨rfl, trivial⟩⟩ rfl rfl hl.1 rfl (lv_room (Nat.le_of_ble_eq_true rfl)) dX12_ways_13 ⟨Nat.le_of_ble_eq_true rfl, Nat.le_of_ble_eq_true rfl⟩)) (fun r_5 hw => ?_)
    subst hw
    refine lv_imul hx hb dX12_ways_16 ?_
    refine cv_topi (b := 2) (by decide) ?_
    rw [hQ9]
    exact W.iret (v := 2) hx hb hr (fun t ht hW => ⟨2, rfl, (by rw [show p0.toInt = 2 by omega]; decide), ht⟩) (fun q h => by cases h) dX12_ways_17
  · rw [Int32.toInt_inj.mp (show p0.toInt = (3 : Int32).toInt from c_1)] at hl
    refine lv_iload_n hx hb dX12_ways_0 rfl (lv_at hl 0 rfl) ?_
    refine lv_iconst (v := 2) hx hb dX12_ways_1 (by decide) ?_
    refine lv_icmp_ge (tgt := 9) hx hb dX12_ways_2 (by decide) (fun _ => ?_) (fun c_6 => absurd c_6 (by decide))
    refine lv_iload_n hx hb dX12_ways_9 rfl (lv_at hl 0 rfl) ?_
    refine lv_iload_n hx hb dX12_ways_10 rfl (lv_at hl 0 rfl) ?_
    refine lv_iconst (v := 1) hx hb dX12_ways_11 (by decide) ?_
    refine lv_isub hx hb dX12_ways_12 ?_
    refine cv_topi (b := 2) (by decide) ?_
    refine vp_callSi (va_Run.run (va_runS (As := [.int 2]) (rest := [.int 3]) ⟨hx, hb, hml, hown, hts⟩ (m_ways2 l dC dI cyI cyB cyJ cyZ cyH cyN) (va_cwS 1 hts (gdS wd_8_24 wd_8_25 wd_1_11 wd_8_26) rfl rfl rfl (by decide +kernel) ⟨Nat.le_of_ble_eq_true rfl, Nat.le_of_ble_eq_true rfl⟩) ⟨fun a U g mk q => q, fun U hU hW => ⟨rfl, trivial⟩⟩ rfl rfl hl.1 rfl (lv_room (Nat.le_of_ble_eq_true rfl)) dX12_ways_13 ⟨Nat.le_of_ble_eq_true rfl, Nat.le_of_ble_eq_true rfl⟩)) (fun r_7 hw => ?_)
    subst hw
    refine lv_imul hx hb dX12_ways_16 ?_
    refine cv_topi (b := 6) (by decide) ?_
    rw [hQ9]
    exact W.iret (v := 6) hx hb hr (fun t ht hW => ⟨6, rfl, (by rw [show p0.toInt = 3 by omega]; decide), ht⟩) (fun q h => by cases h) dX12_ways_17
  · rw [Int32.toInt_inj.mp (show p0.toInt = (4 : Int32).toInt from c_1)] at hl
    refine lv_iload_n hx hb dX12_ways_0 rfl (lv_at hl 0 rfl) ?_
    refine lv_iconst (v := 2) hx hb dX12_ways_1 (by decide) ?_
    refine lv_icmp_ge (tgt := 9) hx hb dX12_ways_2 (by decide) (fun _ => ?_) (fun c_8 => absurd c_8 (by decide))
    refine lv_iload_n hx hb dX12_ways_9 rfl (lv_at hl 0 rfl) ?_
    refine lv_iload_n hx hb dX12_ways_10 rfl (lv_at hl 0 rfl) ?_
    refine lv_iconst (v := 1) hx hb dX12_ways_11 (by decide) ?_
    refine lv_isub hx hb dX12_ways_12 ?_
    refine cv_topi (b := 3) (by decide) ?_
    refine vp_callSi (va_Run.run (va_runS (As := [.int 3]) (rest := [.int 4]) ⟨hx, hb, hml, hown, hts⟩ (m_ways3 l dC dI cyI cyB cyJ cyZ cyH cyN) (va_cwS 1 hts (gdS wd_8_24 wd_8_25 wd_1_11 wd_8_26) rfl rfl rfl (by decide +kernel) ⟨Nat.le_of_ble_eq_true rfl, Nat.le_of_ble_eq_true rfl⟩) ⟨fun a U g mk q => q, fun U hU hW => ⟨rfl, trivial⟩⟩ rfl rfl hl.1 rfl (lv_room (Nat.le_of_ble_eq_true rfl)) dX12_ways_13 ⟨Nat.le_of_ble_eq_true rfl, Nat.le_of_ble_eq_true rfl⟩)) (fun r_9 hw => ?_)
    subst hw
    refine lv_imul hx hb dX12_ways_16 ?_
    refine cv_topi (b := 24) (by decide) ?_
    rw [hQ9]
    exact W.iret (v := 24) hx hb hr (fun t ht hW => ⟨24, rfl, (by rw [show p0.toInt = 4 by omega]; decide), ht⟩) (fun q h => by cases h) dX12_ways_17
  · rw [Int32.toInt_inj.mp (show p0.toInt = (5 : Int32).toInt from c_1)] at hl
    refine lv_iload_n hx hb dX12_ways_0 rfl (lv_at hl 0 rfl) ?_
    refine lv_iconst (v := 2) hx hb dX12_ways_1 (by decide) ?_
    refine lv_icmp_ge (tgt := 9) hx hb dX12_ways_2 (by decide) (fun _ => ?_) (fun c_10 => absurd c_10 (by decide))
    refine lv_iload_n hx hb dX12_ways_9 rfl (lv_at hl 0 rfl) ?_
    refine lv_iload_n hx hb dX12_ways_10 rfl (lv_at hl 0 rfl) ?_
    refine lv_iconst (v := 1) hx hb dX12_ways_11 (by decide) ?_
    refine lv_isub hx hb dX12_ways_12 ?_
    refine cv_topi (b := 4) (by decide) ?_
    refine vp_callSi (va_Run.run (va_runS (As := [.int 4]) (rest := [.int 5]) ⟨hx, hb, hml, hown, hts⟩ (m_ways4 l dC dI cyI cyB cyJ cyZ cyH cyN) (va_cwS 1 hts (gdS wd_8_24 wd_8_25 wd_1_11 wd_8_26) rfl rfl rfl (by decide +kernel) ⟨Nat.le_of_ble_eq_true rfl, Nat.le_of_ble_eq_true rfl⟩) ⟨fun a U g mk q => q, fun U hU hW => ⟨rfl, trivial⟩⟩ rfl rfl hl.1 rfl (lv_room (Nat.le_of_ble_eq_true rfl)) dX12_ways_13 ⟨Nat.le_of_ble_eq_true rfl, Nat.le_of_ble_eq_true rfl⟩)) (fun r_11 hw => ?_)
    subst hw
    refine lv_imul hx hb dX12_ways_16 ?_
    refine cv_topi (b := 120) (by decide) ?_
    rw [hQ9]
    exact W.iret (v := 120) hx hb hr (fun t ht hW => ⟨120, rfl, (by rw [show p0.toInt = 5 by omega]; decide), ht⟩) (fun q h => by cases h) dX12_ways_17
  · rw [Int32.toInt_inj.mp (show p0.toInt = (6 : Int32).toInt from c_1)] at hl
    refine lv_iload_n hx hb dX12_ways_0 rfl (lv_at hl 0 rfl) ?_
    refine lv_iconst (v := 2) hx hb dX12_ways_1 (by decide) ?_
    refine lv_icmp_ge (tgt := 9) hx hb dX12_ways_2 (by decide) (fun _ => ?_) (fun c_12 => absurd c_12 (by decide))
    refine lv_iload_n hx hb dX12_ways_9 rfl (lv_at hl 0 rfl) ?_
    refine lv_iload_n hx hb dX12_ways_10 rfl (lv_at hl 0 rfl) ?_
    refine lv_iconst (v := 1) hx hb dX12_ways_11 (by decide) ?_
    refine lv_isub hx hb dX12_ways_12 ?_
    refine cv_topi (b := 5) (by decide) ?_
    refine vp_callSi (va_Run.run (va_runS (As := [.int 5]) (rest := [.int 6]) ⟨hx, hb, hml, hown, hts⟩ (m_ways5 l dC dI cyI cyB cyJ cyZ cyH cyN) (va_cwS 1 hts (gdS wd_8_24 wd_8_25 wd_1_11 wd_8_26) rfl rfl rfl (by decide +kernel) ⟨Nat.le_of_ble_eq_true rfl, Nat.le_of_ble_eq_true rfl⟩) ⟨fun a U g mk q => q, fun U hU hW => ⟨rfl, trivial⟩⟩ rfl rfl hl.1 rfl (lv_room (Nat.le_of_ble_eq_true rfl)) dX12_ways_13 ⟨Nat.le_of_ble_eq_true rfl, Nat.le_of_ble_eq_true rfl⟩)) (fun r_13 hw => ?_)
    subst hw
    refine lv_imul hx hb dX12_ways_16 ?_
    refine cv_topi (b := 720) (by decide) ?_
    rw [hQ9]
    exact W.iret (v := 720) hx hb hr (fun t ht hW => ⟨720, rfl, (by rw [show p0.toInt = 6 by omega]; decide), ht⟩) (fun q h => by cases h) dX12_ways_17
  · rw [Int32.toInt_inj.mp (show p0.toInt = (7 : Int32).toInt from c_1)] at hl
    refine lv_iload_n hx hb dX12_ways_0 rfl (lv_at hl 0 rfl) ?_
    refine lv_iconst (v := 2) hx hb dX12_ways_1 (by decide) ?_
    refine lv_icmp_ge (tgt := 9) hx hb dX12_ways_2 (by decide) (fun _ => ?_) (fun c_14 => absurd c_14 (by decide))
    refine lv_iload_n hx hb dX12_ways_9 rfl (lv_at hl 0 rfl) ?_
    refine lv_iload_n hx hb dX12_ways_10 rfl (lv_at hl 0 rfl) ?_
    refine lv_iconst (v := 1) hx hb dX12_ways_11 (by decide) ?_
    refine lv_isub hx hb dX12_ways_12 ?_
    refine cv_topi (b := 6) (by decide) ?_
    refine vp_callSi (va_Run.run (va_runS (As := [.int 6]) (rest := [.int 7]) ⟨hx, hb, hml, hown, hts⟩ (m_ways6 l dC dI cyI cyB cyJ cyZ cyH cyN) (va_cwS 1 hts (gdS wd_8_24 wd_8_25 wd_1_11 wd_8_26) rfl rfl rfl (by decide +kernel) ⟨Nat.le_of_ble_eq_true rfl, Nat.le_of_ble_eq_true rfl⟩) ⟨fun a U g mk q => q, fun U hU hW => ⟨rfl, trivial⟩⟩ rfl rfl hl.1 rfl (lv_room (Nat.le_of_ble_eq_true rfl)) dX12_ways_13 ⟨Nat.le_of_ble_eq_true rfl, Nat.le_of_ble_eq_true rfl⟩)) (fun r_15 hw => ?_)
    subst hw
    refine lv_imul hx hb dX12_ways_16 ?_
    refine cv_topi (b := 5040) (by decide) ?_
    rw [hQ9]
    exact W.iret (v := 5040) hx hb hr (fun t ht hW => ⟨5040, rfl, (by rw [show p0.toInt = 7 by omega]; decide), ht⟩) (fun q h => by cases h) dX12_ways_17

/- X12_all -/
set_option maxHeartbeats 4000000 in
set_option maxRecDepth 100000 in
theorem m_all (l : Launch) (dC : Nat → ClassId) (dI : Nat → Nat → Nat) (cyI cyB cyJ cyZ cyH cyN : ClassId) (m0 mwidth mmany mcells mmoved mtape mlines mhas mtold mlaw msuit mapart mact misKept mseen mhung mgoal mleaps mqueue mrow mwanted mfirst moften mlots mthen : Nat) (m_thrown m_taped m_at m_token m_place m_value : Int32) (m_word : Int64) (m_bad m_badPlace m_fault m_faultPlace m_gone m_reached m_fitMany m_fitFirst m_askBest m_askLeaves m_bestFirst m_bestWays : Int32) (m_lotsAll : Int64) (m_has : Nat → Int32) (g0 : 0 ≤ m_taped.toInt ∧ m_taped.toInt ≤ 800) (g1 : 0 ≤ m_at.toInt ∧ m_at.toInt ≤ 800) (g2 : 0 ≤ m_gone.toInt ∧ m_gone.toInt ≤ 40) (g3 : (m_has 0).toInt = 0 ∨ (2 ≤ (m_has 0).toInt ∧ (m_has 0).toInt ≤ 7)) (g4 : 0 ≤ (m_has 1).toInt ∧ (m_has 1).toInt ≤ 6) (g5 : 0 ≤ (m_has 3).toInt ∧ (m_has 3).toInt ≤ 40) : Met l yX12_all (wk yX12_all cX12_all 1 (some .int)) ({ frames := 8, cells := 0, slots := 0, locals := 200 }) (va_Pc [.ref m0] (fun U => va_P (dC, dI) vwCl [(m0, .inr (11, [.int m_thrown, .ref mwidth, .ref mmany, .ref mcells, .ref mmoved, .ref mtape, .int m_taped, .int m_at, .int m_token, .int m_place, .int m_value, .long m_word, .int m_bad, .int m_badPlace, .int m_fault, .int m_faultPlace, .ref mlines, .ref mhas, .ref mtold, .ref mlaw, .ref msuit, .ref mapart, .ref mact, .ref misKept, .ref mseen, .ref mhung, .int m_gone, .ref mgoal, .ref mleaps, .ref mqueue, .ref mrow, .int m_reached, .ref mwanted, .ref mfirst, .ref moften, .int m_fitMany, .int m_fitFirst, .int m_askBest, .int m_askLeaves, .int m_bestFirst, .int m_bestWays, .ref mlots, .ref mthen, .long m_lotsAll])), (mhas, .inl (cyI, 20, .inl m_has))] U.heap ∧ va_K (dC, dI) vwCl [(cyI, .int), (cyB, .byte), (cyJ, .long), (cyZ, .boolean), (cyH, .object RX2), (cyN, .array .long)] U)) (vp_Si (fun r : Int32 => r.toInt = fct (m_has 0).toInt)) 0 0 (fun _ => False) := by
  refine Met.ofW (cc := cX12_all) (maxL := 1) (ret := (some .int)) (by decide) rfl ?_
  intro p e s m args below meth c s₁ B hml hv
  obtain ⟨rfl, hP, hK⟩ := hv
  have hx := B.exec
  have hb := B.bytes
  have hr := B.returns
  have hts : ∀ w ∈ uU, w.before ([.ref m0] : List Value).toArray s = true := fun w h => atoms_spec (ws := wk yX12_all cX12_all 1 (some .int)) B.pre w (List.mem_cons_of_mem _ h)
  have hown : s.vm.findClass RX12 = some m.cls := findClass_of_methodNamed B.named
  have hlocks := B.notSynchronized
  have hl := lv_entry ([.ref m0]) (n := 1) (Nat.le_of_ble_eq_true rfl)
  rw [lg_entry_eq]
  generalize (lg_sl ([.ref m0]) ++ List.replicate (1 - (lg_sl ([.ref m0])).length) Slot.unset).toArray = ls at hl ⊢
  have hl : lv_has ls 1 [(0, .ref m0)] := hl
  obtain ⟨Q9, hQ9⟩ : ∃ Q9 : State → Prop, Q9 = MQ below (vp_Si (fun r : Int32 => r.toInt = fct (m_has 0).toInt)) ([.ref m0] : List Value).toArray s 0 0 (fun _ => False) := ⟨_, rfl⟩
  rw [← hQ9]
  refine lv_aload_n hx hb dX12_all_0 rfl (lv_at hl 0 rfl) ?_
  have hPc := hP.sub (ws' := [(m0, .inr (11, [.int m_thrown, .ref mwidth, .ref mmany, .ref mcells, .ref mmoved, .ref mtape, .int m_taped, .int m_at, .int m_token, .int m_place, .int m_value, .long m_word, .int m_bad, .int m_badPlace, .int m_fault, .int m_faultPlace, .ref mlines, .ref mhas, .ref mtold, .ref mlaw, .ref msuit, .ref mapart, .ref mact, .ref misKept, .ref mseen, .ref mhung, .int m_gone, .ref mgoal, .ref mleaps, .ref mqueue, .ref mrow, .int m_reached, .ref mwanted, .ref mfirst, .ref moften, .int m_fitMany, .int m_fitFirst, .int m_askBest, .int m_askLeaves, .int m_bestFirst, .int m_bestWays, .ref mlots, .ref mthen, .long m_lotsAll])), (mhas, .inl (cyI, 20, .inl m_has))]) [0, 1] rfl
  have hKc := hK.sub (tys' := [(cyI, .int), (cyB, .byte), (cyJ, .long), (cyZ, .boolean), (cyH, .object RX2), (cyN, .array .long)]) [0, 1, 2, 3, 4, 5] rfl
  refine vp_callSi (va_Run.run (va_runV (As := []) (rest := []) ⟨hx, hb, hml, hown, hts⟩ (m_places l dC dI cyI cyB cyJ cyZ cyH cyN m0 mwidth mmany mcells mmoved mtape mlines mhas mtold mlaw msuit mapart mact misKept mseen mhung mgoal mleaps mqueue mrow mwanted mfirst moften mlots mthen m_thrown m_taped m_at m_token m_place m_value m_word m_bad m_badPlace m_fault m_faultPlace m_gone m_reached m_fitMany m_fitFirst m_askBest m_askLeaves m_bestFirst m_bestWays m_lotsAll m_has (by omega) (by omega) (by omega) g3 g4 g5) (cwV 0 hts (gdV wd_7_86 wd_7_88 wd_s4_14 wd_1_11 wd_7_89) rfl rfl rfl (by decide +kernel) ⟨Nat.le_of_ble_eq_true rfl, Nat.le_of_ble_eq_true rfl⟩) ⟨fun a U g mk q => by obtain ⟨q0, qP, qK⟩ := q; exact ⟨q0, qP, va_K.moved (u := U) (U := U.calling g mk a) (Vm.Alike.refl U.vm) qK⟩, va_recv hKc hPc (ci := 11) (q0 := 0) rfl rfl, fun U hU hW => ⟨rfl, by rw [hU]; exact hPc, va_K.moved hW.alike hKc⟩⟩ rfl rfl hl.1 rfl (lv_room (Nat.le_of_ble_eq_true rfl)) dX12_all_1 ⟨Nat.le_of_ble_eq_true rfl, Nat.le_of_ble_eq_true rfl⟩)) (fun r_1 hw => ?_)
  subst hw
  refine vp_callSi (va_Run.run (va_runS (As := [.int (m_has 0)]) (rest := []) ⟨hx, hb, hml, hown, hts⟩ (m_waysS l dC dI cyI cyB cyJ cyZ cyH cyN (m_has 0) (by omega)) (va_cwS 1 hts (gdS wd_8_24 wd_8_25 wd_1_11 wd_8_26) rfl rfl rfl (by decide +kernel) ⟨Nat.le_of_ble_eq_true rfl, Nat.le_of_ble_eq_true rfl⟩) ⟨fun a U g mk q => q, fun U hU hW => ⟨rfl, trivial⟩⟩ rfl rfl hl.1 rfl (lv_room (Nat.le_of_ble_eq_true rfl)) dX12_all_4 ⟨Nat.le_of_ble_eq_true rfl, Nat.le_of_ble_eq_true rfl⟩)) (fun r_2 hw => ?_)
  have hrr_2 := hw
  rw [hQ9]
  exact W.iret (v := r_2) hx hb hr (fun t ht hW => ⟨r_2, rfl, hrr_2, ht⟩) (fun q h => by cases h) dX12_all_7

/- X12_rankOf -/
set_option maxHeartbeats 4000000 in
set_option maxRecDepth 100000 in
theorem m_rankOf (l : Launch) (dC : Nat → ClassId) (dI : Nat → Nat → Nat) (cyI cyB cyJ cyZ cyH cyN : ClassId) (m0 mwidth mmany mcells mmoved mtape mlines mhas mtold mlaw msuit mapart mact misKept mseen mhung mgoal mleaps mqueue mrow mwanted mfirst moften mlots mthen : Nat) (m_thrown m_taped m_at m_token m_place m_value : Int32) (m_word : Int64) (m_bad m_badPlace m_fault m_faultPlace m_gone m_reached m_fitMany m_fitFirst m_askBest m_askLeaves m_bestFirst m_bestWays : Int32) (m_lotsAll : Int64) (m_has : Nat → Int32) (r0 : Nat) (f0 : Nat → Int32) (g0 : rg 0 6 7 f0) (g1 : 0 ≤ m_taped.toInt ∧ m_taped.toInt ≤ 800) (g2 : 0 ≤ m_at.toInt ∧ m_at.toInt ≤ 800) (g3 : 0 ≤ m_gone.toInt ∧ m_gone.toInt ≤ 40) (g4 : (m_has 0).toInt = 0 ∨ (2 ≤ (m_has 0).toInt ∧ (m_has 0).toInt ≤ 7)) (g5 : 0 ≤ (m_has 1).toInt ∧ (m_has 1).toInt ≤ 6) (g6 : 0 ≤ (m_has 3).toInt ∧ (m_has 3).toInt ≤ 40) : Met l yX12_rankOf (wk yX12_rankOf cX12_rankOf 6 (some .int)) ({ frames := 2, cells := 0, slots := 0, locals := 80 }) (va_Pc [.ref m0, .ref r0] (fun U => va_P (dC, dI) vwCl [(m0, .inr (11, [.int m_thrown, .ref mwidth, .ref mmany, .ref mcells, .ref mmoved, .ref mtape, .int m_taped, .int m_at, .int m_token, .int m_place, .int m_value, .long m_word, .int m_bad, .int m_badPlace, .int m_fault, .int m_faultPlace, .ref mlines, .ref mhas, .ref mtold, .ref mlaw, .ref msuit, .ref mapart, .ref mact, .ref misKept, .ref mseen, .ref mhung, .int m_gone, .ref mgoal, .ref mleaps, .ref mqueue, .ref mrow, .int m_reached, .ref mwanted, .ref mfirst, .ref moften, .int m_fitMany, .int m_fitFirst, .int m_askBest, .int m_askLeaves, .int m_bestFirst, .int m_bestWays, .ref mlots, .ref mthen, .long m_lotsAll])), (mhas, .inl (cyI, 20, .inl m_has)), (r0, .inl (cyI, 7, .inl f0))] U.heap ∧ va_K (dC, dI) vwCl [(cyI, .int), (cyB, .byte), (cyJ, .long), (cyZ, .boolean), (cyH, .object RX2), (cyN, .array .long)] U)) (vp_Si (fun r : Int32 => 0 ≤ r.toInt ∧ r.toInt < fct (m_has 0).toInt)) 0 0 (fun _ => False) := by
  refine Met.ofW (cc := cX12_rankOf) (maxL := 6) (ret := (some .int)) (by decide) rfl ?_
  intro p e s m args below meth c s₁ B hml hv
  obtain ⟨rfl, hP, hK⟩ := hv
  have hx := B.exec
  have hb := B.bytes
  have hr := B.returns
  have hts : ∀ w ∈ uU, w.before ([.ref m0, .ref r0] : List Value).toArray s = true := fun w h => atoms_spec (ws := wk yX12_rankOf cX12_rankOf 6 (some .int)) B.pre w (List.mem_cons_of_mem _ h)
  have hown : s.vm.findClass RX12 = some m.cls := findClass_of_methodNamed B.named
  have hlocks := B.notSynchronized
  have hl := lv_entry ([.ref m0, .ref r0]) (n := 6) (Nat.le_of_ble_eq_true rfl)
  rw [lg_entry_eq]
  generalize (lg_sl ([.ref m0, .ref r0]) ++ List.replicate (6 - (lg_sl ([.ref m0, .ref r0])).length) Slot.unset).toArray = ls at hl ⊢
  have hl : lv_has ls 6 [(0, .ref m0), (1, .ref r0)] := hl
  obtain ⟨Q9, hQ9⟩ : ∃ Q9 : State → Prop, Q9 = MQ below (vp_Si (fun r : Int32 => 0 ≤ r.toInt ∧ r.toInt < fct (m_has 0).toInt)) ([.ref m0, .ref r0] : List Value).toArray s 0 0 (fun _ => False) := ⟨_, rfl⟩
  rw [← hQ9]
  have hfb9 := fct_b (n := (m_has 0).toInt) (by omega) (by omega)
  refine lv_iconst (v := 0) hx hb dX12_rankOf_0 (by decide) ?_
  refine lv_istore_n (lv' := [(2, .int 0), (0, .ref m0), (1, .ref r0)]) hx hb dX12_rankOf_1 rfl hl (by decide) rfl (fun ls hl => ?_)
  refine lv_iconst (v := 0) hx hb dX12_rankOf_2 (by decide) ?_
  refine lv_istore_n (lv' := [(3, .int 0), (2, .int 0), (0, .ref m0), (1, .ref r0)]) hx hb dX12_rankOf_3 rfl hl (by decide) rfl (fun ls hl => ?_)
  have key_3 : ∀ (nkey_3 : Nat) (u_1 : Int32) (u_2 : Int32) (ls : Array Slot), (0 ≤ u_1.toInt ∧ u_1.toInt ≤ 5039) → (0 ≤ u_2.toInt ∧ u_2.toInt ≤ 7) → ((u_1.toInt + 1) * fct ((m_has 0).toInt - u_2.toInt) ≤ fct (m_has 0).toInt) → (u_2.toInt ≤ (m_has 0).toInt) → lv_has ls 6 [(3, .int u_2), (2, .int u_1), (0, .ref m0), (1, .ref r0)] → ((m_has 0).toInt - u_2.toInt).toNat < nkey_3 → W p l e ({ frames := 2, cells := 0, slots := 0, locals := 80 }) s m ([.ref m0, .ref r0] : List Value).toArray below meth c s.heap [] 0 0 Q9 (F0 m 4 ls []) := by
    intro nkey_3
    induction nkey_3 with
    | zero => intro u_1 u_2 ls hu_1 hu_2 hrk9 hrp9 hl hnkey_3; exact absurd hnkey_3 (Nat.not_lt_zero _)
    | succ nkey_3 ihkey_3 =>
      intro u_1 u_2 ls hu_1 hu_2 hrk9 hrp9 hl hnkey_3
      refine lv_iload_n hx hb dX12_rankOf_4 rfl (lv_at hl 0 rfl) ?_
      refine lv_aload_n hx hb dX12_rankOf_5 rfl (lv_at hl 2 rfl) ?_
      have hPc := hP.sub (ws' := [(m0, .inr (11, [.int m_thrown, .ref mwidth, .ref mmany, .ref mcells, .ref mmoved, .ref mtape, .int m_taped, .int m_at, .int m_token, .int m_place, .int m_value, .long m_word, .int m_bad, .int m_badPlace, .int m_fault, .int m_faultPlace, .ref mlines, .ref mhas, .ref mtold, .ref mlaw, .ref msuit, .ref mapart, .ref mact, .ref misKept, .ref mseen, .ref mhung, .int m_gone, .ref mgoal, .ref mleaps, .ref mqueue, .ref mrow, .int m_reached, .ref mwanted, .ref mfirst, .ref moften, .int m_fitMany, .int m_fitFirst, .int m_askBest, .int m_askLeaves, .int m_bestFirst, .int m_bestWays, .ref mlots, .ref mthen, .long m_lotsAll])), (mhas, .inl (cyI, 20, .inl m_has))]) [0, 1] rfl
      have hKc := hK.sub (tys' := [(cyI, .int), (cyB, .byte), (cyJ, .long), (cyZ, .boolean), (cyH, .object RX2), (cyN, .array .long)]) [0, 1, 2, 3, 4, 5] rfl
      refine vp_callSi (va_Run.run (va_runV (As := []) (rest := [.int u_2]) ⟨hx, hb, hml, hown, hts⟩ (m_places l dC dI cyI cyB cyJ cyZ cyH cyN m0 mwidth mmany mcells mmoved mtape mlines mhas mtold mlaw msuit mapart mact misKept mseen mhung mgoal mleaps mqueue mrow mwanted mfirst moften mlots mthen m_thrown m_taped m_at m_token m_place m_value m_word m_bad m_badPlace m_fault m_faultPlace m_gone m_reached m_fitMany m_fitFirst m_askBest m_askLeaves m_bestFirst m_bestWays m_lotsAll m_has (by omega) (by omega) (by omega) g4 g5 g6) (cwV 0 hts (gdV wd_7_86 wd_7_88 wd_s4_14 wd_1_11 wd_7_89) rfl rfl rfl (by decide +kernel) ⟨Nat.le_of_ble_eq_true rfl, Nat.le_of_ble_eq_true rfl⟩) ⟨fun a U g mk q => by obtain ⟨q0, qP, qK⟩ := q; exact ⟨q0, qP, va_K.moved (u := U) (U := U.calling g mk a) (Vm.Alike.refl U.vm) qK⟩, va_recv hKc hPc (ci := 11) (q0 := 0) rfl rfl, fun U hU hW => ⟨rfl, by rw [hU]; exact hPc, va_K.moved hW.alike hKc⟩⟩ rfl rfl hl.1 rfl (lv_room (Nat.le_of_ble_eq_true rfl)) dX12_rankOf_6 ⟨Nat.le_of_ble_eq_true rfl, Nat.le_of_ble_eq_true rfl⟩)) (fun r_4 hw => ?_)
      subst hw
      refine lv_icmp_ge (tgt := 73) hx hb dX12_rankOf_9 (by decide) (fun c_5 => ?_) (fun c_5 => ?_)
      · have c_5 : (m_has 0).toInt ≤ u_2.toInt := cv_le c_5
        refine lv_iload_n hx hb dX12_rankOf_73 rfl (lv_at hl 1 rfl) ?_
        rw [hQ9]
        exact W.iret (v := u_1) hx hb hr (fun t ht hW => ⟨u_1, rfl, (by have h9 := hrk9; rw [show (m_has 0).toInt - u_2.toInt = 0 by omega, show fct 0 = 1 from rfl, Int.mul_one] at h9; omega), ht⟩) (fun q h => by cases h) dX12_rankOf_74
      · have c_5 : u_2.toInt < (m_has 0).toInt := cv_nle c_5
        refine lv_iconst (v := 0) hx hb dX12_rankOf_12 (by decide) ?_
        refine lv_istore (lv' := [(4, .int 0), (3, .int u_2), (2, .int u_1), (0, .ref m0), (1, .ref r0)]) hx hb dX12_rankOf_13 hl (by decide) rfl (fun ls hl => ?_)
        refine lv_iload_n hx hb dX12_rankOf_15 rfl (lv_at hl 1 rfl) ?_
        refine lv_iconst (v := 1) hx hb dX12_rankOf_16 (by decide) ?_
        refine lv_iadd hx hb dX12_rankOf_17 ?_
        refine lv_topi (fun x_6 ex_6 => ?_)
        have fx_6 : x_6.toInt = u_2.toInt + 1 := by rw [ex_6]; exact cv_addI (by have : (1 : Int32).toInt = 1 := rfl; omega) (by have : (1 : Int32).toInt = 1 := rfl; omega)
        refine lv_istore (lv' := [(5, .int x_6), (4, .int 0), (3, .int u_2), (2, .int u_1), (0, .ref m0), (1, .ref r0)]) hx hb dX12_rankOf_18 hl (by decide) rfl (fun ls hl => ?_)
        have key_9 : ∀ (nkey_9 : Nat) (u_7 : Int32) (u_8 : Int32) (ls : Array Slot), (0 ≤ u_7.toInt ∧ u_7.toInt ≤ 6) → (0 ≤ u_8.toInt ∧ u_8.toInt ≤ 7) → (u_7.toInt ≤ u_8.toInt - u_2.toInt - 1) → (u_8.toInt ≤ (m_has 0).toInt) → lv_has ls 6 [(5, .int u_8), (4, .int u_7), (3, .int u_2), (2, .int u_1), (0, .ref m0), (1, .ref r0)] → ((m_has 0).toInt - u_8.toInt).toNat < nkey_9 → W p l e ({ frames := 2, cells := 0, slots := 0, locals := 80 }) s m ([.ref m0, .ref r0] : List Value).toArray below meth c s.heap [] 0 0 Q9 (F0 m 20 ls []) := by
          intro nkey_9
          induction nkey_9 with
          | zero => intro u_7 u_8 ls hu_7 hu_8 hle9 hlq9 hl hnkey_9; exact absurd hnkey_9 (Nat.not_lt_zero _)
          | succ nkey_9 ihkey_9 =>
            intro u_7 u_8 ls hu_7 hu_8 hle9 hlq9 hl hnkey_9
            refine lv_iload hx hb dX12_rankOf_20 (lv_at hl 0 rfl) ?_
            refine lv_aload_n hx hb dX12_rankOf_22 rfl (lv_at hl 4 rfl) ?_
            have hPc := hP.sub (ws' := [(m0, .inr (11, [.int m_thrown, .ref mwidth, .ref mmany, .ref mcells, .ref mmoved, .ref mtape, .int m_taped, .int m_at, .int m_token, .int m_place, .int m_value, .long m_word, .int m_bad, .int m_badPlace, .int m_fault, .int m_faultPlace, .ref mlines, .ref mhas, .ref mtold, .ref mlaw, .ref msuit, .ref mapart, .ref mact, .ref misKept, .ref mseen, .ref mhung, .int m_gone, .ref mgoal, .ref mleaps, .ref mqueue, .ref mrow, .int m_reached, .ref mwanted, .ref mfirst, .ref moften, .int m_fitMany, .int m_fitFirst, .int m_askBest, .int m_askLeaves, .int m_bestFirst, .int m_bestWays, .ref mlots, .ref mthen, .long m_lotsAll])), (mhas, .inl (cyI, 20, .inl m_has))]) [0, 1] rfl
            have hKc := hK.sub (tys' := [(cyI, .int), (cyB, .byte), (cyJ, .long), (cyZ, .boolean), (cyH, .object RX2), (cyN, .array .long)]) [0, 1, 2, 3, 4, 5] rfl
            refine vp_callSi (va_Run.run (va_runV (As := []) (rest := [.int u_8]) ⟨hx, hb, hml, hown, hts⟩ (m_places l dC dI cyI cyB cyJ cyZ cyH cyN m0 mwidth mmany mcells mmoved mtape mlines mhas mtold mlaw msuit mapart mact misKept mseen mhung mgoal mleaps mqueue mrow mwanted mfirst moften mlots mthen m_thrown m_taped m_at m_token m_place m_value m_word m_bad m_badPlace m_fault m_faultPlace m_gone m_reached m_fitMany m_fitFirst m_askBest m_askLeaves m_bestFirst m_bestWays m_lotsAll m_has (by omega) (by omega) (by omega) g4 g5 g6) (cwV 0 hts (gdV wd_7_86 wd_7_88 wd_s4_14 wd_1_11 wd_7_89) rfl rfl rfl (by decide +kernel) ⟨Nat.le_of_ble_eq_true rfl, Nat.le_of_ble_eq_true rfl⟩) ⟨fun a U g mk q => by obtain ⟨q0, qP, qK⟩ := q; exact ⟨q0, qP, va_K.moved (u := U) (U := U.calling g mk a) (Vm.Alike.refl U.vm) qK⟩, va_recv hKc hPc (ci := 11) (q0 := 0) rfl rfl, fun U hU hW => ⟨rfl, by rw [hU]; exact hPc, va_K.moved hW.alike hKc⟩⟩ rfl rfl hl.1 rfl (lv_room (Nat.le_of_ble_eq_true rfl)) dX12_rankOf_23 ⟨Nat.le_of_ble_eq_true rfl, Nat.le_of_ble_eq_true rfl⟩)) (fun r_10 hw => ?_)
            subst hw
            refine lv_icmp_ge (tgt := 55) hx hb dX12_rankOf_26 (by decide) (fun c_11 => ?_) (fun c_11 => ?_)
            · have c_11 : (m_has 0).toInt ≤ u_8.toInt := cv_le c_11
              refine lv_iload_n hx hb dX12_rankOf_55 rfl (lv_at hl 3 rfl) ?_
              refine lv_aload_n hx hb dX12_rankOf_56 rfl (lv_at hl 4 rfl) ?_
              have hPc := hP.sub (ws' := [(m0, .inr (11, [.int m_thrown, .ref mwidth, .ref mmany, .ref mcells, .ref mmoved, .ref mtape, .int m_taped, .int m_at, .int m_token, .int m_place, .int m_value, .long m_word, .int m_bad, .int m_badPlace, .int m_fault, .int m_faultPlace, .ref mlines, .ref mhas, .ref mtold, .ref mlaw, .ref msuit, .ref mapart, .ref mact, .ref misKept, .ref mseen, .ref mhung, .int m_gone, .ref mgoal, .ref mleaps, .ref mqueue, .ref mrow, .int m_reached, .ref mwanted, .ref mfirst, .ref moften, .int m_fitMany, .int m_fitFirst, .int m_askBest, .int m_askLeaves, .int m_bestFirst, .int m_bestWays, .ref mlots, .ref mthen, .long m_lotsAll])), (mhas, .inl (cyI, 20, .inl m_has))]) [0, 1] rfl
              have hKc := hK.sub (tys' := [(cyI, .int), (cyB, .byte), (cyJ, .long), (cyZ, .boolean), (cyH, .object RX2), (cyN, .array .long)]) [0, 1, 2, 3, 4, 5] rfl
              refine vp_callSi (va_Run.run (va_runV (As := []) (rest := [.int u_1]) ⟨hx, hb, hml, hown, hts⟩ (m_places l dC dI cyI cyB cyJ cyZ cyH cyN m0 mwidth mmany mcells mmoved mtape mlines mhas mtold mlaw msuit mapart mact misKept mseen mhung mgoal mleaps mqueue mrow mwanted mfirst moften mlots mthen m_thrown m_taped m_at m_token m_place m_value m_word m_bad m_badPlace m_fault m_faultPlace m_gone m_reached m_fitMany m_fitFirst m_askBest m_askLeaves m_bestFirst m_bestWays m_lotsAll m_has (by omega) (by omega) (by omega) g4 g5 g6) (cwV 0 hts (gdV wd_7_86 wd_7_88 wd_s4_14 wd_1_11 wd_7_89) rfl rfl rfl (by decide +kernel) ⟨Nat.le_of_ble_eq_true rfl, Nat.le_of_ble_eq_true rfl⟩) ⟨fun a U g mk q => by obtain ⟨q0, qP, qK⟩ := q; exact ⟨q0, qP, va_K.moved (u := U) (U := U.calling g mk a) (Vm.Alike.refl U.vm) qK⟩, va_recv hKc hPc (ci := 11) (q0 := 0) rfl rfl, fun U hU hW => ⟨rfl, by rw [hU]; exact hPc, va_K.moved hW.alike hKc⟩⟩ rfl rfl hl.1 rfl (lv_room (Nat.le_of_ble_eq_true rfl)) dX12_rankOf_57 ⟨Nat.le_of_ble_eq_true rfl, Nat.le_of_ble_eq_true rfl⟩)) (fun r_12 hw => ?_)
              subst hw
              refine lv_iload_n hx hb dX12_rankOf_60 rfl (lv_at hl 2 rfl) ?_
              refine lv_isub hx hb dX12_rankOf_61 ?_
              refine lv_topi (fun x_13 ex_13 => ?_)
              have fx_13 : x_13.toInt = (m_has 0).toInt - u_2.toInt := by rw [ex_13]; exact cv_subI (by omega) (by omega)
              refine lv_imul hx hb dX12_rankOf_62 ?_
              refine lv_topi (fun x_14 ex_14 => ?_)
              have fx_14 : x_14.toInt = u_1.toInt * x_13.toInt ∧ 0 ≤ u_1.toInt * x_13.toInt ∧ u_1.toInt * x_13.toInt ≤ 35273 := by rw [ex_14]; exact cv_mulB 5039 7 (by omega) (by omega) (by omega) (by omega) (by decide)
              refine lv_iload hx hb dX12_rankOf_63 (lv_at hl 1 rfl) ?_
              refine lv_iadd hx hb dX12_rankOf_65 ?_
              refine lv_topi (fun x_15 ex_15 => ?_)
              have fx_15 : x_15.toInt = x_14.toInt + u_7.toInt := by rw [ex_15]; exact cv_addI (by omega) (by omega)
              refine lv_istore_n (lv' := [(2, .int x_15), (5, .int u_8), (4, .int u_7), (3, .int u_2), (0, .ref m0), (1, .ref r0)]) hx hb dX12_rankOf_66 rfl hl (by decide) rfl (fun ls hl => ?_)
              obtain ⟨x_16, ex_16⟩ : ∃ y : Int32, y = u_2 + 1 := ⟨_, rfl⟩
              refine lv_iinc (v := x_16) (lv' := [(3, .int x_16), (2, .int x_15), (5, .int u_8), (4, .int u_7), (0, .ref m0), (1, .ref r0)]) hx hb dX12_rankOf_67 hl (k := 3) rfl (by rw [ex_16]; rfl) (by decide) rfl (fun ls hl => ?_)
              have fx_16 : x_16.toInt = u_2.toInt + 1 := by rw [ex_16]; exact cv_addI (by have : (1 : Int32).toInt = 1 := rfl; omega) (by have : (1 : Int32).toInt = 1 := rfl; omega)
              refine lv_goto (tgt := 4) hx hb dX12_rankOf_70 (by decide) ?_
              have h9 := rank_step (n := u_1.toInt) (m := x_13.toInt) (x := x_14.toInt) (n' := x_15.toInt) (less := u_7.toInt) hrk9 (by omega) (by omega) (by omega) (by omega) (by omega) (by omega) (by omega) (by omega) (by omega)
              exact ihkey_3 x_15 x_16 _ (by omega) (by omega) (by rw [show x_16.toInt = u_2.toInt + 1 by omega]; exact h9.1) (by omega) (lv_sub hl [0, 1, 4, 5] rfl) (by omega)
            · have c_11 : u_8.toInt < (m_has 0).toInt := cv_nle c_11
              refine lv_iload hx hb dX12_rankOf_29 (lv_at hl 1 rfl) ?_
              refine lv_aload_n hx hb dX12_rankOf_31 rfl (lv_at hl 5 rfl) ?_
              refine lv_iload hx hb dX12_rankOf_32 (lv_at hl 0 rfl) ?_
              refine va_iald hx hb hK hP 2 0 rfl rfl (vp_in_iff.mpr (by omega)) dX12_rankOf_34 ?_
              refine lv_topi (fun x_17 ex_17 => ?_)
              have fx_17 : 0 ≤ x_17.toInt ∧ x_17.toInt ≤ 6 := by rw [ex_17]; exact g0 _ (cv_ix (by omega) (by omega))
              refine lv_aload_n hx hb dX12_rankOf_35 rfl (lv_at hl 5 rfl) ?_
              refine lv_iload_n hx hb dX12_rankOf_36 rfl (lv_at hl 2 rfl) ?_
              refine va_iald hx hb hK hP 2 0 rfl rfl (vp_in_iff.mpr (by omega)) dX12_rankOf_37 ?_
              refine lv_topi (fun x_18 ex_18 => ?_)
              have fx_18 : 0 ≤ x_18.toInt ∧ x_18.toInt ≤ 6 := by rw [ex_18]; exact g0 _ (cv_ix (by omega) (by omega))
              have join_20 : ∀ (u_19 : Int32) (ls : Array Slot), (0 ≤ u_19.toInt ∧ u_19.toInt ≤ 1) → lv_has ls 6 [(5, .int u_8), (4, .int u_7), (3, .int u_2), (2, .int u_1), (0, .ref m0), (1, .ref r0)] → W p l e ({ frames := 2, cells := 0, slots := 0, locals := 80 }) s m ([.ref m0, .ref r0] : List Value).toArray below meth c s.heap [] 0 0 Q9 (F0 m 46 ls [.int u_19, .int u_7]) := by
                intro u_19 ls hu_19 hl
                refine lv_iadd hx hb dX12_rankOf_46 ?_
                refine lv_topi (fun x_21 ex_21 => ?_)
                have fx_21 : x_21.toInt = u_7.toInt + u_19.toInt := by rw [ex_21]; exact cv_addI (by omega) (by omega)
                refine lv_istore (lv' := [(4, .int x_21), (5, .int u_8), (3, .int u_2), (2, .int u_1), (0, .ref m0), (1, .ref r0)]) hx hb dX12_rankOf_47 hl (by decide) rfl (fun ls hl => ?_)
                obtain ⟨x_22, ex_22⟩ : ∃ y : Int32, y = u_8 + 1 := ⟨_, rfl⟩
                refine lv_iinc (v := x_22) (lv' := [(5, .int x_22), (4, .int x_21), (3, .int u_2), (2, .int u_1), (0, .ref m0), (1, .ref r0)]) hx hb dX12_rankOf_49 hl (k := 1) rfl (by rw [ex_22]; rfl) (by decide) rfl (fun ls hl => ?_)
                have fx_22 : x_22.toInt = u_8.toInt + 1 := by rw [ex_22]; exact cv_addI (by have : (1 : Int32).toInt = 1 := rfl; omega) (by have : (1 : Int32).toInt = 1 := rfl; omega)
                refine lv_goto (tgt := 20) hx hb dX12_rankOf_52 (by decide) ?_
                exact ihkey_9 x_21 x_22 _ (by omega) (by omega) (by omega) (by omega) (lv_sub hl [0, 1, 2, 3, 4, 5] rfl) (by omega)
              refine lv_icmp_ge (tgt := 45) hx hb dX12_rankOf_38 (by decide) (fun c_23 => ?_) (fun c_23 => ?_)
              · have c_23 : x_18.toInt ≤ x_17.toInt := cv_le c_23
                refine lv_iconst (v := 0) hx hb dX12_rankOf_45 (by decide) ?_
                exact join_20 0 _ (by decide) (lv_sub hl [0, 1, 2, 3, 4, 5] rfl)
              · have c_23 : x_17.toInt < x_18.toInt := cv_nle c_23
                refine lv_iconst (v := 1) hx hb dX12_rankOf_41 (by decide) ?_
                refine lv_goto (tgt := 46) hx hb dX12_rankOf_42 (by decide) ?_
                exact join_20 1 _ (by decide) (lv_sub hl [0, 1, 2, 3, 4, 5] rfl)
        exact key_9 _ 0 x_6 _ (by decide) (by omega) (show 0 ≤ x_6.toInt - u_2.toInt - 1 from by omega) (show x_6.toInt ≤ (m_has 0).toInt from by omega) (lv_sub hl [0, 1, 2, 3, 4, 5] rfl) (Nat.lt_succ_self _)
  exact key_3 _ 0 0 _ (by decide) (by decide) (show ((0 : Int) + 1) * fct ((m_has 0).toInt - 0) ≤ fct (m_has 0).toInt from by rw [Int.sub_zero]; omega) (show 0 ≤ (m_has 0).toInt from by omega) (lv_sub hl [0, 1, 2, 3] rfl) (Nat.lt_succ_self _)

/- X12_rowOf -/
set_option maxHeartbeats 4000000 in
set_option maxRecDepth 100000 in
theorem m_rowOf (l : Launch) (dC : Nat → ClassId) (dI : Nat → Nat → Nat) (cyI cyB cyJ cyZ cyH cyN : ClassId) (sz : Nat) (m0 mwidth mmany mcells mmoved mtape mlines mhas mtold mlaw msuit mapart mact misKept mseen mhung mgoal mleaps mqueue mrow mwanted mfirst moften mlots mthen : Nat) (m_thrown m_taped m_at m_token m_place m_value : Int32) (m_word : Int64) (m_bad m_badPlace m_fault m_faultPlace m_gone m_reached m_fitMany m_fitFirst m_askBest m_askLeaves m_bestFirst m_bestWays : Int32) (m_lotsAll : Int64) (m_has : Nat → Int32) (r0 : Nat) (f0 : Nat → Int32) (p0 : Int32) (g0 : rg 0 6 7 f0) (g1 : 0 ≤ m_taped.toInt ∧ m_taped.toInt ≤ 800) (g2 : 0 ≤ m_at.toInt ∧ m_at.toInt ≤ 800) (g3 : 0 ≤ m_gone.toInt ∧ m_gone.toInt ≤ 40) (g4 : 0 ≤ p0.toInt ∧ p0.toInt ≤ 5039) (g5 : (m_has 0).toInt = 0 ∨ (2 ≤ (m_has 0).toInt ∧ (m_has 0).toInt ≤ 7)) (g6 : 0 ≤ (m_has 1).toInt ∧ (m_has 1).toInt ≤ 6) (g7 : 0 ≤ (m_has 3).toInt ∧ (m_has 3).toInt ≤ 40) (g8 : p0.toInt < fct (m_has 0).toInt) : Met l yX12_rowOf (wk yX12_rowOf cX12_rowOf 9 none) ({ frames := 8, cells := 0, slots := 0, locals := 200 }) (va_Pc [.ref m0, .int p0, .ref r0] (fun U => U.heap.size = sz ∧ va_P (dC, dI) vwCl [(m0, .inr (11, [.int m_thrown, .ref mwidth, .ref mmany, .ref mcells, .ref mmoved, .ref mtape, .int m_taped, .int m_at, .int m_token, .int m_place, .int m_value, .long m_word, .int m_bad, .int m_badPlace, .int m_fault, .int m_faultPlace, .ref mlines, .ref mhas, .ref mtold, .ref mlaw, .ref msuit, .ref mapart, .ref mact, .ref misKept, .ref mseen, .ref mhung, .int m_gone, .ref mgoal, .ref mleaps, .ref mqueue, .ref mrow, .int m_reached, .ref mwanted, .ref mfirst, .ref moften, .int m_fitMany, .int m_fitFirst, .int m_askBest, .int m_askLeaves, .int m_bestFirst, .int m_bestWays, .ref mlots, .ref mthen, .long m_lotsAll])), (mhas, .inl (cyI, 20, .inl m_has)), (r0, .inl (cyI, 7, .inl f0))] U.heap ∧ va_K (dC, dI) vwCl [(cyI, .int), (cyB, .byte), (cyJ, .long), (cyZ, .boolean), (cyH, .object RX2), (cyN, .array .long)] U ∧ va_D (fun _ => True) [(m0, .inr (11, [.int m_thrown, .ref mwidth, .ref mmany, .ref mcells, .ref mmoved, .ref mtape, .int m_taped, .int m_at, .int m_token, .int m_place, .int m_value, .long m_word, .int m_bad, .int m_badPlace, .int m_fault, .int m_faultPlace, .ref mlines, .ref mhas, .ref mtold, .ref mlaw, .ref msuit, .ref mapart, .ref mact, .ref misKept, .ref mseen, .ref mhung, .int m_gone, .ref mgoal, .ref mleaps, .ref mqueue, .ref mrow, .int m_reached, .ref mwanted, .ref mfirst, .ref moften, .int m_fitMany, .int m_fitFirst, .int m_askBest, .int m_askLeaves, .int m_bestFirst, .int m_bestWays, .ref mlots, .ref mthen, .long m_lotsAll])), (mhas, .inl (cyI, 20, .inl m_has)), (r0, .inl (cyI, 7, .inl f0))])) (va_Qv (fun _ : Unit => True) (fun (_ : Unit) (t : State) => ∃ y0 : Nat → Int32, (rg 0 6 7 y0) ∧ (pm (m_has 0).toInt y0) ∧ va_P (dC, dI) vwCl [(m0, .inr (11, [.int m_thrown, .ref mwidth, .ref mmany, .ref mcells, .ref mmoved, .ref mtape, .int m_taped, .int m_at, .int m_token, .int m_place, .int m_value, .long m_word, .int m_bad, .int m_badPlace, .int m_fault, .int m_faultPlace, .ref mlines, .ref mhas, .ref mtold, .ref mlaw, .ref msuit, .ref mapart, .ref mact, .ref misKept, .ref mseen, .ref mhung, .int m_gone, .ref mgoal, .ref mleaps, .ref mqueue, .ref mrow, .int m_reached, .ref mwanted, .ref mfirst, .ref moften, .int m_fitMany, .int m_fitFirst, .int m_askBest, .int m_askLeaves, .int m_bestFirst, .int m_bestWays, .ref mlots, .ref mthen, .long m_lotsAll])), (mhas, .inl (cyI, 20, .inl m_has)), (r0, .inl (cyI, 7, .inl y0))] t.heap ∧ va_D (va_A [(m0, .inr (11, [.int m_thrown, .ref mwidth, .ref mmany, .ref mcells, .ref mmoved, .ref mtape, .int m_taped, .int m_at, .int m_token, .int m_place, .int m_value, .long m_word, .int m_bad, .int m_badPlace, .int m_fault, .int m_faultPlace, .ref mlines, .ref mhas, .ref mtold, .ref mlaw, .ref msuit, .ref mapart, .ref mact, .ref misKept, .ref mseen, .ref mhung, .int m_gone, .ref mgoal, .ref mleaps, .ref mqueue, .ref mrow, .int m_reached, .ref mwanted, .ref mfirst, .ref moften, .int m_fitMany, .int m_fitFirst, .int m_askBest, .int m_askLeaves, .int m_bestFirst, .int m_bestWays, .ref mlots, .ref mthen, .long m_lotsAll])), (mhas, .inl (cyI, 20, .inl m_has)), (r0, .inl (cyI, 7, .inl f0))] sz) [(m0, .inr (11, [.int m_thrown, .ref mwidth, .ref mmany, .ref mcells, .ref mmoved, .ref mtape, .int m_taped, .int m_at, .int m_token, .int m_place, .int m_value, .long m_word, .int m_bad, .int m_badPlace, .int m_fault, .int m_faultPlace, .ref mlines, .ref mhas, .ref mtold, .ref mlaw, .ref msuit, .ref mapart, .ref mact, .ref misKept, .ref mseen, .ref mhung, .int m_gone, .ref mgoal, .ref mleaps, .ref mqueue, .ref mrow, .int m_reached, .ref mwanted, .ref mfirst, .ref moften, .int m_fitMany, .int m_fitFirst, .int m_askBest, .int m_askLeaves, .int m_bestFirst, .int m_bestWays, .ref mlots, .ref mthen, .long m_lotsAll])), (mhas, .inl (cyI, 20, .inl m_has)), (r0, .inl (cyI, 7, .inl y0))]) (va_A [(m0, .inr (11, [.int m_thrown, .ref mwidth, .ref mmany, .ref mcells, .ref mmoved, .ref mtape, .int m_taped, .int m_at, .int m_token, .int m_place, .int m_value, .long m_word, .int m_bad, .int m_badPlace, .int m_fault, .int m_faultPlace, .ref mlines, .ref mhas, .ref mtold, .ref mlaw, .ref msuit, .ref mapart, .ref mact, .ref misKept, .ref mseen, .ref mhung, .int m_gone, .ref mgoal, .ref mleaps, .ref mqueue, .ref mrow, .int m_reached, .ref mwanted, .ref mfirst, .ref moften, .int m_fitMany, .int m_fitFirst, .int m_askBest, .int m_askLeaves, .int m_bestFirst, .int m_bestWays, .ref mlots, .ref mthen, .long m_lotsAll])), (mhas, .inl (cyI, 20, .inl m_has)), (r0, .inl (cyI, 7, .inl f0))] sz)) 0 0 (va_A [(m0, .inr (11, [.int m_thrown, .ref mwidth, .ref mmany, .ref mcells, .ref mmoved, .ref mtape, .int m_taped, .int m_at, .int m_token, .int m_place, .int m_value, .long m_word, .int m_bad, .int m_badPlace, .int m_fault, .int m_faultPlace, .ref mlines, .ref mhas, .ref mtold, .ref mlaw, .ref msuit, .ref mapart, .ref mact, .ref misKept, .ref mseen, .ref mhung, .int m_gone, .ref mgoal, .ref mleaps, .ref mqueue, .ref mrow, .int m_reached, .ref mwanted, .ref mfirst, .ref moften, .int m_fitMany, .int m_fitFirst, .int m_askBest, .int m_askLeaves, .int m_bestFirst, .int m_bestWays, .ref mlots, .ref mthen, .long m_lotsAll])), (mhas, .inl (cyI, 20, .inl m_has)), (r0, .inl (cyI, 7, .inl f0))] sz) := by
  refine Met.ofW (cc := cX12_rowOf) (maxL := 9) (ret := none) (by decide) rfl ?_
  intro p e s m args below meth c s₁ B hml hv
  obtain ⟨rfl, hsz, hP, hK, hD0⟩ := hv
  have hx := B.exec
  have hb := B.bytes
  have hr := B.returns
  have hts : ∀ w ∈ uU, w.before ([.ref m0, .int p0, .ref r0] : List Value).toArray s = true := fun w h => atoms_spec (ws := wk yX12_rowOf cX12_rowOf 9 none) B.pre w (List.mem_cons_of_mem _ h)
  have hown : s.vm.findClass RX12 = some m.cls := findClass_of_methodNamed B.named
  have hlocks := B.notSynchronized
  subst hsz
  have hD := hD0.self (sz := s.heap.size)
  generalize hAe : va_A [(m0, .inr (11, [.int m_thrown, .ref mwidth, .ref mmany, .ref mcells, .ref mmoved, .ref mtape, .int m_taped, .int m_at, .int m_token, .int m_place, .int m_value, .long m_word, .int m_bad, .int m_badPlace, .int m_fault, .int m_faultPlace, .ref mlines, .ref mhas, .ref mtold, .ref mlaw, .ref msuit, .ref mapart, .ref mact, .ref misKept, .ref mseen, .ref mhung, .int m_gone, .ref mgoal, .ref mleaps, .ref mqueue, .ref mrow, .int m_reached, .ref mwanted, .ref mfirst, .ref moften, .int m_fitMany, .int m_fitFirst, .int m_askBest, .int m_askLeaves, .int m_bestFirst, .int m_bestWays, .ref mlots, .ref mthen, .long m_lotsAll])), (mhas, .inl (cyI, 20, .inl m_has)), (r0, .inl (cyI, 7, .inl f0))] s.heap.size = A at hD ⊢
  have hA : ∀ q : Nat, s.heap.size ≤ q → A q := fun q h => by rw [← hAe]; exact Or.inr h
  have hS : va_S A s.heap s.heap [] := va_S.rf
  have hP : va_P (dC, dI) vwCl [(m0, .inr (11, [.int m_thrown, .ref mwidth, .ref mmany, .ref mcells, .ref mmoved, .ref mtape, .int m_taped, .int m_at, .int m_token, .int m_place, .int m_value, .long m_word, .int m_bad, .int m_badPlace, .int m_fault, .int m_faultPlace, .ref mlines, .ref mhas, .ref mtold, .ref mlaw, .ref msuit, .ref mapart, .ref mact, .ref misKept, .ref mseen, .ref mhung, .int m_gone, .ref mgoal, .ref mleaps, .ref mqueue, .ref mrow, .int m_reached, .ref mwanted, .ref mfirst, .ref moften, .int m_fitMany, .int m_fitFirst, .int m_askBest, .int m_askLeaves, .int m_bestFirst, .int m_bestWays, .ref mlots, .ref mthen, .long m_lotsAll])), (mhas, .inl (cyI, 20, .inl m_has)), (r0, .inl (cyI, 7, .inl f0))] s.heap := hP
  have hl := lv_entry ([.ref m0, .int p0, .ref r0]) (n := 9) (Nat.le_of_ble_eq_true rfl)
  rw [lg_entry_eq]
  generalize (lg_sl ([.ref m0, .int p0, .ref r0]) ++ List.replicate (9 - (lg_sl ([.ref m0, .int p0, .ref r0])).length) Slot.unset).toArray = ls at hl ⊢
  have hl : lv_has ls 9 [(0, .ref m0), (1, .int p0), (2, .ref r0)] := hl
  obtain ⟨H, hHe⟩ : ∃ H, H = s.heap := ⟨_, rfl⟩
  have hP : va_P (dC, dI) vwCl [(m0, .inr (11, [.int m_thrown, .ref mwidth, .ref mmany, .ref mcells, .ref mmoved, .ref mtape, .int m_taped, .int m_at, .int m_token, .int m_place, .int m_value, .long m_word, .int m_bad, .int m_badPlace, .int m_fault, .int m_faultPlace, .ref mlines, .ref mhas, .ref mtold, .ref mlaw, .ref msuit, .ref mapart, .ref mact, .ref misKept, .ref mseen, .ref mhung, .int m_gone, .ref mgoal, .ref mleaps, .ref mqueue, .ref mrow, .int m_reached, .ref mwanted, .ref mfirst, .ref moften, .int m_fitMany, .int m_fitFirst, .int m_askBest, .int m_askLeaves, .int m_bestFirst, .int m_bestWays, .ref mlots, .ref mthen, .long m_lotsAll])), (mhas, .inl (cyI, 20, .inl m_has)), (r0, .inl (cyI, 7, .inl f0))] H := by rw [hHe]; exact hP
  have hS : va_S A s.heap H [] := by rw [hHe]; exact hS
  refine cv_heap hHe ?_
  obtain ⟨Q9, hQ9⟩ : ∃ Q9 : State → Prop, Q9 = MQ below (va_Qv (fun _ : Unit => True) (fun (_ : Unit) (t : State) => ∃ y0 : Nat → Int32, (rg 0 6 7 y0) ∧ (pm (m_has 0).toInt y0) ∧ va_P (dC, dI) vwCl [(m0, .inr (11, [.int m_thrown, .ref mwidth, .ref mmany, .ref mcells, .ref mmoved, .ref mtape, .int m_taped, .int m_at, .int m_token, .int m_place, .int m_value, .long m_word, .int m_bad, .int m_badPlace, .int m_fault, .int m_faultPlace, .ref mlines, .ref mhas, .ref mtold, .ref mlaw, .ref msuit, .ref mapart, .ref mact, .ref misKept, .ref mseen, .ref mhung, .int m_gone, .ref mgoal, .ref mleaps, .ref mqueue, .ref mrow, .int m_reached, .ref mwanted, .ref mfirst, .ref moften, .int m_fitMany, .int m_fitFirst, .int m_askBest, .int m_askLeaves, .int m_bestFirst, .int m_bestWays, .ref mlots, .ref mthen, .long m_lotsAll])), (mhas, .inl (cyI, 20, .inl m_has)), (r0, .inl (cyI, 7, .inl y0))] t.heap ∧ va_D A [(m0, .inr (11, [.int m_thrown, .ref mwidth, .ref mmany, .ref mcells, .ref mmoved, .ref mtape, .int m_taped, .int m_at, .int m_token, .int m_place, .int m_value, .long m_word, .int m_bad, .int m_badPlace, .int m_fault, .int m_faultPlace, .ref mlines, .ref mhas, .ref mtold, .ref mlaw, .ref msuit, .ref mapart, .ref mact, .ref misKept, .ref mseen, .ref mhung, .int m_gone, .ref mgoal, .ref mleaps, .ref mqueue, .ref mrow, .int m_reached, .ref mwanted, .ref mfirst, .ref moften, .int m_fitMany, .int m_fitFirst, .int m_askBest, .int m_askLeaves, .int m_bestFirst, .int m_bestWays, .ref mlots, .ref mthen, .long m_lotsAll])), (mhas, .inl (cyI, 20, .inl m_has)), (r0, .inl (cyI, 7, .inl y0))]) A) ([.ref m0, .int p0, .ref r0] : List Value).toArray s 0 0 A := ⟨_, rfl⟩
  rw [← hQ9]
  have hfb9 := fct_b (n := (m_has 0).toInt) (by omega) (by omega)
  refine lv_iconst (v := 1) hx hb dX12_rowOf_0 (by decide) ?_
  refine lv_aload_n hx hb dX12_rowOf_1 rfl (lv_at hl 0 rfl) ?_
  have hPc := hP.sub (ws' := [(m0, .inr (11, [.int m_thrown, .ref mwidth, .ref mmany, .ref mcells, .ref mmoved, .ref mtape, .int m_taped, .int m_at, .int m_token, .int m_place, .int m_value, .long m_word, .int m_bad, .int m_badPlace, .int m_fault, .int m_faultPlace, .ref mlines, .ref mhas, .ref mtold, .ref mlaw, .ref msuit, .ref mapart, .ref mact, .ref misKept, .ref mseen, .ref mhung, .int m_gone, .ref mgoal, .ref mleaps, .ref mqueue, .ref mrow, .int m_reached, .ref mwanted, .ref mfirst, .ref moften, .int m_fitMany, .int m_fitFirst, .int m_askBest, .int m_askLeaves, .int m_bestFirst, .int m_bestWays, .ref mlots, .ref mthen, .long m_lotsAll])), (mhas, .inl (cyI, 20, .inl m_has))]) [0, 1] rfl
  have hKc := hK.sub (tys' := [(cyI, .int), (cyB, .byte), (cyJ, .long), (cyZ, .boolean), (cyH, .object RX2), (cyN, .array .long)]) [0, 1, 2, 3, 4, 5] rfl
  refine vp_callSi (va_Run.run (va_runV (As := []) (rest := [.int 1]) ⟨hx, hb, hml, hown, hts⟩ (m_places l dC dI cyI cyB cyJ cyZ cyH cyN m0 mwidth mmany mcells mmoved mtape mlines mhas mtold mlaw msuit mapart mact misKept mseen mhung mgoal mleaps mqueue mrow mwanted mfirst moften mlots mthen m_thrown m_taped m_at m_token m_place m_value m_word m_bad m_badPlace m_fault m_faultPlace m_gone m_reached m_fitMany m_fitFirst m_askBest m_askLeaves m_bestFirst m_bestWays m_lotsAll m_has (by omega) (by omega) (by omega) g5 g6 g7) (cwV 0 hts (gdV wd_7_86 wd_7_88 wd_s4_14 wd_1_11 wd_7_89) rfl rfl rfl (by decide +kernel) ⟨Nat.le_of_ble_eq_true rfl, Nat.le_of_ble_eq_true rfl⟩) ⟨fun a U g mk q => by obtain ⟨q0, qP, qK⟩ := q; exact ⟨q0, qP, va_K.moved (u := U) (U := U.calling g mk a) (Vm.Alike.refl U.vm) qK⟩, va_recv hKc hPc (ci := 11) (q0 := 0) rfl rfl, fun U hU hW => ⟨rfl, by rw [hU]; exact hPc, va_K.moved hW.alike hKc⟩⟩ rfl rfl hl.1 rfl (lv_room (Nat.le_of_ble_eq_true rfl)) dX12_rowOf_2 ⟨Nat.le_of_ble_eq_true rfl, Nat.le_of_ble_eq_true rfl⟩)) (fun r_1 hw => ?_)
  subst hw
  refine lv_ishl hx hb dX12_rowOf_5 ?_
  refine lv_topi (fun x_2 ex_2 => ?_)
  have fx_2 : 1 ≤ x_2.toInt ∧ x_2.toInt ≤ 128 := by rw [ex_2]; have q := cv_shl1 (y := (m_has 0)) 0 7 (by decide) (by decide) (by omega) (by omega); omega
  refine lv_iconst (v := 1) hx hb dX12_rowOf_6 (by decide) ?_
  refine lv_isub hx hb dX12_rowOf_7 ?_
  refine lv_topi (fun x_3 ex_3 => ?_)
  have fx_3 : x_3.toInt = x_2.toInt - 1 := by rw [ex_3]; exact cv_subI (by have : (1 : Int32).toInt = 1 := rfl; omega) (by have : (1 : Int32).toInt = 1 := rfl; omega)
  refine lv_istore_n (lv' := [(3, .int x_3), (0, .ref m0), (1, .int p0), (2, .ref r0)]) hx hb dX12_rowOf_8 rfl hl (by decide) rfl (fun ls hl => ?_)
  refine lv_iload_n hx hb dX12_rowOf_9 rfl (lv_at hl 2 rfl) ?_
  refine lv_istore (lv' := [(4, .int p0), (3, .int x_3), (0, .ref m0), (1, .int p0), (2, .ref r0)]) hx hb dX12_rowOf_10 hl (by decide) rfl (fun ls hl => ?_)
  refine lv_iconst (v := 0) hx hb dX12_rowOf_12 (by decide) ?_
  refine lv_istore (lv' := [(5, .int 0), (4, .int p0), (3, .int x_3), (0, .ref m0), (1, .int p0), (2, .ref r0)]) hx hb dX12_rowOf_13 hl (by decide) rfl (fun ls hl => ?_)
  have key_8 : ∀ (nkey_8 : Nat) (u_4 : Int32) (u_5 : Int32) (u_6 : Int32) (f_7 : Nat → Int32) (H : Heap) (locs : List Loc) (ls : Array Slot), (0 ≤ u_4.toInt ∧ u_4.toInt ≤ 127) → (0 ≤ u_5.toInt ∧ u_5.toInt ≤ 5039) → (0 ≤ u_6.toInt ∧ u_6.toInt ≤ 7) → rg 0 6 7 f_7 → (u_5.toInt < fct ((m_has 0).toInt - u_6.toInt)) → (cb u_4 (m_has 0).toInt.toNat = (m_has 0).toInt - u_6.toInt) → (rc (m_has 0).toInt u_6.toInt u_4 f_7) → (rb (m_has 0).toInt u_6.toInt f_7) → (u_6.toInt ≤ (m_has 0).toInt) → va_P (dC, dI) vwCl [(m0, .inr (11, [.int m_thrown, .ref mwidth, .ref mmany, .ref mcells, .ref mmoved, .ref mtape, .int m_taped, .int m_at, .int m_token, .int m_place, .int m_value, .long m_word, .int m_bad, .int m_badPlace, .int m_fault, .int m_faultPlace, .ref mlines, .ref mhas, .ref mtold, .ref mlaw, .ref msuit, .ref mapart, .ref mact, .ref misKept, .ref mseen, .ref mhung, .int m_gone, .ref mgoal, .ref mleaps, .ref mqueue, .ref mrow, .int m_reached, .ref mwanted, .ref mfirst, .ref moften, .int m_fitMany, .int m_fitFirst, .int m_askBest, .int m_askLeaves, .int m_bestFirst, .int m_bestWays, .ref mlots, .ref mthen, .long m_lotsAll])), (mhas, .inl (cyI, 20, .inl m_has)), (r0, .inl (cyI, 7, .inl f_7))] H → va_D A [(m0, .inr (11, [.int m_thrown, .ref mwidth, .ref mmany, .ref mcells, .ref mmoved, .ref mtape, .int m_taped, .int m_at, .int m_token, .int m_place, .int m_value, .long m_word, .int m_bad, .int m_badPlace, .int m_fault, .int m_faultPlace, .ref mlines, .ref mhas, .ref mtold, .ref mlaw, .ref msuit, .ref mapart, .ref mact, .ref misKept, .ref mseen, .ref mhung, .int m_gone, .ref mgoal, .ref mleaps, .ref mqueue, .ref mrow, .int m_reached, .ref mwanted, .ref mfirst, .ref moften, .int m_fitMany, .int m_fitFirst, .int m_askBest, .int m_askLeaves, .int m_bestFirst, .int m_bestWays, .ref mlots, .ref mthen, .long m_lotsAll])), (mhas, .inl (cyI, 20, .inl m_has)), (r0, .inl (cyI, 7, .inl f_7))] → va_S A s.heap H locs → lv_has ls 9 [(5, .int u_6), (4, .int u_5), (3, .int u_4), (0, .ref m0), (1, .int p0), (2, .ref r0)] → ((m_has 0).toInt - u_6.toInt).toNat < nkey_8 → W p l e ({ frames := 8, cells := 0, slots := 0, locals := 200 }) s m ([.ref m0, .int p0, .ref r0] : List Value).toArray below meth c H locs 0 0 Q9 (F0 m 15 ls []) := by
    intro nkey_8
    induction nkey_8 with
    | zero => intro u_4 u_5 u_6 f_7 H locs ls hu_4 hu_5 hu_6 hf_7 hrr9 hcb9 hrc9 hrb9 hpp9 hP hD hS hl hnkey_8; exact absurd hnkey_8 (Nat.not_lt_zero _)
    | succ nkey_8 ihkey_8 =>
      intro u_4 u_5 u_6 f_7 H locs ls hu_4 hu_5 hu_6 hf_7 hrr9 hcb9 hrc9 hrb9 hpp9 hP hD hS hl hnkey_8
      refine lv_iload hx hb dX12_rowOf_15 (lv_at hl 0 rfl) ?_
      refine lv_aload_n hx hb dX12_rowOf_17 rfl (lv_at hl 3 rfl) ?_
      have hPc := hP.sub (ws' := [(m0, .inr (11, [.int m_thrown, .ref mwidth, .ref mmany, .ref mcells, .ref mmoved, .ref mtape, .int m_taped, .int m_at, .int m_token, .int m_place, .int m_value, .long m_word, .int m_bad, .int m_badPlace, .int m_fault, .int m_faultPlace, .ref mlines, .ref mhas, .ref mtold, .ref mlaw, .ref msuit, .ref mapart, .ref mact, .ref misKept, .ref mseen, .ref mhung, .int m_gone, .ref mgoal, .ref mleaps, .ref mqueue, .ref mrow, .int m_reached, .ref mwanted, .ref mfirst, .ref moften, .int m_fitMany, .int m_fitFirst, .int m_askBest, .int m_askLeaves, .int m_bestFirst, .int m_bestWays, .ref mlots, .ref mthen, .long m_lotsAll])), (mhas, .inl (cyI, 20, .inl m_has))]) [0, 1] rfl
      have hKc := hK.sub (tys' := [(cyI, .int), (cyB, .byte), (cyJ, .long), (cyZ, .boolean), (cyH, .object RX2), (cyN, .array .long)]) [0, 1, 2, 3, 4, 5] rfl
      refine vp_callSi (va_Run.run (va_runV (As := []) (rest := [.int u_6]) ⟨hx, hb, hml, hown, hts⟩ (m_places l dC dI cyI cyB cyJ cyZ cyH cyN m0 mwidth mmany mcells mmoved mtape mlines mhas mtold mlaw msuit mapart mact misKept mseen mhung mgoal mleaps mqueue mrow mwanted mfirst moften mlots mthen m_thrown m_taped m_at m_token m_place m_value m_word m_bad m_badPlace m_fault m_faultPlace m_gone m_reached m_fitMany m_fitFirst m_askBest m_askLeaves m_bestFirst m_bestWays m_lotsAll m_has (by omega) (by omega) (by omega) g5 g6 g7) (cwV 0 hts (gdV wd_7_86 wd_7_88 wd_s4_14 wd_1_11 wd_7_89) rfl rfl rfl (by decide +kernel) ⟨Nat.le_of_ble_eq_true rfl, Nat.le_of_ble_eq_true rfl⟩) ⟨fun a U g mk q => by obtain ⟨q0, qP, qK⟩ := q; exact ⟨q0, qP, va_K.moved (u := U) (U := U.calling g mk a) (Vm.Alike.refl U.vm) qK⟩, va_recv hKc hPc (ci := 11) (q0 := 0) rfl rfl, fun U hU hW => ⟨rfl, by rw [hU]; exact hPc, va_K.moved hW.alike hKc⟩⟩ rfl rfl hl.1 rfl (lv_room (Nat.le_of_ble_eq_true rfl)) dX12_rowOf_18 ⟨Nat.le_of_ble_eq_true rfl, Nat.le_of_ble_eq_true rfl⟩)) (fun r_9 hw => ?_)
      subst hw
      refine lv_icmp_ge (tgt := 115) hx hb dX12_rowOf_21 (by decide) (fun c_10 => ?_) (fun c_10 => ?_)
      · have c_10 : (m_has 0).toInt ≤ u_6.toInt := cv_le c_10
        rw [hQ9]
        have hP9 := hP.sub (ws' := [(m0, .inr (11, [.int m_thrown, .ref mwidth, .ref mmany, .ref mcells, .ref mmoved, .ref mtape, .int m_taped, .int m_at, .int m_token, .int m_place, .int m_value, .long m_word, .int m_bad, .int m_badPlace, .int m_fault, .int m_faultPlace, .ref mlines, .ref mhas, .ref mtold, .ref mlaw, .ref msuit, .ref mapart, .ref mact, .ref misKept, .ref mseen, .ref mhung, .int m_gone, .ref mgoal, .ref mleaps, .ref mqueue, .ref mrow, .int m_reached, .ref mwanted, .ref mfirst, .ref moften, .int m_fitMany, .int m_fitFirst, .int m_askBest, .int m_askLeaves, .int m_bestFirst, .int m_bestWays, .ref mlots, .ref mthen, .long m_lotsAll])), (mhas, .inl (cyI, 20, .inl m_has)), (r0, .inl (cyI, 7, .inl f_7))]) [0, 1, 2] rfl
        have hD9 := hD.sub (ws' := [(m0, .inr (11, [.int m_thrown, .ref mwidth, .ref mmany, .ref mcells, .ref mmoved, .ref mtape, .int m_taped, .int m_at, .int m_token, .int m_place, .int m_value, .long m_word, .int m_bad, .int m_badPlace, .int m_fault, .int m_faultPlace, .ref mlines, .ref mhas, .ref mtold, .ref mlaw, .ref msuit, .ref mapart, .ref mact, .ref misKept, .ref mseen, .ref mhung, .int m_gone, .ref mgoal, .ref mleaps, .ref mqueue, .ref mrow, .int m_reached, .ref mwanted, .ref mfirst, .ref moften, .int m_fitMany, .int m_fitFirst, .int m_askBest, .int m_askLeaves, .int m_bestFirst, .int m_bestWays, .ref mlots, .ref mthen, .long m_lotsAll])), (mhas, .inl (cyI, 20, .inl m_has)), (r0, .inl (cyI, 7, .inl f_7))]) [0, 1, 2] (by decide) rfl
        exact W.vret hx hb hr (fun t ht hW => ⟨⟨(), rfl, trivial, ⟨f_7, hf_7, (rc_pm hrc9 hrb9 (by omega) (by omega)), by rw [ht]; exact hP9, hD9⟩⟩, hS.F ht⟩) hS.2.2 dX12_rowOf_115
      · have c_10 : u_6.toInt < (m_has 0).toInt := cv_nle c_10
        refine lv_aload_n hx hb dX12_rowOf_24 rfl (lv_at hl 3 rfl) ?_
        have hPc := hP.sub (ws' := [(m0, .inr (11, [.int m_thrown, .ref mwidth, .ref mmany, .ref mcells, .ref mmoved, .ref mtape, .int m_taped, .int m_at, .int m_token, .int m_place, .int m_value, .long m_word, .int m_bad, .int m_badPlace, .int m_fault, .int m_faultPlace, .ref mlines, .ref mhas, .ref mtold, .ref mlaw, .ref msuit, .ref mapart, .ref mact, .ref misKept, .ref mseen, .ref mhung, .int m_gone, .ref mgoal, .ref mleaps, .ref mqueue, .ref mrow, .int m_reached, .ref mwanted, .ref mfirst, .ref moften, .int m_fitMany, .int m_fitFirst, .int m_askBest, .int m_askLeaves, .int m_bestFirst, .int m_bestWays, .ref mlots, .ref mthen, .long m_lotsAll])), (mhas, .inl (cyI, 20, .inl m_has))]) [0, 1] rfl
        have hKc := hK.sub (tys' := [(cyI, .int), (cyB, .byte), (cyJ, .long), (cyZ, .boolean), (cyH, .object RX2), (cyN, .array .long)]) [0, 1, 2, 3, 4, 5] rfl
        refine vp_callSi (va_Run.run (va_runV (As := []) (rest := []) ⟨hx, hb, hml, hown, hts⟩ (m_places l dC dI cyI cyB cyJ cyZ cyH cyN m0 mwidth mmany mcells mmoved mtape mlines mhas mtold mlaw msuit mapart mact misKept mseen mhung mgoal mleaps mqueue mrow mwanted mfirst moften mlots mthen m_thrown m_taped m_at m_token m_place m_value m_word m_bad m_badPlace m_fault m_faultPlace m_gone m_reached m_fitMany m_fitFirst m_askBest m_askLeaves m_bestFirst m_bestWays m_lotsAll m_has (by omega) (by omega) (by omega) g5 g6 g7) (cwV 0 hts (gdV wd_7_86 wd_7_88 wd_s4_14 wd_1_11 wd_7_89) rfl rfl rfl (by decide +kernel) ⟨Nat.le_of_ble_eq_true rfl, Nat.le_of_ble_eq_true rfl⟩) ⟨fun a U g mk q => by obtain ⟨q0, qP, qK⟩ := q; exact ⟨q0, qP, va_K.moved (u := U) (U := U.calling g mk a) (Vm.Alike.refl U.vm) qK⟩, va_recv hKc hPc (ci := 11) (q0 := 0) rfl rfl, fun U hU hW => ⟨rfl, by rw [hU]; exact hPc, va_K.moved hW.alike hKc⟩⟩ rfl rfl hl.1 rfl (lv_room (Nat.le_of_ble_eq_true rfl)) dX12_rowOf_25 ⟨Nat.le_of_ble_eq_true rfl, Nat.le_of_ble_eq_true rfl⟩)) (fun r_11 hw => ?_)
        subst hw
        refine lv_iconst (v := 1) hx hb dX12_rowOf_28 (by decide) ?_
        refine lv_isub hx hb dX12_rowOf_29 ?_
        refine lv_topi (fun x_12 ex_12 => ?_)
        have fx_12 : x_12.toInt = (m_has 0).toInt - 1 := by rw [ex_12]; exact cv_subI (by have : (1 : Int32).toInt = 1 := rfl; omega) (by have : (1 : Int32).toInt = 1 := rfl; omega)
        refine lv_iload hx hb dX12_rowOf_30 (lv_at hl 0 rfl) ?_
        refine lv_isub hx hb dX12_rowOf_32 ?_
        refine lv_topi (fun x_13 ex_13 => ?_)
        have fx_13 : x_13.toInt = x_12.toInt - u_6.toInt := by rw [ex_13]; exact cv_subI (by omega) (by omega)
        refine vp_callSi (va_Run.run (va_runS (As := [.int x_13]) (rest := []) ⟨hx, hb, hml, hown, hts⟩ (m_waysS l dC dI cyI cyB cyJ cyZ cyH cyN x_13 (by omega)) (va_cwS 1 hts (gdS wd_8_24 wd_8_25 wd_1_11 wd_8_26) rfl rfl rfl (by decide +kernel) ⟨Nat.le_of_ble_eq_true rfl, Nat.le_of_ble_eq_true rfl⟩) ⟨fun a U g mk q => q, fun U hU hW => ⟨rfl, trivial⟩⟩ rfl rfl hl.1 rfl (lv_room (Nat.le_of_ble_eq_true rfl)) dX12_rowOf_33 ⟨Nat.le_of_ble_eq_true rfl, Nat.le_of_ble_eq_true rfl⟩)) (fun r_14 hw => ?_)
        have hrr_14 := hw
        have hw7 : r_14.toInt = fct ((m_has 0).toInt - 1 - u_6.toInt) := by rw [hrr_14, show x_13.toInt = (m_has 0).toInt - 1 - u_6.toInt by omega]
        have hw8 := fct_b (n := (m_has 0).toInt - 1 - u_6.toInt) (by omega) (by omega)
        refine lv_istore (lv' := [(6, .int r_14), (5, .int u_6), (4, .int u_5), (3, .int u_4), (0, .ref m0), (1, .int p0), (2, .ref r0)]) hx hb dX12_rowOf_36 hl (by decide) rfl (fun ls hl => ?_)
        refine lv_iload hx hb dX12_rowOf_38 (lv_at hl 2 rfl) ?_
        refine lv_iload hx hb dX12_rowOf_40 (lv_at hl 0 rfl) ?_
        refine lv_idiv hx hb dX12_rowOf_42 (fun q => by have := congrArg Int32.toInt q; have h0 : (0 : Int32).toInt = 0 := rfl; omega) ?_
        refine lv_topi (fun x_15 ex_15 => ?_)
        have fx_15 : x_15.toInt = u_5.toInt / r_14.toInt := by rw [ex_15]; exact cv_divI (by omega) (by omega)
        refine lv_istore (lv' := [(7, .int x_15), (6, .int r_14), (5, .int u_6), (4, .int u_5), (3, .int u_4), (0, .ref m0), (1, .int p0), (2, .ref r0)]) hx hb dX12_rowOf_43 hl (by decide) rfl (fun ls hl => ?_)
        have hd9 : fct ((m_has 0).toInt - u_6.toInt) = ((m_has 0).toInt - u_6.toInt) * r_14.toInt := by rw [hw7]; exact fct_s (n := (m_has 0).toInt - 1 - u_6.toInt) (by omega) (by omega) (by omega)
        have hk9 : x_15.toInt < (m_has 0).toInt - u_6.toInt := div_lt (r := u_5.toInt) (b := r_14.toInt) (by omega) (by omega) (by omega)
        have hk8 : 0 ≤ x_15.toInt := (by have := Int.ediv_nonneg (a := u_5.toInt) (b := r_14.toInt) (by omega) (by omega); omega)
        refine lv_iload hx hb dX12_rowOf_45 (lv_at hl 3 rfl) ?_
        refine lv_iload hx hb dX12_rowOf_47 (lv_at hl 1 rfl) ?_
        refine lv_irem hx hb dX12_rowOf_49 (fun q => by have := congrArg Int32.toInt q; have h0 : (0 : Int32).toInt = 0 := rfl; omega) ?_
        refine lv_topi (fun x_16 ex_16 => ?_)
        have fx_16 : 0 ≤ x_16.toInt ∧ x_16.toInt < r_14.toInt ∧ x_16.toInt ≤ u_5.toInt := by rw [ex_16]; exact cv_rem (by omega) (by omega)
        refine lv_istore (lv' := [(4, .int x_16), (7, .int x_15), (6, .int r_14), (5, .int u_6), (3, .int u_4), (0, .ref m0), (1, .int p0), (2, .ref r0)]) hx hb dX12_rowOf_50 hl (by decide) rfl (fun ls hl => ?_)
        refine lv_iconst (v := 0) hx hb dX12_rowOf_52 (by decide) ?_
        refine lv_istore (lv' := [(8, .int 0), (4, .int x_16), (7, .int x_15), (6, .int r_14), (5, .int u_6), (3, .int u_4), (0, .ref m0), (1, .int p0), (2, .ref r0)]) hx hb dX12_rowOf_53 hl (by decide) rfl (fun ls hl => ?_)
        have key_19 : ∀ (nkey_19 : Nat) (u_17 : Int32) (u_18 : Int32) (H : Heap) (locs : List Loc) (ls : Array Slot), (0 ≤ u_17.toInt ∧ u_17.toInt ≤ 6) → (0 ≤ u_18.toInt ∧ u_18.toInt ≤ 6) → (u_17.toInt + cb u_4 u_18.toInt.toNat = x_15.toInt) → va_P (dC, dI) vwCl [(m0, .inr (11, [.int m_thrown, .ref mwidth, .ref mmany, .ref mcells, .ref mmoved, .ref mtape, .int m_taped, .int m_at, .int m_token, .int m_place, .int m_value, .long m_word, .int m_bad, .int m_badPlace, .int m_fault, .int m_faultPlace, .ref mlines, .ref mhas, .ref mtold, .ref mlaw, .ref msuit, .ref mapart, .ref mact, .ref misKept, .ref mseen, .ref mhung, .int m_gone, .ref mgoal, .ref mleaps, .ref mqueue, .ref mrow, .int m_reached, .ref mwanted, .ref mfirst, .ref moften, .int m_fitMany, .int m_fitFirst, .int m_askBest, .int m_askLeaves, .int m_bestFirst, .int m_bestWays, .ref mlots, .ref mthen, .long m_lotsAll])), (mhas, .inl (cyI, 20, .inl m_has)), (r0, .inl (cyI, 7, .inl f_7))] H → va_D A [(m0, .inr (11, [.int m_thrown, .ref mwidth, .ref mmany, .ref mcells, .ref mmoved, .ref mtape, .int m_taped, .int m_at, .int m_token, .int m_place, .int m_value, .long m_word, .int m_bad, .int m_badPlace, .int m_fault, .int m_faultPlace, .ref mlines, .ref mhas, .ref mtold, .ref mlaw, .ref msuit, .ref mapart, .ref mact, .ref misKept, .ref mseen, .ref mhung, .int m_gone, .ref mgoal, .ref mleaps, .ref mqueue, .ref mrow, .int m_reached, .ref mwanted, .ref mfirst, .ref moften, .int m_fitMany, .int m_fitFirst, .int m_askBest, .int m_askLeaves, .int m_bestFirst, .int m_bestWays, .ref mlots, .ref mthen, .long m_lotsAll])), (mhas, .inl (cyI, 20, .inl m_has)), (r0, .inl (cyI, 7, .inl f_7))] → va_S A s.heap H locs → lv_has ls 9 [(8, .int u_18), (4, .int x_16), (7, .int u_17), (6, .int r_14), (5, .int u_6), (3, .int u_4), (0, .ref m0), (1, .int p0), (2, .ref r0)] → (7 - u_18.toInt).toNat < nkey_19 → W p l e ({ frames := 8, cells := 0, slots := 0, locals := 200 }) s m ([.ref m0, .int p0, .ref r0] : List Value).toArray below meth c H locs 0 0 Q9 (F0 m 55 ls []) := by
          intro nkey_19
          induction nkey_19 with
          | zero => intro u_17 u_18 H locs ls hu_17 hu_18 hkc9 hP hD hS hl hnkey_19; exact absurd hnkey_19 (Nat.not_lt_zero _)
          | succ nkey_19 ihkey_19 =>
            intro u_17 u_18 H locs ls hu_17 hu_18 hkc9 hP hD hS hl hnkey_19
            refine lv_iload_n hx hb dX12_rowOf_55 rfl (lv_at hl 5 rfl) ?_
            refine lv_iload hx hb dX12_rowOf_56 (lv_at hl 0 rfl) ?_
            refine vp_callSi (va_Run.run (va_runS (As := [.int u_4, .int u_18]) (rest := []) ⟨hx, hb, hml, hown, hts⟩ (m_isBit l dC dI cyI cyB cyJ cyZ cyH cyN u_4 u_18) (va_cwS 2 hts (gdS wd_7_106 wd_7_107 wd_1_11 wd_7_108) rfl rfl rfl (by decide +kernel) ⟨Nat.le_of_ble_eq_true rfl, Nat.le_of_ble_eq_true rfl⟩) ⟨fun a U g mk q => q, fun U hU hW => ⟨rfl, trivial⟩⟩ rfl rfl hl.1 rfl (lv_room (Nat.le_of_ble_eq_true rfl)) dX12_rowOf_58 ⟨Nat.le_of_ble_eq_true rfl, Nat.le_of_ble_eq_true rfl⟩)) (fun r_20 hw => ?_)
            by_cases c_21 : ((u_4 >>> (u_18 &&& 31)) &&& 1 = 1)
            · rw [if_pos c_21] at hw; subst hw; have c_21 : ((u_4 >>> (u_18 &&& 31)) &&& 1 = 1) := c_21
              refine lv_if_eq (tgt := 69) hx hb dX12_rowOf_61 (by decide) (fun c_22 => absurd c_22 (by decide)) (fun _ => ?_)
              refine lv_iload hx hb dX12_rowOf_64 (lv_at hl 2 rfl) ?_
              refine lv_if_le (tgt := 94) hx hb dX12_rowOf_66 (by decide) (fun c_23 => ?_) (fun c_23 => ?_)
              · have c_23 : u_17.toInt ≤ 0 := cv_le c_23
                skip
                have h6 := cb_lt (k := u_4) (a := u_18.toInt.toNat) (b := (m_has 0).toInt.toNat) (by omega)
                refine lv_aload_n hx hb dX12_rowOf_94 rfl (lv_at hl 8 rfl) ?_
                refine lv_iload hx hb dX12_rowOf_95 (lv_at hl 4 rfl) ?_
                refine lv_iload hx hb dX12_rowOf_97 (lv_at hl 0 rfl) ?_
                refine va_iast hx hb hK hP hD hS 2 0 rfl rfl (vp_in_iff.mpr (by omega)) dX12_rowOf_99 (fun H locs hP hD hS => ?_)
                obtain ⟨f_24, ef_24⟩ : ∃ z9 : Nat → Int32, z9 = upd f_7 u_6.toNatClampNeg u_18 := ⟨_, rfl⟩
                rw [← ef_24] at hP hD
                have hP : va_P (dC, dI) vwCl [(m0, .inr (11, [.int m_thrown, .ref mwidth, .ref mmany, .ref mcells, .ref mmoved, .ref mtape, .int m_taped, .int m_at, .int m_token, .int m_place, .int m_value, .long m_word, .int m_bad, .int m_badPlace, .int m_fault, .int m_faultPlace, .ref mlines, .ref mhas, .ref mtold, .ref mlaw, .ref msuit, .ref mapart, .ref mact, .ref misKept, .ref mseen, .ref mhung, .int m_gone, .ref mgoal, .ref mleaps, .ref mqueue, .ref mrow, .int m_reached, .ref mwanted, .ref mfirst, .ref moften, .int m_fitMany, .int m_fitFirst, .int m_askBest, .int m_askLeaves, .int m_bestFirst, .int m_bestWays, .ref mlots, .ref mthen, .long m_lotsAll])), (mhas, .inl (cyI, 20, .inl m_has)), (r0, .inl (cyI, 7, .inl f_24))] H := hP
                have hD : va_D A [(m0, .inr (11, [.int m_thrown, .ref mwidth, .ref mmany, .ref mcells, .ref mmoved, .ref mtape, .int m_taped, .int m_at, .int m_token, .int m_place, .int m_value, .long m_word, .int m_bad, .int m_badPlace, .int m_fault, .int m_faultPlace, .ref mlines, .ref mhas, .ref mtold, .ref mlaw, .ref msuit, .ref mapart, .ref mact, .ref misKept, .ref mseen, .ref mhung, .int m_gone, .ref mgoal, .ref mleaps, .ref mqueue, .ref mrow, .int m_reached, .ref mwanted, .ref mfirst, .ref moften, .int m_fitMany, .int m_fitFirst, .int m_askBest, .int m_askLeaves, .int m_bestFirst, .int m_bestWays, .ref mlots, .ref mthen, .long m_lotsAll])), (mhas, .inl (cyI, 20, .inl m_has)), (r0, .inl (cyI, 7, .inl f_24))] := hD
                have hf_24 : rg 0 6 7 f_24 := by rw [ef_24]; exact rg_upd (hf_7) ⟨by omega, by omega⟩
                refine lv_iload_n hx hb dX12_rowOf_100 rfl (lv_at hl 5 rfl) ?_
                refine lv_iconst (v := 1) hx hb dX12_rowOf_101 (by decide) ?_
                refine lv_iload hx hb dX12_rowOf_102 (lv_at hl 0 rfl) ?_
                refine lv_ishl hx hb dX12_rowOf_104 ?_
                refine lv_topi (fun x_25 ex_25 => ?_)
                have fx_25 : 1 ≤ x_25.toInt ∧ x_25.toInt ≤ 64 := by rw [ex_25]; have q := cv_shl1 (y := u_18) 0 6 (by decide) (by decide) (by omega) (by omega); omega
                refine lv_iconst (v := (-1)) hx hb dX12_rowOf_105 (by decide) ?_
                refine lv_ixor hx hb dX12_rowOf_106 ?_
                refine lv_topi (fun x_26 ex_26 => ?_)
                refine lv_iand hx hb dX12_rowOf_107 ?_
                refine lv_topi (fun x_27 ex_27 => ?_)
                have fx_27 : 0 ≤ x_27.toInt ∧ x_27.toInt ≤ 127 := by rw [ex_27]; exact cv_andL (by omega) (by omega)
                refine lv_istore_n (lv' := [(3, .int x_27), (8, .int u_18), (4, .int x_16), (7, .int u_17), (6, .int r_14), (5, .int u_6), (0, .ref m0), (1, .int p0), (2, .ref r0)]) hx hb dX12_rowOf_108 rfl hl (by decide) rfl (fun ls hl => ?_)
                obtain ⟨x_28, ex_28⟩ : ∃ y : Int32, y = u_6 + 1 := ⟨_, rfl⟩
                refine lv_iinc (v := x_28) (lv' := [(5, .int x_28), (3, .int x_27), (8, .int u_18), (4, .int x_16), (7, .int u_17), (6, .int r_14), (0, .ref m0), (1, .int p0), (2, .ref r0)]) hx hb dX12_rowOf_109 hl (k := 5) rfl (by rw [ex_28]; rfl) (by decide) rfl (fun ls hl => ?_)
                have fx_28 : x_28.toInt = u_6.toInt + 1 := by rw [ex_28]; exact cv_addI (by have : (1 : Int32).toInt = 1 := rfl; omega) (by have : (1 : Int32).toInt = 1 := rfl; omega)
                refine lv_goto (tgt := 15) hx hb dX12_rowOf_112 (by decide) ?_
                exact ihkey_8 x_27 x_16 x_28 f_24 _ _ _ (by omega) (by omega) (by omega) hf_24 (by rw [show (m_has 0).toInt - x_28.toInt = (m_has 0).toInt - 1 - u_6.toInt by omega]; omega) (by rw [row_clr (by assumption) (by assumption) (by assumption) (by assumption) (by omega) (by omega) (by omega) (by omega)]; omega) (rc_step hrc9 (by assumption) (by assumption) (by assumption) (by assumption) (by omega) (by omega) (by omega) (by omega) (by omega) (by omega)) (rb_step hrb9 (by assumption) (by omega) (by omega) (by omega) (by omega)) (by omega) hP hD hS (lv_sub hl [0, 3, 1, 6, 7, 8] rfl) (by omega)
              · have c_23 : 0 < u_17.toInt := cv_nle c_23
                refine lv_iload hx hb dX12_rowOf_69 (lv_at hl 2 rfl) ?_
                refine lv_iload_n hx hb dX12_rowOf_71 rfl (lv_at hl 5 rfl) ?_
                refine lv_iload hx hb dX12_rowOf_72 (lv_at hl 0 rfl) ?_
                refine vp_callSi (va_Run.run (va_runS (As := [.int u_4, .int u_18]) (rest := [.int u_17]) ⟨hx, hb, hml, hown, hts⟩ (m_isBit l dC dI cyI cyB cyJ cyZ cyH cyN u_4 u_18) (va_cwS 2 hts (gdS wd_7_106 wd_7_107 wd_1_11 wd_7_108) rfl rfl rfl (by decide +kernel) ⟨Nat.le_of_ble_eq_true rfl, Nat.le_of_ble_eq_true rfl⟩) ⟨fun a U g mk q => q, fun U hU hW => ⟨rfl, trivial⟩⟩ rfl rfl hl.1 rfl (lv_room (Nat.le_of_ble_eq_true rfl)) dX12_rowOf_74 ⟨Nat.le_of_ble_eq_true rfl, Nat.le_of_ble_eq_true rfl⟩)) (fun r_29 hw => ?_)
                rw [if_pos c_21] at hw; subst hw
                refine lv_if_eq (tgt := 84) hx hb dX12_rowOf_77 (by decide) (fun c_30 => absurd c_30 (by decide)) (fun _ => ?_)
                refine lv_iconst (v := 1) hx hb dX12_rowOf_80 (by decide) ?_
                refine lv_goto (tgt := 85) hx hb dX12_rowOf_81 (by decide) ?_
                refine lv_isub hx hb dX12_rowOf_85 ?_
                refine lv_topi (fun x_31 ex_31 => ?_)
                have fx_31 : x_31.toInt = u_17.toInt - 1 := by rw [ex_31]; exact cv_subI (by have : (1 : Int32).toInt = 1 := rfl; omega) (by have : (1 : Int32).toInt = 1 := rfl; omega)
                refine lv_istore (lv' := [(7, .int x_31), (8, .int u_18), (4, .int x_16), (6, .int r_14), (5, .int u_6), (3, .int u_4), (0, .ref m0), (1, .int p0), (2, .ref r0)]) hx hb dX12_rowOf_86 hl (by decide) rfl (fun ls hl => ?_)
                obtain ⟨x_32, ex_32⟩ : ∃ y : Int32, y = u_18 + 1 := ⟨_, rfl⟩
                refine lv_iinc (v := x_32) (lv' := [(8, .int x_32), (7, .int x_31), (4, .int x_16), (6, .int r_14), (5, .int u_6), (3, .int u_4), (0, .ref m0), (1, .int p0), (2, .ref r0)]) hx hb dX12_rowOf_88 hl (k := 1) rfl (by rw [ex_32]; rfl) (by decide) rfl (fun ls hl => ?_)
                have fx_32 : x_32.toInt = u_18.toInt + 1 := by rw [ex_32]; exact cv_addI (by have : (1 : Int32).toInt = 1 := rfl; omega) (by have : (1 : Int32).toInt = 1 := rfl; omega)
                refine lv_goto (tgt := 55) hx hb dX12_rowOf_91 (by decide) ?_
                have h9 := cb_at1 (h' := x_32) c_21 (by omega) (by omega)
                have h8 := cb_lt (k := u_4) (a := x_32.toInt.toNat) (b := (m_has 0).toInt.toNat) (by omega)
                exact ihkey_19 x_31 x_32 _ _ _ (by omega) (by omega) (by omega) hP hD hS (lv_sub hl [0, 2, 1, 3, 4, 5, 6, 7, 8] rfl) (by omega)
            · rw [if_neg c_21] at hw; subst hw; have c_21 : ¬ ((u_4 >>> (u_18 &&& 31)) &&& 1 = 1) := c_21
              refine lv_if_eq (tgt := 69) hx hb dX12_rowOf_61 (by decide) (fun _ => ?_) (fun c_33 => absurd c_33 (by decide))
              refine lv_iload hx hb dX12_rowOf_69 (lv_at hl 2 rfl) ?_
              refine lv_iload_n hx hb dX12_rowOf_71 rfl (lv_at hl 5 rfl) ?_
              refine lv_iload hx hb dX12_rowOf_72 (lv_at hl 0 rfl) ?_
              refine vp_callSi (va_Run.run (va_runS (As := [.int u_4, .int u_18]) (rest := [.int u_17]) ⟨hx, hb, hml, hown, hts⟩ (m_isBit l dC dI cyI cyB cyJ cyZ cyH cyN u_4 u_18) (va_cwS 2 hts (gdS wd_7_106 wd_7_107 wd_1_11 wd_7_108) rfl rfl rfl (by decide +kernel) ⟨Nat.le_of_ble_eq_true rfl, Nat.le_of_ble_eq_true rfl⟩) ⟨fun a U g mk q => q, fun U hU hW => ⟨rfl, trivial⟩⟩ rfl rfl hl.1 rfl (lv_room (Nat.le_of_ble_eq_true rfl)) dX12_rowOf_74 ⟨Nat.le_of_ble_eq_true rfl, Nat.le_of_ble_eq_true rfl⟩)) (fun r_34 hw => ?_)
              rw [if_neg c_21] at hw; subst hw
              refine lv_if_eq (tgt := 84) hx hb dX12_rowOf_77 (by decide) (fun _ => ?_) (fun c_35 => absurd c_35 (by decide))
              refine lv_iconst (v := 0) hx hb dX12_rowOf_84 (by decide) ?_
              refine lv_isub hx hb dX12_rowOf_85 ?_
              refine lv_topi (fun x_36 ex_36 => ?_)
              have fx_36 : x_36.toInt = u_17.toInt - 0 := by rw [ex_36]; exact cv_subI (by have : (0 : Int32).toInt = 0 := rfl; omega) (by have : (0 : Int32).toInt = 0 := rfl; omega)
              refine lv_istore (lv' := [(7, .int x_36), (8, .int u_18), (4, .int x_16), (6, .int r_14), (5, .int u_6), (3, .int u_4), (0, .ref m0), (1, .int p0), (2, .ref r0)]) hx hb dX12_rowOf_86 hl (by decide) rfl (fun ls hl => ?_)
              obtain ⟨x_37, ex_37⟩ : ∃ y : Int32, y = u_18 + 1 := ⟨_, rfl⟩
              refine lv_iinc (v := x_37) (lv' := [(8, .int x_37), (7, .int x_36), (4, .int x_16), (6, .int r_14), (5, .int u_6), (3, .int u_4), (0, .ref m0), (1, .int p0), (2, .ref r0)]) hx hb dX12_rowOf_88 hl (k := 1) rfl (by rw [ex_37]; rfl) (by decide) rfl (fun ls hl => ?_)
              have fx_37 : x_37.toInt = u_18.toInt + 1 := by rw [ex_37]; exact cv_addI (by have : (1 : Int32).toInt = 1 := rfl; omega) (by have : (1 : Int32).toInt = 1 := rfl; omega)
              refine lv_goto (tgt := 55) hx hb dX12_rowOf_91 (by decide) ?_
              have h9 := cb_at0 (h' := x_37) c_21 (by omega) (by omega)
              have h8 := cb_lt (k := u_4) (a := x_37.toInt.toNat) (b := (m_has 0).toInt.toNat) (by omega)
              exact ihkey_19 x_36 x_37 _ _ _ (by omega) (by omega) (by omega) hP hD hS (lv_sub hl [0, 2, 1, 3, 4, 5, 6, 7, 8] rfl) (by omega)
        exact key_19 _ x_15 0 _ _ _ (by omega) (by decide) (show x_15.toInt + (0 : Int) = x_15.toInt from by omega) hP hD hS (lv_sub hl [0, 1, 2, 3, 4, 5, 6, 7, 8] rfl) (Nat.lt_succ_self _)
  exact key_8 _ x_3 p0 0 f0 _ _ _ (by omega) (by omega) (by decide) g0 (show p0.toInt < fct ((m_has 0).toInt - 0) from by rw [Int.sub_zero]; omega) (show _ = (m_has 0).toInt - 0 from by rw [Int.sub_zero]; exact row_init (by assumption) ex_3 (by omega) (by omega)) (rc_init (row_init (by assumption) ex_3 (by omega) (by omega)) (by omega)) rb_init (show 0 ≤ (m_has 0).toInt from by omega) hP hD hS (lv_sub hl [0, 1, 2, 3, 4, 5] rfl) (Nat.lt_succ_self _)

/- X12_blankIn -/
set_option maxHeartbeats 4000000 in
set_option maxRecDepth 100000 in
theorem m_blankIn (l : Launch) (dC : Nat → ClassId) (dI : Nat → Nat → Nat) (cyI cyB cyJ cyZ cyH cyN : ClassId) (m0 mwidth mmany mcells mmoved mtape mlines mhas mtold mlaw msuit mapart mact misKept mseen mhung mgoal mleaps mqueue mrow mwanted mfirst moften mlots mthen : Nat) (m_thrown m_taped m_at m_token m_place m_value : Int32) (m_word : Int64) (m_bad m_badPlace m_fault m_faultPlace m_gone m_reached m_fitMany m_fitFirst m_askBest m_askLeaves m_bestFirst m_bestWays : Int32) (m_lotsAll : Int64) (m_has : Nat → Int32) (r0 : Nat) (f0 : Nat → Int32) (g0 : rg 0 6 7 f0) (g1 : 0 ≤ m_taped.toInt ∧ m_taped.toInt ≤ 800) (g2 : 0 ≤ m_at.toInt ∧ m_at.toInt ≤ 800) (g3 : 0 ≤ m_gone.toInt ∧ m_gone.toInt ≤ 40) (g4 : (m_has 0).toInt = 0 ∨ (2 ≤ (m_has 0).toInt ∧ (m_has 0).toInt ≤ 7)) (g5 : 0 ≤ (m_has 1).toInt ∧ (m_has 1).toInt ≤ 6) (g6 : 0 ≤ (m_has 3).toInt ∧ (m_has 3).toInt ≤ 40) (g7 : pm (m_has 0).toInt f0) (g8 : 2 ≤ (m_has 0).toInt) : Met l yX12_blankIn (wk yX12_blankIn cX12_blankIn 3 (some .int)) ({ frames := 2, cells := 0, slots := 0, locals := 80 }) (va_Pc [.ref m0, .ref r0] (fun U => va_P (dC, dI) vwCl [(m0, .inr (11, [.int m_thrown, .ref mwidth, .ref mmany, .ref mcells, .ref mmoved, .ref mtape, .int m_taped, .int m_at, .int m_token, .int m_place, .int m_value, .long m_word, .int m_bad, .int m_badPlace, .int m_fault, .int m_faultPlace, .ref mlines, .ref mhas, .ref mtold, .ref mlaw, .ref msuit, .ref mapart, .ref mact, .ref misKept, .ref mseen, .ref mhung, .int m_gone, .ref mgoal, .ref mleaps, .ref mqueue, .ref mrow, .int m_reached, .ref mwanted, .ref mfirst, .ref moften, .int m_fitMany, .int m_fitFirst, .int m_askBest, .int m_askLeaves, .int m_bestFirst, .int m_bestWays, .ref mlots, .ref mthen, .long m_lotsAll])), (mhas, .inl (cyI, 20, .inl m_has)), (r0, .inl (cyI, 7, .inl f0))] U.heap ∧ va_K (dC, dI) vwCl [(cyI, .int), (cyB, .byte), (cyJ, .long), (cyZ, .boolean), (cyH, .object RX2), (cyN, .array .long)] U)) (vp_Si (fun r : Int32 => 0 ≤ r.toInt ∧ r.toInt < (m_has 0).toInt)) 0 0 (fun _ => False) := by
  refine Met.ofW (cc := cX12_blankIn) (maxL := 3) (ret := (some .int)) (by decide) rfl ?_
  intro p e s m args below meth c s₁ B hml hv
  obtain ⟨rfl, hP, hK⟩ := hv
  have hx := B.exec
  have hb := B.bytes
  have hr := B.returns
  have hts : ∀ w ∈ uU, w.before ([.ref m0, .ref r0] : List Value).toArray s = true := fun w h => atoms_spec (ws := wk yX12_blankIn cX12_blankIn 3 (some .int)) B.pre w (List.mem_cons_of_mem _ h)
  have hown : s.vm.findClass RX12 = some m.cls := findClass_of_methodNamed B.named
  have hlocks := B.notSynchronized
  have hl := lv_entry ([.ref m0, .ref r0]) (n := 3) (Nat.le_of_ble_eq_true rfl)
  rw [lg_entry_eq]
  generalize (lg_sl ([.ref m0, .ref r0]) ++ List.replicate (3 - (lg_sl ([.ref m0, .ref r0])).length) Slot.unset).toArray = ls at hl ⊢
  have hl : lv_has ls 3 [(0, .ref m0), (1, .ref r0)] := hl
  obtain ⟨Q9, hQ9⟩ : ∃ Q9 : State → Prop, Q9 = MQ below (vp_Si (fun r : Int32 => 0 ≤ r.toInt ∧ r.toInt < (m_has 0).toInt)) ([.ref m0, .ref r0] : List Value).toArray s 0 0 (fun _ => False) := ⟨_, rfl⟩
  rw [← hQ9]
  obtain ⟨j0, hj0, hj1⟩ := g7.2 ((m_has 0).toInt - 1) (by omega) (by omega)
  refine lv_iconst (v := 0) hx hb dX12_blankIn_0 (by decide) ?_
  refine lv_istore_n (lv' := [(2, .int 0), (0, .ref m0), (1, .ref r0)]) hx hb dX12_blankIn_1 rfl hl (by decide) rfl (fun ls hl => ?_)
  have key_3 : ∀ (nkey_3 : Nat) (u_1 : Int32) (ls : Array Slot), (0 ≤ u_1.toInt ∧ u_1.toInt ≤ 6) → (u_1.toInt ≤ (j0 : Int)) → lv_has ls 3 [(2, .int u_1), (0, .ref m0), (1, .ref r0)] → ((j0 : Int) - u_1.toInt).toNat < nkey_3 → W p l e ({ frames := 2, cells := 0, slots := 0, locals := 80 }) s m ([.ref m0, .ref r0] : List Value).toArray below meth c s.heap [] 0 0 Q9 (F0 m 2 ls []) := by
    intro nkey_3
    induction nkey_3 with
    | zero => intro u_1 ls hu_1 hiv_2 hl hnkey_3; exact absurd hnkey_3 (Nat.not_lt_zero _)
    | succ nkey_3 ihkey_3 =>
      intro u_1 ls hu_1 hiv_2 hl hnkey_3
      refine lv_aload_n hx hb dX12_blankIn_2 rfl (lv_at hl 2 rfl) ?_
      refine lv_iload_n hx hb dX12_blankIn_3 rfl (lv_at hl 0 rfl) ?_
      refine va_iald hx hb hK hP 2 0 rfl rfl (vp_in_iff.mpr (by omega)) dX12_blankIn_4 ?_
      refine lv_topi (fun x_4 ex_4 => ?_)
      have fx_4 : 0 ≤ x_4.toInt ∧ x_4.toInt ≤ 6 := by rw [ex_4]; exact g0 _ (cv_ix (by omega) (by omega))
      refine lv_aload_n hx hb dX12_blankIn_5 rfl (lv_at hl 1 rfl) ?_
      have hPc := hP.sub (ws' := [(m0, .inr (11, [.int m_thrown, .ref mwidth, .ref mmany, .ref mcells, .ref mmoved, .ref mtape, .int m_taped, .int m_at, .int m_token, .int m_place, .int m_value, .long m_word, .int m_bad, .int m_badPlace, .int m_fault, .int m_faultPlace, .ref mlines, .ref mhas, .ref mtold, .ref mlaw, .ref msuit, .ref mapart, .ref mact, .ref misKept, .ref mseen, .ref mhung, .int m_gone, .ref mgoal, .ref mleaps, .ref mqueue, .ref mrow, .int m_reached, .ref mwanted, .ref mfirst, .ref moften, .int m_fitMany, .int m_fitFirst, .int m_askBest, .int m_askLeaves, .int m_bestFirst, .int m_bestWays, .ref mlots, .ref mthen, .long m_lotsAll])), (mhas, .inl (cyI, 20, .inl m_has))]) [0, 1] rfl
      have hKc := hK.sub (tys' := [(cyI, .int), (cyB, .byte), (cyJ, .long), (cyZ, .boolean), (cyH, .object RX2), (cyN, .array .long)]) [0, 1, 2, 3, 4, 5] rfl
      refine vp_callSi (va_Run.run (va_runV (As := []) (rest := [.int x_4]) ⟨hx, hb, hml, hown, hts⟩ (m_places l dC dI cyI cyB cyJ cyZ cyH cyN m0 mwidth mmany mcells mmoved mtape mlines mhas mtold mlaw msuit mapart mact misKept mseen mhung mgoal mleaps mqueue mrow mwanted mfirst moften mlots mthen m_thrown m_taped m_at m_token m_place m_value m_word m_bad m_badPlace m_fault m_faultPlace m_gone m_reached m_fitMany m_fitFirst m_askBest m_askLeaves m_bestFirst m_bestWays m_lotsAll m_has (by omega) (by omega) (by omega) g4 g5 g6) (cwV 0 hts (gdV wd_7_86 wd_7_88 wd_s4_14 wd_1_11 wd_7_89) rfl rfl rfl (by decide +kernel) ⟨Nat.le_of_ble_eq_true rfl, Nat.le_of_ble_eq_true rfl⟩) ⟨fun a U g mk q => by obtain ⟨q0, qP, qK⟩ := q; exact ⟨q0, qP, va_K.moved (u := U) (U := U.calling g mk a) (Vm.Alike.refl U.vm) qK⟩, va_recv hKc hPc (ci := 11) (q0 := 0) rfl rfl, fun U hU hW => ⟨rfl, by rw [hU]; exact hPc, va_K.moved hW.alike hKc⟩⟩ rfl rfl hl.1 rfl (lv_room (Nat.le_of_ble_eq_true rfl)) dX12_blankIn_6 ⟨Nat.le_of_ble_eq_true rfl, Nat.le_of_ble_eq_true rfl⟩)) (fun r_5 hw => ?_)
      subst hw
      refine lv_iconst (v := 1) hx hb dX12_blankIn_9 (by decide) ?_
      refine lv_isub hx hb dX12_blankIn_10 ?_
      refine lv_topi (fun x_6 ex_6 => ?_)
      have fx_6 : x_6.toInt = (m_has 0).toInt - 1 := by rw [ex_6]; exact cv_subI (by have : (1 : Int32).toInt = 1 := rfl; omega) (by have : (1 : Int32).toInt = 1 := rfl; omega)
      refine lv_icmp_eq (tgt := 20) hx hb dX12_blankIn_11 (by decide) (fun c_7 => ?_) (fun c_7 => ?_)
      · have c_7 : x_4.toInt = x_6.toInt := cv_eq c_7
        refine lv_iload_n hx hb dX12_blankIn_20 rfl (lv_at hl 0 rfl) ?_
        rw [hQ9]
        exact W.iret (v := u_1) hx hb hr (fun t ht hW => ⟨u_1, rfl, (by omega), ht⟩) (fun q h => by cases h) dX12_blankIn_21
      · have c_7 : x_4.toInt ≠ x_6.toInt := cv_ne c_7
        obtain ⟨x_8, ex_8⟩ : ∃ y : Int32, y = u_1 + 1 := ⟨_, rfl⟩
        refine lv_iinc (v := x_8) (lv' := [(2, .int x_8), (0, .ref m0), (1, .ref r0)]) hx hb dX12_blankIn_14 hl (k := 0) rfl (by rw [ex_8]; rfl) (by decide) rfl (fun ls hl => ?_)
        have fx_8 : x_8.toInt = u_1.toInt + 1 := by rw [ex_8]; exact cv_addI (by have : (1 : Int32).toInt = 1 := rfl; omega) (by have : (1 : Int32).toInt = 1 := rfl; omega)
        refine lv_goto (tgt := 2) hx hb dX12_blankIn_17 (by decide) ?_
        have h9 := pm_ne (by assumption) hj1 (by omega) (by omega) (by omega)
        exact ihkey_3 x_8 _ (by omega) (by omega) (lv_sub hl [0, 1, 2] rfl) (by omega)
  exact key_3 _ 0 _ (by decide) (show (0 : Int) ≤ (j0 : Int) from by omega) (lv_sub hl [0, 1, 2] rfl) (Nat.lt_succ_self _)

/- X12_isLeap -/
set_option maxHeartbeats 4000000 in
set_option maxRecDepth 100000 in
theorem m_isLeap (l : Launch) (dC : Nat → ClassId) (dI : Nat → Nat → Nat) (cyI cyB cyJ cyZ cyH cyN : ClassId) (m0 mwidth mmany mcells mmoved mtape mlines mhas mtold mlaw msuit mapart mact misKept mseen mhung mgoal mleaps mqueue mrow mwanted mfirst moften mlots mthen : Nat) (m_thrown m_taped m_at m_token m_place m_value : Int32) (m_word : Int64) (m_bad m_badPlace m_fault m_faultPlace m_gone m_reached m_fitMany m_fitFirst m_askBest m_askLeaves m_bestFirst m_bestWays : Int32) (m_lotsAll : Int64) (m_has : Nat → Int32) (p0 p1 : Int32) (g0 : 0 ≤ m_taped.toInt ∧ m_taped.toInt ≤ 800) (g1 : 0 ≤ m_at.toInt ∧ m_at.toInt ≤ 800) (g2 : 0 ≤ m_gone.toInt ∧ m_gone.toInt ≤ 40) (g3 : (m_has 0).toInt = 0 ∨ (2 ≤ (m_has 0).toInt ∧ (m_has 0).toInt ≤ 7)) (g4 : 0 ≤ (m_has 1).toInt ∧ (m_has 1).toInt ≤ 6) (g5 : 0 ≤ (m_has 3).toInt ∧ (m_has 3).toInt ≤ 40) : Met l yX12_isLeap (wk yX12_isLeap cX12_isLeap 3 (some .boolean)) ({ frames := 2, cells := 0, slots := 0, locals := 81 }) (va_Pc [.ref m0, .int p0, .int p1] (fun U => va_P (dC, dI) vwCl [(m0, .inr (11, [.int m_thrown, .ref mwidth, .ref mmany, .ref mcells, .ref mmoved, .ref mtape, .int m_taped, .int m_at, .int m_token, .int m_place, .int m_value, .long m_word, .int m_bad, .int m_badPlace, .int m_fault, .int m_faultPlace, .ref mlines, .ref mhas, .ref mtold, .ref mlaw, .ref msuit, .ref mapart, .ref mact, .ref misKept, .ref mseen, .ref mhung, .int m_gone, .ref mgoal, .ref mleaps, .ref mqueue, .ref mrow, .int m_reached, .ref mwanted, .ref mfirst, .ref moften, .int m_fitMany, .int m_fitFirst, .int m_askBest, .int m_askLeaves, .int m_bestFirst, .int m_bestWays, .ref mlots, .ref mthen, .long m_lotsAll])), (mhas, .inl (cyI, 20, .inl m_has))] U.heap ∧ va_K (dC, dI) vwCl [(cyI, .int), (cyB, .byte), (cyJ, .long), (cyZ, .boolean), (cyH, .object RX2), (cyN, .array .long)] U)) (vp_Si (fun r : Int32 => 0 ≤ r.toInt ∧ r.toInt ≤ 1)) 0 0 (fun _ => False) := by
  refine Met.ofW (cc := cX12_isLeap) (maxL := 3) (ret := (some .boolean)) (by decide) rfl ?_
  intro p e s m args below meth c s₁ B hml hv
  obtain ⟨rfl, hP, hK⟩ := hv
  have hx := B.exec
  have hb := B.bytes
  have hr := B.returns
  have hts : ∀ w ∈ uU, w.before ([.ref m0, .int p0, .int p1] : List Value).toArray s = true := fun w h => atoms_spec (ws := wk yX12_isLeap cX12_isLeap 3 (some .boolean)) B.pre w (List.mem_cons_of_mem _ h)
  have hown : s.vm.findClass RX12 = some m.cls := findClass_of_methodNamed B.named
  have hlocks := B.notSynchronized
  have hl := lv_entry ([.ref m0, .int p0, .int p1]) (n := 3) (Nat.le_of_ble_eq_true rfl)
  rw [lg_entry_eq]
  generalize (lg_sl ([.ref m0, .int p0, .int p1]) ++ List.replicate (3 - (lg_sl ([.ref m0, .int p0, .int p1])).length) Slot.unset).toArray = ls at hl ⊢
  have hl : lv_has ls 3 [(0, .ref m0), (1, .int p0), (2, .int p1)] := hl
  obtain ⟨Q9, hQ9⟩ : ∃ Q9 : State → Prop, Q9 = MQ below (vp_Si (fun r : Int32 => 0 ≤ r.toInt ∧ r.toInt ≤ 1)) ([.ref m0, .int p0, .int p1] : List Value).toArray s 0 0 (fun _ => False) := ⟨_, rfl⟩
  rw [← hQ9]
  refine lv_iload_n hx hb dX12_isLeap_0 rfl (lv_at hl 1 rfl) ?_
  refine lv_iload_n hx hb dX12_isLeap_1 rfl (lv_at hl 2 rfl) ?_
  have join_2 : ∀ (u_1 : Int32) (ls : Array Slot), (0 ≤ u_1.toInt ∧ u_1.toInt ≤ 1) → lv_has ls 3 [(0, .ref m0), (1, .int p0), (2, .int p1)] → W p l e ({ frames := 2, cells := 0, slots := 0, locals := 81 }) s m ([.ref m0, .int p0, .int p1] : List Value).toArray below meth c s.heap [] 0 0 Q9 (F0 m 32 ls [.int u_1]) := by
    intro u_1 ls hu_1 hl
    rw [hQ9]
    exact W.zret (v := u_1) (ty := .boolean) hx hb hr (cv_nz (by omega) (by omega)) (fun t ht hW => ⟨u_1, rfl, (by omega), ht⟩) (fun q h => by cases h) dX12_isLeap_32
  refine lv_icmp_le (tgt := 20) hx hb dX12_isLeap_2 (by decide) (fun c_3 => ?_) (fun c_3 => ?_)
  · have c_3 : p0.toInt ≤ p1.toInt := cv_le c_3
    refine lv_aload_n hx hb dX12_isLeap_20 rfl (lv_at hl 0 rfl) ?_
    refine va_get (D := (dC, dI)) (ci := 11) (v := .ref mhas) (C := RX12) (T := TX12) (N := 44) hx hb hts uinX12 hown hK hP 0 rfl rfl 17 (by decide) (hts _ wd_6_54) (fun _ h9 => h9) rfl dX12_isLeap_21 ?_
    refine lv_iconst (v := 2) hx hb dX12_isLeap_24 (by decide) ?_
    refine va_iald hx hb hK hP 1 0 rfl rfl (vp_in_iff.mpr (by decide)) dX12_isLeap_25 ?_
    refine cv_topi (b := m_has 2) rfl ?_
    refine lv_iload_n hx hb dX12_isLeap_26 rfl (lv_at hl 2 rfl) ?_
    refine lv_iload_n hx hb dX12_isLeap_27 rfl (lv_at hl 1 rfl) ?_
    refine lv_isub hx hb dX12_isLeap_28 ?_
    refine lv_topi (fun x_4 ex_4 => ?_)
    refine vp_callSi (va_Run.run (va_runS (As := [.int (m_has 2), .int x_4]) (rest := []) ⟨hx, hb, hml, hown, hts⟩ (m_isBit l dC dI cyI cyB cyJ cyZ cyH cyN (m_has 2) x_4) (va_cwS 2 hts (gdS wd_7_106 wd_7_107 wd_1_11 wd_7_108) rfl rfl rfl (by decide +kernel) ⟨Nat.le_of_ble_eq_true rfl, Nat.le_of_ble_eq_true rfl⟩) ⟨fun a U g mk q => q, fun U hU hW => ⟨rfl, trivial⟩⟩ rfl rfl hl.1 rfl (lv_room (Nat.le_of_ble_eq_true rfl)) dX12_isLeap_29 ⟨Nat.le_of_ble_eq_true rfl, Nat.le_of_ble_eq_true rfl⟩)) (fun r_5 hw => ?_)
    by_cases c_6 : (((m_has 2) >>> (x_4 &&& 31)) &&& 1 = 1)
    · rw [if_pos c_6] at hw; subst hw; have c_6 : (((m_has 2) >>> (x_4 &&& 31)) &&& 1 = 1) := c_6
      exact join_2 1 _ (by decide) (lv_sub hl [0, 1, 2] rfl)
    · rw [if_neg c_6] at hw; subst hw; have c_6 : ¬ (((m_has 2) >>> (x_4 &&& 31)) &&& 1 = 1) := c_6
      exact join_2 0 _ (by decide) (lv_sub hl [0, 1, 2] rfl)
  · have c_3 : p1.toInt < p0.toInt := cv_nle c_3
    refine lv_aload_n hx hb dX12_isLeap_5 rfl (lv_at hl 0 rfl) ?_
    refine va_get (D := (dC, dI)) (ci := 11) (v := .ref mhas) (C := RX12) (T := TX12) (N := 44) hx hb hts uinX12 hown hK hP 0 rfl rfl 17 (by decide) (hts _ wd_6_54) (fun _ h9 => h9) rfl dX12_isLeap_6 ?_
    refine lv_iconst (v := 2) hx hb dX12_isLeap_9 (by decide) ?_
    refine va_iald hx hb hK hP 1 0 rfl rfl (vp_in_iff.mpr (by decide)) dX12_isLeap_10 ?_
    refine cv_topi (b := m_has 2) rfl ?_
    refine lv_iload_n hx hb dX12_isLeap_11 rfl (lv_at hl 1 rfl) ?_
    refine lv_iload_n hx hb dX12_isLeap_12 rfl (lv_at hl 2 rfl) ?_
    refine lv_isub hx hb dX12_isLeap_13 ?_
    refine lv_topi (fun x_7 ex_7 => ?_)
    refine vp_callSi (va_Run.run (va_runS (As := [.int (m_has 2), .int x_7]) (rest := []) ⟨hx, hb, hml, hown, hts⟩ (m_isBit l dC dI cyI cyB cyJ cyZ cyH cyN (m_has 2) x_7) (va_cwS 2 hts (gdS wd_7_106 wd_7_107 wd_1_11 wd_7_108) rfl rfl rfl (by decide +kernel) ⟨Nat.le_of_ble_eq_true rfl, Nat.le_of_ble_eq_true rfl⟩) ⟨fun a U g mk q => q, fun U hU hW => ⟨rfl, trivial⟩⟩ rfl rfl hl.1 rfl (lv_room (Nat.le_of_ble_eq_true rfl)) dX12_isLeap_14 ⟨Nat.le_of_ble_eq_true rfl, Nat.le_of_ble_eq_true rfl⟩)) (fun r_8 hw => ?_)
    by_cases c_9 : (((m_has 2) >>> (x_7 &&& 31)) &&& 1 = 1)
    · rw [if_pos c_9] at hw; subst hw; have c_9 : (((m_has 2) >>> (x_7 &&& 31)) &&& 1 = 1) := c_9
      refine lv_goto (tgt := 32) hx hb dX12_isLeap_17 (by decide) ?_
      exact join_2 1 _ (by decide) (lv_sub hl [0, 1, 2] rfl)
    · rw [if_neg c_9] at hw; subst hw; have c_9 : ¬ (((m_has 2) >>> (x_7 &&& 31)) &&& 1 = 1) := c_9
      refine lv_goto (tgt := 32) hx hb dX12_isLeap_17 (by decide) ?_
      exact join_2 0 _ (by decide) (lv_sub hl [0, 1, 2] rfl)

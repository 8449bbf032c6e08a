/- X12_in -/
set_option maxHeartbeats 4000000 in
set_option maxRecDepth 100000 in
theorem m_in (l : Launch) (dC : Nat → ClassId) (dI : Nat → Nat → Nat) (cyI cyB cyJ cyZ cyH cyN : ClassId) (p0 p1 p2 : Int64) : Met l yX12_in (wk yX12_in cX12_in 6 (some .boolean)) ({ frames := 1, cells := 0, slots := 0, locals := 60 }) (va_Pc [.long p0, .long p1, .long p2] (fun _ => True)) (vp_Si (fun r : Int32 => r = (if (p1.toInt ≤ p0.toInt ∧ p0.toInt ≤ p2.toInt) then 1 else 0))) 0 0 (fun _ => False) := by
  refine Met.ofW (cc := cX12_in) (maxL := 6) (ret := (some .boolean)) (by decide) rfl ?_
  intro p e s m args below meth c s₁ B hml hv
  obtain ⟨rfl, -⟩ := hv
  have hx := B.exec
  have hb := B.bytes
  have hr := B.returns
  have hts : ∀ w ∈ uU, w.before ([.long p0, .long p1, .long p2] : List Value).toArray s = true := fun w h => atoms_spec (ws := wk yX12_in cX12_in 6 (some .boolean)) B.pre w (List.mem_cons_of_mem _ h)
  have hown : s.vm.findClass RX12 = some m.cls := findClass_of_methodNamed B.named
  have hlocks := B.notSynchronized
  have hl := lv_entry ([.long p0, .long p1, .long p2]) (n := 6) (Nat.le_of_ble_eq_true rfl)
  rw [lg_entry_eq]
  generalize (lg_sl ([.long p0, .long p1, .long p2]) ++ List.replicate (6 - (lg_sl ([.long p0, .long p1, .long p2])).length) Slot.unset).toArray = ls at hl ⊢
  have hl : lv_has ls 6 [(0, .long p0), (2, .long p1), (4, .long p2)] := hl
  refine lv_lload_n hx hb dX12_in_0 rfl (lv_at hl 0 rfl) ?_
  refine lv_lload_n hx hb dX12_in_1 rfl (lv_at hl 1 rfl) ?_
  refine W.lcmp hx hb dX12_in_2 ?_
  refine lv_if_lt (tgt := 17) hx hb dX12_in_3 (by decide) (fun c_1 => ?_) (fun c_1 => ?_)
  · have c_1 : p0.toInt < p1.toInt := cv_clt c_1
    refine lv_iconst (v := 0) hx hb dX12_in_17 (by decide) ?_
    exact W.zret (v := 0) (ty := .boolean) hx hb hr rfl (fun t ht hW => ⟨0, rfl, (by first | (rw [if_pos (by omega)]; done) | (rw [if_neg (by omega)]; done) | (rw [if_neg (by omega), if_pos (by omega)]; done) | (rw [if_neg (by omega), if_neg (by omega)]; done)), ht⟩) (fun q h => by cases h) dX12_in_18
  · have c_1 : p1.toInt ≤ p0.toInt := cv_cnlt c_1
    refine lv_lload_n hx hb dX12_in_6 rfl (lv_at hl 0 rfl) ?_
    refine lv_lload hx hb dX12_in_7 (lv_at hl 2 rfl) ?_
    refine W.lcmp hx hb dX12_in_9 ?_
    refine lv_if_gt (tgt := 17) hx hb dX12_in_10 (by decide) (fun c_2 => ?_) (fun c_2 => ?_)
    · have c_2 : p2.toInt < p0.toInt := cv_cgt c_2
      refine lv_iconst (v := 0) hx hb dX12_in_17 (by decide) ?_
      exact W.zret (v := 0) (ty := .boolean) hx hb hr rfl (fun t ht hW => ⟨0, rfl, (by first | (rw [if_pos (by omega)]; done) | (rw [if_neg (by omega)]; done) | (rw [if_neg (by omega), if_pos (by omega)]; done) | (rw [if_neg (by omega), if_neg (by omega)]; done)), ht⟩) (fun q h => by cases h) dX12_in_18
    · have c_2 : p0.toInt ≤ p2.toInt := cv_cngt c_2
      refine lv_iconst (v := 1) hx hb dX12_in_13 (by decide) ?_
      refine lv_goto (tgt := 18) hx hb dX12_in_14 (by decide) ?_
      exact W.zret (v := 1) (ty := .boolean) hx hb hr rfl (fun t ht hW => ⟨1, rfl, (by first | (rw [if_pos (by omega)]; done) | (rw [if_neg (by omega)]; done) | (rw [if_neg (by omega), if_pos (by omega)]; done) | (rw [if_neg (by omega), if_neg (by omega)]; done)), ht⟩) (fun q h => by cases h) dX12_in_18

/- X12_isSlot -/
set_option maxHeartbeats 4000000 in
set_option maxRecDepth 100000 in
theorem m_isSlot (l : Launch) (dC : Nat → ClassId) (dI : Nat → Nat → Nat) (cyI cyB cyJ cyZ cyH cyN : ClassId) (p0 : Int32) : Met l yX12_isSlot (wk yX12_isSlot cX12_isSlot 1 (some .boolean)) ({ frames := 2, cells := 0, slots := 0, locals := 85 }) (va_Pc [.int p0] (fun _ => True)) (vp_Si (fun r : Int32 => r = (if (0 ≤ p0.toInt ∧ p0.toInt < 4) then 1 else 0))) 0 0 (fun _ => False) := by
  refine Met.ofW (cc := cX12_isSlot) (maxL := 1) (ret := (some .boolean)) (by decide) rfl ?_
  intro p e s m args below meth c s₁ B hml hv
  obtain ⟨rfl, -⟩ := hv
  have hx := B.exec
  have hb := B.bytes
  have hr := B.returns
  have hts : ∀ w ∈ uU, w.before ([.int p0] : List Value).toArray s = true := fun w h => atoms_spec (ws := wk yX12_isSlot cX12_isSlot 1 (some .boolean)) B.pre w (List.mem_cons_of_mem _ h)
  have hown : s.vm.findClass RX12 = some m.cls := findClass_of_methodNamed B.named
  have hlocks := B.notSynchronized
  have hl := lv_entry ([.int p0]) (n := 1) (Nat.le_of_ble_eq_true rfl)
  rw [lg_entry_eq]
  generalize (lg_sl ([.int p0]) ++ List.replicate (1 - (lg_sl ([.int p0])).length) Slot.unset).toArray = ls at hl ⊢
  have hl : lv_has ls 1 [(0, .int p0)] := hl
  refine lv_iload_n hx hb dX12_isSlot_0 rfl (lv_at hl 0 rfl) ?_
  obtain ⟨y_1, ey_1⟩ : ∃ z : Int64, z = p0.toInt64 := ⟨_, rfl⟩
  have fy_1 : y_1.toInt = p0.toInt := by rw [ey_1]; exact Int32.toInt_toInt64 _
  refine lv_i2l (v := y_1) hx hb dX12_isSlot_1 ey_1.symm ?_
  refine lv_lconst (v := 0) hx hb dX12_isSlot_2 (by decide) ?_
  refine lv_ldc2 (v := 3) hx hb hown (hts _ wd_6_177) dX12_isSlot_3 ?_
  refine vp_callSi (va_Run.run (va_runS (As := [.long y_1, .long 0, .long 3]) (rest := []) ⟨hx, hb, hml, hown, hts⟩ (m_in l dC dI cyI cyB cyJ cyZ cyH cyN y_1 0 3) (va_cwS 3 hts (gdS wd_6_178 wd_6_179 wd_1_11 wd_6_180) rfl rfl rfl (by decide +kernel) ⟨Nat.le_of_ble_eq_true rfl, Nat.le_of_ble_eq_true rfl⟩) ⟨fun a U g mk q => q, fun U hU hW => ⟨rfl, trivial⟩⟩ rfl rfl hl.1 rfl (lv_room (Nat.le_of_ble_eq_true rfl)) dX12_isSlot_6 ⟨Nat.le_of_ble_eq_true rfl, Nat.le_of_ble_eq_true rfl⟩)) (fun r_2 hw => ?_)
  by_cases c_3 : ((0 : Int64).toInt ≤ y_1.toInt ∧ y_1.toInt ≤ (3 : Int64).toInt)
  · rw [if_pos c_3] at hw; subst hw; have c_3 : (0 ≤ y_1.toInt ∧ y_1.toInt ≤ 3) := c_3
    exact W.zret (v := 1) (ty := .boolean) hx hb hr rfl (fun t ht hW => ⟨1, rfl, (by first | (rw [if_pos (by omega)]; done) | (rw [if_neg (by omega)]; done) | (rw [if_neg (by omega), if_pos (by omega)]; done) | (rw [if_neg (by omega), if_neg (by omega)]; done)), ht⟩) (fun q h => by cases h) dX12_isSlot_9
  · rw [if_neg c_3] at hw; subst hw; have c_3 : ¬ (0 ≤ y_1.toInt ∧ y_1.toInt ≤ 3) := c_3
    exact W.zret (v := 0) (ty := .boolean) hx hb hr rfl (fun t ht hW => ⟨0, rfl, (by first | (rw [if_pos (by omega)]; done) | (rw [if_neg (by omega)]; done) | (rw [if_neg (by omega), if_pos (by omega)]; done) | (rw [if_neg (by omega), if_neg (by omega)]; done)), ht⟩) (fun q h => by cases h) dX12_isSlot_9

/- X12_isHall -/
set_option maxHeartbeats 4000000 in
set_option maxRecDepth 100000 in
theorem m_isHall (l : Launch) (dC : Nat → ClassId) (dI : Nat → Nat → Nat) (cyI cyB cyJ cyZ cyH cyN : ClassId) (m0 mwidth mmany mcells mmoved mtape mlines mhas mtold mlaw msuit mapart mact misKept mseen mhung mgoal mleaps mqueue mrow mwanted mfirst moften mlots mthen : Nat) : Met l yX12_isHall (wk yX12_isHall cX12_isHall 1 (some .boolean)) ({ frames := 1, cells := 0, slots := 0, locals := 60 }) (va_Pc [.ref m0] (fun U => va_P (dC, dI) vwCl [(m0, .inr (11, [.int 0, .ref mwidth, .ref mmany, .ref mcells, .ref mmoved, .ref mtape, .int 0, .int 0, .int 0, .int 0, .int 0, .long 0, .int 0, .int 0, .int 0, .int (-1), .ref mlines, .ref mhas, .ref mtold, .ref mlaw, .ref msuit, .ref mapart, .ref mact, .ref misKept, .ref mseen, .ref mhung, .int 0, .ref mgoal, .ref mleaps, .ref mqueue, .ref mrow, .int 0, .ref mwanted, .ref mfirst, .ref moften, .int 0, .int 0, .int 0, .int 0, .int 0, .int 0, .ref mlots, .ref mthen, .long 0])), (mlines, .inl (cyI, 5, .inl (fun _ => 0)))] U.heap ∧ va_K (dC, dI) vwCl [(cyI, .int), (cyB, .byte), (cyJ, .long), (cyZ, .boolean), (cyH, .object RX2), (cyN, .array .long)] U)) (vp_Si (fun r : Int32 => r = 0)) 0 0 (fun _ => False) := by
  refine Met.ofW (cc := cX12_isHall) (maxL := 1) (ret := (some .boolean)) (by decide) rfl ?_
  intro p e s m args below meth c s₁ B hml hv
  obtain ⟨rfl, hP, hK⟩ := hv
  have hx := B.exec
  have hb := B.bytes
  have hr := B.returns
  have hts : ∀ w ∈ uU, w.before ([.ref m0] : List Value).toArray s = true := fun w h => atoms_spec (ws := wk yX12_isHall cX12_isHall 1 (some .boolean)) B.pre w (List.mem_cons_of_mem _ h)
  have hown : s.vm.findClass RX12 = some m.cls := findClass_of_methodNamed B.named
  have hlocks := B.notSynchronized
  have hl := lv_entry ([.ref m0]) (n := 1) (Nat.le_of_ble_eq_true rfl)
  rw [lg_entry_eq]
  generalize (lg_sl ([.ref m0]) ++ List.replicate (1 - (lg_sl ([.ref m0])).length) Slot.unset).toArray = ls at hl ⊢
  have hl : lv_has ls 1 [(0, .ref m0)] := hl
  refine lv_aload_n hx hb dX12_isHall_0 rfl (lv_at hl 0 rfl) ?_
  refine va_get (D := (dC, dI)) (ci := 11) (v := .ref mlines) (C := RX12) (T := TX12) (N := 44) hx hb hts uinX12 hown hK hP 0 rfl rfl 16 (by decide) (hts _ wd_6_53) (fun _ h9 => h9) rfl dX12_isHall_1 ?_
  refine lv_iconst (v := 0) hx hb dX12_isHall_4 (by decide) ?_
  refine va_iald hx hb hK hP 1 0 rfl rfl (vp_in_iff.mpr (by decide)) dX12_isHall_5 ?_
  refine cv_topi (b := 0) (rfl) ?_
  refine lv_if_le (tgt := 13) hx hb dX12_isHall_6 (by decide) (fun _ => ?_) (fun c_1 => absurd c_1 (by decide))
  refine lv_iconst (v := 0) hx hb dX12_isHall_13 (by decide) ?_
  exact W.zret (v := 0) (ty := .boolean) hx hb hr rfl (fun t ht hW => ⟨0, rfl, rfl, ht⟩) (fun q h => by cases h) dX12_isHall_14

/- X12_places -/
set_option maxHeartbeats 4000000 in
set_option maxRecDepth 100000 in
theorem m_places (l : Launch) (dC : Nat → ClassId) (dI : Nat → Nat → Nat) (cyI cyB cyJ cyZ cyH cyN : ClassId) (m0 mwidth mmany mcells mmoved mtape mlines mhas mtold mlaw msuit mapart mact misKept mseen mhung mgoal mleaps mqueue mrow mwanted mfirst moften mlots mthen : Nat) : Met l yX12_places (wk yX12_places cX12_places 1 (some .int)) ({ frames := 1, cells := 0, slots := 0, locals := 60 }) (va_Pc [.ref m0] (fun U => va_P (dC, dI) vwCl [(m0, .inr (11, [.int 0, .ref mwidth, .ref mmany, .ref mcells, .ref mmoved, .ref mtape, .int 0, .int 0, .int 0, .int 0, .int 0, .long 0, .int 0, .int 0, .int 0, .int (-1), .ref mlines, .ref mhas, .ref mtold, .ref mlaw, .ref msuit, .ref mapart, .ref mact, .ref misKept, .ref mseen, .ref mhung, .int 0, .ref mgoal, .ref mleaps, .ref mqueue, .ref mrow, .int 0, .ref mwanted, .ref mfirst, .ref moften, .int 0, .int 0, .int 0, .int 0, .int 0, .int 0, .ref mlots, .ref mthen, .long 0])), (mhas, .inl (cyI, 20, .inl (fun _ => 0)))] U.heap ∧ va_K (dC, dI) vwCl [(cyI, .int), (cyB, .byte), (cyJ, .long), (cyZ, .boolean), (cyH, .object RX2), (cyN, .array .long)] U)) (vp_Si (fun r : Int32 => r = 0)) 0 0 (fun _ => False) := by
  refine Met.ofW (cc := cX12_places) (maxL := 1) (ret := (some .int)) (by decide) rfl ?_
  intro p e s m args below meth c s₁ B hml hv
  obtain ⟨rfl, hP, hK⟩ := hv
  have hx := B.exec
  have hb := B.bytes
  have hr := B.returns
  have hts : ∀ w ∈ uU, w.before ([.ref m0] : List Value).toArray s = true := fun w h => atoms_spec (ws := wk yX12_places cX12_places 1 (some .int)) B.pre w (List.mem_cons_of_mem _ h)
  have hown : s.vm.findClass RX12 = some m.cls := findClass_of_methodNamed B.named
  have hlocks := B.notSynchronized
  have hl := lv_entry ([.ref m0]) (n := 1) (Nat.le_of_ble_eq_true rfl)
  rw [lg_entry_eq]
  generalize (lg_sl ([.ref m0]) ++ List.replicate (1 - (lg_sl ([.ref m0])).length) Slot.unset).toArray = ls at hl ⊢
  have hl : lv_has ls 1 [(0, .ref m0)] := hl
  refine lv_aload_n hx hb dX12_places_0 rfl (lv_at hl 0 rfl) ?_
  refine va_get (D := (dC, dI)) (ci := 11) (v := .ref mhas) (C := RX12) (T := TX12) (N := 44) hx hb hts uinX12 hown hK hP 0 rfl rfl 17 (by decide) (hts _ wd_6_54) (fun _ h9 => h9) rfl dX12_places_1 ?_
  refine lv_iconst (v := 0) hx hb dX12_places_4 (by decide) ?_
  refine va_iald hx hb hK hP 1 0 rfl rfl (vp_in_iff.mpr (by decide)) dX12_places_5 ?_
  refine cv_topi (b := 0) (rfl) ?_
  exact W.iret (v := 0) hx hb hr (fun t ht hW => ⟨0, rfl, rfl, ht⟩) (fun q h => by cases h) dX12_places_6

/- X12_isPlace -/
set_option maxHeartbeats 4000000 in
set_option maxRecDepth 100000 in
theorem m_isPlace (l : Launch) (dC : Nat → ClassId) (dI : Nat → Nat → Nat) (cyI cyB cyJ cyZ cyH cyN : ClassId) (m0 mwidth mmany mcells mmoved mtape mlines mhas mtold mlaw msuit mapart mact misKept mseen mhung mgoal mleaps mqueue mrow mwanted mfirst moften mlots mthen : Nat) (p0 : Int64) : Met l yX12_isPlace (wk yX12_isPlace cX12_isPlace 3 (some .boolean)) ({ frames := 2, cells := 0, slots := 0, locals := 85 }) (va_Pc [.ref m0, .long p0] (fun U => va_P (dC, dI) vwCl [(m0, .inr (11, [.int 0, .ref mwidth, .ref mmany, .ref mcells, .ref mmoved, .ref mtape, .int 0, .int 0, .int 0, .int 0, .int 0, .long 0, .int 0, .int 0, .int 0, .int (-1), .ref mlines, .ref mhas, .ref mtold, .ref mlaw, .ref msuit, .ref mapart, .ref mact, .ref misKept, .ref mseen, .ref mhung, .int 0, .ref mgoal, .ref mleaps, .ref mqueue, .ref mrow, .int 0, .ref mwanted, .ref mfirst, .ref moften, .int 0, .int 0, .int 0, .int 0, .int 0, .int 0, .ref mlots, .ref mthen, .long 0])), (mhas, .inl (cyI, 20, .inl (fun _ => 0)))] U.heap ∧ va_K (dC, dI) vwCl [(cyI, .int), (cyB, .byte), (cyJ, .long), (cyZ, .boolean), (cyH, .object RX2), (cyN, .array .long)] U)) (vp_Si (fun r : Int32 => r = 0)) 0 0 (fun _ => False) := by
  refine Met.ofW (cc := cX12_isPlace) (maxL := 3) (ret := (some .boolean)) (by decide) rfl ?_
  intro p e s m args below meth c s₁ B hml hv
  obtain ⟨rfl, hP, hK⟩ := hv
  have hx := B.exec
  have hb := B.bytes
  have hr := B.returns
  have hts : ∀ w ∈ uU, w.before ([.ref m0, .long p0] : List Value).toArray s = true := fun w h => atoms_spec (ws := wk yX12_isPlace cX12_isPlace 3 (some .boolean)) B.pre w (List.mem_cons_of_mem _ h)
  have hown : s.vm.findClass RX12 = some m.cls := findClass_of_methodNamed B.named
  have hlocks := B.notSynchronized
  have hl := lv_entry ([.ref m0, .long p0]) (n := 3) (Nat.le_of_ble_eq_true rfl)
  rw [lg_entry_eq]
  generalize (lg_sl ([.ref m0, .long p0]) ++ List.replicate (3 - (lg_sl ([.ref m0, .long p0])).length) Slot.unset).toArray = ls at hl ⊢
  have hl : lv_has ls 3 [(0, .ref m0), (1, .long p0)] := hl
  refine lv_lload_n hx hb dX12_isPlace_0 rfl (lv_at hl 1 rfl) ?_
  refine lv_lconst (v := 0) hx hb dX12_isPlace_1 (by decide) ?_
  refine lv_aload_n hx hb dX12_isPlace_2 rfl (lv_at hl 0 rfl) ?_
  have hPc := hP.sub (ws' := [(m0, .inr (11, [.int 0, .ref mwidth, .ref mmany, .ref mcells, .ref mmoved, .ref mtape, .int 0, .int 0, .int 0, .int 0, .int 0, .long 0, .int 0, .int 0, .int 0, .int (-1), .ref mlines, .ref mhas, .ref mtold, .ref mlaw, .ref msuit, .ref mapart, .ref mact, .ref misKept, .ref mseen, .ref mhung, .int 0, .ref mgoal, .ref mleaps, .ref mqueue, .ref mrow, .int 0, .ref mwanted, .ref mfirst, .ref moften, .int 0, .int 0, .int 0, .int 0, .int 0, .int 0, .ref mlots, .ref mthen, .long 0])), (mhas, .inl (cyI, 20, .inl (fun _ => 0)))]) [0, 1] rfl
  have hKc := hK.sub (tys' := [(cyI, .int), (cyB, .byte), (cyJ, .long), (cyZ, .boolean), (cyH, .object RX2), (cyN, .array .long)]) [0, 1, 2, 3, 4, 5] rfl
  refine vp_callSi (va_Run.run (va_runV (As := []) (rest := [.long 0, .long p0]) ⟨hx, hb, hml, hown, hts⟩ (m_places l dC dI cyI cyB cyJ cyZ cyH cyN m0 mwidth mmany mcells mmoved mtape mlines mhas mtold mlaw msuit mapart mact misKept mseen mhung mgoal mleaps mqueue mrow mwanted mfirst moften mlots mthen) (cwV 0 hts (gdV wd_7_86 wd_7_88 wd_s4_14 wd_1_11 wd_7_89) rfl rfl rfl (by decide +kernel) ⟨Nat.le_of_ble_eq_true rfl, Nat.le_of_ble_eq_true rfl⟩) ⟨fun a U g mk q => by obtain ⟨q0, qP, qK⟩ := q; exact ⟨q0, qP, va_K.moved (u := U) (U := U.calling g mk a) (Vm.Alike.refl U.vm) qK⟩, va_recv hKc hPc (ci := 11) (q0 := 0) rfl rfl, fun U hU hW => ⟨rfl, by rw [hU]; exact hPc, va_K.moved hW.alike hKc⟩⟩ rfl rfl hl.1 rfl (lv_room (Nat.le_of_ble_eq_true rfl)) dX12_isPlace_3 ⟨Nat.le_of_ble_eq_true rfl, Nat.le_of_ble_eq_true rfl⟩)) (fun r_1 hw => ?_)
  subst hw
  refine lv_i2l (v := 0) hx hb dX12_isPlace_6 (by decide) ?_
  refine lv_lconst (v := 1) hx hb dX12_isPlace_7 (by decide) ?_
  refine lv_lsub hx hb dX12_isPlace_8 ?_
  refine cv_topl (b := (-1)) (by decide) ?_
  refine vp_callSi (va_Run.run (va_runS (As := [.long p0, .long 0, .long (-1)]) (rest := []) ⟨hx, hb, hml, hown, hts⟩ (m_in l dC dI cyI cyB cyJ cyZ cyH cyN p0 0 (-1)) (va_cwS 3 hts (gdS wd_6_178 wd_6_179 wd_1_11 wd_6_180) rfl rfl rfl (by decide +kernel) ⟨Nat.le_of_ble_eq_true rfl, Nat.le_of_ble_eq_true rfl⟩) ⟨fun a U g mk q => q, fun U hU hW => ⟨rfl, trivial⟩⟩ rfl rfl hl.1 rfl (lv_room (Nat.le_of_ble_eq_true rfl)) dX12_isPlace_9 ⟨Nat.le_of_ble_eq_true rfl, Nat.le_of_ble_eq_true rfl⟩)) (fun r_2 hw => ?_)
  by_cases c_3 : ((0 : Int64).toInt ≤ p0.toInt ∧ p0.toInt ≤ ((-1) : Int64).toInt)
  · rw [if_pos c_3] at hw; subst hw; have c_3 : (0 ≤ p0.toInt ∧ p0.toInt ≤ (-1)) := c_3
    exfalso; omega
  · rw [if_neg c_3] at hw; subst hw; have c_3 : ¬ (0 ≤ p0.toInt ∧ p0.toInt ≤ (-1)) := c_3
    exact W.zret (v := 0) (ty := .boolean) hx hb hr rfl (fun t ht hW => ⟨0, rfl, rfl, ht⟩) (fun q h => by cases h) dX12_isPlace_12

/- X12_isLots -/
set_option maxHeartbeats 4000000 in
set_option maxRecDepth 100000 in
theorem m_isLots (l : Launch) (dC : Nat → ClassId) (dI : Nat → Nat → Nat) (cyI cyB cyJ cyZ cyH cyN : ClassId) (m0 mwidth mmany mcells mmoved mtape mlines mhas mtold mlaw msuit mapart mact misKept mseen mhung mgoal mleaps mqueue mrow mwanted mfirst moften mlots mthen : Nat) (p0 : Int32) : Met l yX12_isLots (wk yX12_isLots cX12_isLots 2 (some .boolean)) ({ frames := 2, cells := 0, slots := 0, locals := 80 }) (va_Pc [.ref m0, .int p0] (fun U => va_P (dC, dI) vwCl [(m0, .inr (11, [.int 0, .ref mwidth, .ref mmany, .ref mcells, .ref mmoved, .ref mtape, .int 0, .int 0, .int 0, .int 0, .int 0, .long 0, .int 0, .int 0, .int 0, .int (-1), .ref mlines, .ref mhas, .ref mtold, .ref mlaw, .ref msuit, .ref mapart, .ref mact, .ref misKept, .ref mseen, .ref mhung, .int 0, .ref mgoal, .ref mleaps, .ref mqueue, .ref mrow, .int 0, .ref mwanted, .ref mfirst, .ref moften, .int 0, .int 0, .int 0, .int 0, .int 0, .int 0, .ref mlots, .ref mthen, .long 0])), (mlines, .inl (cyI, 5, .inl (fun _ => 0)))] U.heap ∧ va_K (dC, dI) vwCl [(cyI, .int), (cyB, .byte), (cyJ, .long), (cyZ, .boolean), (cyH, .object RX2), (cyN, .array .long)] U)) (vp_Si (fun r : Int32 => r = 0)) 0 0 (fun _ => False) := by
  refine Met.ofW (cc := cX12_isLots) (maxL := 2) (ret := (some .boolean)) (by decide) rfl ?_
  intro p e s m args below meth c s₁ B hml hv
  obtain ⟨rfl, hP, hK⟩ := hv
  have hx := B.exec
  have hb := B.bytes
  have hr := B.returns
  have hts : ∀ w ∈ uU, w.before ([.ref m0, .int p0] : List Value).toArray s = true := fun w h => atoms_spec (ws := wk yX12_isLots cX12_isLots 2 (some .boolean)) B.pre w (List.mem_cons_of_mem _ h)
  have hown : s.vm.findClass RX12 = some m.cls := findClass_of_methodNamed B.named
  have hlocks := B.notSynchronized
  have hl := lv_entry ([.ref m0, .int p0]) (n := 2) (Nat.le_of_ble_eq_true rfl)
  rw [lg_entry_eq]
  generalize (lg_sl ([.ref m0, .int p0]) ++ List.replicate (2 - (lg_sl ([.ref m0, .int p0])).length) Slot.unset).toArray = ls at hl ⊢
  have hl : lv_has ls 2 [(0, .ref m0), (1, .int p0)] := hl
  refine lv_aload_n hx hb dX12_isLots_0 rfl (lv_at hl 0 rfl) ?_
  have hPc := hP.sub (ws' := [(m0, .inr (11, [.int 0, .ref mwidth, .ref mmany, .ref mcells, .ref mmoved, .ref mtape, .int 0, .int 0, .int 0, .int 0, .int 0, .long 0, .int 0, .int 0, .int 0, .int (-1), .ref mlines, .ref mhas, .ref mtold, .ref mlaw, .ref msuit, .ref mapart, .ref mact, .ref misKept, .ref mseen, .ref mhung, .int 0, .ref mgoal, .ref mleaps, .ref mqueue, .ref mrow, .int 0, .ref mwanted, .ref mfirst, .ref moften, .int 0, .int 0, .int 0, .int 0, .int 0, .int 0, .ref mlots, .ref mthen, .long 0])), (mlines, .inl (cyI, 5, .inl (fun _ => 0)))]) [0, 1] rfl
  have hKc := hK.sub (tys' := [(cyI, .int), (cyB, .byte), (cyJ, .long), (cyZ, .boolean), (cyH, .object RX2), (cyN, .array .long)]) [0, 1, 2, 3, 4, 5] rfl
  refine vp_callSi (va_Run.run (va_runV (As := []) (rest := []) ⟨hx, hb, hml, hown, hts⟩ (m_isHall l dC dI cyI cyB cyJ cyZ cyH cyN m0 mwidth mmany mcells mmoved mtape mlines mhas mtold mlaw msuit mapart mact misKept mseen mhung mgoal mleaps mqueue mrow mwanted mfirst moften mlots mthen) (cwV 0 hts (gdV wd_7_140 wd_7_142 wd_s5_4 wd_1_11 wd_7_143) rfl rfl rfl (by decide +kernel) ⟨Nat.le_of_ble_eq_true rfl, Nat.le_of_ble_eq_true rfl⟩) ⟨fun a U g mk q => by obtain ⟨q0, qP, qK⟩ := q; exact ⟨q0, qP, va_K.moved (u := U) (U := U.calling g mk a) (Vm.Alike.refl U.vm) qK⟩, va_recv hKc hPc (ci := 11) (q0 := 0) rfl rfl, fun U hU hW => ⟨rfl, by rw [hU]; exact hPc, va_K.moved hW.alike hKc⟩⟩ rfl rfl hl.1 rfl (lv_room (Nat.le_of_ble_eq_true rfl)) dX12_isLots_1 ⟨Nat.le_of_ble_eq_true rfl, Nat.le_of_ble_eq_true rfl⟩)) (fun r_1 hw => ?_)
  subst hw
  refine lv_if_eq (tgt := 23) hx hb dX12_isLots_4 (by decide) (fun _ => ?_) (fun c_2 => absurd c_2 (by decide))
  refine lv_iconst (v := 0) hx hb dX12_isLots_23 (by decide) ?_
  exact W.zret (v := 0) (ty := .boolean) hx hb hr rfl (fun t ht hW => ⟨0, rfl, rfl, ht⟩) (fun q h => by cases h) dX12_isLots_24

/- X12_isDraw -/
set_option maxHeartbeats 4000000 in
set_option maxRecDepth 100000 in
theorem m_isDraw (l : Launch) (dC : Nat → ClassId) (dI : Nat → Nat → Nat) (cyI cyB cyJ cyZ cyH cyN : ClassId) (m0 mwidth mmany mcells mmoved mtape mlines mhas mtold mlaw msuit mapart mact misKept mseen mhung mgoal mleaps mqueue mrow mwanted mfirst moften mlots mthen : Nat) (p0 p1 p2 : Int32) : Met l yX12_isDraw (wk yX12_isDraw cX12_isDraw 4 (some .boolean)) ({ frames := 3, cells := 0, slots := 0, locals := 107 }) (va_Pc [.ref m0, .int p0, .int p1, .int p2] (fun U => va_P (dC, dI) vwCl [(m0, .inr (11, [.int 0, .ref mwidth, .ref mmany, .ref mcells, .ref mmoved, .ref mtape, .int 0, .int 0, .int 0, .int 0, .int 0, .long 0, .int 0, .int 0, .int 0, .int (-1), .ref mlines, .ref mhas, .ref mtold, .ref mlaw, .ref msuit, .ref mapart, .ref mact, .ref misKept, .ref mseen, .ref mhung, .int 0, .ref mgoal, .ref mleaps, .ref mqueue, .ref mrow, .int 0, .ref mwanted, .ref mfirst, .ref moften, .int 0, .int 0, .int 0, .int 0, .int 0, .int 0, .ref mlots, .ref mthen, .long 0])), (mhas, .inl (cyI, 20, .inl (fun _ => 0)))] U.heap ∧ va_K (dC, dI) vwCl [(cyI, .int), (cyB, .byte), (cyJ, .long), (cyZ, .boolean), (cyH, .object RX2), (cyN, .array .long)] U)) (vp_Si (fun r : Int32 => r = 0)) 0 0 (fun _ => False) := by
  refine Met.ofW (cc := cX12_isDraw) (maxL := 4) (ret := (some .boolean)) (by decide) rfl ?_
  intro p e s m args below meth c s₁ B hml hv
  obtain ⟨rfl, hP, hK⟩ := hv
  have hx := B.exec
  have hb := B.bytes
  have hr := B.returns
  have hts : ∀ w ∈ uU, w.before ([.ref m0, .int p0, .int p1, .int p2] : List Value).toArray s = true := fun w h => atoms_spec (ws := wk yX12_isDraw cX12_isDraw 4 (some .boolean)) B.pre w (List.mem_cons_of_mem _ h)
  have hown : s.vm.findClass RX12 = some m.cls := findClass_of_methodNamed B.named
  have hlocks := B.notSynchronized
  have hl := lv_entry ([.ref m0, .int p0, .int p1, .int p2]) (n := 4) (Nat.le_of_ble_eq_true rfl)
  rw [lg_entry_eq]
  generalize (lg_sl ([.ref m0, .int p0, .int p1, .int p2]) ++ List.replicate (4 - (lg_sl ([.ref m0, .int p0, .int p1, .int p2])).length) Slot.unset).toArray = ls at hl ⊢
  have hl : lv_has ls 4 [(0, .ref m0), (1, .int p0), (2, .int p1), (3, .int p2)] := hl
  refine lv_iload_n hx hb dX12_isDraw_0 rfl (lv_at hl 1 rfl) ?_
  obtain ⟨y_1, ey_1⟩ : ∃ z : Int64, z = p0.toInt64 := ⟨_, rfl⟩
  have fy_1 : y_1.toInt = p0.toInt := by rw [ey_1]; exact Int32.toInt_toInt64 _
  refine lv_i2l (v := y_1) hx hb dX12_isDraw_1 ey_1.symm ?_
  refine lv_lconst (v := 0) hx hb dX12_isDraw_2 (by decide) ?_
  refine lv_ldc2 (v := 2000000000) hx hb hown (hts _ wd_8_216) dX12_isDraw_3 ?_
  refine vp_callSi (va_Run.run (va_runS (As := [.long y_1, .long 0, .long 2000000000]) (rest := []) ⟨hx, hb, hml, hown, hts⟩ (m_in l dC dI cyI cyB cyJ cyZ cyH cyN y_1 0 2000000000) (va_cwS 3 hts (gdS wd_6_178 wd_6_179 wd_1_11 wd_6_180) rfl rfl rfl (by decide +kernel) ⟨Nat.le_of_ble_eq_true rfl, Nat.le_of_ble_eq_true rfl⟩) ⟨fun a U g mk q => q, fun U hU hW => ⟨rfl, trivial⟩⟩ rfl rfl hl.1 rfl (lv_room (Nat.le_of_ble_eq_true rfl)) dX12_isDraw_6 ⟨Nat.le_of_ble_eq_true rfl, Nat.le_of_ble_eq_true rfl⟩)) (fun r_2 hw => ?_)
  by_cases c_3 : ((0 : Int64).toInt ≤ y_1.toInt ∧ y_1.toInt ≤ (2000000000 : Int64).toInt)
  · rw [if_pos c_3] at hw; subst hw; have c_3 : (0 ≤ y_1.toInt ∧ y_1.toInt ≤ 2000000000) := c_3
    refine lv_if_eq (tgt := 37) hx hb dX12_isDraw_9 (by decide) (fun c_4 => absurd c_4 (by decide)) (fun _ => ?_)
    refine lv_iload_n hx hb dX12_isDraw_12 rfl (lv_at hl 2 rfl) ?_
    obtain ⟨y_5, ey_5⟩ : ∃ z : Int64, z = p1.toInt64 := ⟨_, rfl⟩
    have fy_5 : y_5.toInt = p1.toInt := by rw [ey_5]; exact Int32.toInt_toInt64 _
    refine lv_i2l (v := y_5) hx hb dX12_isDraw_13 ey_5.symm ?_
    refine lv_lconst (v := 0) hx hb dX12_isDraw_14 (by decide) ?_
    refine lv_ldc2 (v := 60) hx hb hown (hts _ wd_8_217) dX12_isDraw_15 ?_
    refine vp_callSi (va_Run.run (va_runS (As := [.long y_5, .long 0, .long 60]) (rest := []) ⟨hx, hb, hml, hown, hts⟩ (m_in l dC dI cyI cyB cyJ cyZ cyH cyN y_5 0 60) (va_cwS 3 hts (gdS wd_6_178 wd_6_179 wd_1_11 wd_6_180) rfl rfl rfl (by decide +kernel) ⟨Nat.le_of_ble_eq_true rfl, Nat.le_of_ble_eq_true rfl⟩) ⟨fun a U g mk q => q, fun U hU hW => ⟨rfl, trivial⟩⟩ rfl rfl hl.1 rfl (lv_room (Nat.le_of_ble_eq_true rfl)) dX12_isDraw_18 ⟨Nat.le_of_ble_eq_true rfl, Nat.le_of_ble_eq_true rfl⟩)) (fun r_6 hw => ?_)
    by_cases c_7 : ((0 : Int64).toInt ≤ y_5.toInt ∧ y_5.toInt ≤ (60 : Int64).toInt)
    · rw [if_pos c_7] at hw; subst hw; have c_7 : (0 ≤ y_5.toInt ∧ y_5.toInt ≤ 60) := c_7
      refine lv_if_eq (tgt := 37) hx hb dX12_isDraw_21 (by decide) (fun c_8 => absurd c_8 (by decide)) (fun _ => ?_)
      refine lv_aload_n hx hb dX12_isDraw_24 rfl (lv_at hl 0 rfl) ?_
      refine lv_iload_n hx hb dX12_isDraw_25 rfl (lv_at hl 3 rfl) ?_
      obtain ⟨y_9, ey_9⟩ : ∃ z : Int64, z = p2.toInt64 := ⟨_, rfl⟩
      have fy_9 : y_9.toInt = p2.toInt := by rw [ey_9]; exact Int32.toInt_toInt64 _
      refine lv_i2l (v := y_9) hx hb dX12_isDraw_26 ey_9.symm ?_
      have hPc := hP.sub (ws' := [(m0, .inr (11, [.int 0, .ref mwidth, .ref mmany, .ref mcells, .ref mmoved, .ref mtape, .int 0, .int 0, .int 0, .int 0, .int 0, .long 0, .int 0, .int 0, .int 0, .int (-1), .ref mlines, .ref mhas, .ref mtold, .ref mlaw, .ref msuit, .ref mapart, .ref mact, .ref misKept, .ref mseen, .ref mhung, .int 0, .ref mgoal, .ref mleaps, .ref mqueue, .ref mrow, .int 0, .ref mwanted, .ref mfirst, .ref moften, .int 0, .int 0, .int 0, .int 0, .int 0, .int 0, .ref mlots, .ref mthen, .long 0])), (mhas, .inl (cyI, 20, .inl (fun _ => 0)))]) [0, 1] rfl
      have hKc := hK.sub (tys' := [(cyI, .int), (cyB, .byte), (cyJ, .long), (cyZ, .boolean), (cyH, .object RX2), (cyN, .array .long)]) [0, 1, 2, 3, 4, 5] rfl
      refine vp_callSi (va_Run.run (va_runV (As := [.long y_9]) (rest := []) ⟨hx, hb, hml, hown, hts⟩ (m_isPlace l dC dI cyI cyB cyJ cyZ cyH cyN m0 mwidth mmany mcells mmoved mtape mlines mhas mtold mlaw msuit mapart mact misKept mseen mhung mgoal mleaps mqueue mrow mwanted mfirst moften mlots mthen y_9) (cwV 1 hts (gdV wd_7_82 wd_7_84 wd_s4_13 wd_1_11 wd_7_85) rfl rfl rfl (by decide +kernel) ⟨Nat.le_of_ble_eq_true rfl, Nat.le_of_ble_eq_true rfl⟩) ⟨fun a U g mk q => by obtain ⟨q0, qP, qK⟩ := q; exact ⟨q0, qP, va_K.moved (u := U) (U := U.calling g mk a) (Vm.Alike.refl U.vm) qK⟩, va_recv hKc hPc (ci := 11) (q0 := 0) rfl rfl, fun U hU hW => ⟨rfl, by rw [hU]; exact hPc, va_K.moved hW.alike hKc⟩⟩ rfl rfl hl.1 rfl (lv_room (Nat.le_of_ble_eq_true rfl)) dX12_isDraw_27 ⟨Nat.le_of_ble_eq_true rfl, Nat.le_of_ble_eq_true rfl⟩)) (fun r_10 hw => ?_)
      subst hw
      refine lv_if_eq (tgt := 37) hx hb dX12_isDraw_30 (by decide) (fun _ => ?_) (fun c_11 => absurd c_11 (by decide))
      refine lv_iconst (v := 0) hx hb dX12_isDraw_37 (by decide) ?_
      exact W.zret (v := 0) (ty := .boolean) hx hb hr rfl (fun t ht hW => ⟨0, rfl, rfl, ht⟩) (fun q h => by cases h) dX12_isDraw_38
    · rw [if_neg c_7] at hw; subst hw; have c_7 : ¬ (0 ≤ y_5.toInt ∧ y_5.toInt ≤ 60) := c_7
      refine lv_if_eq (tgt := 37) hx hb dX12_isDraw_21 (by decide) (fun _ => ?_) (fun c_12 => absurd c_12 (by decide))
      refine lv_iconst (v := 0) hx hb dX12_isDraw_37 (by decide) ?_
      exact W.zret (v := 0) (ty := .boolean) hx hb hr rfl (fun t ht hW => ⟨0, rfl, rfl, ht⟩) (fun q h => by cases h) dX12_isDraw_38
  · rw [if_neg c_3] at hw; subst hw; have c_3 : ¬ (0 ≤ y_1.toInt ∧ y_1.toInt ≤ 2000000000) := c_3
    refine lv_if_eq (tgt := 37) hx hb dX12_isDraw_9 (by decide) (fun _ => ?_) (fun c_13 => absurd c_13 (by decide))
    refine lv_iconst (v := 0) hx hb dX12_isDraw_37 (by decide) ?_
    exact W.zret (v := 0) (ty := .boolean) hx hb hr rfl (fun t ht hW => ⟨0, rfl, rfl, ht⟩) (fun q h => by cases h) dX12_isDraw_38

/- X12_whyNotRow -/
set_option maxHeartbeats 4000000 in
set_option maxRecDepth 100000 in
theorem m_whyNotRow (l : Launch) (dC : Nat → ClassId) (dI : Nat → Nat → Nat) (cyI cyB cyJ cyZ cyH cyN : ClassId) (m0 mwidth mmany mcells mmoved mtape mlines mhas mtold mlaw msuit mapart mact misKept mseen mhung mgoal mleaps mqueue mrow mwanted mfirst moften mlots mthen : Nat) (p0 : Int32) : Met l yX12_whyNotRow (wk yX12_whyNotRow cX12_whyNotRow 4 (some .int)) ({ frames := 3, cells := 0, slots := 0, locals := 105 }) (va_Pc [.ref m0, .int p0] (fun U => va_P (dC, dI) vwCl [(m0, .inr (11, [.int 0, .ref mwidth, .ref mmany, .ref mcells, .ref mmoved, .ref mtape, .int 0, .int 0, .int 0, .int 0, .int 0, .long 0, .int 0, .int 0, .int 0, .int (-1), .ref mlines, .ref mhas, .ref mtold, .ref mlaw, .ref msuit, .ref mapart, .ref mact, .ref misKept, .ref mseen, .ref mhung, .int 0, .ref mgoal, .ref mleaps, .ref mqueue, .ref mrow, .int 0, .ref mwanted, .ref mfirst, .ref moften, .int 0, .int 0, .int 0, .int 0, .int 0, .int 0, .ref mlots, .ref mthen, .long 0])), (mlines, .inl (cyI, 5, .inl (fun _ => 0)))] U.heap ∧ va_K (dC, dI) vwCl [(cyI, .int), (cyB, .byte), (cyJ, .long), (cyZ, .boolean), (cyH, .object RX2), (cyN, .array .long)] U)) (vp_Si (fun r : Int32 => r = (-2))) 0 0 (fun _ => False) := by
  refine Met.ofW (cc := cX12_whyNotRow) (maxL := 4) (ret := (some .int)) (by decide) rfl ?_
  intro p e s m args below meth c s₁ B hml hv
  obtain ⟨rfl, hP, hK⟩ := hv
  have hx := B.exec
  have hb := B.bytes
  have hr := B.returns
  have hts : ∀ w ∈ uU, w.before ([.ref m0, .int p0] : List Value).toArray s = true := fun w h => atoms_spec (ws := wk yX12_whyNotRow cX12_whyNotRow 4 (some .int)) B.pre w (List.mem_cons_of_mem _ h)
  have hown : s.vm.findClass RX12 = some m.cls := findClass_of_methodNamed B.named
  have hlocks := B.notSynchronized
  have hl := lv_entry ([.ref m0, .int p0]) (n := 4) (Nat.le_of_ble_eq_true rfl)
  rw [lg_entry_eq]
  generalize (lg_sl ([.ref m0, .int p0]) ++ List.replicate (4 - (lg_sl ([.ref m0, .int p0])).length) Slot.unset).toArray = ls at hl ⊢
  have hl : lv_has ls 4 [(0, .ref m0), (1, .int p0)] := hl
  refine lv_iload_n hx hb dX12_whyNotRow_0 rfl (lv_at hl 1 rfl) ?_
  refine vp_callSi (va_Run.run (va_runS (As := [.int p0]) (rest := []) ⟨hx, hb, hml, hown, hts⟩ (m_isSlot l dC dI cyI cyB cyJ cyZ cyH cyN p0) (va_cwS 1 hts (gdS wd_6_174 wd_6_175 wd_1_11 wd_6_176) rfl rfl rfl (by decide +kernel) ⟨Nat.le_of_ble_eq_true rfl, Nat.le_of_ble_eq_true rfl⟩) ⟨fun a U g mk q => q, fun U hU hW => ⟨rfl, trivial⟩⟩ rfl rfl hl.1 rfl (lv_room (Nat.le_of_ble_eq_true rfl)) dX12_whyNotRow_1 ⟨Nat.le_of_ble_eq_true rfl, Nat.le_of_ble_eq_true rfl⟩)) (fun r_1 hw => ?_)
  by_cases c_2 : (0 ≤ p0.toInt ∧ p0.toInt < 4)
  · rw [if_pos c_2] at hw; subst hw; have c_2 : (0 ≤ p0.toInt ∧ p0.toInt < 4) := c_2
    refine lv_if_eq (tgt := 14) hx hb dX12_whyNotRow_4 (by decide) (fun c_3 => absurd c_3 (by decide)) (fun _ => ?_)
    refine lv_aload_n hx hb dX12_whyNotRow_7 rfl (lv_at hl 0 rfl) ?_
    have hPc := hP.sub (ws' := [(m0, .inr (11, [.int 0, .ref mwidth, .ref mmany, .ref mcells, .ref mmoved, .ref mtape, .int 0, .int 0, .int 0, .int 0, .int 0, .long 0, .int 0, .int 0, .int 0, .int (-1), .ref mlines, .ref mhas, .ref mtold, .ref mlaw, .ref msuit, .ref mapart, .ref mact, .ref misKept, .ref mseen, .ref mhung, .int 0, .ref mgoal, .ref mleaps, .ref mqueue, .ref mrow, .int 0, .ref mwanted, .ref mfirst, .ref moften, .int 0, .int 0, .int 0, .int 0, .int 0, .int 0, .ref mlots, .ref mthen, .long 0])), (mlines, .inl (cyI, 5, .inl (fun _ => 0)))]) [0, 1] rfl
    have hKc := hK.sub (tys' := [(cyI, .int), (cyB, .byte), (cyJ, .long), (cyZ, .boolean), (cyH, .object RX2), (cyN, .array .long)]) [0, 1, 2, 3, 4, 5] rfl
    refine vp_callSi (va_Run.run (va_runV (As := []) (rest := []) ⟨hx, hb, hml, hown, hts⟩ (m_isHall l dC dI cyI cyB cyJ cyZ cyH cyN m0 mwidth mmany mcells mmoved mtape mlines mhas mtold mlaw msuit mapart mact misKept mseen mhung mgoal mleaps mqueue mrow mwanted mfirst moften mlots mthen) (cwV 0 hts (gdV wd_7_140 wd_7_142 wd_s5_4 wd_1_11 wd_7_143) rfl rfl rfl (by decide +kernel) ⟨Nat.le_of_ble_eq_true rfl, Nat.le_of_ble_eq_true rfl⟩) ⟨fun a U g mk q => by obtain ⟨q0, qP, qK⟩ := q; exact ⟨q0, qP, va_K.moved (u := U) (U := U.calling g mk a) (Vm.Alike.refl U.vm) qK⟩, va_recv hKc hPc (ci := 11) (q0 := 0) rfl rfl, fun U hU hW => ⟨rfl, by rw [hU]; exact hPc, va_K.moved hW.alike hKc⟩⟩ rfl rfl hl.1 rfl (lv_room (Nat.le_of_ble_eq_true rfl)) dX12_whyNotRow_8 ⟨Nat.le_of_ble_eq_true rfl, Nat.le_of_ble_eq_true rfl⟩)) (fun r_4 hw => ?_)
    subst hw
    refine lv_if_ne (tgt := 17) hx hb dX12_whyNotRow_11 (by decide) (fun c_5 => absurd c_5 (by decide)) (fun _ => ?_)
    refine lv_bipush (v := (-2)) hx hb dX12_whyNotRow_14 (by decide) ?_
    exact W.iret (v := (-2)) hx hb hr (fun t ht hW => ⟨(-2), rfl, rfl, ht⟩) (fun q h => by cases h) dX12_whyNotRow_16
  · rw [if_neg c_2] at hw; subst hw; have c_2 : ¬ (0 ≤ p0.toInt ∧ p0.toInt < 4) := c_2
    refine lv_if_eq (tgt := 14) hx hb dX12_whyNotRow_4 (by decide) (fun _ => ?_) (fun c_6 => absurd c_6 (by decide))
    refine lv_bipush (v := (-2)) hx hb dX12_whyNotRow_14 (by decide) ?_
    exact W.iret (v := (-2)) hx hb hr (fun t ht hW => ⟨(-2), rfl, rfl, ht⟩) (fun q h => by cases h) dX12_whyNotRow_16

/- X12_whyNotFits -/
set_option maxHeartbeats 4000000 in
set_option maxRecDepth 100000 in
theorem m_whyNotFits (l : Launch) (dC : Nat → ClassId) (dI : Nat → Nat → Nat) (cyI cyB cyJ cyZ cyH cyN : ClassId) (m0 mwidth mmany mcells mmoved mtape mlines mhas mtold mlaw msuit mapart mact misKept mseen mhung mgoal mleaps mqueue mrow mwanted mfirst moften mlots mthen : Nat) (p0 : Int32) : Met l yX12_whyNotFits (wk yX12_whyNotFits cX12_whyNotFits 4 (some .int)) ({ frames := 3, cells := 0, slots := 0, locals := 105 }) (va_Pc [.ref m0, .int p0] (fun U => va_P (dC, dI) vwCl [(m0, .inr (11, [.int 0, .ref mwidth, .ref mmany, .ref mcells, .ref mmoved, .ref mtape, .int 0, .int 0, .int 0, .int 0, .int 0, .long 0, .int 0, .int 0, .int 0, .int (-1), .ref mlines, .ref mhas, .ref mtold, .ref mlaw, .ref msuit, .ref mapart, .ref mact, .ref misKept, .ref mseen, .ref mhung, .int 0, .ref mgoal, .ref mleaps, .ref mqueue, .ref mrow, .int 0, .ref mwanted, .ref mfirst, .ref moften, .int 0, .int 0, .int 0, .int 0, .int 0, .int 0, .ref mlots, .ref mthen, .long 0])), (mlines, .inl (cyI, 5, .inl (fun _ => 0)))] U.heap ∧ va_K (dC, dI) vwCl [(cyI, .int), (cyB, .byte), (cyJ, .long), (cyZ, .boolean), (cyH, .object RX2), (cyN, .array .long)] U)) (vp_Si (fun r : Int32 => r = (-2))) 0 0 (fun _ => False) := by
  refine Met.ofW (cc := cX12_whyNotFits) (maxL := 4) (ret := (some .int)) (by decide) rfl ?_
  intro p e s m args below meth c s₁ B hml hv
  obtain ⟨rfl, hP, hK⟩ := hv
  have hx := B.exec
  have hb := B.bytes
  have hr := B.returns
  have hts : ∀ w ∈ uU, w.before ([.ref m0, .int p0] : List Value).toArray s = true := fun w h => atoms_spec (ws := wk yX12_whyNotFits cX12_whyNotFits 4 (some .int)) B.pre w (List.mem_cons_of_mem _ h)
  have hown : s.vm.findClass RX12 = some m.cls := findClass_of_methodNamed B.named
  have hlocks := B.notSynchronized
  have hl := lv_entry ([.ref m0, .int p0]) (n := 4) (Nat.le_of_ble_eq_true rfl)
  rw [lg_entry_eq]
  generalize (lg_sl ([.ref m0, .int p0]) ++ List.replicate (4 - (lg_sl ([.ref m0, .int p0])).length) Slot.unset).toArray = ls at hl ⊢
  have hl : lv_has ls 4 [(0, .ref m0), (1, .int p0)] := hl
  refine lv_iload_n hx hb dX12_whyNotFits_0 rfl (lv_at hl 1 rfl) ?_
  refine vp_callSi (va_Run.run (va_runS (As := [.int p0]) (rest := []) ⟨hx, hb, hml, hown, hts⟩ (m_isSlot l dC dI cyI cyB cyJ cyZ cyH cyN p0) (va_cwS 1 hts (gdS wd_6_174 wd_6_175 wd_1_11 wd_6_176) rfl rfl rfl (by decide +kernel) ⟨Nat.le_of_ble_eq_true rfl, Nat.le_of_ble_eq_true rfl⟩) ⟨fun a U g mk q => q, fun U hU hW => ⟨rfl, trivial⟩⟩ rfl rfl hl.1 rfl (lv_room (Nat.le_of_ble_eq_true rfl)) dX12_whyNotFits_1 ⟨Nat.le_of_ble_eq_true rfl, Nat.le_of_ble_eq_true rfl⟩)) (fun r_1 hw => ?_)
  by_cases c_2 : (0 ≤ p0.toInt ∧ p0.toInt < 4)
  · rw [if_pos c_2] at hw; subst hw; have c_2 : (0 ≤ p0.toInt ∧ p0.toInt < 4) := c_2
    refine lv_if_eq (tgt := 14) hx hb dX12_whyNotFits_4 (by decide) (fun c_3 => absurd c_3 (by decide)) (fun _ => ?_)
    refine lv_aload_n hx hb dX12_whyNotFits_7 rfl (lv_at hl 0 rfl) ?_
    have hPc := hP.sub (ws' := [(m0, .inr (11, [.int 0, .ref mwidth, .ref mmany, .ref mcells, .ref mmoved, .ref mtape, .int 0, .int 0, .int 0, .int 0, .int 0, .long 0, .int 0, .int 0, .int 0, .int (-1), .ref mlines, .ref mhas, .ref mtold, .ref mlaw, .ref msuit, .ref mapart, .ref mact, .ref misKept, .ref mseen, .ref mhung, .int 0, .ref mgoal, .ref mleaps, .ref mqueue, .ref mrow, .int 0, .ref mwanted, .ref mfirst, .ref moften, .int 0, .int 0, .int 0, .int 0, .int 0, .int 0, .ref mlots, .ref mthen, .long 0])), (mlines, .inl (cyI, 5, .inl (fun _ => 0)))]) [0, 1] rfl
    have hKc := hK.sub (tys' := [(cyI, .int), (cyB, .byte), (cyJ, .long), (cyZ, .boolean), (cyH, .object RX2), (cyN, .array .long)]) [0, 1, 2, 3, 4, 5] rfl
    refine vp_callSi (va_Run.run (va_runV (As := []) (rest := []) ⟨hx, hb, hml, hown, hts⟩ (m_isHall l dC dI cyI cyB cyJ cyZ cyH cyN m0 mwidth mmany mcells mmoved mtape mlines mhas mtold mlaw msuit mapart mact misKept mseen mhung mgoal mleaps mqueue mrow mwanted mfirst moften mlots mthen) (cwV 0 hts (gdV wd_7_140 wd_7_142 wd_s5_4 wd_1_11 wd_7_143) rfl rfl rfl (by decide +kernel) ⟨Nat.le_of_ble_eq_true rfl, Nat.le_of_ble_eq_true rfl⟩) ⟨fun a U g mk q => by obtain ⟨q0, qP, qK⟩ := q; exact ⟨q0, qP, va_K.moved (u := U) (U := U.calling g mk a) (Vm.Alike.refl U.vm) qK⟩, va_recv hKc hPc (ci := 11) (q0 := 0) rfl rfl, fun U hU hW => ⟨rfl, by rw [hU]; exact hPc, va_K.moved hW.alike hKc⟩⟩ rfl rfl hl.1 rfl (lv_room (Nat.le_of_ble_eq_true rfl)) dX12_whyNotFits_8 ⟨Nat.le_of_ble_eq_true rfl, Nat.le_of_ble_eq_true rfl⟩)) (fun r_4 hw => ?_)
    subst hw
    refine lv_if_ne (tgt := 17) hx hb dX12_whyNotFits_11 (by decide) (fun c_5 => absurd c_5 (by decide)) (fun _ => ?_)
    refine lv_bipush (v := (-2)) hx hb dX12_whyNotFits_14 (by decide) ?_
    exact W.iret (v := (-2)) hx hb hr (fun t ht hW => ⟨(-2), rfl, rfl, ht⟩) (fun q h => by cases h) dX12_whyNotFits_16
  · rw [if_neg c_2] at hw; subst hw; have c_2 : ¬ (0 ≤ p0.toInt ∧ p0.toInt < 4) := c_2
    refine lv_if_eq (tgt := 14) hx hb dX12_whyNotFits_4 (by decide) (fun _ => ?_) (fun c_6 => absurd c_6 (by decide))
    refine lv_bipush (v := (-2)) hx hb dX12_whyNotFits_14 (by decide) ?_
    exact W.iret (v := (-2)) hx hb hr (fun t ht hW => ⟨(-2), rfl, rfl, ht⟩) (fun q h => by cases h) dX12_whyNotFits_16

/- X12_hasRead -/
set_option maxHeartbeats 4000000 in
set_option maxRecDepth 100000 in
theorem m_hasRead (l : Launch) (dC : Nat → ClassId) (dI : Nat → Nat → Nat) (cyI cyB cyJ cyZ cyH cyN : ClassId) (m0 mwidth mmany mcells mmoved mtape mlines mhas mtold mlaw msuit mapart mact misKept mseen mhung mgoal mleaps mqueue mrow mwanted mfirst moften mlots mthen : Nat) : Met l yX12_hasRead (wk yX12_hasRead cX12_hasRead 2 (some .int)) ({ frames := 1, cells := 0, slots := 0, locals := 60 }) (va_Pc [.ref m0, .int 2] (fun U => va_P (dC, dI) vwCl [(m0, .inr (11, [.int 0, .ref mwidth, .ref mmany, .ref mcells, .ref mmoved, .ref mtape, .int 0, .int 0, .int 0, .int 0, .int 0, .long 0, .int 0, .int 0, .int 0, .int (-1), .ref mlines, .ref mhas, .ref mtold, .ref mlaw, .ref msuit, .ref mapart, .ref mact, .ref misKept, .ref mseen, .ref mhung, .int 0, .ref mgoal, .ref mleaps, .ref mqueue, .ref mrow, .int 0, .ref mwanted, .ref mfirst, .ref moften, .int 0, .int 0, .int 0, .int 0, .int 0, .int 0, .ref mlots, .ref mthen, .long 0])), (mhas, .inl (cyI, 20, .inl (fun _ => 0)))] U.heap ∧ va_K (dC, dI) vwCl [(cyI, .int), (cyB, .byte), (cyJ, .long), (cyZ, .boolean), (cyH, .object RX2), (cyN, .array .long)] U)) (vp_Si (fun r : Int32 => r = 0)) 0 0 (fun _ => False) := by
  refine Met.ofW (cc := cX12_hasRead) (maxL := 2) (ret := (some .int)) (by decide) rfl ?_
  intro p e s m args below meth c s₁ B hml hv
  obtain ⟨rfl, hP, hK⟩ := hv
  have hx := B.exec
  have hb := B.bytes
  have hr := B.returns
  have hts : ∀ w ∈ uU, w.before ([.ref m0, .int 2] : List Value).toArray s = true := fun w h => atoms_spec (ws := wk yX12_hasRead cX12_hasRead 2 (some .int)) B.pre w (List.mem_cons_of_mem _ h)
  have hown : s.vm.findClass RX12 = some m.cls := findClass_of_methodNamed B.named
  have hlocks := B.notSynchronized
  have hl := lv_entry ([.ref m0, .int 2]) (n := 2) (Nat.le_of_ble_eq_true rfl)
  rw [lg_entry_eq]
  generalize (lg_sl ([.ref m0, .int 2]) ++ List.replicate (2 - (lg_sl ([.ref m0, .int 2])).length) Slot.unset).toArray = ls at hl ⊢
  have hl : lv_has ls 2 [(0, .ref m0), (1, .int 2)] := hl
  refine lv_aload_n hx hb dX12_hasRead_0 rfl (lv_at hl 0 rfl) ?_
  refine va_get (D := (dC, dI)) (ci := 11) (v := .ref mhas) (C := RX12) (T := TX12) (N := 44) hx hb hts uinX12 hown hK hP 0 rfl rfl 17 (by decide) (hts _ wd_6_54) (fun _ h9 => h9) rfl dX12_hasRead_1 ?_
  refine lv_bipush (v := 16) hx hb dX12_hasRead_4 (by decide) ?_
  refine lv_iload_n hx hb dX12_hasRead_6 rfl (lv_at hl 1 rfl) ?_
  refine lv_iadd hx hb dX12_hasRead_7 ?_
  refine cv_topi (b := 18) (by decide) ?_
  refine va_iald hx hb hK hP 1 0 rfl rfl (vp_in_iff.mpr (by decide)) dX12_hasRead_8 ?_
  refine cv_topi (b := 0) (rfl) ?_
  exact W.iret (v := 0) hx hb hr (fun t ht hW => ⟨0, rfl, rfl, ht⟩) (fun q h => by cases h) dX12_hasRead_9

/- X12_isGood -/
set_option maxHeartbeats 4000000 in
set_option maxRecDepth 100000 in
theorem m_isGood (l : Launch) (dC : Nat → ClassId) (dI : Nat → Nat → Nat) (cyI cyB cyJ cyZ cyH cyN : ClassId) (m0 mwidth mmany mcells mmoved mtape mlines mhas mtold mlaw msuit mapart mact misKept mseen mhung mgoal mleaps mqueue mrow mwanted mfirst moften mlots mthen : Nat) : Met l yX12_isGood (wk yX12_isGood cX12_isGood 1 (some .boolean)) ({ frames := 1, cells := 0, slots := 0, locals := 60 }) (va_Pc [.ref m0] (fun U => va_P (dC, dI) vwCl [(m0, .inr (11, [.int 0, .ref mwidth, .ref mmany, .ref mcells, .ref mmoved, .ref mtape, .int 0, .int 0, .int 0, .int 0, .int 0, .long 0, .int 0, .int (-1), .int 0, .int (-1), .ref mlines, .ref mhas, .ref mtold, .ref mlaw, .ref msuit, .ref mapart, .ref mact, .ref misKept, .ref mseen, .ref mhung, .int 0, .ref mgoal, .ref mleaps, .ref mqueue, .ref mrow, .int 0, .ref mwanted, .ref mfirst, .ref moften, .int 0, .int 0, .int 0, .int 0, .int 0, .int 0, .ref mlots, .ref mthen, .long 0]))] U.heap ∧ va_K (dC, dI) vwCl [(cyI, .int), (cyB, .byte), (cyJ, .long), (cyZ, .boolean), (cyH, .object RX2), (cyN, .array .long)] U)) (vp_Si (fun r : Int32 => r = 1)) 0 0 (fun _ => False) := by
  refine Met.ofW (cc := cX12_isGood) (maxL := 1) (ret := (some .boolean)) (by decide) rfl ?_
  intro p e s m args below meth c s₁ B hml hv
  obtain ⟨rfl, hP, hK⟩ := hv
  have hx := B.exec
  have hb := B.bytes
  have hr := B.returns
  have hts : ∀ w ∈ uU, w.before ([.ref m0] : List Value).toArray s = true := fun w h => atoms_spec (ws := wk yX12_isGood cX12_isGood 1 (some .boolean)) B.pre w (List.mem_cons_of_mem _ h)
  have hown : s.vm.findClass RX12 = some m.cls := findClass_of_methodNamed B.named
  have hlocks := B.notSynchronized
  have hl := lv_entry ([.ref m0]) (n := 1) (Nat.le_of_ble_eq_true rfl)
  rw [lg_entry_eq]
  generalize (lg_sl ([.ref m0]) ++ List.replicate (1 - (lg_sl ([.ref m0])).length) Slot.unset).toArray = ls at hl ⊢
  have hl : lv_has ls 1 [(0, .ref m0)] := hl
  refine lv_aload_n hx hb dX12_isGood_0 rfl (lv_at hl 0 rfl) ?_
  refine va_get (D := (dC, dI)) (ci := 11) (v := .int 0) (C := RX12) (T := TX12) (N := 44) hx hb hts uinX12 hown hK hP 0 rfl rfl 12 (by decide) (hts _ wd_6_49) (fun _ h9 => h9) rfl dX12_isGood_1 ?_
  refine lv_if_ne (tgt := 11) hx hb dX12_isGood_4 (by decide) (fun c_1 => absurd c_1 (by decide)) (fun _ => ?_)
  refine lv_iconst (v := 1) hx hb dX12_isGood_7 (by decide) ?_
  refine lv_goto (tgt := 12) hx hb dX12_isGood_8 (by decide) ?_
  exact W.zret (v := 1) (ty := .boolean) hx hb hr rfl (fun t ht hW => ⟨1, rfl, rfl, ht⟩) (fun q h => by cases h) dX12_isGood_12

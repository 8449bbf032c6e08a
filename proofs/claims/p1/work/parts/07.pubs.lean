/- X11_readTold -/
set_option maxHeartbeats 4000000 in
set_option maxRecDepth 100000 in
theorem c_readTold (l : Launch) (dC : Nat → ClassId) (dI : Nat → Nat → Nat) (cyI cyB cyJ cyZ cyH cyN : ClassId) (x xTape xHall xDraft xImages xKept xSlots xCourse xSight xParting xSuiting xGame xLots xTold xTried a_first a_now a_lawPlace a_lawOther a_lawEach a_lawFrom a_foes a_suitTable a_acts : Nat) (p0 : Int32) : Met l yX11_readTold (wk yX11_readTold cX11_readTold 2 (some .int)) ({ frames := 2, cells := 0, slots := 0, locals := 80 }) (va_Pc [.ref x, .int p0] (fun U => va_P (dC, dI) vwCl [(x, .inr (10, [.ref xTape, .ref xHall, .ref xDraft, .ref xImages, .ref xKept, .ref xSlots, .ref xCourse, .ref xSight, .ref xParting, .ref xSuiting, .ref xGame, .ref xLots, .ref xTold, .ref xTried, .null])), (xHall, .inr (2, [.int 0, .int 0, .int 0, .int 0, .int 0, .int 0, .ref a_first, .ref a_now, .ref a_lawPlace, .ref a_lawOther, .ref a_lawEach, .ref a_lawFrom, .ref a_foes, .ref a_suitTable, .ref a_acts]))] U.heap ∧ va_K (dC, dI) vwCl [(cyI, .int), (cyB, .byte), (cyJ, .long), (cyZ, .boolean), (cyH, .object RX2), (cyN, .array .long)] U)) (vp_Si (fun r : Int32 => r = (-2))) 0 0 (fun _ => False) := by
  refine Met.ofW (cc := cX11_readTold) (maxL := 2) (ret := (some .int)) (by decide) rfl ?_
  intro p e s m args below meth c s₁ B hml hv
  obtain ⟨rfl, hP, hK⟩ := hv
  have hx := B.exec
  have hb := B.bytes
  have hr := B.returns
  have hts : ∀ w ∈ uU, w.before ([.ref x, .int p0] : List Value).toArray s = true := fun w h => atoms_spec (ws := wk yX11_readTold cX11_readTold 2 (some .int)) B.pre w (List.mem_cons_of_mem _ h)
  have hown : s.vm.findClass RX11 = some m.cls := findClass_of_methodNamed B.named
  have hlocks := B.notSynchronized
  have hl := lv_entry ([.ref x, .int p0]) (n := 2) (Nat.le_of_ble_eq_true rfl)
  rw [lg_entry_eq]
  generalize (lg_sl ([.ref x, .int p0]) ++ List.replicate (2 - (lg_sl ([.ref x, .int p0])).length) Slot.unset).toArray = ls at hl ⊢
  have hl : lv_has ls 2 [(0, .ref x), (1, .int p0)] := hl
  refine lv_iload_n hx hb dX11_readTold_0 rfl (lv_at hl 1 rfl) ?_
  refine vp_callSi (va_Run.run (va_runS (As := [.int p0]) (rest := []) ⟨hx, hb, hml, hown, hts⟩ (c_isSlot l dC dI cyI cyB cyJ cyZ cyH cyN p0) (va_cwS 1 hts (gdS wd_4_33 wd_4_34 wd_1_4 wd_4_35) rfl rfl rfl (by decide +kernel) ⟨Nat.le_of_ble_eq_true rfl, Nat.le_of_ble_eq_true rfl⟩) ⟨fun a U g mk q => q, fun U hU hW => ⟨rfl, trivial⟩⟩ rfl rfl hl.1 rfl (lv_room (Nat.le_of_ble_eq_true rfl)) dX11_readTold_1 ⟨Nat.le_of_ble_eq_true rfl, Nat.le_of_ble_eq_true rfl⟩)) (fun r_1 hw => ?_)
  by_cases c_2 : (0 ≤ p0.toInt ∧ p0.toInt < 4)
  · rw [if_pos c_2] at hw; subst hw; have c_2 : (0 ≤ p0.toInt ∧ p0.toInt < 4) := c_2
    refine lv_if_eq (tgt := 17) hx hb dX11_readTold_4 (by decide) (fun c_3 => absurd c_3 (by decide)) (fun _ => ?_)
    refine lv_aload_n hx hb dX11_readTold_7 rfl (lv_at hl 0 rfl) ?_
    refine va_get (D := (dC, dI)) (ci := 10) (v := .ref xHall) (C := RX11) (T := TX11) (N := 15) hx hb hts uinX11 hown hK hP 0 rfl rfl 1 (by decide) (hts _ wd_2_66) (fun _ h9 => h9) rfl dX11_readTold_8 ?_
    have hPc := hP.sub (ws' := [(xHall, .inr (2, [.int 0, .int 0, .int 0, .int 0, .int 0, .int 0, .ref a_first, .ref a_now, .ref a_lawPlace, .ref a_lawOther, .ref a_lawEach, .ref a_lawFrom, .ref a_foes, .ref a_suitTable, .ref a_acts]))]) [1] rfl
    have hKc := hK.sub (tys' := [(cyI, .int), (cyB, .byte), (cyJ, .long), (cyZ, .boolean), (cyH, .object RX2), (cyN, .array .long)]) [0, 1, 2, 3, 4, 5] rfl
    refine vp_callSi (va_Run.run (va_runV (As := []) (rest := []) ⟨hx, hb, hml, hown, hts⟩ (c_isNone l dC dI cyI cyB cyJ cyZ cyH cyN xHall a_first a_now a_lawPlace a_lawOther a_lawEach a_lawFrom a_foes a_suitTable a_acts) (cwV 0 hts (gdV wd_3_130 wd_3_131 wd_3_132 wd_1_3 wd_3_133) rfl rfl rfl (by decide +kernel) ⟨Nat.le_of_ble_eq_true rfl, Nat.le_of_ble_eq_true rfl⟩) ⟨fun a U g mk q => by obtain ⟨q0, qP, qK⟩ := q; exact ⟨q0, qP, va_K.moved (u := U) (U := U.calling g mk a) (Vm.Alike.refl U.vm) qK⟩, va_recv hKc hPc (ci := 2) (q0 := 0) rfl rfl, fun U hU hW => ⟨rfl, by rw [hU]; exact hPc, va_K.moved hW.alike hKc⟩⟩ rfl rfl hl.1 rfl (lv_room (Nat.le_of_ble_eq_true rfl)) dX11_readTold_11 ⟨Nat.le_of_ble_eq_true rfl, Nat.le_of_ble_eq_true rfl⟩)) (fun r_4 hw => ?_)
    subst hw
    refine lv_if_eq (tgt := 20) hx hb dX11_readTold_14 (by decide) (fun c_5 => absurd c_5 (by decide)) (fun _ => ?_)
    refine lv_bipush (v := (-2)) hx hb dX11_readTold_17 (by decide) ?_
    exact W.iret (v := (-2)) hx hb hr (fun t ht hW => ⟨(-2), rfl, rfl, ht⟩) (fun q h => by cases h) dX11_readTold_19
  · rw [if_neg c_2] at hw; subst hw; have c_2 : ¬ (0 ≤ p0.toInt ∧ p0.toInt < 4) := c_2
    refine lv_if_eq (tgt := 17) hx hb dX11_readTold_4 (by decide) (fun _ => ?_) (fun c_6 => absurd c_6 (by decide))
    refine lv_bipush (v := (-2)) hx hb dX11_readTold_17 (by decide) ?_
    exact W.iret (v := (-2)) hx hb hr (fun t ht hW => ⟨(-2), rfl, rfl, ht⟩) (fun q h => by cases h) dX11_readTold_19

/- X11_readSeen -/
set_option maxHeartbeats 4000000 in
set_option maxRecDepth 100000 in
theorem c_readSeen (l : Launch) (dC : Nat → ClassId) (dI : Nat → Nat → Nat) (cyI cyB cyJ cyZ cyH cyN : ClassId) (x xTape xHall xDraft xImages xKept xSlots xCourse xSight xParting xSuiting xGame xLots xTold xTried a_first a_now a_lawPlace a_lawOther a_lawEach a_lawFrom a_foes a_suitTable a_acts : Nat) (p0 : Int32) : Met l yX11_readSeen (wk yX11_readSeen cX11_readSeen 2 (some .int)) ({ frames := 2, cells := 0, slots := 0, locals := 80 }) (va_Pc [.ref x, .int p0] (fun U => va_P (dC, dI) vwCl [(x, .inr (10, [.ref xTape, .ref xHall, .ref xDraft, .ref xImages, .ref xKept, .ref xSlots, .ref xCourse, .ref xSight, .ref xParting, .ref xSuiting, .ref xGame, .ref xLots, .ref xTold, .ref xTried, .null])), (xHall, .inr (2, [.int 0, .int 0, .int 0, .int 0, .int 0, .int 0, .ref a_first, .ref a_now, .ref a_lawPlace, .ref a_lawOther, .ref a_lawEach, .ref a_lawFrom, .ref a_foes, .ref a_suitTable, .ref a_acts]))] U.heap ∧ va_K (dC, dI) vwCl [(cyI, .int), (cyB, .byte), (cyJ, .long), (cyZ, .boolean), (cyH, .object RX2), (cyN, .array .long)] U)) (vp_Si (fun r : Int32 => r = (-2))) 0 0 (fun _ => False) := by
  refine Met.ofW (cc := cX11_readSeen) (maxL := 2) (ret := (some .int)) (by decide) rfl ?_
  intro p e s m args below meth c s₁ B hml hv
  obtain ⟨rfl, hP, hK⟩ := hv
  have hx := B.exec
  have hb := B.bytes
  have hr := B.returns
  have hts : ∀ w ∈ uU, w.before ([.ref x, .int p0] : List Value).toArray s = true := fun w h => atoms_spec (ws := wk yX11_readSeen cX11_readSeen 2 (some .int)) B.pre w (List.mem_cons_of_mem _ h)
  have hown : s.vm.findClass RX11 = some m.cls := findClass_of_methodNamed B.named
  have hlocks := B.notSynchronized
  have hl := lv_entry ([.ref x, .int p0]) (n := 2) (Nat.le_of_ble_eq_true rfl)
  rw [lg_entry_eq]
  generalize (lg_sl ([.ref x, .int p0]) ++ List.replicate (2 - (lg_sl ([.ref x, .int p0])).length) Slot.unset).toArray = ls at hl ⊢
  have hl : lv_has ls 2 [(0, .ref x), (1, .int p0)] := hl
  refine lv_iload_n hx hb dX11_readSeen_0 rfl (lv_at hl 1 rfl) ?_
  refine vp_callSi (va_Run.run (va_runS (As := [.int p0]) (rest := []) ⟨hx, hb, hml, hown, hts⟩ (c_isSlot l dC dI cyI cyB cyJ cyZ cyH cyN p0) (va_cwS 1 hts (gdS wd_4_33 wd_4_34 wd_1_4 wd_4_35) rfl rfl rfl (by decide +kernel) ⟨Nat.le_of_ble_eq_true rfl, Nat.le_of_ble_eq_true rfl⟩) ⟨fun a U g mk q => q, fun U hU hW => ⟨rfl, trivial⟩⟩ rfl rfl hl.1 rfl (lv_room (Nat.le_of_ble_eq_true rfl)) dX11_readSeen_1 ⟨Nat.le_of_ble_eq_true rfl, Nat.le_of_ble_eq_true rfl⟩)) (fun r_1 hw => ?_)
  by_cases c_2 : (0 ≤ p0.toInt ∧ p0.toInt < 4)
  · rw [if_pos c_2] at hw; subst hw; have c_2 : (0 ≤ p0.toInt ∧ p0.toInt < 4) := c_2
    refine lv_if_eq (tgt := 17) hx hb dX11_readSeen_4 (by decide) (fun c_3 => absurd c_3 (by decide)) (fun _ => ?_)
    refine lv_aload_n hx hb dX11_readSeen_7 rfl (lv_at hl 0 rfl) ?_
    refine va_get (D := (dC, dI)) (ci := 10) (v := .ref xHall) (C := RX11) (T := TX11) (N := 15) hx hb hts uinX11 hown hK hP 0 rfl rfl 1 (by decide) (hts _ wd_2_66) (fun _ h9 => h9) rfl dX11_readSeen_8 ?_
    have hPc := hP.sub (ws' := [(xHall, .inr (2, [.int 0, .int 0, .int 0, .int 0, .int 0, .int 0, .ref a_first, .ref a_now, .ref a_lawPlace, .ref a_lawOther, .ref a_lawEach, .ref a_lawFrom, .ref a_foes, .ref a_suitTable, .ref a_acts]))]) [1] rfl
    have hKc := hK.sub (tys' := [(cyI, .int), (cyB, .byte), (cyJ, .long), (cyZ, .boolean), (cyH, .object RX2), (cyN, .array .long)]) [0, 1, 2, 3, 4, 5] rfl
    refine vp_callSi (va_Run.run (va_runV (As := []) (rest := []) ⟨hx, hb, hml, hown, hts⟩ (c_isNone l dC dI cyI cyB cyJ cyZ cyH cyN xHall a_first a_now a_lawPlace a_lawOther a_lawEach a_lawFrom a_foes a_suitTable a_acts) (cwV 0 hts (gdV wd_3_130 wd_3_131 wd_3_132 wd_1_3 wd_3_133) rfl rfl rfl (by decide +kernel) ⟨Nat.le_of_ble_eq_true rfl, Nat.le_of_ble_eq_true rfl⟩) ⟨fun a U g mk q => by obtain ⟨q0, qP, qK⟩ := q; exact ⟨q0, qP, va_K.moved (u := U) (U := U.calling g mk a) (Vm.Alike.refl U.vm) qK⟩, va_recv hKc hPc (ci := 2) (q0 := 0) rfl rfl, fun U hU hW => ⟨rfl, by rw [hU]; exact hPc, va_K.moved hW.alike hKc⟩⟩ rfl rfl hl.1 rfl (lv_room (Nat.le_of_ble_eq_true rfl)) dX11_readSeen_11 ⟨Nat.le_of_ble_eq_true rfl, Nat.le_of_ble_eq_true rfl⟩)) (fun r_4 hw => ?_)
    subst hw
    refine lv_if_eq (tgt := 20) hx hb dX11_readSeen_14 (by decide) (fun c_5 => absurd c_5 (by decide)) (fun _ => ?_)
    refine lv_bipush (v := (-2)) hx hb dX11_readSeen_17 (by decide) ?_
    exact W.iret (v := (-2)) hx hb hr (fun t ht hW => ⟨(-2), rfl, rfl, ht⟩) (fun q h => by cases h) dX11_readSeen_19
  · rw [if_neg c_2] at hw; subst hw; have c_2 : ¬ (0 ≤ p0.toInt ∧ p0.toInt < 4) := c_2
    refine lv_if_eq (tgt := 17) hx hb dX11_readSeen_4 (by decide) (fun _ => ?_) (fun c_6 => absurd c_6 (by decide))
    refine lv_bipush (v := (-2)) hx hb dX11_readSeen_17 (by decide) ?_
    exact W.iret (v := (-2)) hx hb hr (fun t ht hW => ⟨(-2), rfl, rfl, ht⟩) (fun q h => by cases h) dX11_readSeen_19

/- X11_law -/
set_option maxHeartbeats 4000000 in
set_option maxRecDepth 100000 in
theorem c_law (l : Launch) (dC : Nat → ClassId) (dI : Nat → Nat → Nat) (cyI cyB cyJ cyZ cyH cyN : ClassId) (x xTape xHall xDraft xImages xKept xSlots xCourse xSight xParting xSuiting xGame xLots xTold xTried a_first a_now a_lawPlace a_lawOther a_lawEach a_lawFrom a_foes a_suitTable a_acts : Nat) (p0 p1 : Int32) : Met l yX11_law (wk yX11_law cX11_law 3 (some .int)) ({ frames := 1, cells := 0, slots := 0, locals := 60 }) (va_Pc [.ref x, .int p0, .int p1] (fun U => va_P (dC, dI) vwCl [(x, .inr (10, [.ref xTape, .ref xHall, .ref xDraft, .ref xImages, .ref xKept, .ref xSlots, .ref xCourse, .ref xSight, .ref xParting, .ref xSuiting, .ref xGame, .ref xLots, .ref xTold, .ref xTried, .null])), (xHall, .inr (2, [.int 0, .int 0, .int 0, .int 0, .int 0, .int 0, .ref a_first, .ref a_now, .ref a_lawPlace, .ref a_lawOther, .ref a_lawEach, .ref a_lawFrom, .ref a_foes, .ref a_suitTable, .ref a_acts]))] U.heap ∧ va_K (dC, dI) vwCl [(cyI, .int), (cyB, .byte), (cyJ, .long), (cyZ, .boolean), (cyH, .object RX2), (cyN, .array .long)] U)) (vp_Si (fun r : Int32 => r = (-2))) 0 0 (fun _ => False) := by
  refine Met.ofW (cc := cX11_law) (maxL := 3) (ret := (some .int)) (by decide) rfl ?_
  intro p e s m args below meth c s₁ B hml hv
  obtain ⟨rfl, hP, hK⟩ := hv
  have hx := B.exec
  have hb := B.bytes
  have hr := B.returns
  have hts : ∀ w ∈ uU, w.before ([.ref x, .int p0, .int p1] : List Value).toArray s = true := fun w h => atoms_spec (ws := wk yX11_law cX11_law 3 (some .int)) B.pre w (List.mem_cons_of_mem _ h)
  have hown : s.vm.findClass RX11 = some m.cls := findClass_of_methodNamed B.named
  have hlocks := B.notSynchronized
  have hl := lv_entry ([.ref x, .int p0, .int p1]) (n := 3) (Nat.le_of_ble_eq_true rfl)
  rw [lg_entry_eq]
  generalize (lg_sl ([.ref x, .int p0, .int p1]) ++ List.replicate (3 - (lg_sl ([.ref x, .int p0, .int p1])).length) Slot.unset).toArray = ls at hl ⊢
  have hl : lv_has ls 3 [(0, .ref x), (1, .int p0), (2, .int p1)] := hl
  refine lv_iload_n hx hb dX11_law_0 rfl (lv_at hl 1 rfl) ?_
  refine lv_if_lt (tgt := 15) hx hb dX11_law_1 (by decide) (fun c_1 => ?_) (fun c_1 => ?_)
  · have c_1 : p0.toInt < 0 := cv_lt c_1
    refine lv_bipush (v := (-2)) hx hb dX11_law_15 (by decide) ?_
    exact W.iret (v := (-2)) hx hb hr (fun t ht hW => ⟨(-2), rfl, rfl, ht⟩) (fun q h => by cases h) dX11_law_17
  · have c_1 : 0 ≤ p0.toInt := cv_nlt c_1
    refine lv_iload_n hx hb dX11_law_4 rfl (lv_at hl 1 rfl) ?_
    refine lv_aload_n hx hb dX11_law_5 rfl (lv_at hl 0 rfl) ?_
    refine va_get (D := (dC, dI)) (ci := 10) (v := .ref xHall) (C := RX11) (T := TX11) (N := 15) hx hb hts uinX11 hown hK hP 0 rfl rfl 1 (by decide) (hts _ wd_2_66) (fun _ h9 => h9) rfl dX11_law_6 ?_
    refine va_get (D := (dC, dI)) (ci := 2) (v := .int 0) (C := RX2) (T := TX2) (N := 15) hx hb hts uinX2 hown hK hP 1 rfl rfl 3 (by decide) (hts _ wd_1_93) (fun _ h9 => h9) rfl dX11_law_9 ?_
    refine lv_icmp_lt (tgt := 18) hx hb dX11_law_12 (by decide) (fun c_2 => absurd (show p0.toInt < 0 from cv_lt c_2) (by omega)) (fun _ => ?_)
    refine lv_bipush (v := (-2)) hx hb dX11_law_15 (by decide) ?_
    exact W.iret (v := (-2)) hx hb hr (fun t ht hW => ⟨(-2), rfl, rfl, ht⟩) (fun q h => by cases h) dX11_law_17

/- X11_suits -/
set_option maxHeartbeats 4000000 in
set_option maxRecDepth 100000 in
theorem c_suits (l : Launch) (dC : Nat → ClassId) (dI : Nat → Nat → Nat) (cyI cyB cyJ cyZ cyH cyN : ClassId) (x xTape xHall xDraft xImages xKept xSlots xCourse xSight xParting xSuiting xGame xLots xTold xTried a_first a_now a_lawPlace a_lawOther a_lawEach a_lawFrom a_foes a_suitTable a_acts : Nat) (p0 p1 : Int32) : Met l yX11_suits (wk yX11_suits cX11_suits 3 (some .int)) ({ frames := 2, cells := 0, slots := 0, locals := 81 }) (va_Pc [.ref x, .int p0, .int p1] (fun U => va_P (dC, dI) vwCl [(x, .inr (10, [.ref xTape, .ref xHall, .ref xDraft, .ref xImages, .ref xKept, .ref xSlots, .ref xCourse, .ref xSight, .ref xParting, .ref xSuiting, .ref xGame, .ref xLots, .ref xTold, .ref xTried, .null])), (xHall, .inr (2, [.int 0, .int 0, .int 0, .int 0, .int 0, .int 0, .ref a_first, .ref a_now, .ref a_lawPlace, .ref a_lawOther, .ref a_lawEach, .ref a_lawFrom, .ref a_foes, .ref a_suitTable, .ref a_acts]))] U.heap ∧ va_K (dC, dI) vwCl [(cyI, .int), (cyB, .byte), (cyJ, .long), (cyZ, .boolean), (cyH, .object RX2), (cyN, .array .long)] U)) (vp_Si (fun r : Int32 => r = (-2))) 0 0 (fun _ => False) := by
  refine Met.ofW (cc := cX11_suits) (maxL := 3) (ret := (some .int)) (by decide) rfl ?_
  intro p e s m args below meth c s₁ B hml hv
  obtain ⟨rfl, hP, hK⟩ := hv
  have hx := B.exec
  have hb := B.bytes
  have hr := B.returns
  have hts : ∀ w ∈ uU, w.before ([.ref x, .int p0, .int p1] : List Value).toArray s = true := fun w h => atoms_spec (ws := wk yX11_suits cX11_suits 3 (some .int)) B.pre w (List.mem_cons_of_mem _ h)
  have hown : s.vm.findClass RX11 = some m.cls := findClass_of_methodNamed B.named
  have hlocks := B.notSynchronized
  have hl := lv_entry ([.ref x, .int p0, .int p1]) (n := 3) (Nat.le_of_ble_eq_true rfl)
  rw [lg_entry_eq]
  generalize (lg_sl ([.ref x, .int p0, .int p1]) ++ List.replicate (3 - (lg_sl ([.ref x, .int p0, .int p1])).length) Slot.unset).toArray = ls at hl ⊢
  have hl : lv_has ls 3 [(0, .ref x), (1, .int p0), (2, .int p1)] := hl
  refine lv_aload_n hx hb dX11_suits_0 rfl (lv_at hl 0 rfl) ?_
  refine va_get (D := (dC, dI)) (ci := 10) (v := .ref xHall) (C := RX11) (T := TX11) (N := 15) hx hb hts uinX11 hown hK hP 0 rfl rfl 1 (by decide) (hts _ wd_2_66) (fun _ h9 => h9) rfl dX11_suits_1 ?_
  refine lv_iload_n hx hb dX11_suits_4 rfl (lv_at hl 1 rfl) ?_
  have hPc := hP.sub (ws' := [(xHall, .inr (2, [.int 0, .int 0, .int 0, .int 0, .int 0, .int 0, .ref a_first, .ref a_now, .ref a_lawPlace, .ref a_lawOther, .ref a_lawEach, .ref a_lawFrom, .ref a_foes, .ref a_suitTable, .ref a_acts]))]) [1] rfl
  have hKc := hK.sub (tys' := [(cyI, .int), (cyB, .byte), (cyJ, .long), (cyZ, .boolean), (cyH, .object RX2), (cyN, .array .long)]) [0, 1, 2, 3, 4, 5] rfl
  refine vp_callSi (va_Run.run (va_runV (As := [.int p0]) (rest := []) ⟨hx, hb, hml, hown, hts⟩ (c_holds l dC dI cyI cyB cyJ cyZ cyH cyN xHall a_first a_now a_lawPlace a_lawOther a_lawEach a_lawFrom a_foes a_suitTable a_acts p0) (cwV 1 hts (gdV wd_3_56 wd_3_57 wd_3_58 wd_1_3 wd_3_59) rfl rfl rfl (by decide +kernel) ⟨Nat.le_of_ble_eq_true rfl, Nat.le_of_ble_eq_true rfl⟩) ⟨fun a U g mk q => by obtain ⟨q0, qP, qK⟩ := q; exact ⟨q0, qP, va_K.moved (u := U) (U := U.calling g mk a) (Vm.Alike.refl U.vm) qK⟩, va_recv hKc hPc (ci := 2) (q0 := 0) rfl rfl, fun U hU hW => ⟨rfl, by rw [hU]; exact hPc, va_K.moved hW.alike hKc⟩⟩ rfl rfl hl.1 rfl (lv_room (Nat.le_of_ble_eq_true rfl)) dX11_suits_5 ⟨Nat.le_of_ble_eq_true rfl, Nat.le_of_ble_eq_true rfl⟩)) (fun r_1 hw => ?_)
  subst hw
  refine lv_if_eq (tgt := 22) hx hb dX11_suits_8 (by decide) (fun _ => ?_) (fun c_2 => absurd c_2 (by decide))
  refine lv_bipush (v := (-2)) hx hb dX11_suits_22 (by decide) ?_
  exact W.iret (v := (-2)) hx hb hr (fun t ht hW => ⟨(-2), rfl, rfl, ht⟩) (fun q h => by cases h) dX11_suits_24

/- X11_apart -/
set_option maxHeartbeats 4000000 in
set_option maxRecDepth 100000 in
theorem c_apart (l : Launch) (dC : Nat → ClassId) (dI : Nat → Nat → Nat) (cyI cyB cyJ cyZ cyH cyN : ClassId) (x xTape xHall xDraft xImages xKept xSlots xCourse xSight xParting xSuiting xGame xLots xTold xTried a_first a_now a_lawPlace a_lawOther a_lawEach a_lawFrom a_foes a_suitTable a_acts : Nat) (p0 : Int32) : Met l yX11_apart (wk yX11_apart cX11_apart 2 (some .int)) ({ frames := 2, cells := 0, slots := 0, locals := 81 }) (va_Pc [.ref x, .int p0] (fun U => va_P (dC, dI) vwCl [(x, .inr (10, [.ref xTape, .ref xHall, .ref xDraft, .ref xImages, .ref xKept, .ref xSlots, .ref xCourse, .ref xSight, .ref xParting, .ref xSuiting, .ref xGame, .ref xLots, .ref xTold, .ref xTried, .null])), (xHall, .inr (2, [.int 0, .int 0, .int 0, .int 0, .int 0, .int 0, .ref a_first, .ref a_now, .ref a_lawPlace, .ref a_lawOther, .ref a_lawEach, .ref a_lawFrom, .ref a_foes, .ref a_suitTable, .ref a_acts]))] U.heap ∧ va_K (dC, dI) vwCl [(cyI, .int), (cyB, .byte), (cyJ, .long), (cyZ, .boolean), (cyH, .object RX2), (cyN, .array .long)] U)) (vp_Si (fun r : Int32 => r = (-2))) 0 0 (fun _ => False) := by
  refine Met.ofW (cc := cX11_apart) (maxL := 2) (ret := (some .int)) (by decide) rfl ?_
  intro p e s m args below meth c s₁ B hml hv
  obtain ⟨rfl, hP, hK⟩ := hv
  have hx := B.exec
  have hb := B.bytes
  have hr := B.returns
  have hts : ∀ w ∈ uU, w.before ([.ref x, .int p0] : List Value).toArray s = true := fun w h => atoms_spec (ws := wk yX11_apart cX11_apart 2 (some .int)) B.pre w (List.mem_cons_of_mem _ h)
  have hown : s.vm.findClass RX11 = some m.cls := findClass_of_methodNamed B.named
  have hlocks := B.notSynchronized
  have hl := lv_entry ([.ref x, .int p0]) (n := 2) (Nat.le_of_ble_eq_true rfl)
  rw [lg_entry_eq]
  generalize (lg_sl ([.ref x, .int p0]) ++ List.replicate (2 - (lg_sl ([.ref x, .int p0])).length) Slot.unset).toArray = ls at hl ⊢
  have hl : lv_has ls 2 [(0, .ref x), (1, .int p0)] := hl
  refine lv_aload_n hx hb dX11_apart_0 rfl (lv_at hl 0 rfl) ?_
  refine va_get (D := (dC, dI)) (ci := 10) (v := .ref xHall) (C := RX11) (T := TX11) (N := 15) hx hb hts uinX11 hown hK hP 0 rfl rfl 1 (by decide) (hts _ wd_2_66) (fun _ h9 => h9) rfl dX11_apart_1 ?_
  refine lv_iload_n hx hb dX11_apart_4 rfl (lv_at hl 1 rfl) ?_
  have hPc := hP.sub (ws' := [(xHall, .inr (2, [.int 0, .int 0, .int 0, .int 0, .int 0, .int 0, .ref a_first, .ref a_now, .ref a_lawPlace, .ref a_lawOther, .ref a_lawEach, .ref a_lawFrom, .ref a_foes, .ref a_suitTable, .ref a_acts]))]) [1] rfl
  have hKc := hK.sub (tys' := [(cyI, .int), (cyB, .byte), (cyJ, .long), (cyZ, .boolean), (cyH, .object RX2), (cyN, .array .long)]) [0, 1, 2, 3, 4, 5] rfl
  refine vp_callSi (va_Run.run (va_runV (As := [.int p0]) (rest := []) ⟨hx, hb, hml, hown, hts⟩ (c_holds l dC dI cyI cyB cyJ cyZ cyH cyN xHall a_first a_now a_lawPlace a_lawOther a_lawEach a_lawFrom a_foes a_suitTable a_acts p0) (cwV 1 hts (gdV wd_3_56 wd_3_57 wd_3_58 wd_1_3 wd_3_59) rfl rfl rfl (by decide +kernel) ⟨Nat.le_of_ble_eq_true rfl, Nat.le_of_ble_eq_true rfl⟩) ⟨fun a U g mk q => by obtain ⟨q0, qP, qK⟩ := q; exact ⟨q0, qP, va_K.moved (u := U) (U := U.calling g mk a) (Vm.Alike.refl U.vm) qK⟩, va_recv hKc hPc (ci := 2) (q0 := 0) rfl rfl, fun U hU hW => ⟨rfl, by rw [hU]; exact hPc, va_K.moved hW.alike hKc⟩⟩ rfl rfl hl.1 rfl (lv_room (Nat.le_of_ble_eq_true rfl)) dX11_apart_5 ⟨Nat.le_of_ble_eq_true rfl, Nat.le_of_ble_eq_true rfl⟩)) (fun r_1 hw => ?_)
  subst hw
  refine lv_if_eq (tgt := 23) hx hb dX11_apart_8 (by decide) (fun _ => ?_) (fun c_2 => absurd c_2 (by decide))
  refine lv_bipush (v := (-2)) hx hb dX11_apart_23 (by decide) ?_
  exact W.iret (v := (-2)) hx hb hr (fun t ht hW => ⟨(-2), rfl, rfl, ht⟩) (fun q h => by cases h) dX11_apart_25

/- X11_at -/
set_option maxHeartbeats 4000000 in
set_option maxRecDepth 100000 in
theorem c_at (l : Launch) (dC : Nat → ClassId) (dI : Nat → Nat → Nat) (cyI cyB cyJ cyZ cyH cyN : ClassId) (x xTape xHall xDraft xImages xKept xSlots xCourse xSight xParting xSuiting xGame xLots xTold xTried a_first a_now a_lawPlace a_lawOther a_lawEach a_lawFrom a_foes a_suitTable a_acts : Nat) (p0 : Int32) : Met l yX11_at (wk yX11_at cX11_at 2 (some .int)) ({ frames := 2, cells := 0, slots := 0, locals := 81 }) (va_Pc [.ref x, .int p0] (fun U => va_P (dC, dI) vwCl [(x, .inr (10, [.ref xTape, .ref xHall, .ref xDraft, .ref xImages, .ref xKept, .ref xSlots, .ref xCourse, .ref xSight, .ref xParting, .ref xSuiting, .ref xGame, .ref xLots, .ref xTold, .ref xTried, .null])), (xHall, .inr (2, [.int 0, .int 0, .int 0, .int 0, .int 0, .int 0, .ref a_first, .ref a_now, .ref a_lawPlace, .ref a_lawOther, .ref a_lawEach, .ref a_lawFrom, .ref a_foes, .ref a_suitTable, .ref a_acts]))] U.heap ∧ va_K (dC, dI) vwCl [(cyI, .int), (cyB, .byte), (cyJ, .long), (cyZ, .boolean), (cyH, .object RX2), (cyN, .array .long)] U)) (vp_Si (fun r : Int32 => r = (-2))) 0 0 (fun _ => False) := by
  refine Met.ofW (cc := cX11_at) (maxL := 2) (ret := (some .int)) (by decide) rfl ?_
  intro p e s m args below meth c s₁ B hml hv
  obtain ⟨rfl, hP, hK⟩ := hv
  have hx := B.exec
  have hb := B.bytes
  have hr := B.returns
  have hts : ∀ w ∈ uU, w.before ([.ref x, .int p0] : List Value).toArray s = true := fun w h => atoms_spec (ws := wk yX11_at cX11_at 2 (some .int)) B.pre w (List.mem_cons_of_mem _ h)
  have hown : s.vm.findClass RX11 = some m.cls := findClass_of_methodNamed B.named
  have hlocks := B.notSynchronized
  have hl := lv_entry ([.ref x, .int p0]) (n := 2) (Nat.le_of_ble_eq_true rfl)
  rw [lg_entry_eq]
  generalize (lg_sl ([.ref x, .int p0]) ++ List.replicate (2 - (lg_sl ([.ref x, .int p0])).length) Slot.unset).toArray = ls at hl ⊢
  have hl : lv_has ls 2 [(0, .ref x), (1, .int p0)] := hl
  refine lv_aload_n hx hb dX11_at_0 rfl (lv_at hl 0 rfl) ?_
  refine va_get (D := (dC, dI)) (ci := 10) (v := .ref xHall) (C := RX11) (T := TX11) (N := 15) hx hb hts uinX11 hown hK hP 0 rfl rfl 1 (by decide) (hts _ wd_2_66) (fun _ h9 => h9) rfl dX11_at_1 ?_
  refine lv_iload_n hx hb dX11_at_4 rfl (lv_at hl 1 rfl) ?_
  have hPc := hP.sub (ws' := [(xHall, .inr (2, [.int 0, .int 0, .int 0, .int 0, .int 0, .int 0, .ref a_first, .ref a_now, .ref a_lawPlace, .ref a_lawOther, .ref a_lawEach, .ref a_lawFrom, .ref a_foes, .ref a_suitTable, .ref a_acts]))]) [1] rfl
  have hKc := hK.sub (tys' := [(cyI, .int), (cyB, .byte), (cyJ, .long), (cyZ, .boolean), (cyH, .object RX2), (cyN, .array .long)]) [0, 1, 2, 3, 4, 5] rfl
  refine vp_callSi (va_Run.run (va_runV (As := [.int p0]) (rest := []) ⟨hx, hb, hml, hown, hts⟩ (c_holds l dC dI cyI cyB cyJ cyZ cyH cyN xHall a_first a_now a_lawPlace a_lawOther a_lawEach a_lawFrom a_foes a_suitTable a_acts p0) (cwV 1 hts (gdV wd_3_56 wd_3_57 wd_3_58 wd_1_3 wd_3_59) rfl rfl rfl (by decide +kernel) ⟨Nat.le_of_ble_eq_true rfl, Nat.le_of_ble_eq_true rfl⟩) ⟨fun a U g mk q => by obtain ⟨q0, qP, qK⟩ := q; exact ⟨q0, qP, va_K.moved (u := U) (U := U.calling g mk a) (Vm.Alike.refl U.vm) qK⟩, va_recv hKc hPc (ci := 2) (q0 := 0) rfl rfl, fun U hU hW => ⟨rfl, by rw [hU]; exact hPc, va_K.moved hW.alike hKc⟩⟩ rfl rfl hl.1 rfl (lv_room (Nat.le_of_ble_eq_true rfl)) dX11_at_5 ⟨Nat.le_of_ble_eq_true rfl, Nat.le_of_ble_eq_true rfl⟩)) (fun r_1 hw => ?_)
  subst hw
  refine lv_if_eq (tgt := 23) hx hb dX11_at_8 (by decide) (fun _ => ?_) (fun c_2 => absurd c_2 (by decide))
  refine lv_bipush (v := (-2)) hx hb dX11_at_23 (by decide) ?_
  exact W.iret (v := (-2)) hx hb hr (fun t ht hW => ⟨(-2), rfl, rfl, ht⟩) (fun q h => by cases h) dX11_at_25

/- X11_where -/
set_option maxHeartbeats 4000000 in
set_option maxRecDepth 100000 in
theorem c_where (l : Launch) (dC : Nat → ClassId) (dI : Nat → Nat → Nat) (cyI cyB cyJ cyZ cyH cyN : ClassId) (x xTape xHall xDraft xImages xKept xSlots xCourse xSight xParting xSuiting xGame xLots xTold xTried a_first a_now a_lawPlace a_lawOther a_lawEach a_lawFrom a_foes a_suitTable a_acts : Nat) (p0 : Int32) : Met l yX11_where (wk yX11_where cX11_where 2 (some .int)) ({ frames := 2, cells := 0, slots := 0, locals := 81 }) (va_Pc [.ref x, .int p0] (fun U => va_P (dC, dI) vwCl [(x, .inr (10, [.ref xTape, .ref xHall, .ref xDraft, .ref xImages, .ref xKept, .ref xSlots, .ref xCourse, .ref xSight, .ref xParting, .ref xSuiting, .ref xGame, .ref xLots, .ref xTold, .ref xTried, .null])), (xHall, .inr (2, [.int 0, .int 0, .int 0, .int 0, .int 0, .int 0, .ref a_first, .ref a_now, .ref a_lawPlace, .ref a_lawOther, .ref a_lawEach, .ref a_lawFrom, .ref a_foes, .ref a_suitTable, .ref a_acts]))] U.heap ∧ va_K (dC, dI) vwCl [(cyI, .int), (cyB, .byte), (cyJ, .long), (cyZ, .boolean), (cyH, .object RX2), (cyN, .array .long)] U)) (vp_Si (fun r : Int32 => r = (-2))) 0 0 (fun _ => False) := by
  refine Met.ofW (cc := cX11_where) (maxL := 2) (ret := (some .int)) (by decide) rfl ?_
  intro p e s m args below meth c s₁ B hml hv
  obtain ⟨rfl, hP, hK⟩ := hv
  have hx := B.exec
  have hb := B.bytes
  have hr := B.returns
  have hts : ∀ w ∈ uU, w.before ([.ref x, .int p0] : List Value).toArray s = true := fun w h => atoms_spec (ws := wk yX11_where cX11_where 2 (some .int)) B.pre w (List.mem_cons_of_mem _ h)
  have hown : s.vm.findClass RX11 = some m.cls := findClass_of_methodNamed B.named
  have hlocks := B.notSynchronized
  have hl := lv_entry ([.ref x, .int p0]) (n := 2) (Nat.le_of_ble_eq_true rfl)
  rw [lg_entry_eq]
  generalize (lg_sl ([.ref x, .int p0]) ++ List.replicate (2 - (lg_sl ([.ref x, .int p0])).length) Slot.unset).toArray = ls at hl ⊢
  have hl : lv_has ls 2 [(0, .ref x), (1, .int p0)] := hl
  refine lv_aload_n hx hb dX11_where_0 rfl (lv_at hl 0 rfl) ?_
  refine va_get (D := (dC, dI)) (ci := 10) (v := .ref xHall) (C := RX11) (T := TX11) (N := 15) hx hb hts uinX11 hown hK hP 0 rfl rfl 1 (by decide) (hts _ wd_2_66) (fun _ h9 => h9) rfl dX11_where_1 ?_
  refine lv_iload_n hx hb dX11_where_4 rfl (lv_at hl 1 rfl) ?_
  have hPc := hP.sub (ws' := [(xHall, .inr (2, [.int 0, .int 0, .int 0, .int 0, .int 0, .int 0, .ref a_first, .ref a_now, .ref a_lawPlace, .ref a_lawOther, .ref a_lawEach, .ref a_lawFrom, .ref a_foes, .ref a_suitTable, .ref a_acts]))]) [1] rfl
  have hKc := hK.sub (tys' := [(cyI, .int), (cyB, .byte), (cyJ, .long), (cyZ, .boolean), (cyH, .object RX2), (cyN, .array .long)]) [0, 1, 2, 3, 4, 5] rfl
  refine vp_callSi (va_Run.run (va_runV (As := [.int p0]) (rest := []) ⟨hx, hb, hml, hown, hts⟩ (c_holds l dC dI cyI cyB cyJ cyZ cyH cyN xHall a_first a_now a_lawPlace a_lawOther a_lawEach a_lawFrom a_foes a_suitTable a_acts p0) (cwV 1 hts (gdV wd_3_56 wd_3_57 wd_3_58 wd_1_3 wd_3_59) rfl rfl rfl (by decide +kernel) ⟨Nat.le_of_ble_eq_true rfl, Nat.le_of_ble_eq_true rfl⟩) ⟨fun a U g mk q => by obtain ⟨q0, qP, qK⟩ := q; exact ⟨q0, qP, va_K.moved (u := U) (U := U.calling g mk a) (Vm.Alike.refl U.vm) qK⟩, va_recv hKc hPc (ci := 2) (q0 := 0) rfl rfl, fun U hU hW => ⟨rfl, by rw [hU]; exact hPc, va_K.moved hW.alike hKc⟩⟩ rfl rfl hl.1 rfl (lv_room (Nat.le_of_ble_eq_true rfl)) dX11_where_5 ⟨Nat.le_of_ble_eq_true rfl, Nat.le_of_ble_eq_true rfl⟩)) (fun r_1 hw => ?_)
  subst hw
  refine lv_if_eq (tgt := 22) hx hb dX11_where_8 (by decide) (fun _ => ?_) (fun c_2 => absurd c_2 (by decide))
  refine lv_bipush (v := (-2)) hx hb dX11_where_22 (by decide) ?_
  exact W.iret (v := (-2)) hx hb hr (fun t ht hW => ⟨(-2), rfl, rfl, ht⟩) (fun q h => by cases h) dX11_where_24

/- X11_later -/
set_option maxHeartbeats 4000000 in
set_option maxRecDepth 100000 in
theorem c_later (l : Launch) (dC : Nat → ClassId) (dI : Nat → Nat → Nat) (cyI cyB cyJ cyZ cyH cyN : ClassId) (x xTape xHall xDraft xImages xKept xSlots xCourse xSight xParting xSuiting xGame xLots xTold xTried a_first a_now a_lawPlace a_lawOther a_lawEach a_lawFrom a_foes a_suitTable a_acts : Nat) (p0 p1 : Int32) : Met l yX11_later (wk yX11_later cX11_later 3 (some .int)) ({ frames := 2, cells := 0, slots := 0, locals := 81 }) (va_Pc [.ref x, .int p0, .int p1] (fun U => va_P (dC, dI) vwCl [(x, .inr (10, [.ref xTape, .ref xHall, .ref xDraft, .ref xImages, .ref xKept, .ref xSlots, .ref xCourse, .ref xSight, .ref xParting, .ref xSuiting, .ref xGame, .ref xLots, .ref xTold, .ref xTried, .null])), (xHall, .inr (2, [.int 0, .int 0, .int 0, .int 0, .int 0, .int 0, .ref a_first, .ref a_now, .ref a_lawPlace, .ref a_lawOther, .ref a_lawEach, .ref a_lawFrom, .ref a_foes, .ref a_suitTable, .ref a_acts]))] U.heap ∧ va_K (dC, dI) vwCl [(cyI, .int), (cyB, .byte), (cyJ, .long), (cyZ, .boolean), (cyH, .object RX2), (cyN, .array .long)] U)) (vp_Si (fun r : Int32 => r = (-2))) 0 0 (fun _ => False) := by
  refine Met.ofW (cc := cX11_later) (maxL := 3) (ret := (some .int)) (by decide) rfl ?_
  intro p e s m args below meth c s₁ B hml hv
  obtain ⟨rfl, hP, hK⟩ := hv
  have hx := B.exec
  have hb := B.bytes
  have hr := B.returns
  have hts : ∀ w ∈ uU, w.before ([.ref x, .int p0, .int p1] : List Value).toArray s = true := fun w h => atoms_spec (ws := wk yX11_later cX11_later 3 (some .int)) B.pre w (List.mem_cons_of_mem _ h)
  have hown : s.vm.findClass RX11 = some m.cls := findClass_of_methodNamed B.named
  have hlocks := B.notSynchronized
  have hl := lv_entry ([.ref x, .int p0, .int p1]) (n := 3) (Nat.le_of_ble_eq_true rfl)
  rw [lg_entry_eq]
  generalize (lg_sl ([.ref x, .int p0, .int p1]) ++ List.replicate (3 - (lg_sl ([.ref x, .int p0, .int p1])).length) Slot.unset).toArray = ls at hl ⊢
  have hl : lv_has ls 3 [(0, .ref x), (1, .int p0), (2, .int p1)] := hl
  refine lv_aload_n hx hb dX11_later_0 rfl (lv_at hl 0 rfl) ?_
  refine va_get (D := (dC, dI)) (ci := 10) (v := .ref xHall) (C := RX11) (T := TX11) (N := 15) hx hb hts uinX11 hown hK hP 0 rfl rfl 1 (by decide) (hts _ wd_2_66) (fun _ h9 => h9) rfl dX11_later_1 ?_
  refine lv_iload_n hx hb dX11_later_4 rfl (lv_at hl 1 rfl) ?_
  have hPc := hP.sub (ws' := [(xHall, .inr (2, [.int 0, .int 0, .int 0, .int 0, .int 0, .int 0, .ref a_first, .ref a_now, .ref a_lawPlace, .ref a_lawOther, .ref a_lawEach, .ref a_lawFrom, .ref a_foes, .ref a_suitTable, .ref a_acts]))]) [1] rfl
  have hKc := hK.sub (tys' := [(cyI, .int), (cyB, .byte), (cyJ, .long), (cyZ, .boolean), (cyH, .object RX2), (cyN, .array .long)]) [0, 1, 2, 3, 4, 5] rfl
  refine vp_callSi (va_Run.run (va_runV (As := [.int p0]) (rest := []) ⟨hx, hb, hml, hown, hts⟩ (c_holds l dC dI cyI cyB cyJ cyZ cyH cyN xHall a_first a_now a_lawPlace a_lawOther a_lawEach a_lawFrom a_foes a_suitTable a_acts p0) (cwV 1 hts (gdV wd_3_56 wd_3_57 wd_3_58 wd_1_3 wd_3_59) rfl rfl rfl (by decide +kernel) ⟨Nat.le_of_ble_eq_true rfl, Nat.le_of_ble_eq_true rfl⟩) ⟨fun a U g mk q => by obtain ⟨q0, qP, qK⟩ := q; exact ⟨q0, qP, va_K.moved (u := U) (U := U.calling g mk a) (Vm.Alike.refl U.vm) qK⟩, va_recv hKc hPc (ci := 2) (q0 := 0) rfl rfl, fun U hU hW => ⟨rfl, by rw [hU]; exact hPc, va_K.moved hW.alike hKc⟩⟩ rfl rfl hl.1 rfl (lv_room (Nat.le_of_ble_eq_true rfl)) dX11_later_5 ⟨Nat.le_of_ble_eq_true rfl, Nat.le_of_ble_eq_true rfl⟩)) (fun r_1 hw => ?_)
  subst hw
  refine lv_if_eq (tgt := 21) hx hb dX11_later_8 (by decide) (fun _ => ?_) (fun c_2 => absurd c_2 (by decide))
  refine lv_bipush (v := (-2)) hx hb dX11_later_21 (by decide) ?_
  exact W.iret (v := (-2)) hx hb hr (fun t ht hW => ⟨(-2), rfl, rfl, ht⟩) (fun q h => by cases h) dX11_later_23

/- X11_right -/
set_option maxHeartbeats 4000000 in
set_option maxRecDepth 100000 in
theorem c_right (l : Launch) (dC : Nat → ClassId) (dI : Nat → Nat → Nat) (cyI cyB cyJ cyZ cyH cyN : ClassId) (x xTape xHall xDraft xImages xKept xSlots xCourse xSight xParting xSuiting xGame xLots xTold xTried a_first a_now a_lawPlace a_lawOther a_lawEach a_lawFrom a_foes a_suitTable a_acts : Nat) (p0 : Int32) : Met l yX11_right (wk yX11_right cX11_right 2 (some .int)) ({ frames := 2, cells := 0, slots := 0, locals := 80 }) (va_Pc [.ref x, .int p0] (fun U => va_P (dC, dI) vwCl [(x, .inr (10, [.ref xTape, .ref xHall, .ref xDraft, .ref xImages, .ref xKept, .ref xSlots, .ref xCourse, .ref xSight, .ref xParting, .ref xSuiting, .ref xGame, .ref xLots, .ref xTold, .ref xTried, .null])), (xHall, .inr (2, [.int 0, .int 0, .int 0, .int 0, .int 0, .int 0, .ref a_first, .ref a_now, .ref a_lawPlace, .ref a_lawOther, .ref a_lawEach, .ref a_lawFrom, .ref a_foes, .ref a_suitTable, .ref a_acts]))] U.heap ∧ va_K (dC, dI) vwCl [(cyI, .int), (cyB, .byte), (cyJ, .long), (cyZ, .boolean), (cyH, .object RX2), (cyN, .array .long)] U)) (vp_Si (fun r : Int32 => r = (-2))) 0 0 (fun _ => False) := by
  refine Met.ofW (cc := cX11_right) (maxL := 2) (ret := (some .int)) (by decide) rfl ?_
  intro p e s m args below meth c s₁ B hml hv
  obtain ⟨rfl, hP, hK⟩ := hv
  have hx := B.exec
  have hb := B.bytes
  have hr := B.returns
  have hts : ∀ w ∈ uU, w.before ([.ref x, .int p0] : List Value).toArray s = true := fun w h => atoms_spec (ws := wk yX11_right cX11_right 2 (some .int)) B.pre w (List.mem_cons_of_mem _ h)
  have hown : s.vm.findClass RX11 = some m.cls := findClass_of_methodNamed B.named
  have hlocks := B.notSynchronized
  have hl := lv_entry ([.ref x, .int p0]) (n := 2) (Nat.le_of_ble_eq_true rfl)
  rw [lg_entry_eq]
  generalize (lg_sl ([.ref x, .int p0]) ++ List.replicate (2 - (lg_sl ([.ref x, .int p0])).length) Slot.unset).toArray = ls at hl ⊢
  have hl : lv_has ls 2 [(0, .ref x), (1, .int p0)] := hl
  refine lv_aload_n hx hb dX11_right_0 rfl (lv_at hl 0 rfl) ?_
  refine va_get (D := (dC, dI)) (ci := 10) (v := .ref xHall) (C := RX11) (T := TX11) (N := 15) hx hb hts uinX11 hown hK hP 0 rfl rfl 1 (by decide) (hts _ wd_2_66) (fun _ h9 => h9) rfl dX11_right_1 ?_
  have hPc := hP.sub (ws' := [(xHall, .inr (2, [.int 0, .int 0, .int 0, .int 0, .int 0, .int 0, .ref a_first, .ref a_now, .ref a_lawPlace, .ref a_lawOther, .ref a_lawEach, .ref a_lawFrom, .ref a_foes, .ref a_suitTable, .ref a_acts]))]) [1] rfl
  have hKc := hK.sub (tys' := [(cyI, .int), (cyB, .byte), (cyJ, .long), (cyZ, .boolean), (cyH, .object RX2), (cyN, .array .long)]) [0, 1, 2, 3, 4, 5] rfl
  refine vp_callSi (va_Run.run (va_runV (As := []) (rest := []) ⟨hx, hb, hml, hown, hts⟩ (c_isNone l dC dI cyI cyB cyJ cyZ cyH cyN xHall a_first a_now a_lawPlace a_lawOther a_lawEach a_lawFrom a_foes a_suitTable a_acts) (cwV 0 hts (gdV wd_3_130 wd_3_131 wd_3_132 wd_1_3 wd_3_133) rfl rfl rfl (by decide +kernel) ⟨Nat.le_of_ble_eq_true rfl, Nat.le_of_ble_eq_true rfl⟩) ⟨fun a U g mk q => by obtain ⟨q0, qP, qK⟩ := q; exact ⟨q0, qP, va_K.moved (u := U) (U := U.calling g mk a) (Vm.Alike.refl U.vm) qK⟩, va_recv hKc hPc (ci := 2) (q0 := 0) rfl rfl, fun U hU hW => ⟨rfl, by rw [hU]; exact hPc, va_K.moved hW.alike hKc⟩⟩ rfl rfl hl.1 rfl (lv_room (Nat.le_of_ble_eq_true rfl)) dX11_right_4 ⟨Nat.le_of_ble_eq_true rfl, Nat.le_of_ble_eq_true rfl⟩)) (fun r_1 hw => ?_)
  subst hw
  refine lv_if_ne (tgt := 20) hx hb dX11_right_7 (by decide) (fun _ => ?_) (fun c_2 => absurd c_2 (by decide))
  refine lv_bipush (v := (-2)) hx hb dX11_right_20 (by decide) ?_
  exact W.iret (v := (-2)) hx hb hr (fun t ht hW => ⟨(-2), rfl, rfl, ht⟩) (fun q h => by cases h) dX11_right_22

/- X11_rights -/
set_option maxHeartbeats 4000000 in
set_option maxRecDepth 100000 in
theorem c_rights (l : Launch) (dC : Nat → ClassId) (dI : Nat → Nat → Nat) (cyI cyB cyJ cyZ cyH cyN : ClassId) (x xTape xHall xDraft xImages xKept xSlots xCourse xSight xParting xSuiting xGame xLots xTold xTried a_first a_now a_lawPlace a_lawOther a_lawEach a_lawFrom a_foes a_suitTable a_acts : Nat) : Met l yX11_rights (wk yX11_rights cX11_rights 1 (some .int)) ({ frames := 2, cells := 0, slots := 0, locals := 80 }) (va_Pc [.ref x] (fun U => va_P (dC, dI) vwCl [(x, .inr (10, [.ref xTape, .ref xHall, .ref xDraft, .ref xImages, .ref xKept, .ref xSlots, .ref xCourse, .ref xSight, .ref xParting, .ref xSuiting, .ref xGame, .ref xLots, .ref xTold, .ref xTried, .null])), (xHall, .inr (2, [.int 0, .int 0, .int 0, .int 0, .int 0, .int 0, .ref a_first, .ref a_now, .ref a_lawPlace, .ref a_lawOther, .ref a_lawEach, .ref a_lawFrom, .ref a_foes, .ref a_suitTable, .ref a_acts]))] U.heap ∧ va_K (dC, dI) vwCl [(cyI, .int), (cyB, .byte), (cyJ, .long), (cyZ, .boolean), (cyH, .object RX2), (cyN, .array .long)] U)) (vp_Si (fun r : Int32 => r = (-2))) 0 0 (fun _ => False) := by
  refine Met.ofW (cc := cX11_rights) (maxL := 1) (ret := (some .int)) (by decide) rfl ?_
  intro p e s m args below meth c s₁ B hml hv
  obtain ⟨rfl, hP, hK⟩ := hv
  have hx := B.exec
  have hb := B.bytes
  have hr := B.returns
  have hts : ∀ w ∈ uU, w.before ([.ref x] : List Value).toArray s = true := fun w h => atoms_spec (ws := wk yX11_rights cX11_rights 1 (some .int)) B.pre w (List.mem_cons_of_mem _ h)
  have hown : s.vm.findClass RX11 = some m.cls := findClass_of_methodNamed B.named
  have hlocks := B.notSynchronized
  have hl := lv_entry ([.ref x]) (n := 1) (Nat.le_of_ble_eq_true rfl)
  rw [lg_entry_eq]
  generalize (lg_sl ([.ref x]) ++ List.replicate (1 - (lg_sl ([.ref x])).length) Slot.unset).toArray = ls at hl ⊢
  have hl : lv_has ls 1 [(0, .ref x)] := hl
  refine lv_aload_n hx hb dX11_rights_0 rfl (lv_at hl 0 rfl) ?_
  refine va_get (D := (dC, dI)) (ci := 10) (v := .ref xHall) (C := RX11) (T := TX11) (N := 15) hx hb hts uinX11 hown hK hP 0 rfl rfl 1 (by decide) (hts _ wd_2_66) (fun _ h9 => h9) rfl dX11_rights_1 ?_
  have hPc := hP.sub (ws' := [(xHall, .inr (2, [.int 0, .int 0, .int 0, .int 0, .int 0, .int 0, .ref a_first, .ref a_now, .ref a_lawPlace, .ref a_lawOther, .ref a_lawEach, .ref a_lawFrom, .ref a_foes, .ref a_suitTable, .ref a_acts]))]) [1] rfl
  have hKc := hK.sub (tys' := [(cyI, .int), (cyB, .byte), (cyJ, .long), (cyZ, .boolean), (cyH, .object RX2), (cyN, .array .long)]) [0, 1, 2, 3, 4, 5] rfl
  refine vp_callSi (va_Run.run (va_runV (As := []) (rest := []) ⟨hx, hb, hml, hown, hts⟩ (c_isNone l dC dI cyI cyB cyJ cyZ cyH cyN xHall a_first a_now a_lawPlace a_lawOther a_lawEach a_lawFrom a_foes a_suitTable a_acts) (cwV 0 hts (gdV wd_3_130 wd_3_131 wd_3_132 wd_1_3 wd_3_133) rfl rfl rfl (by decide +kernel) ⟨Nat.le_of_ble_eq_true rfl, Nat.le_of_ble_eq_true rfl⟩) ⟨fun a U g mk q => by obtain ⟨q0, qP, qK⟩ := q; exact ⟨q0, qP, va_K.moved (u := U) (U := U.calling g mk a) (Vm.Alike.refl U.vm) qK⟩, va_recv hKc hPc (ci := 2) (q0 := 0) rfl rfl, fun U hU hW => ⟨rfl, by rw [hU]; exact hPc, va_K.moved hW.alike hKc⟩⟩ rfl rfl hl.1 rfl (lv_room (Nat.le_of_ble_eq_true rfl)) dX11_rights_4 ⟨Nat.le_of_ble_eq_true rfl, Nat.le_of_ble_eq_true rfl⟩)) (fun r_1 hw => ?_)
  subst hw
  refine lv_if_eq (tgt := 15) hx hb dX11_rights_7 (by decide) (fun c_2 => absurd c_2 (by decide)) (fun _ => ?_)
  refine lv_bipush (v := (-2)) hx hb dX11_rights_10 (by decide) ?_
  refine lv_goto (tgt := 32) hx hb dX11_rights_12 (by decide) ?_
  exact W.iret (v := (-2)) hx hb hr (fun t ht hW => ⟨(-2), rfl, rfl, ht⟩) (fun q h => by cases h) dX11_rights_32

/- X11_whole -/
set_option maxHeartbeats 4000000 in
set_option maxRecDepth 100000 in
theorem c_whole (l : Launch) (dC : Nat → ClassId) (dI : Nat → Nat → Nat) (cyI cyB cyJ cyZ cyH cyN : ClassId) (x xTape xHall xDraft xImages xKept xSlots xCourse xSight xParting xSuiting xGame xLots xTold xTried a_first a_now a_lawPlace a_lawOther a_lawEach a_lawFrom a_foes a_suitTable a_acts : Nat) : Met l yX11_whole (wk yX11_whole cX11_whole 2 (some .int)) ({ frames := 2, cells := 0, slots := 0, locals := 80 }) (va_Pc [.ref x] (fun U => va_P (dC, dI) vwCl [(x, .inr (10, [.ref xTape, .ref xHall, .ref xDraft, .ref xImages, .ref xKept, .ref xSlots, .ref xCourse, .ref xSight, .ref xParting, .ref xSuiting, .ref xGame, .ref xLots, .ref xTold, .ref xTried, .null])), (xHall, .inr (2, [.int 0, .int 0, .int 0, .int 0, .int 0, .int 0, .ref a_first, .ref a_now, .ref a_lawPlace, .ref a_lawOther, .ref a_lawEach, .ref a_lawFrom, .ref a_foes, .ref a_suitTable, .ref a_acts]))] U.heap ∧ va_K (dC, dI) vwCl [(cyI, .int), (cyB, .byte), (cyJ, .long), (cyZ, .boolean), (cyH, .object RX2), (cyN, .array .long)] U)) (vp_Si (fun r : Int32 => r = (-2))) 0 0 (fun _ => False) := by
  refine Met.ofW (cc := cX11_whole) (maxL := 2) (ret := (some .int)) (by decide) rfl ?_
  intro p e s m args below meth c s₁ B hml hv
  obtain ⟨rfl, hP, hK⟩ := hv
  have hx := B.exec
  have hb := B.bytes
  have hr := B.returns
  have hts : ∀ w ∈ uU, w.before ([.ref x] : List Value).toArray s = true := fun w h => atoms_spec (ws := wk yX11_whole cX11_whole 2 (some .int)) B.pre w (List.mem_cons_of_mem _ h)
  have hown : s.vm.findClass RX11 = some m.cls := findClass_of_methodNamed B.named
  have hlocks := B.notSynchronized
  have hl := lv_entry ([.ref x]) (n := 2) (Nat.le_of_ble_eq_true rfl)
  rw [lg_entry_eq]
  generalize (lg_sl ([.ref x]) ++ List.replicate (2 - (lg_sl ([.ref x])).length) Slot.unset).toArray = ls at hl ⊢
  have hl : lv_has ls 2 [(0, .ref x)] := hl
  refine lv_aload_n hx hb dX11_whole_0 rfl (lv_at hl 0 rfl) ?_
  refine va_get (D := (dC, dI)) (ci := 10) (v := .ref xHall) (C := RX11) (T := TX11) (N := 15) hx hb hts uinX11 hown hK hP 0 rfl rfl 1 (by decide) (hts _ wd_2_66) (fun _ h9 => h9) rfl dX11_whole_1 ?_
  have hPc := hP.sub (ws' := [(xHall, .inr (2, [.int 0, .int 0, .int 0, .int 0, .int 0, .int 0, .ref a_first, .ref a_now, .ref a_lawPlace, .ref a_lawOther, .ref a_lawEach, .ref a_lawFrom, .ref a_foes, .ref a_suitTable, .ref a_acts]))]) [1] rfl
  have hKc := hK.sub (tys' := [(cyI, .int), (cyB, .byte), (cyJ, .long), (cyZ, .boolean), (cyH, .object RX2), (cyN, .array .long)]) [0, 1, 2, 3, 4, 5] rfl
  refine vp_callSi (va_Run.run (va_runV (As := []) (rest := []) ⟨hx, hb, hml, hown, hts⟩ (c_isNone l dC dI cyI cyB cyJ cyZ cyH cyN xHall a_first a_now a_lawPlace a_lawOther a_lawEach a_lawFrom a_foes a_suitTable a_acts) (cwV 0 hts (gdV wd_3_130 wd_3_131 wd_3_132 wd_1_3 wd_3_133) rfl rfl rfl (by decide +kernel) ⟨Nat.le_of_ble_eq_true rfl, Nat.le_of_ble_eq_true rfl⟩) ⟨fun a U g mk q => by obtain ⟨q0, qP, qK⟩ := q; exact ⟨q0, qP, va_K.moved (u := U) (U := U.calling g mk a) (Vm.Alike.refl U.vm) qK⟩, va_recv hKc hPc (ci := 2) (q0 := 0) rfl rfl, fun U hU hW => ⟨rfl, by rw [hU]; exact hPc, va_K.moved hW.alike hKc⟩⟩ rfl rfl hl.1 rfl (lv_room (Nat.le_of_ble_eq_true rfl)) dX11_whole_4 ⟨Nat.le_of_ble_eq_true rfl, Nat.le_of_ble_eq_true rfl⟩)) (fun r_1 hw => ?_)
  subst hw
  refine lv_if_eq (tgt := 13) hx hb dX11_whole_7 (by decide) (fun c_2 => absurd c_2 (by decide)) (fun _ => ?_)
  refine lv_bipush (v := (-2)) hx hb dX11_whole_10 (by decide) ?_
  exact W.iret (v := (-2)) hx hb hr (fun t ht hW => ⟨(-2), rfl, rfl, ht⟩) (fun q h => by cases h) dX11_whole_12

/- X11_round -/
set_option maxHeartbeats 4000000 in
set_option maxRecDepth 100000 in
theorem c_round (l : Launch) (dC : Nat → ClassId) (dI : Nat → Nat → Nat) (cyI cyB cyJ cyZ cyH cyN : ClassId) (x xTape xHall xDraft xImages xKept xSlots xCourse xSight xParting xSuiting xGame xLots xTold xTried a_first a_now a_lawPlace a_lawOther a_lawEach a_lawFrom a_foes a_suitTable a_acts : Nat) : Met l yX11_round (wk yX11_round cX11_round 2 (some .int)) ({ frames := 2, cells := 0, slots := 0, locals := 80 }) (va_Pc [.ref x] (fun U => va_P (dC, dI) vwCl [(x, .inr (10, [.ref xTape, .ref xHall, .ref xDraft, .ref xImages, .ref xKept, .ref xSlots, .ref xCourse, .ref xSight, .ref xParting, .ref xSuiting, .ref xGame, .ref xLots, .ref xTold, .ref xTried, .null])), (xHall, .inr (2, [.int 0, .int 0, .int 0, .int 0, .int 0, .int 0, .ref a_first, .ref a_now, .ref a_lawPlace, .ref a_lawOther, .ref a_lawEach, .ref a_lawFrom, .ref a_foes, .ref a_suitTable, .ref a_acts]))] U.heap ∧ va_K (dC, dI) vwCl [(cyI, .int), (cyB, .byte), (cyJ, .long), (cyZ, .boolean), (cyH, .object RX2), (cyN, .array .long)] U)) (vp_Si (fun r : Int32 => r = (-2))) 0 0 (fun _ => False) := by
  refine Met.ofW (cc := cX11_round) (maxL := 2) (ret := (some .int)) (by decide) rfl ?_
  intro p e s m args below meth c s₁ B hml hv
  obtain ⟨rfl, hP, hK⟩ := hv
  have hx := B.exec
  have hb := B.bytes
  have hr := B.returns
  have hts : ∀ w ∈ uU, w.before ([.ref x] : List Value).toArray s = true := fun w h => atoms_spec (ws := wk yX11_round cX11_round 2 (some .int)) B.pre w (List.mem_cons_of_mem _ h)
  have hown : s.vm.findClass RX11 = some m.cls := findClass_of_methodNamed B.named
  have hlocks := B.notSynchronized
  have hl := lv_entry ([.ref x]) (n := 2) (Nat.le_of_ble_eq_true rfl)
  rw [lg_entry_eq]
  generalize (lg_sl ([.ref x]) ++ List.replicate (2 - (lg_sl ([.ref x])).length) Slot.unset).toArray = ls at hl ⊢
  have hl : lv_has ls 2 [(0, .ref x)] := hl
  refine lv_aload_n hx hb dX11_round_0 rfl (lv_at hl 0 rfl) ?_
  refine va_get (D := (dC, dI)) (ci := 10) (v := .ref xHall) (C := RX11) (T := TX11) (N := 15) hx hb hts uinX11 hown hK hP 0 rfl rfl 1 (by decide) (hts _ wd_2_66) (fun _ h9 => h9) rfl dX11_round_1 ?_
  have hPc := hP.sub (ws' := [(xHall, .inr (2, [.int 0, .int 0, .int 0, .int 0, .int 0, .int 0, .ref a_first, .ref a_now, .ref a_lawPlace, .ref a_lawOther, .ref a_lawEach, .ref a_lawFrom, .ref a_foes, .ref a_suitTable, .ref a_acts]))]) [1] rfl
  have hKc := hK.sub (tys' := [(cyI, .int), (cyB, .byte), (cyJ, .long), (cyZ, .boolean), (cyH, .object RX2), (cyN, .array .long)]) [0, 1, 2, 3, 4, 5] rfl
  refine vp_callSi (va_Run.run (va_runV (As := []) (rest := []) ⟨hx, hb, hml, hown, hts⟩ (c_isNone l dC dI cyI cyB cyJ cyZ cyH cyN xHall a_first a_now a_lawPlace a_lawOther a_lawEach a_lawFrom a_foes a_suitTable a_acts) (cwV 0 hts (gdV wd_3_130 wd_3_131 wd_3_132 wd_1_3 wd_3_133) rfl rfl rfl (by decide +kernel) ⟨Nat.le_of_ble_eq_true rfl, Nat.le_of_ble_eq_true rfl⟩) ⟨fun a U g mk q => by obtain ⟨q0, qP, qK⟩ := q; exact ⟨q0, qP, va_K.moved (u := U) (U := U.calling g mk a) (Vm.Alike.refl U.vm) qK⟩, va_recv hKc hPc (ci := 2) (q0 := 0) rfl rfl, fun U hU hW => ⟨rfl, by rw [hU]; exact hPc, va_K.moved hW.alike hKc⟩⟩ rfl rfl hl.1 rfl (lv_room (Nat.le_of_ble_eq_true rfl)) dX11_round_4 ⟨Nat.le_of_ble_eq_true rfl, Nat.le_of_ble_eq_true rfl⟩)) (fun r_1 hw => ?_)
  subst hw
  refine lv_if_eq (tgt := 13) hx hb dX11_round_7 (by decide) (fun c_2 => absurd c_2 (by decide)) (fun _ => ?_)
  refine lv_bipush (v := (-2)) hx hb dX11_round_10 (by decide) ?_
  exact W.iret (v := (-2)) hx hb hr (fun t ht hW => ⟨(-2), rfl, rfl, ht⟩) (fun q h => by cases h) dX11_round_12

/- X11_comes -/
set_option maxHeartbeats 4000000 in
set_option maxRecDepth 100000 in
theorem c_comes (l : Launch) (dC : Nat → ClassId) (dI : Nat → Nat → Nat) (cyI cyB cyJ cyZ cyH cyN : ClassId) (x xTape xHall xDraft xImages xKept xSlots xCourse xSight xParting xSuiting xGame xLots xTold xTried a_first a_now a_lawPlace a_lawOther a_lawEach a_lawFrom a_foes a_suitTable a_acts : Nat) (p0 p1 : Int32) : Met l yX11_comes (wk yX11_comes cX11_comes 4 (some .int)) ({ frames := 2, cells := 0, slots := 0, locals := 81 }) (va_Pc [.ref x, .int p0, .int p1] (fun U => va_P (dC, dI) vwCl [(x, .inr (10, [.ref xTape, .ref xHall, .ref xDraft, .ref xImages, .ref xKept, .ref xSlots, .ref xCourse, .ref xSight, .ref xParting, .ref xSuiting, .ref xGame, .ref xLots, .ref xTold, .ref xTried, .null])), (xHall, .inr (2, [.int 0, .int 0, .int 0, .int 0, .int 0, .int 0, .ref a_first, .ref a_now, .ref a_lawPlace, .ref a_lawOther, .ref a_lawEach, .ref a_lawFrom, .ref a_foes, .ref a_suitTable, .ref a_acts]))] U.heap ∧ va_K (dC, dI) vwCl [(cyI, .int), (cyB, .byte), (cyJ, .long), (cyZ, .boolean), (cyH, .object RX2), (cyN, .array .long)] U)) (vp_Si (fun r : Int32 => r = (-2))) 0 0 (fun _ => False) := by
  refine Met.ofW (cc := cX11_comes) (maxL := 4) (ret := (some .int)) (by decide) rfl ?_
  intro p e s m args below meth c s₁ B hml hv
  obtain ⟨rfl, hP, hK⟩ := hv
  have hx := B.exec
  have hb := B.bytes
  have hr := B.returns
  have hts : ∀ w ∈ uU, w.before ([.ref x, .int p0, .int p1] : List Value).toArray s = true := fun w h => atoms_spec (ws := wk yX11_comes cX11_comes 4 (some .int)) B.pre w (List.mem_cons_of_mem _ h)
  have hown : s.vm.findClass RX11 = some m.cls := findClass_of_methodNamed B.named
  have hlocks := B.notSynchronized
  have hl := lv_entry ([.ref x, .int p0, .int p1]) (n := 4) (Nat.le_of_ble_eq_true rfl)
  rw [lg_entry_eq]
  generalize (lg_sl ([.ref x, .int p0, .int p1]) ++ List.replicate (4 - (lg_sl ([.ref x, .int p0, .int p1])).length) Slot.unset).toArray = ls at hl ⊢
  have hl : lv_has ls 4 [(0, .ref x), (1, .int p0), (2, .int p1)] := hl
  refine lv_aload_n hx hb dX11_comes_0 rfl (lv_at hl 0 rfl) ?_
  refine va_get (D := (dC, dI)) (ci := 10) (v := .ref xHall) (C := RX11) (T := TX11) (N := 15) hx hb hts uinX11 hown hK hP 0 rfl rfl 1 (by decide) (hts _ wd_2_66) (fun _ h9 => h9) rfl dX11_comes_1 ?_
  refine lv_iload_n hx hb dX11_comes_4 rfl (lv_at hl 1 rfl) ?_
  have hPc := hP.sub (ws' := [(xHall, .inr (2, [.int 0, .int 0, .int 0, .int 0, .int 0, .int 0, .ref a_first, .ref a_now, .ref a_lawPlace, .ref a_lawOther, .ref a_lawEach, .ref a_lawFrom, .ref a_foes, .ref a_suitTable, .ref a_acts]))]) [1] rfl
  have hKc := hK.sub (tys' := [(cyI, .int), (cyB, .byte), (cyJ, .long), (cyZ, .boolean), (cyH, .object RX2), (cyN, .array .long)]) [0, 1, 2, 3, 4, 5] rfl
  refine vp_callSi (va_Run.run (va_runV (As := [.int p0]) (rest := []) ⟨hx, hb, hml, hown, hts⟩ (c_holds l dC dI cyI cyB cyJ cyZ cyH cyN xHall a_first a_now a_lawPlace a_lawOther a_lawEach a_lawFrom a_foes a_suitTable a_acts p0) (cwV 1 hts (gdV wd_3_56 wd_3_57 wd_3_58 wd_1_3 wd_3_59) rfl rfl rfl (by decide +kernel) ⟨Nat.le_of_ble_eq_true rfl, Nat.le_of_ble_eq_true rfl⟩) ⟨fun a U g mk q => by obtain ⟨q0, qP, qK⟩ := q; exact ⟨q0, qP, va_K.moved (u := U) (U := U.calling g mk a) (Vm.Alike.refl U.vm) qK⟩, va_recv hKc hPc (ci := 2) (q0 := 0) rfl rfl, fun U hU hW => ⟨rfl, by rw [hU]; exact hPc, va_K.moved hW.alike hKc⟩⟩ rfl rfl hl.1 rfl (lv_room (Nat.le_of_ble_eq_true rfl)) dX11_comes_5 ⟨Nat.le_of_ble_eq_true rfl, Nat.le_of_ble_eq_true rfl⟩)) (fun r_1 hw => ?_)
  subst hw
  refine lv_if_eq (tgt := 22) hx hb dX11_comes_8 (by decide) (fun _ => ?_) (fun c_2 => absurd c_2 (by decide))
  refine lv_bipush (v := (-2)) hx hb dX11_comes_22 (by decide) ?_
  exact W.iret (v := (-2)) hx hb hr (fun t ht hW => ⟨(-2), rfl, rfl, ht⟩) (fun q h => by cases h) dX11_comes_24

/- X11_meet -/
set_option maxHeartbeats 4000000 in
set_option maxRecDepth 100000 in
theorem c_meet (l : Launch) (dC : Nat → ClassId) (dI : Nat → Nat → Nat) (cyI cyB cyJ cyZ cyH cyN : ClassId) (x xTape xHall xDraft xImages xKept xSlots xCourse xSight xParting xSuiting xGame xLots xTold xTried a_first a_now a_lawPlace a_lawOther a_lawEach a_lawFrom a_foes a_suitTable a_acts : Nat) (p0 p1 : Int32) : Met l yX11_meet (wk yX11_meet cX11_meet 4 (some .int)) ({ frames := 2, cells := 0, slots := 0, locals := 81 }) (va_Pc [.ref x, .int p0, .int p1] (fun U => va_P (dC, dI) vwCl [(x, .inr (10, [.ref xTape, .ref xHall, .ref xDraft, .ref xImages, .ref xKept, .ref xSlots, .ref xCourse, .ref xSight, .ref xParting, .ref xSuiting, .ref xGame, .ref xLots, .ref xTold, .ref xTried, .null])), (xHall, .inr (2, [.int 0, .int 0, .int 0, .int 0, .int 0, .int 0, .ref a_first, .ref a_now, .ref a_lawPlace, .ref a_lawOther, .ref a_lawEach, .ref a_lawFrom, .ref a_foes, .ref a_suitTable, .ref a_acts]))] U.heap ∧ va_K (dC, dI) vwCl [(cyI, .int), (cyB, .byte), (cyJ, .long), (cyZ, .boolean), (cyH, .object RX2), (cyN, .array .long)] U)) (vp_Si (fun r : Int32 => r = (-2))) 0 0 (fun _ => False) := by
  refine Met.ofW (cc := cX11_meet) (maxL := 4) (ret := (some .int)) (by decide) rfl ?_
  intro p e s m args below meth c s₁ B hml hv
  obtain ⟨rfl, hP, hK⟩ := hv
  have hx := B.exec
  have hb := B.bytes
  have hr := B.returns
  have hts : ∀ w ∈ uU, w.before ([.ref x, .int p0, .int p1] : List Value).toArray s = true := fun w h => atoms_spec (ws := wk yX11_meet cX11_meet 4 (some .int)) B.pre w (List.mem_cons_of_mem _ h)
  have hown : s.vm.findClass RX11 = some m.cls := findClass_of_methodNamed B.named
  have hlocks := B.notSynchronized
  have hl := lv_entry ([.ref x, .int p0, .int p1]) (n := 4) (Nat.le_of_ble_eq_true rfl)
  rw [lg_entry_eq]
  generalize (lg_sl ([.ref x, .int p0, .int p1]) ++ List.replicate (4 - (lg_sl ([.ref x, .int p0, .int p1])).length) Slot.unset).toArray = ls at hl ⊢
  have hl : lv_has ls 4 [(0, .ref x), (1, .int p0), (2, .int p1)] := hl
  refine lv_aload_n hx hb dX11_meet_0 rfl (lv_at hl 0 rfl) ?_
  refine va_get (D := (dC, dI)) (ci := 10) (v := .ref xHall) (C := RX11) (T := TX11) (N := 15) hx hb hts uinX11 hown hK hP 0 rfl rfl 1 (by decide) (hts _ wd_2_66) (fun _ h9 => h9) rfl dX11_meet_1 ?_
  refine lv_iload_n hx hb dX11_meet_4 rfl (lv_at hl 1 rfl) ?_
  have hPc := hP.sub (ws' := [(xHall, .inr (2, [.int 0, .int 0, .int 0, .int 0, .int 0, .int 0, .ref a_first, .ref a_now, .ref a_lawPlace, .ref a_lawOther, .ref a_lawEach, .ref a_lawFrom, .ref a_foes, .ref a_suitTable, .ref a_acts]))]) [1] rfl
  have hKc := hK.sub (tys' := [(cyI, .int), (cyB, .byte), (cyJ, .long), (cyZ, .boolean), (cyH, .object RX2), (cyN, .array .long)]) [0, 1, 2, 3, 4, 5] rfl
  refine vp_callSi (va_Run.run (va_runV (As := [.int p0]) (rest := []) ⟨hx, hb, hml, hown, hts⟩ (c_holds l dC dI cyI cyB cyJ cyZ cyH cyN xHall a_first a_now a_lawPlace a_lawOther a_lawEach a_lawFrom a_foes a_suitTable a_acts p0) (cwV 1 hts (gdV wd_3_56 wd_3_57 wd_3_58 wd_1_3 wd_3_59) rfl rfl rfl (by decide +kernel) ⟨Nat.le_of_ble_eq_true rfl, Nat.le_of_ble_eq_true rfl⟩) ⟨fun a U g mk q => by obtain ⟨q0, qP, qK⟩ := q; exact ⟨q0, qP, va_K.moved (u := U) (U := U.calling g mk a) (Vm.Alike.refl U.vm) qK⟩, va_recv hKc hPc (ci := 2) (q0 := 0) rfl rfl, fun U hU hW => ⟨rfl, by rw [hU]; exact hPc, va_K.moved hW.alike hKc⟩⟩ rfl rfl hl.1 rfl (lv_room (Nat.le_of_ble_eq_true rfl)) dX11_meet_5 ⟨Nat.le_of_ble_eq_true rfl, Nat.le_of_ble_eq_true rfl⟩)) (fun r_1 hw => ?_)
  subst hw
  refine lv_if_eq (tgt := 27) hx hb dX11_meet_8 (by decide) (fun _ => ?_) (fun c_2 => absurd c_2 (by decide))
  refine lv_bipush (v := (-2)) hx hb dX11_meet_27 (by decide) ?_
  exact W.iret (v := (-2)) hx hb hr (fun t ht hW => ⟨(-2), rfl, rfl, ht⟩) (fun q h => by cases h) dX11_meet_29

/- X11_tonight -/
set_option maxHeartbeats 4000000 in
set_option maxRecDepth 100000 in
theorem c_tonight (l : Launch) (dC : Nat → ClassId) (dI : Nat → Nat → Nat) (cyI cyB cyJ cyZ cyH cyN : ClassId) (x xTape xHall xDraft xImages xKept xSlots xCourse xSight xParting xSuiting xGame xLots xTold xTried a_first a_now a_lawPlace a_lawOther a_lawEach a_lawFrom a_foes a_suitTable a_acts : Nat) (p0 : Int32) : Met l yX11_tonight (wk yX11_tonight cX11_tonight 2 (some .int)) ({ frames := 2, cells := 0, slots := 0, locals := 80 }) (va_Pc [.ref x, .int p0] (fun U => va_P (dC, dI) vwCl [(x, .inr (10, [.ref xTape, .ref xHall, .ref xDraft, .ref xImages, .ref xKept, .ref xSlots, .ref xCourse, .ref xSight, .ref xParting, .ref xSuiting, .ref xGame, .ref xLots, .ref xTold, .ref xTried, .null])), (xHall, .inr (2, [.int 0, .int 0, .int 0, .int 0, .int 0, .int 0, .ref a_first, .ref a_now, .ref a_lawPlace, .ref a_lawOther, .ref a_lawEach, .ref a_lawFrom, .ref a_foes, .ref a_suitTable, .ref a_acts]))] U.heap ∧ va_K (dC, dI) vwCl [(cyI, .int), (cyB, .byte), (cyJ, .long), (cyZ, .boolean), (cyH, .object RX2), (cyN, .array .long)] U)) (vp_Si (fun r : Int32 => r = (-2))) 0 0 (fun _ => False) := by
  refine Met.ofW (cc := cX11_tonight) (maxL := 2) (ret := (some .int)) (by decide) rfl ?_
  intro p e s m args below meth c s₁ B hml hv
  obtain ⟨rfl, hP, hK⟩ := hv
  have hx := B.exec
  have hb := B.bytes
  have hr := B.returns
  have hts : ∀ w ∈ uU, w.before ([.ref x, .int p0] : List Value).toArray s = true := fun w h => atoms_spec (ws := wk yX11_tonight cX11_tonight 2 (some .int)) B.pre w (List.mem_cons_of_mem _ h)
  have hown : s.vm.findClass RX11 = some m.cls := findClass_of_methodNamed B.named
  have hlocks := B.notSynchronized
  have hl := lv_entry ([.ref x, .int p0]) (n := 2) (Nat.le_of_ble_eq_true rfl)
  rw [lg_entry_eq]
  generalize (lg_sl ([.ref x, .int p0]) ++ List.replicate (2 - (lg_sl ([.ref x, .int p0])).length) Slot.unset).toArray = ls at hl ⊢
  have hl : lv_has ls 2 [(0, .ref x), (1, .int p0)] := hl
  refine lv_aload_n hx hb dX11_tonight_0 rfl (lv_at hl 0 rfl) ?_
  refine va_get (D := (dC, dI)) (ci := 10) (v := .ref xHall) (C := RX11) (T := TX11) (N := 15) hx hb hts uinX11 hown hK hP 0 rfl rfl 1 (by decide) (hts _ wd_2_66) (fun _ h9 => h9) rfl dX11_tonight_1 ?_
  have hPc := hP.sub (ws' := [(xHall, .inr (2, [.int 0, .int 0, .int 0, .int 0, .int 0, .int 0, .ref a_first, .ref a_now, .ref a_lawPlace, .ref a_lawOther, .ref a_lawEach, .ref a_lawFrom, .ref a_foes, .ref a_suitTable, .ref a_acts]))]) [1] rfl
  have hKc := hK.sub (tys' := [(cyI, .int), (cyB, .byte), (cyJ, .long), (cyZ, .boolean), (cyH, .object RX2), (cyN, .array .long)]) [0, 1, 2, 3, 4, 5] rfl
  refine vp_callSi (va_Run.run (va_runV (As := []) (rest := []) ⟨hx, hb, hml, hown, hts⟩ (c_isNone l dC dI cyI cyB cyJ cyZ cyH cyN xHall a_first a_now a_lawPlace a_lawOther a_lawEach a_lawFrom a_foes a_suitTable a_acts) (cwV 0 hts (gdV wd_3_130 wd_3_131 wd_3_132 wd_1_3 wd_3_133) rfl rfl rfl (by decide +kernel) ⟨Nat.le_of_ble_eq_true rfl, Nat.le_of_ble_eq_true rfl⟩) ⟨fun a U g mk q => by obtain ⟨q0, qP, qK⟩ := q; exact ⟨q0, qP, va_K.moved (u := U) (U := U.calling g mk a) (Vm.Alike.refl U.vm) qK⟩, va_recv hKc hPc (ci := 2) (q0 := 0) rfl rfl, fun U hU hW => ⟨rfl, by rw [hU]; exact hPc, va_K.moved hW.alike hKc⟩⟩ rfl rfl hl.1 rfl (lv_room (Nat.le_of_ble_eq_true rfl)) dX11_tonight_4 ⟨Nat.le_of_ble_eq_true rfl, Nat.le_of_ble_eq_true rfl⟩)) (fun r_1 hw => ?_)
  subst hw
  refine lv_if_ne (tgt := 20) hx hb dX11_tonight_7 (by decide) (fun _ => ?_) (fun c_2 => absurd c_2 (by decide))
  refine lv_bipush (v := (-2)) hx hb dX11_tonight_20 (by decide) ?_
  exact W.iret (v := (-2)) hx hb hr (fun t ht hW => ⟨(-2), rfl, rfl, ht⟩) (fun q h => by cases h) dX11_tonight_22

/- X11_odd -/
set_option maxHeartbeats 4000000 in
set_option maxRecDepth 100000 in
theorem c_odd (l : Launch) (dC : Nat → ClassId) (dI : Nat → Nat → Nat) (cyI cyB cyJ cyZ cyH cyN : ClassId) (x xTape xHall xDraft xImages xKept xSlots xCourse xSight xParting xSuiting xGame xLots xTold xTried a_first a_now a_lawPlace a_lawOther a_lawEach a_lawFrom a_foes a_suitTable a_acts : Nat) : Met l yX11_odd (wk yX11_odd cX11_odd 1 (some .int)) ({ frames := 2, cells := 0, slots := 0, locals := 80 }) (va_Pc [.ref x] (fun U => va_P (dC, dI) vwCl [(x, .inr (10, [.ref xTape, .ref xHall, .ref xDraft, .ref xImages, .ref xKept, .ref xSlots, .ref xCourse, .ref xSight, .ref xParting, .ref xSuiting, .ref xGame, .ref xLots, .ref xTold, .ref xTried, .null])), (xHall, .inr (2, [.int 0, .int 0, .int 0, .int 0, .int 0, .int 0, .ref a_first, .ref a_now, .ref a_lawPlace, .ref a_lawOther, .ref a_lawEach, .ref a_lawFrom, .ref a_foes, .ref a_suitTable, .ref a_acts]))] U.heap ∧ va_K (dC, dI) vwCl [(cyI, .int), (cyB, .byte), (cyJ, .long), (cyZ, .boolean), (cyH, .object RX2), (cyN, .array .long)] U)) (vp_Si (fun r : Int32 => r = (-2))) 0 0 (fun _ => False) := by
  refine Met.ofW (cc := cX11_odd) (maxL := 1) (ret := (some .int)) (by decide) rfl ?_
  intro p e s m args below meth c s₁ B hml hv
  obtain ⟨rfl, hP, hK⟩ := hv
  have hx := B.exec
  have hb := B.bytes
  have hr := B.returns
  have hts : ∀ w ∈ uU, w.before ([.ref x] : List Value).toArray s = true := fun w h => atoms_spec (ws := wk yX11_odd cX11_odd 1 (some .int)) B.pre w (List.mem_cons_of_mem _ h)
  have hown : s.vm.findClass RX11 = some m.cls := findClass_of_methodNamed B.named
  have hlocks := B.notSynchronized
  have hl := lv_entry ([.ref x]) (n := 1) (Nat.le_of_ble_eq_true rfl)
  rw [lg_entry_eq]
  generalize (lg_sl ([.ref x]) ++ List.replicate (1 - (lg_sl ([.ref x])).length) Slot.unset).toArray = ls at hl ⊢
  have hl : lv_has ls 1 [(0, .ref x)] := hl
  refine lv_aload_n hx hb dX11_odd_0 rfl (lv_at hl 0 rfl) ?_
  refine va_get (D := (dC, dI)) (ci := 10) (v := .ref xHall) (C := RX11) (T := TX11) (N := 15) hx hb hts uinX11 hown hK hP 0 rfl rfl 1 (by decide) (hts _ wd_2_66) (fun _ h9 => h9) rfl dX11_odd_1 ?_
  have hPc := hP.sub (ws' := [(xHall, .inr (2, [.int 0, .int 0, .int 0, .int 0, .int 0, .int 0, .ref a_first, .ref a_now, .ref a_lawPlace, .ref a_lawOther, .ref a_lawEach, .ref a_lawFrom, .ref a_foes, .ref a_suitTable, .ref a_acts]))]) [1] rfl
  have hKc := hK.sub (tys' := [(cyI, .int), (cyB, .byte), (cyJ, .long), (cyZ, .boolean), (cyH, .object RX2), (cyN, .array .long)]) [0, 1, 2, 3, 4, 5] rfl
  refine vp_callSi (va_Run.run (va_runV (As := []) (rest := []) ⟨hx, hb, hml, hown, hts⟩ (c_isNone l dC dI cyI cyB cyJ cyZ cyH cyN xHall a_first a_now a_lawPlace a_lawOther a_lawEach a_lawFrom a_foes a_suitTable a_acts) (cwV 0 hts (gdV wd_3_130 wd_3_131 wd_3_132 wd_1_3 wd_3_133) rfl rfl rfl (by decide +kernel) ⟨Nat.le_of_ble_eq_true rfl, Nat.le_of_ble_eq_true rfl⟩) ⟨fun a U g mk q => by obtain ⟨q0, qP, qK⟩ := q; exact ⟨q0, qP, va_K.moved (u := U) (U := U.calling g mk a) (Vm.Alike.refl U.vm) qK⟩, va_recv hKc hPc (ci := 2) (q0 := 0) rfl rfl, fun U hU hW => ⟨rfl, by rw [hU]; exact hPc, va_K.moved hW.alike hKc⟩⟩ rfl rfl hl.1 rfl (lv_room (Nat.le_of_ble_eq_true rfl)) dX11_odd_4 ⟨Nat.le_of_ble_eq_true rfl, Nat.le_of_ble_eq_true rfl⟩)) (fun r_1 hw => ?_)
  subst hw
  refine lv_if_eq (tgt := 15) hx hb dX11_odd_7 (by decide) (fun c_2 => absurd c_2 (by decide)) (fun _ => ?_)
  refine lv_bipush (v := (-2)) hx hb dX11_odd_10 (by decide) ?_
  refine lv_goto (tgt := 24) hx hb dX11_odd_12 (by decide) ?_
  exact W.iret (v := (-2)) hx hb hr (fun t ht hW => ⟨(-2), rfl, rfl, ht⟩) (fun q h => by cases h) dX11_odd_24

/- X11_swaps -/
set_option maxHeartbeats 4000000 in
set_option maxRecDepth 100000 in
theorem c_swaps (l : Launch) (dC : Nat → ClassId) (dI : Nat → Nat → Nat) (cyI cyB cyJ cyZ cyH cyN : ClassId) (x xTape xHall xDraft xImages xKept xSlots xCourse xSight xParting xSuiting xGame xLots xTold xTried a_first a_now a_lawPlace a_lawOther a_lawEach a_lawFrom a_foes a_suitTable a_acts : Nat) : Met l yX11_swaps (wk yX11_swaps cX11_swaps 1 (some .int)) ({ frames := 2, cells := 0, slots := 0, locals := 80 }) (va_Pc [.ref x] (fun U => va_P (dC, dI) vwCl [(x, .inr (10, [.ref xTape, .ref xHall, .ref xDraft, .ref xImages, .ref xKept, .ref xSlots, .ref xCourse, .ref xSight, .ref xParting, .ref xSuiting, .ref xGame, .ref xLots, .ref xTold, .ref xTried, .null])), (xHall, .inr (2, [.int 0, .int 0, .int 0, .int 0, .int 0, .int 0, .ref a_first, .ref a_now, .ref a_lawPlace, .ref a_lawOther, .ref a_lawEach, .ref a_lawFrom, .ref a_foes, .ref a_suitTable, .ref a_acts]))] U.heap ∧ va_K (dC, dI) vwCl [(cyI, .int), (cyB, .byte), (cyJ, .long), (cyZ, .boolean), (cyH, .object RX2), (cyN, .array .long)] U)) (vp_Si (fun r : Int32 => r = (-2))) 0 0 (fun _ => False) := by
  refine Met.ofW (cc := cX11_swaps) (maxL := 1) (ret := (some .int)) (by decide) rfl ?_
  intro p e s m args below meth c s₁ B hml hv
  obtain ⟨rfl, hP, hK⟩ := hv
  have hx := B.exec
  have hb := B.bytes
  have hr := B.returns
  have hts : ∀ w ∈ uU, w.before ([.ref x] : List Value).toArray s = true := fun w h => atoms_spec (ws := wk yX11_swaps cX11_swaps 1 (some .int)) B.pre w (List.mem_cons_of_mem _ h)
  have hown : s.vm.findClass RX11 = some m.cls := findClass_of_methodNamed B.named
  have hlocks := B.notSynchronized
  have hl := lv_entry ([.ref x]) (n := 1) (Nat.le_of_ble_eq_true rfl)
  rw [lg_entry_eq]
  generalize (lg_sl ([.ref x]) ++ List.replicate (1 - (lg_sl ([.ref x])).length) Slot.unset).toArray = ls at hl ⊢
  have hl : lv_has ls 1 [(0, .ref x)] := hl
  refine lv_aload_n hx hb dX11_swaps_0 rfl (lv_at hl 0 rfl) ?_
  refine va_get (D := (dC, dI)) (ci := 10) (v := .ref xHall) (C := RX11) (T := TX11) (N := 15) hx hb hts uinX11 hown hK hP 0 rfl rfl 1 (by decide) (hts _ wd_2_66) (fun _ h9 => h9) rfl dX11_swaps_1 ?_
  have hPc := hP.sub (ws' := [(xHall, .inr (2, [.int 0, .int 0, .int 0, .int 0, .int 0, .int 0, .ref a_first, .ref a_now, .ref a_lawPlace, .ref a_lawOther, .ref a_lawEach, .ref a_lawFrom, .ref a_foes, .ref a_suitTable, .ref a_acts]))]) [1] rfl
  have hKc := hK.sub (tys' := [(cyI, .int), (cyB, .byte), (cyJ, .long), (cyZ, .boolean), (cyH, .object RX2), (cyN, .array .long)]) [0, 1, 2, 3, 4, 5] rfl
  refine vp_callSi (va_Run.run (va_runV (As := []) (rest := []) ⟨hx, hb, hml, hown, hts⟩ (c_isNone l dC dI cyI cyB cyJ cyZ cyH cyN xHall a_first a_now a_lawPlace a_lawOther a_lawEach a_lawFrom a_foes a_suitTable a_acts) (cwV 0 hts (gdV wd_3_130 wd_3_131 wd_3_132 wd_1_3 wd_3_133) rfl rfl rfl (by decide +kernel) ⟨Nat.le_of_ble_eq_true rfl, Nat.le_of_ble_eq_true rfl⟩) ⟨fun a U g mk q => by obtain ⟨q0, qP, qK⟩ := q; exact ⟨q0, qP, va_K.moved (u := U) (U := U.calling g mk a) (Vm.Alike.refl U.vm) qK⟩, va_recv hKc hPc (ci := 2) (q0 := 0) rfl rfl, fun U hU hW => ⟨rfl, by rw [hU]; exact hPc, va_K.moved hW.alike hKc⟩⟩ rfl rfl hl.1 rfl (lv_room (Nat.le_of_ble_eq_true rfl)) dX11_swaps_4 ⟨Nat.le_of_ble_eq_true rfl, Nat.le_of_ble_eq_true rfl⟩)) (fun r_1 hw => ?_)
  subst hw
  refine lv_if_eq (tgt := 15) hx hb dX11_swaps_7 (by decide) (fun c_2 => absurd c_2 (by decide)) (fun _ => ?_)
  refine lv_bipush (v := (-2)) hx hb dX11_swaps_10 (by decide) ?_
  refine lv_goto (tgt := 22) hx hb dX11_swaps_12 (by decide) ?_
  exact W.iret (v := (-2)) hx hb hr (fun t ht hW => ⟨(-2), rfl, rfl, ht⟩) (fun q h => by cases h) dX11_swaps_22

/- X11_steps -/
set_option maxHeartbeats 4000000 in
set_option maxRecDepth 100000 in
theorem c_steps (l : Launch) (dC : Nat → ClassId) (dI : Nat → Nat → Nat) (cyI cyB cyJ cyZ cyH cyN : ClassId) (x xTape xHall xDraft xImages xKept xSlots xCourse xSight xParting xSuiting xGame xLots xTold xTried a_first a_now a_lawPlace a_lawOther a_lawEach a_lawFrom a_foes a_suitTable a_acts : Nat) : Met l yX11_steps (wk yX11_steps cX11_steps 1 (some .int)) ({ frames := 2, cells := 0, slots := 0, locals := 80 }) (va_Pc [.ref x] (fun U => va_P (dC, dI) vwCl [(x, .inr (10, [.ref xTape, .ref xHall, .ref xDraft, .ref xImages, .ref xKept, .ref xSlots, .ref xCourse, .ref xSight, .ref xParting, .ref xSuiting, .ref xGame, .ref xLots, .ref xTold, .ref xTried, .null])), (xHall, .inr (2, [.int 0, .int 0, .int 0, .int 0, .int 0, .int 0, .ref a_first, .ref a_now, .ref a_lawPlace, .ref a_lawOther, .ref a_lawEach, .ref a_lawFrom, .ref a_foes, .ref a_suitTable, .ref a_acts]))] U.heap ∧ va_K (dC, dI) vwCl [(cyI, .int), (cyB, .byte), (cyJ, .long), (cyZ, .boolean), (cyH, .object RX2), (cyN, .array .long)] U)) (vp_Si (fun r : Int32 => r = (-2))) 0 0 (fun _ => False) := by
  refine Met.ofW (cc := cX11_steps) (maxL := 1) (ret := (some .int)) (by decide) rfl ?_
  intro p e s m args below meth c s₁ B hml hv
  obtain ⟨rfl, hP, hK⟩ := hv
  have hx := B.exec
  have hb := B.bytes
  have hr := B.returns
  have hts : ∀ w ∈ uU, w.before ([.ref x] : List Value).toArray s = true := fun w h => atoms_spec (ws := wk yX11_steps cX11_steps 1 (some .int)) B.pre w (List.mem_cons_of_mem _ h)
  have hown : s.vm.findClass RX11 = some m.cls := findClass_of_methodNamed B.named
  have hlocks := B.notSynchronized
  have hl := lv_entry ([.ref x]) (n := 1) (Nat.le_of_ble_eq_true rfl)
  rw [lg_entry_eq]
  generalize (lg_sl ([.ref x]) ++ List.replicate (1 - (lg_sl ([.ref x])).length) Slot.unset).toArray = ls at hl ⊢
  have hl : lv_has ls 1 [(0, .ref x)] := hl
  refine lv_aload_n hx hb dX11_steps_0 rfl (lv_at hl 0 rfl) ?_
  refine va_get (D := (dC, dI)) (ci := 10) (v := .ref xHall) (C := RX11) (T := TX11) (N := 15) hx hb hts uinX11 hown hK hP 0 rfl rfl 1 (by decide) (hts _ wd_2_66) (fun _ h9 => h9) rfl dX11_steps_1 ?_
  have hPc := hP.sub (ws' := [(xHall, .inr (2, [.int 0, .int 0, .int 0, .int 0, .int 0, .int 0, .ref a_first, .ref a_now, .ref a_lawPlace, .ref a_lawOther, .ref a_lawEach, .ref a_lawFrom, .ref a_foes, .ref a_suitTable, .ref a_acts]))]) [1] rfl
  have hKc := hK.sub (tys' := [(cyI, .int), (cyB, .byte), (cyJ, .long), (cyZ, .boolean), (cyH, .object RX2), (cyN, .array .long)]) [0, 1, 2, 3, 4, 5] rfl
  refine vp_callSi (va_Run.run (va_runV (As := []) (rest := []) ⟨hx, hb, hml, hown, hts⟩ (c_isNone l dC dI cyI cyB cyJ cyZ cyH cyN xHall a_first a_now a_lawPlace a_lawOther a_lawEach a_lawFrom a_foes a_suitTable a_acts) (cwV 0 hts (gdV wd_3_130 wd_3_131 wd_3_132 wd_1_3 wd_3_133) rfl rfl rfl (by decide +kernel) ⟨Nat.le_of_ble_eq_true rfl, Nat.le_of_ble_eq_true rfl⟩) ⟨fun a U g mk q => by obtain ⟨q0, qP, qK⟩ := q; exact ⟨q0, qP, va_K.moved (u := U) (U := U.calling g mk a) (Vm.Alike.refl U.vm) qK⟩, va_recv hKc hPc (ci := 2) (q0 := 0) rfl rfl, fun U hU hW => ⟨rfl, by rw [hU]; exact hPc, va_K.moved hW.alike hKc⟩⟩ rfl rfl hl.1 rfl (lv_room (Nat.le_of_ble_eq_true rfl)) dX11_steps_4 ⟨Nat.le_of_ble_eq_true rfl, Nat.le_of_ble_eq_true rfl⟩)) (fun r_1 hw => ?_)
  subst hw
  refine lv_if_eq (tgt := 15) hx hb dX11_steps_7 (by decide) (fun c_2 => absurd c_2 (by decide)) (fun _ => ?_)
  refine lv_bipush (v := (-2)) hx hb dX11_steps_10 (by decide) ?_
  refine lv_goto (tgt := 32) hx hb dX11_steps_12 (by decide) ?_
  exact W.iret (v := (-2)) hx hb hr (fun t ht hW => ⟨(-2), rfl, rfl, ht⟩) (fun q h => by cases h) dX11_steps_32

/- X11_rings -/
set_option maxHeartbeats 4000000 in
set_option maxRecDepth 100000 in
theorem c_rings (l : Launch) (dC : Nat → ClassId) (dI : Nat → Nat → Nat) (cyI cyB cyJ cyZ cyH cyN : ClassId) (x xTape xHall xDraft xImages xKept xSlots xCourse xSight xParting xSuiting xGame xLots xTold xTried a_first a_now a_lawPlace a_lawOther a_lawEach a_lawFrom a_foes a_suitTable a_acts : Nat) : Met l yX11_rings (wk yX11_rings cX11_rings 5 (some .int)) ({ frames := 2, cells := 0, slots := 0, locals := 80 }) (va_Pc [.ref x] (fun U => va_P (dC, dI) vwCl [(x, .inr (10, [.ref xTape, .ref xHall, .ref xDraft, .ref xImages, .ref xKept, .ref xSlots, .ref xCourse, .ref xSight, .ref xParting, .ref xSuiting, .ref xGame, .ref xLots, .ref xTold, .ref xTried, .null])), (xHall, .inr (2, [.int 0, .int 0, .int 0, .int 0, .int 0, .int 0, .ref a_first, .ref a_now, .ref a_lawPlace, .ref a_lawOther, .ref a_lawEach, .ref a_lawFrom, .ref a_foes, .ref a_suitTable, .ref a_acts]))] U.heap ∧ va_K (dC, dI) vwCl [(cyI, .int), (cyB, .byte), (cyJ, .long), (cyZ, .boolean), (cyH, .object RX2), (cyN, .array .long)] U)) (vp_Si (fun r : Int32 => r = (-2))) 0 0 (fun _ => False) := by
  refine Met.ofW (cc := cX11_rings) (maxL := 5) (ret := (some .int)) (by decide) rfl ?_
  intro p e s m args below meth c s₁ B hml hv
  obtain ⟨rfl, hP, hK⟩ := hv
  have hx := B.exec
  have hb := B.bytes
  have hr := B.returns
  have hts : ∀ w ∈ uU, w.before ([.ref x] : List Value).toArray s = true := fun w h => atoms_spec (ws := wk yX11_rings cX11_rings 5 (some .int)) B.pre w (List.mem_cons_of_mem _ h)
  have hown : s.vm.findClass RX11 = some m.cls := findClass_of_methodNamed B.named
  have hlocks := B.notSynchronized
  have hl := lv_entry ([.ref x]) (n := 5) (Nat.le_of_ble_eq_true rfl)
  rw [lg_entry_eq]
  generalize (lg_sl ([.ref x]) ++ List.replicate (5 - (lg_sl ([.ref x])).length) Slot.unset).toArray = ls at hl ⊢
  have hl : lv_has ls 5 [(0, .ref x)] := hl
  refine lv_aload_n hx hb dX11_rings_0 rfl (lv_at hl 0 rfl) ?_
  refine va_get (D := (dC, dI)) (ci := 10) (v := .ref xHall) (C := RX11) (T := TX11) (N := 15) hx hb hts uinX11 hown hK hP 0 rfl rfl 1 (by decide) (hts _ wd_2_66) (fun _ h9 => h9) rfl dX11_rings_1 ?_
  have hPc := hP.sub (ws' := [(xHall, .inr (2, [.int 0, .int 0, .int 0, .int 0, .int 0, .int 0, .ref a_first, .ref a_now, .ref a_lawPlace, .ref a_lawOther, .ref a_lawEach, .ref a_lawFrom, .ref a_foes, .ref a_suitTable, .ref a_acts]))]) [1] rfl
  have hKc := hK.sub (tys' := [(cyI, .int), (cyB, .byte), (cyJ, .long), (cyZ, .boolean), (cyH, .object RX2), (cyN, .array .long)]) [0, 1, 2, 3, 4, 5] rfl
  refine vp_callSi (va_Run.run (va_runV (As := []) (rest := []) ⟨hx, hb, hml, hown, hts⟩ (c_isNone l dC dI cyI cyB cyJ cyZ cyH cyN xHall a_first a_now a_lawPlace a_lawOther a_lawEach a_lawFrom a_foes a_suitTable a_acts) (cwV 0 hts (gdV wd_3_130 wd_3_131 wd_3_132 wd_1_3 wd_3_133) rfl rfl rfl (by decide +kernel) ⟨Nat.le_of_ble_eq_true rfl, Nat.le_of_ble_eq_true rfl⟩) ⟨fun a U g mk q => by obtain ⟨q0, qP, qK⟩ := q; exact ⟨q0, qP, va_K.moved (u := U) (U := U.calling g mk a) (Vm.Alike.refl U.vm) qK⟩, va_recv hKc hPc (ci := 2) (q0 := 0) rfl rfl, fun U hU hW => ⟨rfl, by rw [hU]; exact hPc, va_K.moved hW.alike hKc⟩⟩ rfl rfl hl.1 rfl (lv_room (Nat.le_of_ble_eq_true rfl)) dX11_rings_4 ⟨Nat.le_of_ble_eq_true rfl, Nat.le_of_ble_eq_true rfl⟩)) (fun r_1 hw => ?_)
  subst hw
  refine lv_if_eq (tgt := 13) hx hb dX11_rings_7 (by decide) (fun c_2 => absurd c_2 (by decide)) (fun _ => ?_)
  refine lv_bipush (v := (-2)) hx hb dX11_rings_10 (by decide) ?_
  exact W.iret (v := (-2)) hx hb hr (fun t ht hW => ⟨(-2), rfl, rfl, ht⟩) (fun q h => by cases h) dX11_rings_12

/- X11_stay -/
set_option maxHeartbeats 4000000 in
set_option maxRecDepth 100000 in
theorem c_stay (l : Launch) (dC : Nat → ClassId) (dI : Nat → Nat → Nat) (cyI cyB cyJ cyZ cyH cyN : ClassId) (x xTape xHall xDraft xImages xKept xSlots xCourse xSight xParting xSuiting xGame xLots xTold xTried a_first a_now a_lawPlace a_lawOther a_lawEach a_lawFrom a_foes a_suitTable a_acts : Nat) : Met l yX11_stay (wk yX11_stay cX11_stay 1 (some .int)) ({ frames := 2, cells := 0, slots := 0, locals := 80 }) (va_Pc [.ref x] (fun U => va_P (dC, dI) vwCl [(x, .inr (10, [.ref xTape, .ref xHall, .ref xDraft, .ref xImages, .ref xKept, .ref xSlots, .ref xCourse, .ref xSight, .ref xParting, .ref xSuiting, .ref xGame, .ref xLots, .ref xTold, .ref xTried, .null])), (xHall, .inr (2, [.int 0, .int 0, .int 0, .int 0, .int 0, .int 0, .ref a_first, .ref a_now, .ref a_lawPlace, .ref a_lawOther, .ref a_lawEach, .ref a_lawFrom, .ref a_foes, .ref a_suitTable, .ref a_acts]))] U.heap ∧ va_K (dC, dI) vwCl [(cyI, .int), (cyB, .byte), (cyJ, .long), (cyZ, .boolean), (cyH, .object RX2), (cyN, .array .long)] U)) (vp_Si (fun r : Int32 => r = (-2))) 0 0 (fun _ => False) := by
  refine Met.ofW (cc := cX11_stay) (maxL := 1) (ret := (some .int)) (by decide) rfl ?_
  intro p e s m args below meth c s₁ B hml hv
  obtain ⟨rfl, hP, hK⟩ := hv
  have hx := B.exec
  have hb := B.bytes
  have hr := B.returns
  have hts : ∀ w ∈ uU, w.before ([.ref x] : List Value).toArray s = true := fun w h => atoms_spec (ws := wk yX11_stay cX11_stay 1 (some .int)) B.pre w (List.mem_cons_of_mem _ h)
  have hown : s.vm.findClass RX11 = some m.cls := findClass_of_methodNamed B.named
  have hlocks := B.notSynchronized
  have hl := lv_entry ([.ref x]) (n := 1) (Nat.le_of_ble_eq_true rfl)
  rw [lg_entry_eq]
  generalize (lg_sl ([.ref x]) ++ List.replicate (1 - (lg_sl ([.ref x])).length) Slot.unset).toArray = ls at hl ⊢
  have hl : lv_has ls 1 [(0, .ref x)] := hl
  refine lv_aload_n hx hb dX11_stay_0 rfl (lv_at hl 0 rfl) ?_
  refine va_get (D := (dC, dI)) (ci := 10) (v := .ref xHall) (C := RX11) (T := TX11) (N := 15) hx hb hts uinX11 hown hK hP 0 rfl rfl 1 (by decide) (hts _ wd_2_66) (fun _ h9 => h9) rfl dX11_stay_1 ?_
  have hPc := hP.sub (ws' := [(xHall, .inr (2, [.int 0, .int 0, .int 0, .int 0, .int 0, .int 0, .ref a_first, .ref a_now, .ref a_lawPlace, .ref a_lawOther, .ref a_lawEach, .ref a_lawFrom, .ref a_foes, .ref a_suitTable, .ref a_acts]))]) [1] rfl
  have hKc := hK.sub (tys' := [(cyI, .int), (cyB, .byte), (cyJ, .long), (cyZ, .boolean), (cyH, .object RX2), (cyN, .array .long)]) [0, 1, 2, 3, 4, 5] rfl
  refine vp_callSi (va_Run.run (va_runV (As := []) (rest := []) ⟨hx, hb, hml, hown, hts⟩ (c_isNone l dC dI cyI cyB cyJ cyZ cyH cyN xHall a_first a_now a_lawPlace a_lawOther a_lawEach a_lawFrom a_foes a_suitTable a_acts) (cwV 0 hts (gdV wd_3_130 wd_3_131 wd_3_132 wd_1_3 wd_3_133) rfl rfl rfl (by decide +kernel) ⟨Nat.le_of_ble_eq_true rfl, Nat.le_of_ble_eq_true rfl⟩) ⟨fun a U g mk q => by obtain ⟨q0, qP, qK⟩ := q; exact ⟨q0, qP, va_K.moved (u := U) (U := U.calling g mk a) (Vm.Alike.refl U.vm) qK⟩, va_recv hKc hPc (ci := 2) (q0 := 0) rfl rfl, fun U hU hW => ⟨rfl, by rw [hU]; exact hPc, va_K.moved hW.alike hKc⟩⟩ rfl rfl hl.1 rfl (lv_room (Nat.le_of_ble_eq_true rfl)) dX11_stay_4 ⟨Nat.le_of_ble_eq_true rfl, Nat.le_of_ble_eq_true rfl⟩)) (fun r_1 hw => ?_)
  subst hw
  refine lv_if_eq (tgt := 15) hx hb dX11_stay_7 (by decide) (fun c_2 => absurd c_2 (by decide)) (fun _ => ?_)
  refine lv_bipush (v := (-2)) hx hb dX11_stay_10 (by decide) ?_
  refine lv_goto (tgt := 36) hx hb dX11_stay_12 (by decide) ?_
  exact W.iret (v := (-2)) hx hb hr (fun t ht hW => ⟨(-2), rfl, rfl, ht⟩) (fun q h => by cases h) dX11_stay_36

/- X11_ring -/
set_option maxHeartbeats 4000000 in
set_option maxRecDepth 100000 in
theorem c_ring (l : Launch) (dC : Nat → ClassId) (dI : Nat → Nat → Nat) (cyI cyB cyJ cyZ cyH cyN : ClassId) (x xTape xHall xDraft xImages xKept xSlots xCourse xSight xParting xSuiting xGame xLots xTold xTried a_first a_now a_lawPlace a_lawOther a_lawEach a_lawFrom a_foes a_suitTable a_acts : Nat) (p0 : Int32) : Met l yX11_ring (wk yX11_ring cX11_ring 2 (some .int)) ({ frames := 2, cells := 0, slots := 0, locals := 81 }) (va_Pc [.ref x, .int p0] (fun U => va_P (dC, dI) vwCl [(x, .inr (10, [.ref xTape, .ref xHall, .ref xDraft, .ref xImages, .ref xKept, .ref xSlots, .ref xCourse, .ref xSight, .ref xParting, .ref xSuiting, .ref xGame, .ref xLots, .ref xTold, .ref xTried, .null])), (xHall, .inr (2, [.int 0, .int 0, .int 0, .int 0, .int 0, .int 0, .ref a_first, .ref a_now, .ref a_lawPlace, .ref a_lawOther, .ref a_lawEach, .ref a_lawFrom, .ref a_foes, .ref a_suitTable, .ref a_acts]))] U.heap ∧ va_K (dC, dI) vwCl [(cyI, .int), (cyB, .byte), (cyJ, .long), (cyZ, .boolean), (cyH, .object RX2), (cyN, .array .long)] U)) (vp_Si (fun r : Int32 => r = (-2))) 0 0 (fun _ => False) := by
  refine Met.ofW (cc := cX11_ring) (maxL := 2) (ret := (some .int)) (by decide) rfl ?_
  intro p e s m args below meth c s₁ B hml hv
  obtain ⟨rfl, hP, hK⟩ := hv
  have hx := B.exec
  have hb := B.bytes
  have hr := B.returns
  have hts : ∀ w ∈ uU, w.before ([.ref x, .int p0] : List Value).toArray s = true := fun w h => atoms_spec (ws := wk yX11_ring cX11_ring 2 (some .int)) B.pre w (List.mem_cons_of_mem _ h)
  have hown : s.vm.findClass RX11 = some m.cls := findClass_of_methodNamed B.named
  have hlocks := B.notSynchronized
  have hl := lv_entry ([.ref x, .int p0]) (n := 2) (Nat.le_of_ble_eq_true rfl)
  rw [lg_entry_eq]
  generalize (lg_sl ([.ref x, .int p0]) ++ List.replicate (2 - (lg_sl ([.ref x, .int p0])).length) Slot.unset).toArray = ls at hl ⊢
  have hl : lv_has ls 2 [(0, .ref x), (1, .int p0)] := hl
  refine lv_aload_n hx hb dX11_ring_0 rfl (lv_at hl 0 rfl) ?_
  refine va_get (D := (dC, dI)) (ci := 10) (v := .ref xHall) (C := RX11) (T := TX11) (N := 15) hx hb hts uinX11 hown hK hP 0 rfl rfl 1 (by decide) (hts _ wd_2_66) (fun _ h9 => h9) rfl dX11_ring_1 ?_
  refine lv_iload_n hx hb dX11_ring_4 rfl (lv_at hl 1 rfl) ?_
  have hPc := hP.sub (ws' := [(xHall, .inr (2, [.int 0, .int 0, .int 0, .int 0, .int 0, .int 0, .ref a_first, .ref a_now, .ref a_lawPlace, .ref a_lawOther, .ref a_lawEach, .ref a_lawFrom, .ref a_foes, .ref a_suitTable, .ref a_acts]))]) [1] rfl
  have hKc := hK.sub (tys' := [(cyI, .int), (cyB, .byte), (cyJ, .long), (cyZ, .boolean), (cyH, .object RX2), (cyN, .array .long)]) [0, 1, 2, 3, 4, 5] rfl
  refine vp_callSi (va_Run.run (va_runV (As := [.int p0]) (rest := []) ⟨hx, hb, hml, hown, hts⟩ (c_holds l dC dI cyI cyB cyJ cyZ cyH cyN xHall a_first a_now a_lawPlace a_lawOther a_lawEach a_lawFrom a_foes a_suitTable a_acts p0) (cwV 1 hts (gdV wd_3_56 wd_3_57 wd_3_58 wd_1_3 wd_3_59) rfl rfl rfl (by decide +kernel) ⟨Nat.le_of_ble_eq_true rfl, Nat.le_of_ble_eq_true rfl⟩) ⟨fun a U g mk q => by obtain ⟨q0, qP, qK⟩ := q; exact ⟨q0, qP, va_K.moved (u := U) (U := U.calling g mk a) (Vm.Alike.refl U.vm) qK⟩, va_recv hKc hPc (ci := 2) (q0 := 0) rfl rfl, fun U hU hW => ⟨rfl, by rw [hU]; exact hPc, va_K.moved hW.alike hKc⟩⟩ rfl rfl hl.1 rfl (lv_room (Nat.le_of_ble_eq_true rfl)) dX11_ring_5 ⟨Nat.le_of_ble_eq_true rfl, Nat.le_of_ble_eq_true rfl⟩)) (fun r_1 hw => ?_)
  subst hw
  refine lv_if_eq (tgt := 32) hx hb dX11_ring_8 (by decide) (fun _ => ?_) (fun c_2 => absurd c_2 (by decide))
  refine lv_bipush (v := (-2)) hx hb dX11_ring_32 (by decide) ?_
  exact W.iret (v := (-2)) hx hb hr (fun t ht hW => ⟨(-2), rfl, rfl, ht⟩) (fun q h => by cases h) dX11_ring_34

/- X11_away -/
set_option maxHeartbeats 4000000 in
set_option maxRecDepth 100000 in
theorem c_away (l : Launch) (dC : Nat → ClassId) (dI : Nat → Nat → Nat) (cyI cyB cyJ cyZ cyH cyN : ClassId) (x xTape xHall xDraft xImages xKept xSlots xCourse xSight xParting xSuiting xGame xLots xTold xTried a_first a_now a_lawPlace a_lawOther a_lawEach a_lawFrom a_foes a_suitTable a_acts : Nat) (p0 : Int32) : Met l yX11_away (wk yX11_away cX11_away 2 (some .int)) ({ frames := 2, cells := 0, slots := 0, locals := 81 }) (va_Pc [.ref x, .int p0] (fun U => va_P (dC, dI) vwCl [(x, .inr (10, [.ref xTape, .ref xHall, .ref xDraft, .ref xImages, .ref xKept, .ref xSlots, .ref xCourse, .ref xSight, .ref xParting, .ref xSuiting, .ref xGame, .ref xLots, .ref xTold, .ref xTried, .null])), (xHall, .inr (2, [.int 0, .int 0, .int 0, .int 0, .int 0, .int 0, .ref a_first, .ref a_now, .ref a_lawPlace, .ref a_lawOther, .ref a_lawEach, .ref a_lawFrom, .ref a_foes, .ref a_suitTable, .ref a_acts]))] U.heap ∧ va_K (dC, dI) vwCl [(cyI, .int), (cyB, .byte), (cyJ, .long), (cyZ, .boolean), (cyH, .object RX2), (cyN, .array .long)] U)) (vp_Si (fun r : Int32 => r = (-2))) 0 0 (fun _ => False) := by
  refine Met.ofW (cc := cX11_away) (maxL := 2) (ret := (some .int)) (by decide) rfl ?_
  intro p e s m args below meth c s₁ B hml hv
  obtain ⟨rfl, hP, hK⟩ := hv
  have hx := B.exec
  have hb := B.bytes
  have hr := B.returns
  have hts : ∀ w ∈ uU, w.before ([.ref x, .int p0] : List Value).toArray s = true := fun w h => atoms_spec (ws := wk yX11_away cX11_away 2 (some .int)) B.pre w (List.mem_cons_of_mem _ h)
  have hown : s.vm.findClass RX11 = some m.cls := findClass_of_methodNamed B.named
  have hlocks := B.notSynchronized
  have hl := lv_entry ([.ref x, .int p0]) (n := 2) (Nat.le_of_ble_eq_true rfl)
  rw [lg_entry_eq]
  generalize (lg_sl ([.ref x, .int p0]) ++ List.replicate (2 - (lg_sl ([.ref x, .int p0])).length) Slot.unset).toArray = ls at hl ⊢
  have hl : lv_has ls 2 [(0, .ref x), (1, .int p0)] := hl
  refine lv_aload_n hx hb dX11_away_0 rfl (lv_at hl 0 rfl) ?_
  refine va_get (D := (dC, dI)) (ci := 10) (v := .ref xHall) (C := RX11) (T := TX11) (N := 15) hx hb hts uinX11 hown hK hP 0 rfl rfl 1 (by decide) (hts _ wd_2_66) (fun _ h9 => h9) rfl dX11_away_1 ?_
  refine lv_iload_n hx hb dX11_away_4 rfl (lv_at hl 1 rfl) ?_
  have hPc := hP.sub (ws' := [(xHall, .inr (2, [.int 0, .int 0, .int 0, .int 0, .int 0, .int 0, .ref a_first, .ref a_now, .ref a_lawPlace, .ref a_lawOther, .ref a_lawEach, .ref a_lawFrom, .ref a_foes, .ref a_suitTable, .ref a_acts]))]) [1] rfl
  have hKc := hK.sub (tys' := [(cyI, .int), (cyB, .byte), (cyJ, .long), (cyZ, .boolean), (cyH, .object RX2), (cyN, .array .long)]) [0, 1, 2, 3, 4, 5] rfl
  refine vp_callSi (va_Run.run (va_runV (As := [.int p0]) (rest := []) ⟨hx, hb, hml, hown, hts⟩ (c_holds l dC dI cyI cyB cyJ cyZ cyH cyN xHall a_first a_now a_lawPlace a_lawOther a_lawEach a_lawFrom a_foes a_suitTable a_acts p0) (cwV 1 hts (gdV wd_3_56 wd_3_57 wd_3_58 wd_1_3 wd_3_59) rfl rfl rfl (by decide +kernel) ⟨Nat.le_of_ble_eq_true rfl, Nat.le_of_ble_eq_true rfl⟩) ⟨fun a U g mk q => by obtain ⟨q0, qP, qK⟩ := q; exact ⟨q0, qP, va_K.moved (u := U) (U := U.calling g mk a) (Vm.Alike.refl U.vm) qK⟩, va_recv hKc hPc (ci := 2) (q0 := 0) rfl rfl, fun U hU hW => ⟨rfl, by rw [hU]; exact hPc, va_K.moved hW.alike hKc⟩⟩ rfl rfl hl.1 rfl (lv_room (Nat.le_of_ble_eq_true rfl)) dX11_away_5 ⟨Nat.le_of_ble_eq_true rfl, Nat.le_of_ble_eq_true rfl⟩)) (fun r_1 hw => ?_)
  subst hw
  refine lv_if_eq (tgt := 27) hx hb dX11_away_8 (by decide) (fun _ => ?_) (fun c_2 => absurd c_2 (by decide))
  refine lv_bipush (v := (-2)) hx hb dX11_away_27 (by decide) ?_
  exact W.iret (v := (-2)) hx hb hr (fun t ht hW => ⟨(-2), rfl, rfl, ht⟩) (fun q h => by cases h) dX11_away_29

/- X11_lost -/
set_option maxHeartbeats 4000000 in
set_option maxRecDepth 100000 in
theorem c_lost (l : Launch) (dC : Nat → ClassId) (dI : Nat → Nat → Nat) (cyI cyB cyJ cyZ cyH cyN : ClassId) (x xTape xHall xDraft xImages xKept xSlots xCourse xSight xParting xSuiting xGame xLots xTold xTried a_first a_now a_lawPlace a_lawOther a_lawEach a_lawFrom a_foes a_suitTable a_acts : Nat) : Met l yX11_lost (wk yX11_lost cX11_lost 5 (some .int)) ({ frames := 2, cells := 0, slots := 0, locals := 80 }) (va_Pc [.ref x] (fun U => va_P (dC, dI) vwCl [(x, .inr (10, [.ref xTape, .ref xHall, .ref xDraft, .ref xImages, .ref xKept, .ref xSlots, .ref xCourse, .ref xSight, .ref xParting, .ref xSuiting, .ref xGame, .ref xLots, .ref xTold, .ref xTried, .null])), (xHall, .inr (2, [.int 0, .int 0, .int 0, .int 0, .int 0, .int 0, .ref a_first, .ref a_now, .ref a_lawPlace, .ref a_lawOther, .ref a_lawEach, .ref a_lawFrom, .ref a_foes, .ref a_suitTable, .ref a_acts]))] U.heap ∧ va_K (dC, dI) vwCl [(cyI, .int), (cyB, .byte), (cyJ, .long), (cyZ, .boolean), (cyH, .object RX2), (cyN, .array .long)] U)) (vp_Si (fun r : Int32 => r = (-2))) 0 0 (fun _ => False) := by
  refine Met.ofW (cc := cX11_lost) (maxL := 5) (ret := (some .int)) (by decide) rfl ?_
  intro p e s m args below meth c s₁ B hml hv
  obtain ⟨rfl, hP, hK⟩ := hv
  have hx := B.exec
  have hb := B.bytes
  have hr := B.returns
  have hts : ∀ w ∈ uU, w.before ([.ref x] : List Value).toArray s = true := fun w h => atoms_spec (ws := wk yX11_lost cX11_lost 5 (some .int)) B.pre w (List.mem_cons_of_mem _ h)
  have hown : s.vm.findClass RX11 = some m.cls := findClass_of_methodNamed B.named
  have hlocks := B.notSynchronized
  have hl := lv_entry ([.ref x]) (n := 5) (Nat.le_of_ble_eq_true rfl)
  rw [lg_entry_eq]
  generalize (lg_sl ([.ref x]) ++ List.replicate (5 - (lg_sl ([.ref x])).length) Slot.unset).toArray = ls at hl ⊢
  have hl : lv_has ls 5 [(0, .ref x)] := hl
  refine lv_aload_n hx hb dX11_lost_0 rfl (lv_at hl 0 rfl) ?_
  refine va_get (D := (dC, dI)) (ci := 10) (v := .ref xHall) (C := RX11) (T := TX11) (N := 15) hx hb hts uinX11 hown hK hP 0 rfl rfl 1 (by decide) (hts _ wd_2_66) (fun _ h9 => h9) rfl dX11_lost_1 ?_
  have hPc := hP.sub (ws' := [(xHall, .inr (2, [.int 0, .int 0, .int 0, .int 0, .int 0, .int 0, .ref a_first, .ref a_now, .ref a_lawPlace, .ref a_lawOther, .ref a_lawEach, .ref a_lawFrom, .ref a_foes, .ref a_suitTable, .ref a_acts]))]) [1] rfl
  have hKc := hK.sub (tys' := [(cyI, .int), (cyB, .byte), (cyJ, .long), (cyZ, .boolean), (cyH, .object RX2), (cyN, .array .long)]) [0, 1, 2, 3, 4, 5] rfl
  refine vp_callSi (va_Run.run (va_runV (As := []) (rest := []) ⟨hx, hb, hml, hown, hts⟩ (c_isNone l dC dI cyI cyB cyJ cyZ cyH cyN xHall a_first a_now a_lawPlace a_lawOther a_lawEach a_lawFrom a_foes a_suitTable a_acts) (cwV 0 hts (gdV wd_3_130 wd_3_131 wd_3_132 wd_1_3 wd_3_133) rfl rfl rfl (by decide +kernel) ⟨Nat.le_of_ble_eq_true rfl, Nat.le_of_ble_eq_true rfl⟩) ⟨fun a U g mk q => by obtain ⟨q0, qP, qK⟩ := q; exact ⟨q0, qP, va_K.moved (u := U) (U := U.calling g mk a) (Vm.Alike.refl U.vm) qK⟩, va_recv hKc hPc (ci := 2) (q0 := 0) rfl rfl, fun U hU hW => ⟨rfl, by rw [hU]; exact hPc, va_K.moved hW.alike hKc⟩⟩ rfl rfl hl.1 rfl (lv_room (Nat.le_of_ble_eq_true rfl)) dX11_lost_4 ⟨Nat.le_of_ble_eq_true rfl, Nat.le_of_ble_eq_true rfl⟩)) (fun r_1 hw => ?_)
  subst hw
  refine lv_if_eq (tgt := 13) hx hb dX11_lost_7 (by decide) (fun c_2 => absurd c_2 (by decide)) (fun _ => ?_)
  refine lv_bipush (v := (-2)) hx hb dX11_lost_10 (by decide) ?_
  exact W.iret (v := (-2)) hx hb hr (fun t ht hW => ⟨(-2), rfl, rfl, ht⟩) (fun q h => by cases h) dX11_lost_12

/- X11_beside -/
set_option maxHeartbeats 4000000 in
set_option maxRecDepth 100000 in
theorem c_beside (l : Launch) (dC : Nat → ClassId) (dI : Nat → Nat → Nat) (cyI cyB cyJ cyZ cyH cyN : ClassId) (x xTape xHall xDraft xImages xKept xSlots xCourse xSight xParting xSuiting xGame xLots xTold xTried a_first a_now a_lawPlace a_lawOther a_lawEach a_lawFrom a_foes a_suitTable a_acts : Nat) (p0 : Int32) : Met l yX11_beside (wk yX11_beside cX11_beside 4 (some .int)) ({ frames := 2, cells := 0, slots := 0, locals := 81 }) (va_Pc [.ref x, .int p0] (fun U => va_P (dC, dI) vwCl [(x, .inr (10, [.ref xTape, .ref xHall, .ref xDraft, .ref xImages, .ref xKept, .ref xSlots, .ref xCourse, .ref xSight, .ref xParting, .ref xSuiting, .ref xGame, .ref xLots, .ref xTold, .ref xTried, .null])), (xHall, .inr (2, [.int 0, .int 0, .int 0, .int 0, .int 0, .int 0, .ref a_first, .ref a_now, .ref a_lawPlace, .ref a_lawOther, .ref a_lawEach, .ref a_lawFrom, .ref a_foes, .ref a_suitTable, .ref a_acts]))] U.heap ∧ va_K (dC, dI) vwCl [(cyI, .int), (cyB, .byte), (cyJ, .long), (cyZ, .boolean), (cyH, .object RX2), (cyN, .array .long)] U)) (vp_Si (fun r : Int32 => r = (-2))) 0 0 (fun _ => False) := by
  refine Met.ofW (cc := cX11_beside) (maxL := 4) (ret := (some .int)) (by decide) rfl ?_
  intro p e s m args below meth c s₁ B hml hv
  obtain ⟨rfl, hP, hK⟩ := hv
  have hx := B.exec
  have hb := B.bytes
  have hr := B.returns
  have hts : ∀ w ∈ uU, w.before ([.ref x, .int p0] : List Value).toArray s = true := fun w h => atoms_spec (ws := wk yX11_beside cX11_beside 4 (some .int)) B.pre w (List.mem_cons_of_mem _ h)
  have hown : s.vm.findClass RX11 = some m.cls := findClass_of_methodNamed B.named
  have hlocks := B.notSynchronized
  have hl := lv_entry ([.ref x, .int p0]) (n := 4) (Nat.le_of_ble_eq_true rfl)
  rw [lg_entry_eq]
  generalize (lg_sl ([.ref x, .int p0]) ++ List.replicate (4 - (lg_sl ([.ref x, .int p0])).length) Slot.unset).toArray = ls at hl ⊢
  have hl : lv_has ls 4 [(0, .ref x), (1, .int p0)] := hl
  refine lv_aload_n hx hb dX11_beside_0 rfl (lv_at hl 0 rfl) ?_
  refine va_get (D := (dC, dI)) (ci := 10) (v := .ref xHall) (C := RX11) (T := TX11) (N := 15) hx hb hts uinX11 hown hK hP 0 rfl rfl 1 (by decide) (hts _ wd_2_66) (fun _ h9 => h9) rfl dX11_beside_1 ?_
  refine lv_iload_n hx hb dX11_beside_4 rfl (lv_at hl 1 rfl) ?_
  have hPc := hP.sub (ws' := [(xHall, .inr (2, [.int 0, .int 0, .int 0, .int 0, .int 0, .int 0, .ref a_first, .ref a_now, .ref a_lawPlace, .ref a_lawOther, .ref a_lawEach, .ref a_lawFrom, .ref a_foes, .ref a_suitTable, .ref a_acts]))]) [1] rfl
  have hKc := hK.sub (tys' := [(cyI, .int), (cyB, .byte), (cyJ, .long), (cyZ, .boolean), (cyH, .object RX2), (cyN, .array .long)]) [0, 1, 2, 3, 4, 5] rfl
  refine vp_callSi (va_Run.run (va_runV (As := [.int p0]) (rest := []) ⟨hx, hb, hml, hown, hts⟩ (c_holds l dC dI cyI cyB cyJ cyZ cyH cyN xHall a_first a_now a_lawPlace a_lawOther a_lawEach a_lawFrom a_foes a_suitTable a_acts p0) (cwV 1 hts (gdV wd_3_56 wd_3_57 wd_3_58 wd_1_3 wd_3_59) rfl rfl rfl (by decide +kernel) ⟨Nat.le_of_ble_eq_true rfl, Nat.le_of_ble_eq_true rfl⟩) ⟨fun a U g mk q => by obtain ⟨q0, qP, qK⟩ := q; exact ⟨q0, qP, va_K.moved (u := U) (U := U.calling g mk a) (Vm.Alike.refl U.vm) qK⟩, va_recv hKc hPc (ci := 2) (q0 := 0) rfl rfl, fun U hU hW => ⟨rfl, by rw [hU]; exact hPc, va_K.moved hW.alike hKc⟩⟩ rfl rfl hl.1 rfl (lv_room (Nat.le_of_ble_eq_true rfl)) dX11_beside_5 ⟨Nat.le_of_ble_eq_true rfl, Nat.le_of_ble_eq_true rfl⟩)) (fun r_1 hw => ?_)
  subst hw
  refine lv_if_ne (tgt := 14) hx hb dX11_beside_8 (by decide) (fun c_2 => absurd c_2 (by decide)) (fun _ => ?_)
  refine lv_bipush (v := (-2)) hx hb dX11_beside_11 (by decide) ?_
  exact W.iret (v := (-2)) hx hb hr (fun t ht hW => ⟨(-2), rfl, rfl, ht⟩) (fun q h => by cases h) dX11_beside_13

/- X11_quarrels -/
set_option maxHeartbeats 4000000 in
set_option maxRecDepth 100000 in
theorem c_quarrels (l : Launch) (dC : Nat → ClassId) (dI : Nat → Nat → Nat) (cyI cyB cyJ cyZ cyH cyN : ClassId) (x xTape xHall xDraft xImages xKept xSlots xCourse xSight xParting xSuiting xGame xLots xTold xTried a_first a_now a_lawPlace a_lawOther a_lawEach a_lawFrom a_foes a_suitTable a_acts : Nat) : Met l yX11_quarrels (wk yX11_quarrels cX11_quarrels 3 (some .int)) ({ frames := 2, cells := 0, slots := 0, locals := 80 }) (va_Pc [.ref x] (fun U => va_P (dC, dI) vwCl [(x, .inr (10, [.ref xTape, .ref xHall, .ref xDraft, .ref xImages, .ref xKept, .ref xSlots, .ref xCourse, .ref xSight, .ref xParting, .ref xSuiting, .ref xGame, .ref xLots, .ref xTold, .ref xTried, .null])), (xHall, .inr (2, [.int 0, .int 0, .int 0, .int 0, .int 0, .int 0, .ref a_first, .ref a_now, .ref a_lawPlace, .ref a_lawOther, .ref a_lawEach, .ref a_lawFrom, .ref a_foes, .ref a_suitTable, .ref a_acts]))] U.heap ∧ va_K (dC, dI) vwCl [(cyI, .int), (cyB, .byte), (cyJ, .long), (cyZ, .boolean), (cyH, .object RX2), (cyN, .array .long)] U)) (vp_Si (fun r : Int32 => r = (-2))) 0 0 (fun _ => False) := by
  refine Met.ofW (cc := cX11_quarrels) (maxL := 3) (ret := (some .int)) (by decide) rfl ?_
  intro p e s m args below meth c s₁ B hml hv
  obtain ⟨rfl, hP, hK⟩ := hv
  have hx := B.exec
  have hb := B.bytes
  have hr := B.returns
  have hts : ∀ w ∈ uU, w.before ([.ref x] : List Value).toArray s = true := fun w h => atoms_spec (ws := wk yX11_quarrels cX11_quarrels 3 (some .int)) B.pre w (List.mem_cons_of_mem _ h)
  have hown : s.vm.findClass RX11 = some m.cls := findClass_of_methodNamed B.named
  have hlocks := B.notSynchronized
  have hl := lv_entry ([.ref x]) (n := 3) (Nat.le_of_ble_eq_true rfl)
  rw [lg_entry_eq]
  generalize (lg_sl ([.ref x]) ++ List.replicate (3 - (lg_sl ([.ref x])).length) Slot.unset).toArray = ls at hl ⊢
  have hl : lv_has ls 3 [(0, .ref x)] := hl
  refine lv_aload_n hx hb dX11_quarrels_0 rfl (lv_at hl 0 rfl) ?_
  refine va_get (D := (dC, dI)) (ci := 10) (v := .ref xHall) (C := RX11) (T := TX11) (N := 15) hx hb hts uinX11 hown hK hP 0 rfl rfl 1 (by decide) (hts _ wd_2_66) (fun _ h9 => h9) rfl dX11_quarrels_1 ?_
  have hPc := hP.sub (ws' := [(xHall, .inr (2, [.int 0, .int 0, .int 0, .int 0, .int 0, .int 0, .ref a_first, .ref a_now, .ref a_lawPlace, .ref a_lawOther, .ref a_lawEach, .ref a_lawFrom, .ref a_foes, .ref a_suitTable, .ref a_acts]))]) [1] rfl
  have hKc := hK.sub (tys' := [(cyI, .int), (cyB, .byte), (cyJ, .long), (cyZ, .boolean), (cyH, .object RX2), (cyN, .array .long)]) [0, 1, 2, 3, 4, 5] rfl
  refine vp_callSi (va_Run.run (va_runV (As := []) (rest := []) ⟨hx, hb, hml, hown, hts⟩ (c_isNone l dC dI cyI cyB cyJ cyZ cyH cyN xHall a_first a_now a_lawPlace a_lawOther a_lawEach a_lawFrom a_foes a_suitTable a_acts) (cwV 0 hts (gdV wd_3_130 wd_3_131 wd_3_132 wd_1_3 wd_3_133) rfl rfl rfl (by decide +kernel) ⟨Nat.le_of_ble_eq_true rfl, Nat.le_of_ble_eq_true rfl⟩) ⟨fun a U g mk q => by obtain ⟨q0, qP, qK⟩ := q; exact ⟨q0, qP, va_K.moved (u := U) (U := U.calling g mk a) (Vm.Alike.refl U.vm) qK⟩, va_recv hKc hPc (ci := 2) (q0 := 0) rfl rfl, fun U hU hW => ⟨rfl, by rw [hU]; exact hPc, va_K.moved hW.alike hKc⟩⟩ rfl rfl hl.1 rfl (lv_room (Nat.le_of_ble_eq_true rfl)) dX11_quarrels_4 ⟨Nat.le_of_ble_eq_true rfl, Nat.le_of_ble_eq_true rfl⟩)) (fun r_1 hw => ?_)
  subst hw
  refine lv_if_eq (tgt := 13) hx hb dX11_quarrels_7 (by decide) (fun c_2 => absurd c_2 (by decide)) (fun _ => ?_)
  refine lv_bipush (v := (-2)) hx hb dX11_quarrels_10 (by decide) ?_
  exact W.iret (v := (-2)) hx hb hr (fun t ht hW => ⟨(-2), rfl, rfl, ht⟩) (fun q h => by cases h) dX11_quarrels_12

/- X11_finest -/
set_option maxHeartbeats 4000000 in
set_option maxRecDepth 100000 in
theorem c_finest (l : Launch) (dC : Nat → ClassId) (dI : Nat → Nat → Nat) (cyI cyB cyJ cyZ cyH cyN : ClassId) (x xTape xHall xDraft xImages xKept xSlots xCourse xSight xParting xSuiting xGame xLots xTold xTried a_first a_now a_lawPlace a_lawOther a_lawEach a_lawFrom a_foes a_suitTable a_acts : Nat) (p0 : Int32) : Met l yX11_finest (wk yX11_finest cX11_finest 7 (some .int)) ({ frames := 2, cells := 0, slots := 0, locals := 80 }) (va_Pc [.ref x, .int p0] (fun U => va_P (dC, dI) vwCl [(x, .inr (10, [.ref xTape, .ref xHall, .ref xDraft, .ref xImages, .ref xKept, .ref xSlots, .ref xCourse, .ref xSight, .ref xParting, .ref xSuiting, .ref xGame, .ref xLots, .ref xTold, .ref xTried, .null])), (xHall, .inr (2, [.int 0, .int 0, .int 0, .int 0, .int 0, .int 0, .ref a_first, .ref a_now, .ref a_lawPlace, .ref a_lawOther, .ref a_lawEach, .ref a_lawFrom, .ref a_foes, .ref a_suitTable, .ref a_acts]))] U.heap ∧ va_K (dC, dI) vwCl [(cyI, .int), (cyB, .byte), (cyJ, .long), (cyZ, .boolean), (cyH, .object RX2), (cyN, .array .long)] U)) (vp_Si (fun r : Int32 => r = (-2))) 0 0 (fun _ => False) := by
  refine Met.ofW (cc := cX11_finest) (maxL := 7) (ret := (some .int)) (by decide) rfl ?_
  intro p e s m args below meth c s₁ B hml hv
  obtain ⟨rfl, hP, hK⟩ := hv
  have hx := B.exec
  have hb := B.bytes
  have hr := B.returns
  have hts : ∀ w ∈ uU, w.before ([.ref x, .int p0] : List Value).toArray s = true := fun w h => atoms_spec (ws := wk yX11_finest cX11_finest 7 (some .int)) B.pre w (List.mem_cons_of_mem _ h)
  have hown : s.vm.findClass RX11 = some m.cls := findClass_of_methodNamed B.named
  have hlocks := B.notSynchronized
  have hl := lv_entry ([.ref x, .int p0]) (n := 7) (Nat.le_of_ble_eq_true rfl)
  rw [lg_entry_eq]
  generalize (lg_sl ([.ref x, .int p0]) ++ List.replicate (7 - (lg_sl ([.ref x, .int p0])).length) Slot.unset).toArray = ls at hl ⊢
  have hl : lv_has ls 7 [(0, .ref x), (1, .int p0)] := hl
  refine lv_aload_n hx hb dX11_finest_0 rfl (lv_at hl 0 rfl) ?_
  refine va_get (D := (dC, dI)) (ci := 10) (v := .ref xHall) (C := RX11) (T := TX11) (N := 15) hx hb hts uinX11 hown hK hP 0 rfl rfl 1 (by decide) (hts _ wd_2_66) (fun _ h9 => h9) rfl dX11_finest_1 ?_
  have hPc := hP.sub (ws' := [(xHall, .inr (2, [.int 0, .int 0, .int 0, .int 0, .int 0, .int 0, .ref a_first, .ref a_now, .ref a_lawPlace, .ref a_lawOther, .ref a_lawEach, .ref a_lawFrom, .ref a_foes, .ref a_suitTable, .ref a_acts]))]) [1] rfl
  have hKc := hK.sub (tys' := [(cyI, .int), (cyB, .byte), (cyJ, .long), (cyZ, .boolean), (cyH, .object RX2), (cyN, .array .long)]) [0, 1, 2, 3, 4, 5] rfl
  refine vp_callSi (va_Run.run (va_runV (As := []) (rest := []) ⟨hx, hb, hml, hown, hts⟩ (c_isNone l dC dI cyI cyB cyJ cyZ cyH cyN xHall a_first a_now a_lawPlace a_lawOther a_lawEach a_lawFrom a_foes a_suitTable a_acts) (cwV 0 hts (gdV wd_3_130 wd_3_131 wd_3_132 wd_1_3 wd_3_133) rfl rfl rfl (by decide +kernel) ⟨Nat.le_of_ble_eq_true rfl, Nat.le_of_ble_eq_true rfl⟩) ⟨fun a U g mk q => by obtain ⟨q0, qP, qK⟩ := q; exact ⟨q0, qP, va_K.moved (u := U) (U := U.calling g mk a) (Vm.Alike.refl U.vm) qK⟩, va_recv hKc hPc (ci := 2) (q0 := 0) rfl rfl, fun U hU hW => ⟨rfl, by rw [hU]; exact hPc, va_K.moved hW.alike hKc⟩⟩ rfl rfl hl.1 rfl (lv_room (Nat.le_of_ble_eq_true rfl)) dX11_finest_4 ⟨Nat.le_of_ble_eq_true rfl, Nat.le_of_ble_eq_true rfl⟩)) (fun r_1 hw => ?_)
  subst hw
  refine lv_if_ne (tgt := 21) hx hb dX11_finest_7 (by decide) (fun _ => ?_) (fun c_2 => absurd c_2 (by decide))
  refine lv_bipush (v := (-2)) hx hb dX11_finest_21 (by decide) ?_
  exact W.iret (v := (-2)) hx hb hr (fun t ht hW => ⟨(-2), rfl, rfl, ht⟩) (fun q h => by cases h) dX11_finest_23

/- X11_spells -/
set_option maxHeartbeats 4000000 in
set_option maxRecDepth 100000 in
theorem c_spells (l : Launch) (dC : Nat → ClassId) (dI : Nat → Nat → Nat) (cyI cyB cyJ cyZ cyH cyN : ClassId) (x xTape xHall xDraft xImages xKept xSlots xCourse xSight xParting xSuiting xGame xLots xTold xTried a_first a_now a_lawPlace a_lawOther a_lawEach a_lawFrom a_foes a_suitTable a_acts : Nat) (p0 p1 : Int32) : Met l yX11_spells (wk yX11_spells cX11_spells 5 (some .int)) ({ frames := 2, cells := 0, slots := 0, locals := 81 }) (va_Pc [.ref x, .int p0, .int p1] (fun U => va_P (dC, dI) vwCl [(x, .inr (10, [.ref xTape, .ref xHall, .ref xDraft, .ref xImages, .ref xKept, .ref xSlots, .ref xCourse, .ref xSight, .ref xParting, .ref xSuiting, .ref xGame, .ref xLots, .ref xTold, .ref xTried, .null])), (xHall, .inr (2, [.int 0, .int 0, .int 0, .int 0, .int 0, .int 0, .ref a_first, .ref a_now, .ref a_lawPlace, .ref a_lawOther, .ref a_lawEach, .ref a_lawFrom, .ref a_foes, .ref a_suitTable, .ref a_acts]))] U.heap ∧ va_K (dC, dI) vwCl [(cyI, .int), (cyB, .byte), (cyJ, .long), (cyZ, .boolean), (cyH, .object RX2), (cyN, .array .long)] U)) (vp_Si (fun r : Int32 => r = (-2))) 0 0 (fun _ => False) := by
  refine Met.ofW (cc := cX11_spells) (maxL := 5) (ret := (some .int)) (by decide) rfl ?_
  intro p e s m args below meth c s₁ B hml hv
  obtain ⟨rfl, hP, hK⟩ := hv
  have hx := B.exec
  have hb := B.bytes
  have hr := B.returns
  have hts : ∀ w ∈ uU, w.before ([.ref x, .int p0, .int p1] : List Value).toArray s = true := fun w h => atoms_spec (ws := wk yX11_spells cX11_spells 5 (some .int)) B.pre w (List.mem_cons_of_mem _ h)
  have hown : s.vm.findClass RX11 = some m.cls := findClass_of_methodNamed B.named
  have hlocks := B.notSynchronized
  have hl := lv_entry ([.ref x, .int p0, .int p1]) (n := 5) (Nat.le_of_ble_eq_true rfl)
  rw [lg_entry_eq]
  generalize (lg_sl ([.ref x, .int p0, .int p1]) ++ List.replicate (5 - (lg_sl ([.ref x, .int p0, .int p1])).length) Slot.unset).toArray = ls at hl ⊢
  have hl : lv_has ls 5 [(0, .ref x), (1, .int p0), (2, .int p1)] := hl
  refine lv_aload_n hx hb dX11_spells_0 rfl (lv_at hl 0 rfl) ?_
  refine va_get (D := (dC, dI)) (ci := 10) (v := .ref xHall) (C := RX11) (T := TX11) (N := 15) hx hb hts uinX11 hown hK hP 0 rfl rfl 1 (by decide) (hts _ wd_2_66) (fun _ h9 => h9) rfl dX11_spells_1 ?_
  refine lv_iload_n hx hb dX11_spells_4 rfl (lv_at hl 1 rfl) ?_
  have hPc := hP.sub (ws' := [(xHall, .inr (2, [.int 0, .int 0, .int 0, .int 0, .int 0, .int 0, .ref a_first, .ref a_now, .ref a_lawPlace, .ref a_lawOther, .ref a_lawEach, .ref a_lawFrom, .ref a_foes, .ref a_suitTable, .ref a_acts]))]) [1] rfl
  have hKc := hK.sub (tys' := [(cyI, .int), (cyB, .byte), (cyJ, .long), (cyZ, .boolean), (cyH, .object RX2), (cyN, .array .long)]) [0, 1, 2, 3, 4, 5] rfl
  refine vp_callSi (va_Run.run (va_runV (As := [.int p0]) (rest := []) ⟨hx, hb, hml, hown, hts⟩ (c_holds l dC dI cyI cyB cyJ cyZ cyH cyN xHall a_first a_now a_lawPlace a_lawOther a_lawEach a_lawFrom a_foes a_suitTable a_acts p0) (cwV 1 hts (gdV wd_3_56 wd_3_57 wd_3_58 wd_1_3 wd_3_59) rfl rfl rfl (by decide +kernel) ⟨Nat.le_of_ble_eq_true rfl, Nat.le_of_ble_eq_true rfl⟩) ⟨fun a U g mk q => by obtain ⟨q0, qP, qK⟩ := q; exact ⟨q0, qP, va_K.moved (u := U) (U := U.calling g mk a) (Vm.Alike.refl U.vm) qK⟩, va_recv hKc hPc (ci := 2) (q0 := 0) rfl rfl, fun U hU hW => ⟨rfl, by rw [hU]; exact hPc, va_K.moved hW.alike hKc⟩⟩ rfl rfl hl.1 rfl (lv_room (Nat.le_of_ble_eq_true rfl)) dX11_spells_5 ⟨Nat.le_of_ble_eq_true rfl, Nat.le_of_ble_eq_true rfl⟩)) (fun r_1 hw => ?_)
  subst hw
  refine lv_if_eq (tgt := 22) hx hb dX11_spells_8 (by decide) (fun _ => ?_) (fun c_2 => absurd c_2 (by decide))
  refine lv_bipush (v := (-2)) hx hb dX11_spells_22 (by decide) ?_
  exact W.iret (v := (-2)) hx hb hr (fun t ht hW => ⟨(-2), rfl, rfl, ht⟩) (fun q h => by cases h) dX11_spells_24

/- X11_slide -/
set_option maxHeartbeats 4000000 in
set_option maxRecDepth 100000 in
theorem c_slide (l : Launch) (dC : Nat → ClassId) (dI : Nat → Nat → Nat) (cyI cyB cyJ cyZ cyH cyN : ClassId) (x xTape xHall xDraft xImages xKept xSlots xCourse xSight xParting xSuiting xGame xLots xTold xTried a_first a_now a_lawPlace a_lawOther a_lawEach a_lawFrom a_foes a_suitTable a_acts : Nat) (p0 : Int32) : Met l yX11_slide (wk yX11_slide cX11_slide 4 (some .int)) ({ frames := 3, cells := 0, slots := 0, locals := 101 }) (va_Pc [.ref x, .int p0] (fun U => va_P (dC, dI) vwCl [(x, .inr (10, [.ref xTape, .ref xHall, .ref xDraft, .ref xImages, .ref xKept, .ref xSlots, .ref xCourse, .ref xSight, .ref xParting, .ref xSuiting, .ref xGame, .ref xLots, .ref xTold, .ref xTried, .null])), (xHall, .inr (2, [.int 0, .int 0, .int 0, .int 0, .int 0, .int 0, .ref a_first, .ref a_now, .ref a_lawPlace, .ref a_lawOther, .ref a_lawEach, .ref a_lawFrom, .ref a_foes, .ref a_suitTable, .ref a_acts]))] U.heap ∧ va_K (dC, dI) vwCl [(cyI, .int), (cyB, .byte), (cyJ, .long), (cyZ, .boolean), (cyH, .object RX2), (cyN, .array .long)] U)) (vp_Si (fun r : Int32 => r = (-2))) 0 0 (fun _ => False) := by
  refine Met.ofW (cc := cX11_slide) (maxL := 4) (ret := (some .int)) (by decide) rfl ?_
  intro p e s m args below meth c s₁ B hml hv
  obtain ⟨rfl, hP, hK⟩ := hv
  have hx := B.exec
  have hb := B.bytes
  have hr := B.returns
  have hts : ∀ w ∈ uU, w.before ([.ref x, .int p0] : List Value).toArray s = true := fun w h => atoms_spec (ws := wk yX11_slide cX11_slide 4 (some .int)) B.pre w (List.mem_cons_of_mem _ h)
  have hown : s.vm.findClass RX11 = some m.cls := findClass_of_methodNamed B.named
  have hlocks := B.notSynchronized
  have hl := lv_entry ([.ref x, .int p0]) (n := 4) (Nat.le_of_ble_eq_true rfl)
  rw [lg_entry_eq]
  generalize (lg_sl ([.ref x, .int p0]) ++ List.replicate (4 - (lg_sl ([.ref x, .int p0])).length) Slot.unset).toArray = ls at hl ⊢
  have hl : lv_has ls 4 [(0, .ref x), (1, .int p0)] := hl
  refine lv_aload_n hx hb dX11_slide_0 rfl (lv_at hl 0 rfl) ?_
  refine lv_iload_n hx hb dX11_slide_1 rfl (lv_at hl 1 rfl) ?_
  have hPc := hP.sub (ws' := [(x, .inr (10, [.ref xTape, .ref xHall, .ref xDraft, .ref xImages, .ref xKept, .ref xSlots, .ref xCourse, .ref xSight, .ref xParting, .ref xSuiting, .ref xGame, .ref xLots, .ref xTold, .ref xTried, .null])), (xHall, .inr (2, [.int 0, .int 0, .int 0, .int 0, .int 0, .int 0, .ref a_first, .ref a_now, .ref a_lawPlace, .ref a_lawOther, .ref a_lawEach, .ref a_lawFrom, .ref a_foes, .ref a_suitTable, .ref a_acts]))]) [0, 1] rfl
  have hKc := hK.sub (tys' := [(cyI, .int), (cyB, .byte), (cyJ, .long), (cyZ, .boolean), (cyH, .object RX2), (cyN, .array .long)]) [0, 1, 2, 3, 4, 5] rfl
  refine vp_callSi (va_Run.run (va_runV (As := [.int p0]) (rest := []) ⟨hx, hb, hml, hown, hts⟩ (c_readTold l dC dI cyI cyB cyJ cyZ cyH cyN x xTape xHall xDraft xImages xKept xSlots xCourse xSight xParting xSuiting xGame xLots xTold xTried a_first a_now a_lawPlace a_lawOther a_lawEach a_lawFrom a_foes a_suitTable a_acts p0) (cwV 1 hts (gdV wd_4_29 wd_4_31 wd_s2_2 wd_1_1 wd_4_32) rfl rfl rfl (by decide +kernel) ⟨Nat.le_of_ble_eq_true rfl, Nat.le_of_ble_eq_true rfl⟩) ⟨fun a U g mk q => by obtain ⟨q0, qP, qK⟩ := q; exact ⟨q0, qP, va_K.moved (u := U) (U := U.calling g mk a) (Vm.Alike.refl U.vm) qK⟩, va_recv hKc hPc (ci := 10) (q0 := 0) rfl rfl, fun U hU hW => ⟨rfl, by rw [hU]; exact hPc, va_K.moved hW.alike hKc⟩⟩ rfl rfl hl.1 rfl (lv_room (Nat.le_of_ble_eq_true rfl)) dX11_slide_2 ⟨Nat.le_of_ble_eq_true rfl, Nat.le_of_ble_eq_true rfl⟩)) (fun r_1 hw => ?_)
  subst hw
  refine lv_istore_n (lv' := [(2, .int (-2)), (0, .ref x), (1, .int p0)]) hx hb dX11_slide_5 rfl hl (by decide) rfl (fun ls hl => ?_)
  refine lv_iload_n hx hb dX11_slide_6 rfl (lv_at hl 0 rfl) ?_
  refine lv_if_eq (tgt := 12) hx hb dX11_slide_7 (by decide) (fun c_2 => absurd c_2 (by decide)) (fun _ => ?_)
  refine lv_iload_n hx hb dX11_slide_10 rfl (lv_at hl 0 rfl) ?_
  exact W.iret (v := (-2)) hx hb hr (fun t ht hW => ⟨(-2), rfl, rfl, ht⟩) (fun q h => by cases h) dX11_slide_11

/- X11_slides -/
set_option maxHeartbeats 4000000 in
set_option maxRecDepth 100000 in
theorem c_slides (l : Launch) (dC : Nat → ClassId) (dI : Nat → Nat → Nat) (cyI cyB cyJ cyZ cyH cyN : ClassId) (x xTape xHall xDraft xImages xKept xSlots xCourse xSight xParting xSuiting xGame xLots xTold xTried a_first a_now a_lawPlace a_lawOther a_lawEach a_lawFrom a_foes a_suitTable a_acts : Nat) (p0 p1 : Int32) : Met l yX11_slides (wk yX11_slides cX11_slides 5 (some .int)) ({ frames := 3, cells := 0, slots := 0, locals := 101 }) (va_Pc [.ref x, .int p0, .int p1] (fun U => va_P (dC, dI) vwCl [(x, .inr (10, [.ref xTape, .ref xHall, .ref xDraft, .ref xImages, .ref xKept, .ref xSlots, .ref xCourse, .ref xSight, .ref xParting, .ref xSuiting, .ref xGame, .ref xLots, .ref xTold, .ref xTried, .null])), (xHall, .inr (2, [.int 0, .int 0, .int 0, .int 0, .int 0, .int 0, .ref a_first, .ref a_now, .ref a_lawPlace, .ref a_lawOther, .ref a_lawEach, .ref a_lawFrom, .ref a_foes, .ref a_suitTable, .ref a_acts]))] U.heap ∧ va_K (dC, dI) vwCl [(cyI, .int), (cyB, .byte), (cyJ, .long), (cyZ, .boolean), (cyH, .object RX2), (cyN, .array .long)] U)) (vp_Si (fun r : Int32 => r = (-2))) 0 0 (fun _ => False) := by
  refine Met.ofW (cc := cX11_slides) (maxL := 5) (ret := (some .int)) (by decide) rfl ?_
  intro p e s m args below meth c s₁ B hml hv
  obtain ⟨rfl, hP, hK⟩ := hv
  have hx := B.exec
  have hb := B.bytes
  have hr := B.returns
  have hts : ∀ w ∈ uU, w.before ([.ref x, .int p0, .int p1] : List Value).toArray s = true := fun w h => atoms_spec (ws := wk yX11_slides cX11_slides 5 (some .int)) B.pre w (List.mem_cons_of_mem _ h)
  have hown : s.vm.findClass RX11 = some m.cls := findClass_of_methodNamed B.named
  have hlocks := B.notSynchronized
  have hl := lv_entry ([.ref x, .int p0, .int p1]) (n := 5) (Nat.le_of_ble_eq_true rfl)
  rw [lg_entry_eq]
  generalize (lg_sl ([.ref x, .int p0, .int p1]) ++ List.replicate (5 - (lg_sl ([.ref x, .int p0, .int p1])).length) Slot.unset).toArray = ls at hl ⊢
  have hl : lv_has ls 5 [(0, .ref x), (1, .int p0), (2, .int p1)] := hl
  refine lv_aload_n hx hb dX11_slides_0 rfl (lv_at hl 0 rfl) ?_
  refine lv_iload_n hx hb dX11_slides_1 rfl (lv_at hl 1 rfl) ?_
  have hPc := hP.sub (ws' := [(x, .inr (10, [.ref xTape, .ref xHall, .ref xDraft, .ref xImages, .ref xKept, .ref xSlots, .ref xCourse, .ref xSight, .ref xParting, .ref xSuiting, .ref xGame, .ref xLots, .ref xTold, .ref xTried, .null])), (xHall, .inr (2, [.int 0, .int 0, .int 0, .int 0, .int 0, .int 0, .ref a_first, .ref a_now, .ref a_lawPlace, .ref a_lawOther, .ref a_lawEach, .ref a_lawFrom, .ref a_foes, .ref a_suitTable, .ref a_acts]))]) [0, 1] rfl
  have hKc := hK.sub (tys' := [(cyI, .int), (cyB, .byte), (cyJ, .long), (cyZ, .boolean), (cyH, .object RX2), (cyN, .array .long)]) [0, 1, 2, 3, 4, 5] rfl
  refine vp_callSi (va_Run.run (va_runV (As := [.int p0]) (rest := []) ⟨hx, hb, hml, hown, hts⟩ (c_readTold l dC dI cyI cyB cyJ cyZ cyH cyN x xTape xHall xDraft xImages xKept xSlots xCourse xSight xParting xSuiting xGame xLots xTold xTried a_first a_now a_lawPlace a_lawOther a_lawEach a_lawFrom a_foes a_suitTable a_acts p0) (cwV 1 hts (gdV wd_4_29 wd_4_31 wd_s2_2 wd_1_1 wd_4_32) rfl rfl rfl (by decide +kernel) ⟨Nat.le_of_ble_eq_true rfl, Nat.le_of_ble_eq_true rfl⟩) ⟨fun a U g mk q => by obtain ⟨q0, qP, qK⟩ := q; exact ⟨q0, qP, va_K.moved (u := U) (U := U.calling g mk a) (Vm.Alike.refl U.vm) qK⟩, va_recv hKc hPc (ci := 10) (q0 := 0) rfl rfl, fun U hU hW => ⟨rfl, by rw [hU]; exact hPc, va_K.moved hW.alike hKc⟩⟩ rfl rfl hl.1 rfl (lv_room (Nat.le_of_ble_eq_true rfl)) dX11_slides_2 ⟨Nat.le_of_ble_eq_true rfl, Nat.le_of_ble_eq_true rfl⟩)) (fun r_1 hw => ?_)
  subst hw
  refine lv_istore_n (lv' := [(3, .int (-2)), (0, .ref x), (1, .int p0), (2, .int p1)]) hx hb dX11_slides_5 rfl hl (by decide) rfl (fun ls hl => ?_)
  refine lv_iload_n hx hb dX11_slides_6 rfl (lv_at hl 0 rfl) ?_
  refine lv_if_eq (tgt := 12) hx hb dX11_slides_7 (by decide) (fun c_2 => absurd c_2 (by decide)) (fun _ => ?_)
  refine lv_iload_n hx hb dX11_slides_10 rfl (lv_at hl 0 rfl) ?_
  exact W.iret (v := (-2)) hx hb hr (fun t ht hW => ⟨(-2), rfl, rfl, ht⟩) (fun q h => by cases h) dX11_slides_11

/- X11_reach -/
set_option maxHeartbeats 4000000 in
set_option maxRecDepth 100000 in
theorem c_reach (l : Launch) (dC : Nat → ClassId) (dI : Nat → Nat → Nat) (cyI cyB cyJ cyZ cyH cyN : ClassId) (x xTape xHall xDraft xImages xKept xSlots xCourse xSight xParting xSuiting xGame xLots xTold xTried a_first a_now a_lawPlace a_lawOther a_lawEach a_lawFrom a_foes a_suitTable a_acts : Nat) : Met l yX11_reach (wk yX11_reach cX11_reach 2 (some .int)) ({ frames := 2, cells := 0, slots := 0, locals := 80 }) (va_Pc [.ref x] (fun U => va_P (dC, dI) vwCl [(x, .inr (10, [.ref xTape, .ref xHall, .ref xDraft, .ref xImages, .ref xKept, .ref xSlots, .ref xCourse, .ref xSight, .ref xParting, .ref xSuiting, .ref xGame, .ref xLots, .ref xTold, .ref xTried, .null])), (xHall, .inr (2, [.int 0, .int 0, .int 0, .int 0, .int 0, .int 0, .ref a_first, .ref a_now, .ref a_lawPlace, .ref a_lawOther, .ref a_lawEach, .ref a_lawFrom, .ref a_foes, .ref a_suitTable, .ref a_acts]))] U.heap ∧ va_K (dC, dI) vwCl [(cyI, .int), (cyB, .byte), (cyJ, .long), (cyZ, .boolean), (cyH, .object RX2), (cyN, .array .long)] U)) (vp_Si (fun r : Int32 => r = (-2))) 0 0 (fun _ => False) := by
  refine Met.ofW (cc := cX11_reach) (maxL := 2) (ret := (some .int)) (by decide) rfl ?_
  intro p e s m args below meth c s₁ B hml hv
  obtain ⟨rfl, hP, hK⟩ := hv
  have hx := B.exec
  have hb := B.bytes
  have hr := B.returns
  have hts : ∀ w ∈ uU, w.before ([.ref x] : List Value).toArray s = true := fun w h => atoms_spec (ws := wk yX11_reach cX11_reach 2 (some .int)) B.pre w (List.mem_cons_of_mem _ h)
  have hown : s.vm.findClass RX11 = some m.cls := findClass_of_methodNamed B.named
  have hlocks := B.notSynchronized
  have hl := lv_entry ([.ref x]) (n := 2) (Nat.le_of_ble_eq_true rfl)
  rw [lg_entry_eq]
  generalize (lg_sl ([.ref x]) ++ List.replicate (2 - (lg_sl ([.ref x])).length) Slot.unset).toArray = ls at hl ⊢
  have hl : lv_has ls 2 [(0, .ref x)] := hl
  refine lv_aload_n hx hb dX11_reach_0 rfl (lv_at hl 0 rfl) ?_
  refine va_get (D := (dC, dI)) (ci := 10) (v := .ref xHall) (C := RX11) (T := TX11) (N := 15) hx hb hts uinX11 hown hK hP 0 rfl rfl 1 (by decide) (hts _ wd_2_66) (fun _ h9 => h9) rfl dX11_reach_1 ?_
  have hPc := hP.sub (ws' := [(xHall, .inr (2, [.int 0, .int 0, .int 0, .int 0, .int 0, .int 0, .ref a_first, .ref a_now, .ref a_lawPlace, .ref a_lawOther, .ref a_lawEach, .ref a_lawFrom, .ref a_foes, .ref a_suitTable, .ref a_acts]))]) [1] rfl
  have hKc := hK.sub (tys' := [(cyI, .int), (cyB, .byte), (cyJ, .long), (cyZ, .boolean), (cyH, .object RX2), (cyN, .array .long)]) [0, 1, 2, 3, 4, 5] rfl
  refine vp_callSi (va_Run.run (va_runV (As := []) (rest := []) ⟨hx, hb, hml, hown, hts⟩ (c_isNone l dC dI cyI cyB cyJ cyZ cyH cyN xHall a_first a_now a_lawPlace a_lawOther a_lawEach a_lawFrom a_foes a_suitTable a_acts) (cwV 0 hts (gdV wd_3_130 wd_3_131 wd_3_132 wd_1_3 wd_3_133) rfl rfl rfl (by decide +kernel) ⟨Nat.le_of_ble_eq_true rfl, Nat.le_of_ble_eq_true rfl⟩) ⟨fun a U g mk q => by obtain ⟨q0, qP, qK⟩ := q; exact ⟨q0, qP, va_K.moved (u := U) (U := U.calling g mk a) (Vm.Alike.refl U.vm) qK⟩, va_recv hKc hPc (ci := 2) (q0 := 0) rfl rfl, fun U hU hW => ⟨rfl, by rw [hU]; exact hPc, va_K.moved hW.alike hKc⟩⟩ rfl rfl hl.1 rfl (lv_room (Nat.le_of_ble_eq_true rfl)) dX11_reach_4 ⟨Nat.le_of_ble_eq_true rfl, Nat.le_of_ble_eq_true rfl⟩)) (fun r_1 hw => ?_)
  subst hw
  refine lv_if_eq (tgt := 13) hx hb dX11_reach_7 (by decide) (fun c_2 => absurd c_2 (by decide)) (fun _ => ?_)
  refine lv_bipush (v := (-2)) hx hb dX11_reach_10 (by decide) ?_
  exact W.iret (v := (-2)) hx hb hr (fun t ht hW => ⟨(-2), rfl, rfl, ht⟩) (fun q h => by cases h) dX11_reach_12

/- X11_far -/
set_option maxHeartbeats 4000000 in
set_option maxRecDepth 100000 in
theorem c_far (l : Launch) (dC : Nat → ClassId) (dI : Nat → Nat → Nat) (cyI cyB cyJ cyZ cyH cyN : ClassId) (x xTape xHall xDraft xImages xKept xSlots xCourse xSight xParting xSuiting xGame xLots xTold xTried a_first a_now a_lawPlace a_lawOther a_lawEach a_lawFrom a_foes a_suitTable a_acts : Nat) : Met l yX11_far (wk yX11_far cX11_far 2 (some .int)) ({ frames := 2, cells := 0, slots := 0, locals := 80 }) (va_Pc [.ref x] (fun U => va_P (dC, dI) vwCl [(x, .inr (10, [.ref xTape, .ref xHall, .ref xDraft, .ref xImages, .ref xKept, .ref xSlots, .ref xCourse, .ref xSight, .ref xParting, .ref xSuiting, .ref xGame, .ref xLots, .ref xTold, .ref xTried, .null])), (xHall, .inr (2, [.int 0, .int 0, .int 0, .int 0, .int 0, .int 0, .ref a_first, .ref a_now, .ref a_lawPlace, .ref a_lawOther, .ref a_lawEach, .ref a_lawFrom, .ref a_foes, .ref a_suitTable, .ref a_acts]))] U.heap ∧ va_K (dC, dI) vwCl [(cyI, .int), (cyB, .byte), (cyJ, .long), (cyZ, .boolean), (cyH, .object RX2), (cyN, .array .long)] U)) (vp_Si (fun r : Int32 => r = (-2))) 0 0 (fun _ => False) := by
  refine Met.ofW (cc := cX11_far) (maxL := 2) (ret := (some .int)) (by decide) rfl ?_
  intro p e s m args below meth c s₁ B hml hv
  obtain ⟨rfl, hP, hK⟩ := hv
  have hx := B.exec
  have hb := B.bytes
  have hr := B.returns
  have hts : ∀ w ∈ uU, w.before ([.ref x] : List Value).toArray s = true := fun w h => atoms_spec (ws := wk yX11_far cX11_far 2 (some .int)) B.pre w (List.mem_cons_of_mem _ h)
  have hown : s.vm.findClass RX11 = some m.cls := findClass_of_methodNamed B.named
  have hlocks := B.notSynchronized
  have hl := lv_entry ([.ref x]) (n := 2) (Nat.le_of_ble_eq_true rfl)
  rw [lg_entry_eq]
  generalize (lg_sl ([.ref x]) ++ List.replicate (2 - (lg_sl ([.ref x])).length) Slot.unset).toArray = ls at hl ⊢
  have hl : lv_has ls 2 [(0, .ref x)] := hl
  refine lv_aload_n hx hb dX11_far_0 rfl (lv_at hl 0 rfl) ?_
  refine va_get (D := (dC, dI)) (ci := 10) (v := .ref xHall) (C := RX11) (T := TX11) (N := 15) hx hb hts uinX11 hown hK hP 0 rfl rfl 1 (by decide) (hts _ wd_2_66) (fun _ h9 => h9) rfl dX11_far_1 ?_
  have hPc := hP.sub (ws' := [(xHall, .inr (2, [.int 0, .int 0, .int 0, .int 0, .int 0, .int 0, .ref a_first, .ref a_now, .ref a_lawPlace, .ref a_lawOther, .ref a_lawEach, .ref a_lawFrom, .ref a_foes, .ref a_suitTable, .ref a_acts]))]) [1] rfl
  have hKc := hK.sub (tys' := [(cyI, .int), (cyB, .byte), (cyJ, .long), (cyZ, .boolean), (cyH, .object RX2), (cyN, .array .long)]) [0, 1, 2, 3, 4, 5] rfl
  refine vp_callSi (va_Run.run (va_runV (As := []) (rest := []) ⟨hx, hb, hml, hown, hts⟩ (c_isNone l dC dI cyI cyB cyJ cyZ cyH cyN xHall a_first a_now a_lawPlace a_lawOther a_lawEach a_lawFrom a_foes a_suitTable a_acts) (cwV 0 hts (gdV wd_3_130 wd_3_131 wd_3_132 wd_1_3 wd_3_133) rfl rfl rfl (by decide +kernel) ⟨Nat.le_of_ble_eq_true rfl, Nat.le_of_ble_eq_true rfl⟩) ⟨fun a U g mk q => by obtain ⟨q0, qP, qK⟩ := q; exact ⟨q0, qP, va_K.moved (u := U) (U := U.calling g mk a) (Vm.Alike.refl U.vm) qK⟩, va_recv hKc hPc (ci := 2) (q0 := 0) rfl rfl, fun U hU hW => ⟨rfl, by rw [hU]; exact hPc, va_K.moved hW.alike hKc⟩⟩ rfl rfl hl.1 rfl (lv_room (Nat.le_of_ble_eq_true rfl)) dX11_far_4 ⟨Nat.le_of_ble_eq_true rfl, Nat.le_of_ble_eq_true rfl⟩)) (fun r_1 hw => ?_)
  subst hw
  refine lv_if_eq (tgt := 13) hx hb dX11_far_7 (by decide) (fun c_2 => absurd c_2 (by decide)) (fun _ => ?_)
  refine lv_bipush (v := (-2)) hx hb dX11_far_10 (by decide) ?_
  exact W.iret (v := (-2)) hx hb hr (fun t ht hW => ⟨(-2), rfl, rfl, ht⟩) (fun q h => by cases h) dX11_far_12

/- X11_fits -/
set_option maxHeartbeats 4000000 in
set_option maxRecDepth 100000 in
theorem c_fits (l : Launch) (dC : Nat → ClassId) (dI : Nat → Nat → Nat) (cyI cyB cyJ cyZ cyH cyN : ClassId) (x xTape xHall xDraft xImages xKept xSlots xCourse xSight xParting xSuiting xGame xLots xTold xTried a_first a_now a_lawPlace a_lawOther a_lawEach a_lawFrom a_foes a_suitTable a_acts : Nat) (p0 : Int32) : Met l yX11_fits (wk yX11_fits cX11_fits 3 (some .int)) ({ frames := 3, cells := 0, slots := 0, locals := 101 }) (va_Pc [.ref x, .int p0] (fun U => va_P (dC, dI) vwCl [(x, .inr (10, [.ref xTape, .ref xHall, .ref xDraft, .ref xImages, .ref xKept, .ref xSlots, .ref xCourse, .ref xSight, .ref xParting, .ref xSuiting, .ref xGame, .ref xLots, .ref xTold, .ref xTried, .null])), (xHall, .inr (2, [.int 0, .int 0, .int 0, .int 0, .int 0, .int 0, .ref a_first, .ref a_now, .ref a_lawPlace, .ref a_lawOther, .ref a_lawEach, .ref a_lawFrom, .ref a_foes, .ref a_suitTable, .ref a_acts]))] U.heap ∧ va_K (dC, dI) vwCl [(cyI, .int), (cyB, .byte), (cyJ, .long), (cyZ, .boolean), (cyH, .object RX2), (cyN, .array .long)] U)) (vp_Si (fun r : Int32 => r = (-2))) 0 0 (fun _ => False) := by
  refine Met.ofW (cc := cX11_fits) (maxL := 3) (ret := (some .int)) (by decide) rfl ?_
  intro p e s m args below meth c s₁ B hml hv
  obtain ⟨rfl, hP, hK⟩ := hv
  have hx := B.exec
  have hb := B.bytes
  have hr := B.returns
  have hts : ∀ w ∈ uU, w.before ([.ref x, .int p0] : List Value).toArray s = true := fun w h => atoms_spec (ws := wk yX11_fits cX11_fits 3 (some .int)) B.pre w (List.mem_cons_of_mem _ h)
  have hown : s.vm.findClass RX11 = some m.cls := findClass_of_methodNamed B.named
  have hlocks := B.notSynchronized
  have hl := lv_entry ([.ref x, .int p0]) (n := 3) (Nat.le_of_ble_eq_true rfl)
  rw [lg_entry_eq]
  generalize (lg_sl ([.ref x, .int p0]) ++ List.replicate (3 - (lg_sl ([.ref x, .int p0])).length) Slot.unset).toArray = ls at hl ⊢
  have hl : lv_has ls 3 [(0, .ref x), (1, .int p0)] := hl
  refine lv_aload_n hx hb dX11_fits_0 rfl (lv_at hl 0 rfl) ?_
  refine lv_iload_n hx hb dX11_fits_1 rfl (lv_at hl 1 rfl) ?_
  have hPc := hP.sub (ws' := [(x, .inr (10, [.ref xTape, .ref xHall, .ref xDraft, .ref xImages, .ref xKept, .ref xSlots, .ref xCourse, .ref xSight, .ref xParting, .ref xSuiting, .ref xGame, .ref xLots, .ref xTold, .ref xTried, .null])), (xHall, .inr (2, [.int 0, .int 0, .int 0, .int 0, .int 0, .int 0, .ref a_first, .ref a_now, .ref a_lawPlace, .ref a_lawOther, .ref a_lawEach, .ref a_lawFrom, .ref a_foes, .ref a_suitTable, .ref a_acts]))]) [0, 1] rfl
  have hKc := hK.sub (tys' := [(cyI, .int), (cyB, .byte), (cyJ, .long), (cyZ, .boolean), (cyH, .object RX2), (cyN, .array .long)]) [0, 1, 2, 3, 4, 5] rfl
  refine vp_callSi (va_Run.run (va_runV (As := [.int p0]) (rest := []) ⟨hx, hb, hml, hown, hts⟩ (c_readSeen l dC dI cyI cyB cyJ cyZ cyH cyN x xTape xHall xDraft xImages xKept xSlots xCourse xSight xParting xSuiting xGame xLots xTold xTried a_first a_now a_lawPlace a_lawOther a_lawEach a_lawFrom a_foes a_suitTable a_acts p0) (cwV 1 hts (gdV wd_4_173 wd_4_175 wd_s2_12 wd_1_1 wd_4_176) rfl rfl rfl (by decide +kernel) ⟨Nat.le_of_ble_eq_true rfl, Nat.le_of_ble_eq_true rfl⟩) ⟨fun a U g mk q => by obtain ⟨q0, qP, qK⟩ := q; exact ⟨q0, qP, va_K.moved (u := U) (U := U.calling g mk a) (Vm.Alike.refl U.vm) qK⟩, va_recv hKc hPc (ci := 10) (q0 := 0) rfl rfl, fun U hU hW => ⟨rfl, by rw [hU]; exact hPc, va_K.moved hW.alike hKc⟩⟩ rfl rfl hl.1 rfl (lv_room (Nat.le_of_ble_eq_true rfl)) dX11_fits_2 ⟨Nat.le_of_ble_eq_true rfl, Nat.le_of_ble_eq_true rfl⟩)) (fun r_1 hw => ?_)
  subst hw
  refine lv_istore_n (lv' := [(2, .int (-2)), (0, .ref x), (1, .int p0)]) hx hb dX11_fits_5 rfl hl (by decide) rfl (fun ls hl => ?_)
  refine lv_iload_n hx hb dX11_fits_6 rfl (lv_at hl 0 rfl) ?_
  refine lv_if_eq (tgt := 14) hx hb dX11_fits_7 (by decide) (fun c_2 => absurd c_2 (by decide)) (fun _ => ?_)
  refine lv_iload_n hx hb dX11_fits_10 rfl (lv_at hl 0 rfl) ?_
  refine lv_goto (tgt := 21) hx hb dX11_fits_11 (by decide) ?_
  exact W.iret (v := (-2)) hx hb hr (fun t ht hW => ⟨(-2), rfl, rfl, ht⟩) (fun q h => by cases h) dX11_fits_21

/- X11_fit -/
set_option maxHeartbeats 4000000 in
set_option maxRecDepth 100000 in
theorem c_fit (l : Launch) (dC : Nat → ClassId) (dI : Nat → Nat → Nat) (cyI cyB cyJ cyZ cyH cyN : ClassId) (x xTape xHall xDraft xImages xKept xSlots xCourse xSight xParting xSuiting xGame xLots xTold xTried a_first a_now a_lawPlace a_lawOther a_lawEach a_lawFrom a_foes a_suitTable a_acts : Nat) (p0 p1 : Int32) : Met l yX11_fit (wk yX11_fit cX11_fit 4 (some .int)) ({ frames := 2, cells := 0, slots := 0, locals := 81 }) (va_Pc [.ref x, .int p0, .int p1] (fun U => va_P (dC, dI) vwCl [(x, .inr (10, [.ref xTape, .ref xHall, .ref xDraft, .ref xImages, .ref xKept, .ref xSlots, .ref xCourse, .ref xSight, .ref xParting, .ref xSuiting, .ref xGame, .ref xLots, .ref xTold, .ref xTried, .null])), (xHall, .inr (2, [.int 0, .int 0, .int 0, .int 0, .int 0, .int 0, .ref a_first, .ref a_now, .ref a_lawPlace, .ref a_lawOther, .ref a_lawEach, .ref a_lawFrom, .ref a_foes, .ref a_suitTable, .ref a_acts]))] U.heap ∧ va_K (dC, dI) vwCl [(cyI, .int), (cyB, .byte), (cyJ, .long), (cyZ, .boolean), (cyH, .object RX2), (cyN, .array .long)] U)) (vp_Si (fun r : Int32 => r = (-2))) 0 0 (fun _ => False) := by
  refine Met.ofW (cc := cX11_fit) (maxL := 4) (ret := (some .int)) (by decide) rfl ?_
  intro p e s m args below meth c s₁ B hml hv
  obtain ⟨rfl, hP, hK⟩ := hv
  have hx := B.exec
  have hb := B.bytes
  have hr := B.returns
  have hts : ∀ w ∈ uU, w.before ([.ref x, .int p0, .int p1] : List Value).toArray s = true := fun w h => atoms_spec (ws := wk yX11_fit cX11_fit 4 (some .int)) B.pre w (List.mem_cons_of_mem _ h)
  have hown : s.vm.findClass RX11 = some m.cls := findClass_of_methodNamed B.named
  have hlocks := B.notSynchronized
  have hl := lv_entry ([.ref x, .int p0, .int p1]) (n := 4) (Nat.le_of_ble_eq_true rfl)
  rw [lg_entry_eq]
  generalize (lg_sl ([.ref x, .int p0, .int p1]) ++ List.replicate (4 - (lg_sl ([.ref x, .int p0, .int p1])).length) Slot.unset).toArray = ls at hl ⊢
  have hl : lv_has ls 4 [(0, .ref x), (1, .int p0), (2, .int p1)] := hl
  refine lv_aload_n hx hb dX11_fit_0 rfl (lv_at hl 0 rfl) ?_
  refine va_get (D := (dC, dI)) (ci := 10) (v := .ref xHall) (C := RX11) (T := TX11) (N := 15) hx hb hts uinX11 hown hK hP 0 rfl rfl 1 (by decide) (hts _ wd_2_66) (fun _ h9 => h9) rfl dX11_fit_1 ?_
  refine lv_iload_n hx hb dX11_fit_4 rfl (lv_at hl 2 rfl) ?_
  have hPc := hP.sub (ws' := [(xHall, .inr (2, [.int 0, .int 0, .int 0, .int 0, .int 0, .int 0, .ref a_first, .ref a_now, .ref a_lawPlace, .ref a_lawOther, .ref a_lawEach, .ref a_lawFrom, .ref a_foes, .ref a_suitTable, .ref a_acts]))]) [1] rfl
  have hKc := hK.sub (tys' := [(cyI, .int), (cyB, .byte), (cyJ, .long), (cyZ, .boolean), (cyH, .object RX2), (cyN, .array .long)]) [0, 1, 2, 3, 4, 5] rfl
  refine vp_callSi (va_Run.run (va_runV (As := [.int p1]) (rest := []) ⟨hx, hb, hml, hown, hts⟩ (c_holds l dC dI cyI cyB cyJ cyZ cyH cyN xHall a_first a_now a_lawPlace a_lawOther a_lawEach a_lawFrom a_foes a_suitTable a_acts p1) (cwV 1 hts (gdV wd_3_56 wd_3_57 wd_3_58 wd_1_3 wd_3_59) rfl rfl rfl (by decide +kernel) ⟨Nat.le_of_ble_eq_true rfl, Nat.le_of_ble_eq_true rfl⟩) ⟨fun a U g mk q => by obtain ⟨q0, qP, qK⟩ := q; exact ⟨q0, qP, va_K.moved (u := U) (U := U.calling g mk a) (Vm.Alike.refl U.vm) qK⟩, va_recv hKc hPc (ci := 2) (q0 := 0) rfl rfl, fun U hU hW => ⟨rfl, by rw [hU]; exact hPc, va_K.moved hW.alike hKc⟩⟩ rfl rfl hl.1 rfl (lv_room (Nat.le_of_ble_eq_true rfl)) dX11_fit_5 ⟨Nat.le_of_ble_eq_true rfl, Nat.le_of_ble_eq_true rfl⟩)) (fun r_1 hw => ?_)
  subst hw
  refine lv_if_ne (tgt := 14) hx hb dX11_fit_8 (by decide) (fun c_2 => absurd c_2 (by decide)) (fun _ => ?_)
  refine lv_bipush (v := (-2)) hx hb dX11_fit_11 (by decide) ?_
  exact W.iret (v := (-2)) hx hb hr (fun t ht hW => ⟨(-2), rfl, rfl, ht⟩) (fun q h => by cases h) dX11_fit_13

/- X11_ask -/
set_option maxHeartbeats 4000000 in
set_option maxRecDepth 100000 in
theorem c_ask (l : Launch) (dC : Nat → ClassId) (dI : Nat → Nat → Nat) (cyI cyB cyJ cyZ cyH cyN : ClassId) (x xTape xHall xDraft xImages xKept xSlots xCourse xSight xParting xSuiting xGame xLots xTold xTried a_first a_now a_lawPlace a_lawOther a_lawEach a_lawFrom a_foes a_suitTable a_acts : Nat) (p0 : Int32) : Met l yX11_ask (wk yX11_ask cX11_ask 3 (some .int)) ({ frames := 3, cells := 0, slots := 0, locals := 101 }) (va_Pc [.ref x, .int p0] (fun U => va_P (dC, dI) vwCl [(x, .inr (10, [.ref xTape, .ref xHall, .ref xDraft, .ref xImages, .ref xKept, .ref xSlots, .ref xCourse, .ref xSight, .ref xParting, .ref xSuiting, .ref xGame, .ref xLots, .ref xTold, .ref xTried, .null])), (xHall, .inr (2, [.int 0, .int 0, .int 0, .int 0, .int 0, .int 0, .ref a_first, .ref a_now, .ref a_lawPlace, .ref a_lawOther, .ref a_lawEach, .ref a_lawFrom, .ref a_foes, .ref a_suitTable, .ref a_acts]))] U.heap ∧ va_K (dC, dI) vwCl [(cyI, .int), (cyB, .byte), (cyJ, .long), (cyZ, .boolean), (cyH, .object RX2), (cyN, .array .long)] U)) (vp_Si (fun r : Int32 => r = (-2))) 0 0 (fun _ => False) := by
  refine Met.ofW (cc := cX11_ask) (maxL := 3) (ret := (some .int)) (by decide) rfl ?_
  intro p e s m args below meth c s₁ B hml hv
  obtain ⟨rfl, hP, hK⟩ := hv
  have hx := B.exec
  have hb := B.bytes
  have hr := B.returns
  have hts : ∀ w ∈ uU, w.before ([.ref x, .int p0] : List Value).toArray s = true := fun w h => atoms_spec (ws := wk yX11_ask cX11_ask 3 (some .int)) B.pre w (List.mem_cons_of_mem _ h)
  have hown : s.vm.findClass RX11 = some m.cls := findClass_of_methodNamed B.named
  have hlocks := B.notSynchronized
  have hl := lv_entry ([.ref x, .int p0]) (n := 3) (Nat.le_of_ble_eq_true rfl)
  rw [lg_entry_eq]
  generalize (lg_sl ([.ref x, .int p0]) ++ List.replicate (3 - (lg_sl ([.ref x, .int p0])).length) Slot.unset).toArray = ls at hl ⊢
  have hl : lv_has ls 3 [(0, .ref x), (1, .int p0)] := hl
  refine lv_aload_n hx hb dX11_ask_0 rfl (lv_at hl 0 rfl) ?_
  refine lv_iload_n hx hb dX11_ask_1 rfl (lv_at hl 1 rfl) ?_
  have hPc := hP.sub (ws' := [(x, .inr (10, [.ref xTape, .ref xHall, .ref xDraft, .ref xImages, .ref xKept, .ref xSlots, .ref xCourse, .ref xSight, .ref xParting, .ref xSuiting, .ref xGame, .ref xLots, .ref xTold, .ref xTried, .null])), (xHall, .inr (2, [.int 0, .int 0, .int 0, .int 0, .int 0, .int 0, .ref a_first, .ref a_now, .ref a_lawPlace, .ref a_lawOther, .ref a_lawEach, .ref a_lawFrom, .ref a_foes, .ref a_suitTable, .ref a_acts]))]) [0, 1] rfl
  have hKc := hK.sub (tys' := [(cyI, .int), (cyB, .byte), (cyJ, .long), (cyZ, .boolean), (cyH, .object RX2), (cyN, .array .long)]) [0, 1, 2, 3, 4, 5] rfl
  refine vp_callSi (va_Run.run (va_runV (As := [.int p0]) (rest := []) ⟨hx, hb, hml, hown, hts⟩ (c_readSeen l dC dI cyI cyB cyJ cyZ cyH cyN x xTape xHall xDraft xImages xKept xSlots xCourse xSight xParting xSuiting xGame xLots xTold xTried a_first a_now a_lawPlace a_lawOther a_lawEach a_lawFrom a_foes a_suitTable a_acts p0) (cwV 1 hts (gdV wd_4_173 wd_4_175 wd_s2_12 wd_1_1 wd_4_176) rfl rfl rfl (by decide +kernel) ⟨Nat.le_of_ble_eq_true rfl, Nat.le_of_ble_eq_true rfl⟩) ⟨fun a U g mk q => by obtain ⟨q0, qP, qK⟩ := q; exact ⟨q0, qP, va_K.moved (u := U) (U := U.calling g mk a) (Vm.Alike.refl U.vm) qK⟩, va_recv hKc hPc (ci := 10) (q0 := 0) rfl rfl, fun U hU hW => ⟨rfl, by rw [hU]; exact hPc, va_K.moved hW.alike hKc⟩⟩ rfl rfl hl.1 rfl (lv_room (Nat.le_of_ble_eq_true rfl)) dX11_ask_2 ⟨Nat.le_of_ble_eq_true rfl, Nat.le_of_ble_eq_true rfl⟩)) (fun r_1 hw => ?_)
  subst hw
  refine lv_istore_n (lv' := [(2, .int (-2)), (0, .ref x), (1, .int p0)]) hx hb dX11_ask_5 rfl hl (by decide) rfl (fun ls hl => ?_)
  refine lv_iload_n hx hb dX11_ask_6 rfl (lv_at hl 0 rfl) ?_
  refine lv_if_eq (tgt := 14) hx hb dX11_ask_7 (by decide) (fun c_2 => absurd c_2 (by decide)) (fun _ => ?_)
  refine lv_iload_n hx hb dX11_ask_10 rfl (lv_at hl 0 rfl) ?_
  refine lv_goto (tgt := 21) hx hb dX11_ask_11 (by decide) ?_
  exact W.iret (v := (-2)) hx hb hr (fun t ht hW => ⟨(-2), rfl, rfl, ht⟩) (fun q h => by cases h) dX11_ask_21

/- X11_leaves -/
set_option maxHeartbeats 4000000 in
set_option maxRecDepth 100000 in
theorem c_leaves (l : Launch) (dC : Nat → ClassId) (dI : Nat → Nat → Nat) (cyI cyB cyJ cyZ cyH cyN : ClassId) (x xTape xHall xDraft xImages xKept xSlots xCourse xSight xParting xSuiting xGame xLots xTold xTried a_first a_now a_lawPlace a_lawOther a_lawEach a_lawFrom a_foes a_suitTable a_acts : Nat) (p0 : Int32) : Met l yX11_leaves (wk yX11_leaves cX11_leaves 3 (some .int)) ({ frames := 3, cells := 0, slots := 0, locals := 101 }) (va_Pc [.ref x, .int p0] (fun U => va_P (dC, dI) vwCl [(x, .inr (10, [.ref xTape, .ref xHall, .ref xDraft, .ref xImages, .ref xKept, .ref xSlots, .ref xCourse, .ref xSight, .ref xParting, .ref xSuiting, .ref xGame, .ref xLots, .ref xTold, .ref xTried, .null])), (xHall, .inr (2, [.int 0, .int 0, .int 0, .int 0, .int 0, .int 0, .ref a_first, .ref a_now, .ref a_lawPlace, .ref a_lawOther, .ref a_lawEach, .ref a_lawFrom, .ref a_foes, .ref a_suitTable, .ref a_acts]))] U.heap ∧ va_K (dC, dI) vwCl [(cyI, .int), (cyB, .byte), (cyJ, .long), (cyZ, .boolean), (cyH, .object RX2), (cyN, .array .long)] U)) (vp_Si (fun r : Int32 => r = (-2))) 0 0 (fun _ => False) := by
  refine Met.ofW (cc := cX11_leaves) (maxL := 3) (ret := (some .int)) (by decide) rfl ?_
  intro p e s m args below meth c s₁ B hml hv
  obtain ⟨rfl, hP, hK⟩ := hv
  have hx := B.exec
  have hb := B.bytes
  have hr := B.returns
  have hts : ∀ w ∈ uU, w.before ([.ref x, .int p0] : List Value).toArray s = true := fun w h => atoms_spec (ws := wk yX11_leaves cX11_leaves 3 (some .int)) B.pre w (List.mem_cons_of_mem _ h)
  have hown : s.vm.findClass RX11 = some m.cls := findClass_of_methodNamed B.named
  have hlocks := B.notSynchronized
  have hl := lv_entry ([.ref x, .int p0]) (n := 3) (Nat.le_of_ble_eq_true rfl)
  rw [lg_entry_eq]
  generalize (lg_sl ([.ref x, .int p0]) ++ List.replicate (3 - (lg_sl ([.ref x, .int p0])).length) Slot.unset).toArray = ls at hl ⊢
  have hl : lv_has ls 3 [(0, .ref x), (1, .int p0)] := hl
  refine lv_aload_n hx hb dX11_leaves_0 rfl (lv_at hl 0 rfl) ?_
  refine lv_iload_n hx hb dX11_leaves_1 rfl (lv_at hl 1 rfl) ?_
  have hPc := hP.sub (ws' := [(x, .inr (10, [.ref xTape, .ref xHall, .ref xDraft, .ref xImages, .ref xKept, .ref xSlots, .ref xCourse, .ref xSight, .ref xParting, .ref xSuiting, .ref xGame, .ref xLots, .ref xTold, .ref xTried, .null])), (xHall, .inr (2, [.int 0, .int 0, .int 0, .int 0, .int 0, .int 0, .ref a_first, .ref a_now, .ref a_lawPlace, .ref a_lawOther, .ref a_lawEach, .ref a_lawFrom, .ref a_foes, .ref a_suitTable, .ref a_acts]))]) [0, 1] rfl
  have hKc := hK.sub (tys' := [(cyI, .int), (cyB, .byte), (cyJ, .long), (cyZ, .boolean), (cyH, .object RX2), (cyN, .array .long)]) [0, 1, 2, 3, 4, 5] rfl
  refine vp_callSi (va_Run.run (va_runV (As := [.int p0]) (rest := []) ⟨hx, hb, hml, hown, hts⟩ (c_readSeen l dC dI cyI cyB cyJ cyZ cyH cyN x xTape xHall xDraft xImages xKept xSlots xCourse xSight xParting xSuiting xGame xLots xTold xTried a_first a_now a_lawPlace a_lawOther a_lawEach a_lawFrom a_foes a_suitTable a_acts p0) (cwV 1 hts (gdV wd_4_173 wd_4_175 wd_s2_12 wd_1_1 wd_4_176) rfl rfl rfl (by decide +kernel) ⟨Nat.le_of_ble_eq_true rfl, Nat.le_of_ble_eq_true rfl⟩) ⟨fun a U g mk q => by obtain ⟨q0, qP, qK⟩ := q; exact ⟨q0, qP, va_K.moved (u := U) (U := U.calling g mk a) (Vm.Alike.refl U.vm) qK⟩, va_recv hKc hPc (ci := 10) (q0 := 0) rfl rfl, fun U hU hW => ⟨rfl, by rw [hU]; exact hPc, va_K.moved hW.alike hKc⟩⟩ rfl rfl hl.1 rfl (lv_room (Nat.le_of_ble_eq_true rfl)) dX11_leaves_2 ⟨Nat.le_of_ble_eq_true rfl, Nat.le_of_ble_eq_true rfl⟩)) (fun r_1 hw => ?_)
  subst hw
  refine lv_istore_n (lv' := [(2, .int (-2)), (0, .ref x), (1, .int p0)]) hx hb dX11_leaves_5 rfl hl (by decide) rfl (fun ls hl => ?_)
  refine lv_iload_n hx hb dX11_leaves_6 rfl (lv_at hl 0 rfl) ?_
  refine lv_if_eq (tgt := 14) hx hb dX11_leaves_7 (by decide) (fun c_2 => absurd c_2 (by decide)) (fun _ => ?_)
  refine lv_iload_n hx hb dX11_leaves_10 rfl (lv_at hl 0 rfl) ?_
  refine lv_goto (tgt := 21) hx hb dX11_leaves_11 (by decide) ?_
  exact W.iret (v := (-2)) hx hb hr (fun t ht hW => ⟨(-2), rfl, rfl, ht⟩) (fun q h => by cases h) dX11_leaves_21

/- X11_changed -/
set_option maxHeartbeats 4000000 in
set_option maxRecDepth 100000 in
theorem c_changed (l : Launch) (dC : Nat → ClassId) (dI : Nat → Nat → Nat) (cyI cyB cyJ cyZ cyH cyN : ClassId) (x xTape xHall xDraft xImages xKept xSlots xCourse xSight xParting xSuiting xGame xLots xTold xTried a_first a_now a_lawPlace a_lawOther a_lawEach a_lawFrom a_foes a_suitTable a_acts : Nat) (p0 : Int32) : Met l yX11_changed (wk yX11_changed cX11_changed 3 (some .int)) ({ frames := 3, cells := 0, slots := 0, locals := 101 }) (va_Pc [.ref x, .int p0] (fun U => va_P (dC, dI) vwCl [(x, .inr (10, [.ref xTape, .ref xHall, .ref xDraft, .ref xImages, .ref xKept, .ref xSlots, .ref xCourse, .ref xSight, .ref xParting, .ref xSuiting, .ref xGame, .ref xLots, .ref xTold, .ref xTried, .null])), (xHall, .inr (2, [.int 0, .int 0, .int 0, .int 0, .int 0, .int 0, .ref a_first, .ref a_now, .ref a_lawPlace, .ref a_lawOther, .ref a_lawEach, .ref a_lawFrom, .ref a_foes, .ref a_suitTable, .ref a_acts]))] U.heap ∧ va_K (dC, dI) vwCl [(cyI, .int), (cyB, .byte), (cyJ, .long), (cyZ, .boolean), (cyH, .object RX2), (cyN, .array .long)] U)) (vp_Si (fun r : Int32 => r = (-2))) 0 0 (fun _ => False) := by
  refine Met.ofW (cc := cX11_changed) (maxL := 3) (ret := (some .int)) (by decide) rfl ?_
  intro p e s m args below meth c s₁ B hml hv
  obtain ⟨rfl, hP, hK⟩ := hv
  have hx := B.exec
  have hb := B.bytes
  have hr := B.returns
  have hts : ∀ w ∈ uU, w.before ([.ref x, .int p0] : List Value).toArray s = true := fun w h => atoms_spec (ws := wk yX11_changed cX11_changed 3 (some .int)) B.pre w (List.mem_cons_of_mem _ h)
  have hown : s.vm.findClass RX11 = some m.cls := findClass_of_methodNamed B.named
  have hlocks := B.notSynchronized
  have hl := lv_entry ([.ref x, .int p0]) (n := 3) (Nat.le_of_ble_eq_true rfl)
  rw [lg_entry_eq]
  generalize (lg_sl ([.ref x, .int p0]) ++ List.replicate (3 - (lg_sl ([.ref x, .int p0])).length) Slot.unset).toArray = ls at hl ⊢
  have hl : lv_has ls 3 [(0, .ref x), (1, .int p0)] := hl
  refine lv_aload_n hx hb dX11_changed_0 rfl (lv_at hl 0 rfl) ?_
  refine lv_iload_n hx hb dX11_changed_1 rfl (lv_at hl 1 rfl) ?_
  have hPc := hP.sub (ws' := [(x, .inr (10, [.ref xTape, .ref xHall, .ref xDraft, .ref xImages, .ref xKept, .ref xSlots, .ref xCourse, .ref xSight, .ref xParting, .ref xSuiting, .ref xGame, .ref xLots, .ref xTold, .ref xTried, .null])), (xHall, .inr (2, [.int 0, .int 0, .int 0, .int 0, .int 0, .int 0, .ref a_first, .ref a_now, .ref a_lawPlace, .ref a_lawOther, .ref a_lawEach, .ref a_lawFrom, .ref a_foes, .ref a_suitTable, .ref a_acts]))]) [0, 1] rfl
  have hKc := hK.sub (tys' := [(cyI, .int), (cyB, .byte), (cyJ, .long), (cyZ, .boolean), (cyH, .object RX2), (cyN, .array .long)]) [0, 1, 2, 3, 4, 5] rfl
  refine vp_callSi (va_Run.run (va_runV (As := [.int p0]) (rest := []) ⟨hx, hb, hml, hown, hts⟩ (c_readTold l dC dI cyI cyB cyJ cyZ cyH cyN x xTape xHall xDraft xImages xKept xSlots xCourse xSight xParting xSuiting xGame xLots xTold xTried a_first a_now a_lawPlace a_lawOther a_lawEach a_lawFrom a_foes a_suitTable a_acts p0) (cwV 1 hts (gdV wd_4_29 wd_4_31 wd_s2_2 wd_1_1 wd_4_32) rfl rfl rfl (by decide +kernel) ⟨Nat.le_of_ble_eq_true rfl, Nat.le_of_ble_eq_true rfl⟩) ⟨fun a U g mk q => by obtain ⟨q0, qP, qK⟩ := q; exact ⟨q0, qP, va_K.moved (u := U) (U := U.calling g mk a) (Vm.Alike.refl U.vm) qK⟩, va_recv hKc hPc (ci := 10) (q0 := 0) rfl rfl, fun U hU hW => ⟨rfl, by rw [hU]; exact hPc, va_K.moved hW.alike hKc⟩⟩ rfl rfl hl.1 rfl (lv_room (Nat.le_of_ble_eq_true rfl)) dX11_changed_2 ⟨Nat.le_of_ble_eq_true rfl, Nat.le_of_ble_eq_true rfl⟩)) (fun r_1 hw => ?_)
  subst hw
  refine lv_istore_n (lv' := [(2, .int (-2)), (0, .ref x), (1, .int p0)]) hx hb dX11_changed_5 rfl hl (by decide) rfl (fun ls hl => ?_)
  refine lv_iload_n hx hb dX11_changed_6 rfl (lv_at hl 0 rfl) ?_
  refine lv_if_eq (tgt := 14) hx hb dX11_changed_7 (by decide) (fun c_2 => absurd c_2 (by decide)) (fun _ => ?_)
  refine lv_iload_n hx hb dX11_changed_10 rfl (lv_at hl 0 rfl) ?_
  refine lv_goto (tgt := 22) hx hb dX11_changed_11 (by decide) ?_
  exact W.iret (v := (-2)) hx hb hr (fun t ht hW => ⟨(-2), rfl, rfl, ht⟩) (fun q h => by cases h) dX11_changed_22

/- X11_same -/
set_option maxHeartbeats 4000000 in
set_option maxRecDepth 100000 in
theorem c_same (l : Launch) (dC : Nat → ClassId) (dI : Nat → Nat → Nat) (cyI cyB cyJ cyZ cyH cyN : ClassId) (x xTape xHall xDraft xImages xKept xSlots xCourse xSight xParting xSuiting xGame xLots xTold xTried a_first a_now a_lawPlace a_lawOther a_lawEach a_lawFrom a_foes a_suitTable a_acts : Nat) (p0 : Int32) : Met l yX11_same (wk yX11_same cX11_same 5 (some .int)) ({ frames := 3, cells := 0, slots := 0, locals := 101 }) (va_Pc [.ref x, .int p0] (fun U => va_P (dC, dI) vwCl [(x, .inr (10, [.ref xTape, .ref xHall, .ref xDraft, .ref xImages, .ref xKept, .ref xSlots, .ref xCourse, .ref xSight, .ref xParting, .ref xSuiting, .ref xGame, .ref xLots, .ref xTold, .ref xTried, .null])), (xHall, .inr (2, [.int 0, .int 0, .int 0, .int 0, .int 0, .int 0, .ref a_first, .ref a_now, .ref a_lawPlace, .ref a_lawOther, .ref a_lawEach, .ref a_lawFrom, .ref a_foes, .ref a_suitTable, .ref a_acts]))] U.heap ∧ va_K (dC, dI) vwCl [(cyI, .int), (cyB, .byte), (cyJ, .long), (cyZ, .boolean), (cyH, .object RX2), (cyN, .array .long)] U)) (vp_Si (fun r : Int32 => r = (-2))) 0 0 (fun _ => False) := by
  refine Met.ofW (cc := cX11_same) (maxL := 5) (ret := (some .int)) (by decide) rfl ?_
  intro p e s m args below meth c s₁ B hml hv
  obtain ⟨rfl, hP, hK⟩ := hv
  have hx := B.exec
  have hb := B.bytes
  have hr := B.returns
  have hts : ∀ w ∈ uU, w.before ([.ref x, .int p0] : List Value).toArray s = true := fun w h => atoms_spec (ws := wk yX11_same cX11_same 5 (some .int)) B.pre w (List.mem_cons_of_mem _ h)
  have hown : s.vm.findClass RX11 = some m.cls := findClass_of_methodNamed B.named
  have hlocks := B.notSynchronized
  have hl := lv_entry ([.ref x, .int p0]) (n := 5) (Nat.le_of_ble_eq_true rfl)
  rw [lg_entry_eq]
  generalize (lg_sl ([.ref x, .int p0]) ++ List.replicate (5 - (lg_sl ([.ref x, .int p0])).length) Slot.unset).toArray = ls at hl ⊢
  have hl : lv_has ls 5 [(0, .ref x), (1, .int p0)] := hl
  refine lv_aload_n hx hb dX11_same_0 rfl (lv_at hl 0 rfl) ?_
  refine lv_iload_n hx hb dX11_same_1 rfl (lv_at hl 1 rfl) ?_
  have hPc := hP.sub (ws' := [(x, .inr (10, [.ref xTape, .ref xHall, .ref xDraft, .ref xImages, .ref xKept, .ref xSlots, .ref xCourse, .ref xSight, .ref xParting, .ref xSuiting, .ref xGame, .ref xLots, .ref xTold, .ref xTried, .null])), (xHall, .inr (2, [.int 0, .int 0, .int 0, .int 0, .int 0, .int 0, .ref a_first, .ref a_now, .ref a_lawPlace, .ref a_lawOther, .ref a_lawEach, .ref a_lawFrom, .ref a_foes, .ref a_suitTable, .ref a_acts]))]) [0, 1] rfl
  have hKc := hK.sub (tys' := [(cyI, .int), (cyB, .byte), (cyJ, .long), (cyZ, .boolean), (cyH, .object RX2), (cyN, .array .long)]) [0, 1, 2, 3, 4, 5] rfl
  refine vp_callSi (va_Run.run (va_runV (As := [.int p0]) (rest := []) ⟨hx, hb, hml, hown, hts⟩ (c_readTold l dC dI cyI cyB cyJ cyZ cyH cyN x xTape xHall xDraft xImages xKept xSlots xCourse xSight xParting xSuiting xGame xLots xTold xTried a_first a_now a_lawPlace a_lawOther a_lawEach a_lawFrom a_foes a_suitTable a_acts p0) (cwV 1 hts (gdV wd_4_29 wd_4_31 wd_s2_2 wd_1_1 wd_4_32) rfl rfl rfl (by decide +kernel) ⟨Nat.le_of_ble_eq_true rfl, Nat.le_of_ble_eq_true rfl⟩) ⟨fun a U g mk q => by obtain ⟨q0, qP, qK⟩ := q; exact ⟨q0, qP, va_K.moved (u := U) (U := U.calling g mk a) (Vm.Alike.refl U.vm) qK⟩, va_recv hKc hPc (ci := 10) (q0 := 0) rfl rfl, fun U hU hW => ⟨rfl, by rw [hU]; exact hPc, va_K.moved hW.alike hKc⟩⟩ rfl rfl hl.1 rfl (lv_room (Nat.le_of_ble_eq_true rfl)) dX11_same_2 ⟨Nat.le_of_ble_eq_true rfl, Nat.le_of_ble_eq_true rfl⟩)) (fun r_1 hw => ?_)
  subst hw
  refine lv_istore_n (lv' := [(2, .int (-2)), (0, .ref x), (1, .int p0)]) hx hb dX11_same_5 rfl hl (by decide) rfl (fun ls hl => ?_)
  refine lv_iload_n hx hb dX11_same_6 rfl (lv_at hl 0 rfl) ?_
  refine lv_if_eq (tgt := 12) hx hb dX11_same_7 (by decide) (fun c_2 => absurd c_2 (by decide)) (fun _ => ?_)
  refine lv_iload_n hx hb dX11_same_10 rfl (lv_at hl 0 rfl) ?_
  exact W.iret (v := (-2)) hx hb hr (fun t ht hW => ⟨(-2), rfl, rfl, ht⟩) (fun q h => by cases h) dX11_same_11

/- X11_skipped -/
set_option maxHeartbeats 4000000 in
set_option maxRecDepth 100000 in
theorem c_skipped (l : Launch) (dC : Nat → ClassId) (dI : Nat → Nat → Nat) (cyI cyB cyJ cyZ cyH cyN : ClassId) (x xTape xHall xDraft xImages xKept xSlots xCourse xSight xParting xSuiting xGame xLots xTold xTried a_first a_now a_lawPlace a_lawOther a_lawEach a_lawFrom a_foes a_suitTable a_acts : Nat) (p0 : Int32) : Met l yX11_skipped (wk yX11_skipped cX11_skipped 8 (some .int)) ({ frames := 3, cells := 0, slots := 0, locals := 101 }) (va_Pc [.ref x, .int p0] (fun U => va_P (dC, dI) vwCl [(x, .inr (10, [.ref xTape, .ref xHall, .ref xDraft, .ref xImages, .ref xKept, .ref xSlots, .ref xCourse, .ref xSight, .ref xParting, .ref xSuiting, .ref xGame, .ref xLots, .ref xTold, .ref xTried, .null])), (xHall, .inr (2, [.int 0, .int 0, .int 0, .int 0, .int 0, .int 0, .ref a_first, .ref a_now, .ref a_lawPlace, .ref a_lawOther, .ref a_lawEach, .ref a_lawFrom, .ref a_foes, .ref a_suitTable, .ref a_acts]))] U.heap ∧ va_K (dC, dI) vwCl [(cyI, .int), (cyB, .byte), (cyJ, .long), (cyZ, .boolean), (cyH, .object RX2), (cyN, .array .long)] U)) (vp_Si (fun r : Int32 => r = (-2))) 0 0 (fun _ => False) := by
  refine Met.ofW (cc := cX11_skipped) (maxL := 8) (ret := (some .int)) (by decide) rfl ?_
  intro p e s m args below meth c s₁ B hml hv
  obtain ⟨rfl, hP, hK⟩ := hv
  have hx := B.exec
  have hb := B.bytes
  have hr := B.returns
  have hts : ∀ w ∈ uU, w.before ([.ref x, .int p0] : List Value).toArray s = true := fun w h => atoms_spec (ws := wk yX11_skipped cX11_skipped 8 (some .int)) B.pre w (List.mem_cons_of_mem _ h)
  have hown : s.vm.findClass RX11 = some m.cls := findClass_of_methodNamed B.named
  have hlocks := B.notSynchronized
  have hl := lv_entry ([.ref x, .int p0]) (n := 8) (Nat.le_of_ble_eq_true rfl)
  rw [lg_entry_eq]
  generalize (lg_sl ([.ref x, .int p0]) ++ List.replicate (8 - (lg_sl ([.ref x, .int p0])).length) Slot.unset).toArray = ls at hl ⊢
  have hl : lv_has ls 8 [(0, .ref x), (1, .int p0)] := hl
  refine lv_aload_n hx hb dX11_skipped_0 rfl (lv_at hl 0 rfl) ?_
  refine lv_iload_n hx hb dX11_skipped_1 rfl (lv_at hl 1 rfl) ?_
  have hPc := hP.sub (ws' := [(x, .inr (10, [.ref xTape, .ref xHall, .ref xDraft, .ref xImages, .ref xKept, .ref xSlots, .ref xCourse, .ref xSight, .ref xParting, .ref xSuiting, .ref xGame, .ref xLots, .ref xTold, .ref xTried, .null])), (xHall, .inr (2, [.int 0, .int 0, .int 0, .int 0, .int 0, .int 0, .ref a_first, .ref a_now, .ref a_lawPlace, .ref a_lawOther, .ref a_lawEach, .ref a_lawFrom, .ref a_foes, .ref a_suitTable, .ref a_acts]))]) [0, 1] rfl
  have hKc := hK.sub (tys' := [(cyI, .int), (cyB, .byte), (cyJ, .long), (cyZ, .boolean), (cyH, .object RX2), (cyN, .array .long)]) [0, 1, 2, 3, 4, 5] rfl
  refine vp_callSi (va_Run.run (va_runV (As := [.int p0]) (rest := []) ⟨hx, hb, hml, hown, hts⟩ (c_readTold l dC dI cyI cyB cyJ cyZ cyH cyN x xTape xHall xDraft xImages xKept xSlots xCourse xSight xParting xSuiting xGame xLots xTold xTried a_first a_now a_lawPlace a_lawOther a_lawEach a_lawFrom a_foes a_suitTable a_acts p0) (cwV 1 hts (gdV wd_4_29 wd_4_31 wd_s2_2 wd_1_1 wd_4_32) rfl rfl rfl (by decide +kernel) ⟨Nat.le_of_ble_eq_true rfl, Nat.le_of_ble_eq_true rfl⟩) ⟨fun a U g mk q => by obtain ⟨q0, qP, qK⟩ := q; exact ⟨q0, qP, va_K.moved (u := U) (U := U.calling g mk a) (Vm.Alike.refl U.vm) qK⟩, va_recv hKc hPc (ci := 10) (q0 := 0) rfl rfl, fun U hU hW => ⟨rfl, by rw [hU]; exact hPc, va_K.moved hW.alike hKc⟩⟩ rfl rfl hl.1 rfl (lv_room (Nat.le_of_ble_eq_true rfl)) dX11_skipped_2 ⟨Nat.le_of_ble_eq_true rfl, Nat.le_of_ble_eq_true rfl⟩)) (fun r_1 hw => ?_)
  subst hw
  refine lv_istore_n (lv' := [(2, .int (-2)), (0, .ref x), (1, .int p0)]) hx hb dX11_skipped_5 rfl hl (by decide) rfl (fun ls hl => ?_)
  refine lv_iload_n hx hb dX11_skipped_6 rfl (lv_at hl 0 rfl) ?_
  refine lv_if_eq (tgt := 12) hx hb dX11_skipped_7 (by decide) (fun c_2 => absurd c_2 (by decide)) (fun _ => ?_)
  refine lv_iload_n hx hb dX11_skipped_10 rfl (lv_at hl 0 rfl) ?_
  exact W.iret (v := (-2)) hx hb hr (fun t ht hW => ⟨(-2), rfl, rfl, ht⟩) (fun q h => by cases h) dX11_skipped_11

/- X11_hangs -/
set_option maxHeartbeats 4000000 in
set_option maxRecDepth 100000 in
theorem c_hangs (l : Launch) (dC : Nat → ClassId) (dI : Nat → Nat → Nat) (cyI cyB cyJ cyZ cyH cyN : ClassId) (x xTape xHall xDraft xImages xKept xSlots xCourse xSight xParting xSuiting xGame xLots xTold xTried a_first a_now a_lawPlace a_lawOther a_lawEach a_lawFrom a_foes a_suitTable a_acts : Nat) : Met l yX11_hangs (wk yX11_hangs cX11_hangs 1 (some .int)) ({ frames := 2, cells := 0, slots := 0, locals := 80 }) (va_Pc [.ref x] (fun U => va_P (dC, dI) vwCl [(x, .inr (10, [.ref xTape, .ref xHall, .ref xDraft, .ref xImages, .ref xKept, .ref xSlots, .ref xCourse, .ref xSight, .ref xParting, .ref xSuiting, .ref xGame, .ref xLots, .ref xTold, .ref xTried, .null])), (xHall, .inr (2, [.int 0, .int 0, .int 0, .int 0, .int 0, .int 0, .ref a_first, .ref a_now, .ref a_lawPlace, .ref a_lawOther, .ref a_lawEach, .ref a_lawFrom, .ref a_foes, .ref a_suitTable, .ref a_acts]))] U.heap ∧ va_K (dC, dI) vwCl [(cyI, .int), (cyB, .byte), (cyJ, .long), (cyZ, .boolean), (cyH, .object RX2), (cyN, .array .long)] U)) (vp_Si (fun r : Int32 => r = (-2))) 0 0 (fun _ => False) := by
  refine Met.ofW (cc := cX11_hangs) (maxL := 1) (ret := (some .int)) (by decide) rfl ?_
  intro p e s m args below meth c s₁ B hml hv
  obtain ⟨rfl, hP, hK⟩ := hv
  have hx := B.exec
  have hb := B.bytes
  have hr := B.returns
  have hts : ∀ w ∈ uU, w.before ([.ref x] : List Value).toArray s = true := fun w h => atoms_spec (ws := wk yX11_hangs cX11_hangs 1 (some .int)) B.pre w (List.mem_cons_of_mem _ h)
  have hown : s.vm.findClass RX11 = some m.cls := findClass_of_methodNamed B.named
  have hlocks := B.notSynchronized
  have hl := lv_entry ([.ref x]) (n := 1) (Nat.le_of_ble_eq_true rfl)
  rw [lg_entry_eq]
  generalize (lg_sl ([.ref x]) ++ List.replicate (1 - (lg_sl ([.ref x])).length) Slot.unset).toArray = ls at hl ⊢
  have hl : lv_has ls 1 [(0, .ref x)] := hl
  refine lv_aload_n hx hb dX11_hangs_0 rfl (lv_at hl 0 rfl) ?_
  refine va_get (D := (dC, dI)) (ci := 10) (v := .ref xHall) (C := RX11) (T := TX11) (N := 15) hx hb hts uinX11 hown hK hP 0 rfl rfl 1 (by decide) (hts _ wd_2_66) (fun _ h9 => h9) rfl dX11_hangs_1 ?_
  have hPc := hP.sub (ws' := [(xHall, .inr (2, [.int 0, .int 0, .int 0, .int 0, .int 0, .int 0, .ref a_first, .ref a_now, .ref a_lawPlace, .ref a_lawOther, .ref a_lawEach, .ref a_lawFrom, .ref a_foes, .ref a_suitTable, .ref a_acts]))]) [1] rfl
  have hKc := hK.sub (tys' := [(cyI, .int), (cyB, .byte), (cyJ, .long), (cyZ, .boolean), (cyH, .object RX2), (cyN, .array .long)]) [0, 1, 2, 3, 4, 5] rfl
  refine vp_callSi (va_Run.run (va_runV (As := []) (rest := []) ⟨hx, hb, hml, hown, hts⟩ (c_isNone l dC dI cyI cyB cyJ cyZ cyH cyN xHall a_first a_now a_lawPlace a_lawOther a_lawEach a_lawFrom a_foes a_suitTable a_acts) (cwV 0 hts (gdV wd_3_130 wd_3_131 wd_3_132 wd_1_3 wd_3_133) rfl rfl rfl (by decide +kernel) ⟨Nat.le_of_ble_eq_true rfl, Nat.le_of_ble_eq_true rfl⟩) ⟨fun a U g mk q => by obtain ⟨q0, qP, qK⟩ := q; exact ⟨q0, qP, va_K.moved (u := U) (U := U.calling g mk a) (Vm.Alike.refl U.vm) qK⟩, va_recv hKc hPc (ci := 2) (q0 := 0) rfl rfl, fun U hU hW => ⟨rfl, by rw [hU]; exact hPc, va_K.moved hW.alike hKc⟩⟩ rfl rfl hl.1 rfl (lv_room (Nat.le_of_ble_eq_true rfl)) dX11_hangs_4 ⟨Nat.le_of_ble_eq_true rfl, Nat.le_of_ble_eq_true rfl⟩)) (fun r_1 hw => ?_)
  subst hw
  refine lv_if_eq (tgt := 13) hx hb dX11_hangs_7 (by decide) (fun c_2 => absurd c_2 (by decide)) (fun _ => ?_)
  refine lv_bipush (v := (-2)) hx hb dX11_hangs_10 (by decide) ?_
  exact W.iret (v := (-2)) hx hb hr (fun t ht hW => ⟨(-2), rfl, rfl, ht⟩) (fun q h => by cases h) dX11_hangs_12

/- X11_hang -/
set_option maxHeartbeats 4000000 in
set_option maxRecDepth 100000 in
theorem c_hang (l : Launch) (dC : Nat → ClassId) (dI : Nat → Nat → Nat) (cyI cyB cyJ cyZ cyH cyN : ClassId) (x xTape xHall xDraft xImages xKept xSlots xCourse xSight xParting xSuiting xGame xLots xTold xTried a_first a_now a_lawPlace a_lawOther a_lawEach a_lawFrom a_foes a_suitTable a_acts : Nat) (p0 : Int32) : Met l yX11_hang (wk yX11_hang cX11_hang 2 (some .int)) ({ frames := 2, cells := 0, slots := 0, locals := 81 }) (va_Pc [.ref x, .int p0] (fun U => va_P (dC, dI) vwCl [(x, .inr (10, [.ref xTape, .ref xHall, .ref xDraft, .ref xImages, .ref xKept, .ref xSlots, .ref xCourse, .ref xSight, .ref xParting, .ref xSuiting, .ref xGame, .ref xLots, .ref xTold, .ref xTried, .null])), (xHall, .inr (2, [.int 0, .int 0, .int 0, .int 0, .int 0, .int 0, .ref a_first, .ref a_now, .ref a_lawPlace, .ref a_lawOther, .ref a_lawEach, .ref a_lawFrom, .ref a_foes, .ref a_suitTable, .ref a_acts]))] U.heap ∧ va_K (dC, dI) vwCl [(cyI, .int), (cyB, .byte), (cyJ, .long), (cyZ, .boolean), (cyH, .object RX2), (cyN, .array .long)] U)) (vp_Si (fun r : Int32 => r = (-2))) 0 0 (fun _ => False) := by
  refine Met.ofW (cc := cX11_hang) (maxL := 2) (ret := (some .int)) (by decide) rfl ?_
  intro p e s m args below meth c s₁ B hml hv
  obtain ⟨rfl, hP, hK⟩ := hv
  have hx := B.exec
  have hb := B.bytes
  have hr := B.returns
  have hts : ∀ w ∈ uU, w.before ([.ref x, .int p0] : List Value).toArray s = true := fun w h => atoms_spec (ws := wk yX11_hang cX11_hang 2 (some .int)) B.pre w (List.mem_cons_of_mem _ h)
  have hown : s.vm.findClass RX11 = some m.cls := findClass_of_methodNamed B.named
  have hlocks := B.notSynchronized
  have hl := lv_entry ([.ref x, .int p0]) (n := 2) (Nat.le_of_ble_eq_true rfl)
  rw [lg_entry_eq]
  generalize (lg_sl ([.ref x, .int p0]) ++ List.replicate (2 - (lg_sl ([.ref x, .int p0])).length) Slot.unset).toArray = ls at hl ⊢
  have hl : lv_has ls 2 [(0, .ref x), (1, .int p0)] := hl
  refine lv_aload_n hx hb dX11_hang_0 rfl (lv_at hl 0 rfl) ?_
  refine va_get (D := (dC, dI)) (ci := 10) (v := .ref xHall) (C := RX11) (T := TX11) (N := 15) hx hb hts uinX11 hown hK hP 0 rfl rfl 1 (by decide) (hts _ wd_2_66) (fun _ h9 => h9) rfl dX11_hang_1 ?_
  refine lv_iload_n hx hb dX11_hang_4 rfl (lv_at hl 1 rfl) ?_
  have hPc := hP.sub (ws' := [(xHall, .inr (2, [.int 0, .int 0, .int 0, .int 0, .int 0, .int 0, .ref a_first, .ref a_now, .ref a_lawPlace, .ref a_lawOther, .ref a_lawEach, .ref a_lawFrom, .ref a_foes, .ref a_suitTable, .ref a_acts]))]) [1] rfl
  have hKc := hK.sub (tys' := [(cyI, .int), (cyB, .byte), (cyJ, .long), (cyZ, .boolean), (cyH, .object RX2), (cyN, .array .long)]) [0, 1, 2, 3, 4, 5] rfl
  refine vp_callSi (va_Run.run (va_runV (As := [.int p0]) (rest := []) ⟨hx, hb, hml, hown, hts⟩ (c_holds l dC dI cyI cyB cyJ cyZ cyH cyN xHall a_first a_now a_lawPlace a_lawOther a_lawEach a_lawFrom a_foes a_suitTable a_acts p0) (cwV 1 hts (gdV wd_3_56 wd_3_57 wd_3_58 wd_1_3 wd_3_59) rfl rfl rfl (by decide +kernel) ⟨Nat.le_of_ble_eq_true rfl, Nat.le_of_ble_eq_true rfl⟩) ⟨fun a U g mk q => by obtain ⟨q0, qP, qK⟩ := q; exact ⟨q0, qP, va_K.moved (u := U) (U := U.calling g mk a) (Vm.Alike.refl U.vm) qK⟩, va_recv hKc hPc (ci := 2) (q0 := 0) rfl rfl, fun U hU hW => ⟨rfl, by rw [hU]; exact hPc, va_K.moved hW.alike hKc⟩⟩ rfl rfl hl.1 rfl (lv_room (Nat.le_of_ble_eq_true rfl)) dX11_hang_5 ⟨Nat.le_of_ble_eq_true rfl, Nat.le_of_ble_eq_true rfl⟩)) (fun r_1 hw => ?_)
  subst hw
  refine lv_if_ne (tgt := 14) hx hb dX11_hang_8 (by decide) (fun c_2 => absurd c_2 (by decide)) (fun _ => ?_)
  refine lv_bipush (v := (-2)) hx hb dX11_hang_11 (by decide) ?_
  exact W.iret (v := (-2)) hx hb hr (fun t ht hW => ⟨(-2), rfl, rfl, ht⟩) (fun q h => by cases h) dX11_hang_13

/- X11_parts -/
set_option maxHeartbeats 4000000 in
set_option maxRecDepth 100000 in
theorem c_parts (l : Launch) (dC : Nat → ClassId) (dI : Nat → Nat → Nat) (cyI cyB cyJ cyZ cyH cyN : ClassId) (x xTape xHall xDraft xImages xKept xSlots xCourse xSight xParting xSuiting xGame xLots xTold xTried a_first a_now a_lawPlace a_lawOther a_lawEach a_lawFrom a_foes a_suitTable a_acts : Nat) : Met l yX11_parts (wk yX11_parts cX11_parts 1 (some .int)) ({ frames := 2, cells := 0, slots := 0, locals := 80 }) (va_Pc [.ref x] (fun U => va_P (dC, dI) vwCl [(x, .inr (10, [.ref xTape, .ref xHall, .ref xDraft, .ref xImages, .ref xKept, .ref xSlots, .ref xCourse, .ref xSight, .ref xParting, .ref xSuiting, .ref xGame, .ref xLots, .ref xTold, .ref xTried, .null])), (xHall, .inr (2, [.int 0, .int 0, .int 0, .int 0, .int 0, .int 0, .ref a_first, .ref a_now, .ref a_lawPlace, .ref a_lawOther, .ref a_lawEach, .ref a_lawFrom, .ref a_foes, .ref a_suitTable, .ref a_acts]))] U.heap ∧ va_K (dC, dI) vwCl [(cyI, .int), (cyB, .byte), (cyJ, .long), (cyZ, .boolean), (cyH, .object RX2), (cyN, .array .long)] U)) (vp_Si (fun r : Int32 => r = (-2))) 0 0 (fun _ => False) := by
  refine Met.ofW (cc := cX11_parts) (maxL := 1) (ret := (some .int)) (by decide) rfl ?_
  intro p e s m args below meth c s₁ B hml hv
  obtain ⟨rfl, hP, hK⟩ := hv
  have hx := B.exec
  have hb := B.bytes
  have hr := B.returns
  have hts : ∀ w ∈ uU, w.before ([.ref x] : List Value).toArray s = true := fun w h => atoms_spec (ws := wk yX11_parts cX11_parts 1 (some .int)) B.pre w (List.mem_cons_of_mem _ h)
  have hown : s.vm.findClass RX11 = some m.cls := findClass_of_methodNamed B.named
  have hlocks := B.notSynchronized
  have hl := lv_entry ([.ref x]) (n := 1) (Nat.le_of_ble_eq_true rfl)
  rw [lg_entry_eq]
  generalize (lg_sl ([.ref x]) ++ List.replicate (1 - (lg_sl ([.ref x])).length) Slot.unset).toArray = ls at hl ⊢
  have hl : lv_has ls 1 [(0, .ref x)] := hl
  refine lv_aload_n hx hb dX11_parts_0 rfl (lv_at hl 0 rfl) ?_
  refine va_get (D := (dC, dI)) (ci := 10) (v := .ref xHall) (C := RX11) (T := TX11) (N := 15) hx hb hts uinX11 hown hK hP 0 rfl rfl 1 (by decide) (hts _ wd_2_66) (fun _ h9 => h9) rfl dX11_parts_1 ?_
  have hPc := hP.sub (ws' := [(xHall, .inr (2, [.int 0, .int 0, .int 0, .int 0, .int 0, .int 0, .ref a_first, .ref a_now, .ref a_lawPlace, .ref a_lawOther, .ref a_lawEach, .ref a_lawFrom, .ref a_foes, .ref a_suitTable, .ref a_acts]))]) [1] rfl
  have hKc := hK.sub (tys' := [(cyI, .int), (cyB, .byte), (cyJ, .long), (cyZ, .boolean), (cyH, .object RX2), (cyN, .array .long)]) [0, 1, 2, 3, 4, 5] rfl
  refine vp_callSi (va_Run.run (va_runV (As := []) (rest := []) ⟨hx, hb, hml, hown, hts⟩ (c_isNone l dC dI cyI cyB cyJ cyZ cyH cyN xHall a_first a_now a_lawPlace a_lawOther a_lawEach a_lawFrom a_foes a_suitTable a_acts) (cwV 0 hts (gdV wd_3_130 wd_3_131 wd_3_132 wd_1_3 wd_3_133) rfl rfl rfl (by decide +kernel) ⟨Nat.le_of_ble_eq_true rfl, Nat.le_of_ble_eq_true rfl⟩) ⟨fun a U g mk q => by obtain ⟨q0, qP, qK⟩ := q; exact ⟨q0, qP, va_K.moved (u := U) (U := U.calling g mk a) (Vm.Alike.refl U.vm) qK⟩, va_recv hKc hPc (ci := 2) (q0 := 0) rfl rfl, fun U hU hW => ⟨rfl, by rw [hU]; exact hPc, va_K.moved hW.alike hKc⟩⟩ rfl rfl hl.1 rfl (lv_room (Nat.le_of_ble_eq_true rfl)) dX11_parts_4 ⟨Nat.le_of_ble_eq_true rfl, Nat.le_of_ble_eq_true rfl⟩)) (fun r_1 hw => ?_)
  subst hw
  refine lv_if_eq (tgt := 13) hx hb dX11_parts_7 (by decide) (fun c_2 => absurd c_2 (by decide)) (fun _ => ?_)
  refine lv_bipush (v := (-2)) hx hb dX11_parts_10 (by decide) ?_
  exact W.iret (v := (-2)) hx hb hr (fun t ht hW => ⟨(-2), rfl, rfl, ht⟩) (fun q h => by cases h) dX11_parts_12

/- X11_best -/
set_option maxHeartbeats 4000000 in
set_option maxRecDepth 100000 in
theorem c_best (l : Launch) (dC : Nat → ClassId) (dI : Nat → Nat → Nat) (cyI cyB cyJ cyZ cyH cyN : ClassId) (x xTape xHall xDraft xImages xKept xSlots xCourse xSight xParting xSuiting xGame xLots xTold xTried a_first a_now a_lawPlace a_lawOther a_lawEach a_lawFrom a_foes a_suitTable a_acts : Nat) : Met l yX11_best (wk yX11_best cX11_best 1 (some .int)) ({ frames := 2, cells := 0, slots := 0, locals := 80 }) (va_Pc [.ref x] (fun U => va_P (dC, dI) vwCl [(x, .inr (10, [.ref xTape, .ref xHall, .ref xDraft, .ref xImages, .ref xKept, .ref xSlots, .ref xCourse, .ref xSight, .ref xParting, .ref xSuiting, .ref xGame, .ref xLots, .ref xTold, .ref xTried, .null])), (xHall, .inr (2, [.int 0, .int 0, .int 0, .int 0, .int 0, .int 0, .ref a_first, .ref a_now, .ref a_lawPlace, .ref a_lawOther, .ref a_lawEach, .ref a_lawFrom, .ref a_foes, .ref a_suitTable, .ref a_acts]))] U.heap ∧ va_K (dC, dI) vwCl [(cyI, .int), (cyB, .byte), (cyJ, .long), (cyZ, .boolean), (cyH, .object RX2), (cyN, .array .long)] U)) (vp_Si (fun r : Int32 => r = (-2))) 0 0 (fun _ => False) := by
  refine Met.ofW (cc := cX11_best) (maxL := 1) (ret := (some .int)) (by decide) rfl ?_
  intro p e s m args below meth c s₁ B hml hv
  obtain ⟨rfl, hP, hK⟩ := hv
  have hx := B.exec
  have hb := B.bytes
  have hr := B.returns
  have hts : ∀ w ∈ uU, w.before ([.ref x] : List Value).toArray s = true := fun w h => atoms_spec (ws := wk yX11_best cX11_best 1 (some .int)) B.pre w (List.mem_cons_of_mem _ h)
  have hown : s.vm.findClass RX11 = some m.cls := findClass_of_methodNamed B.named
  have hlocks := B.notSynchronized
  have hl := lv_entry ([.ref x]) (n := 1) (Nat.le_of_ble_eq_true rfl)
  rw [lg_entry_eq]
  generalize (lg_sl ([.ref x]) ++ List.replicate (1 - (lg_sl ([.ref x])).length) Slot.unset).toArray = ls at hl ⊢
  have hl : lv_has ls 1 [(0, .ref x)] := hl
  refine lv_aload_n hx hb dX11_best_0 rfl (lv_at hl 0 rfl) ?_
  refine va_get (D := (dC, dI)) (ci := 10) (v := .ref xHall) (C := RX11) (T := TX11) (N := 15) hx hb hts uinX11 hown hK hP 0 rfl rfl 1 (by decide) (hts _ wd_2_66) (fun _ h9 => h9) rfl dX11_best_1 ?_
  have hPc := hP.sub (ws' := [(xHall, .inr (2, [.int 0, .int 0, .int 0, .int 0, .int 0, .int 0, .ref a_first, .ref a_now, .ref a_lawPlace, .ref a_lawOther, .ref a_lawEach, .ref a_lawFrom, .ref a_foes, .ref a_suitTable, .ref a_acts]))]) [1] rfl
  have hKc := hK.sub (tys' := [(cyI, .int), (cyB, .byte), (cyJ, .long), (cyZ, .boolean), (cyH, .object RX2), (cyN, .array .long)]) [0, 1, 2, 3, 4, 5] rfl
  refine vp_callSi (va_Run.run (va_runV (As := []) (rest := []) ⟨hx, hb, hml, hown, hts⟩ (c_isNone l dC dI cyI cyB cyJ cyZ cyH cyN xHall a_first a_now a_lawPlace a_lawOther a_lawEach a_lawFrom a_foes a_suitTable a_acts) (cwV 0 hts (gdV wd_3_130 wd_3_131 wd_3_132 wd_1_3 wd_3_133) rfl rfl rfl (by decide +kernel) ⟨Nat.le_of_ble_eq_true rfl, Nat.le_of_ble_eq_true rfl⟩) ⟨fun a U g mk q => by obtain ⟨q0, qP, qK⟩ := q; exact ⟨q0, qP, va_K.moved (u := U) (U := U.calling g mk a) (Vm.Alike.refl U.vm) qK⟩, va_recv hKc hPc (ci := 2) (q0 := 0) rfl rfl, fun U hU hW => ⟨rfl, by rw [hU]; exact hPc, va_K.moved hW.alike hKc⟩⟩ rfl rfl hl.1 rfl (lv_room (Nat.le_of_ble_eq_true rfl)) dX11_best_4 ⟨Nat.le_of_ble_eq_true rfl, Nat.le_of_ble_eq_true rfl⟩)) (fun r_1 hw => ?_)
  subst hw
  refine lv_if_eq (tgt := 13) hx hb dX11_best_7 (by decide) (fun c_2 => absurd c_2 (by decide)) (fun _ => ?_)
  refine lv_bipush (v := (-2)) hx hb dX11_best_10 (by decide) ?_
  exact W.iret (v := (-2)) hx hb hr (fun t ht hW => ⟨(-2), rfl, rfl, ht⟩) (fun q h => by cases h) dX11_best_12

/- X11_bests -/
set_option maxHeartbeats 4000000 in
set_option maxRecDepth 100000 in
theorem c_bests (l : Launch) (dC : Nat → ClassId) (dI : Nat → Nat → Nat) (cyI cyB cyJ cyZ cyH cyN : ClassId) (x xTape xHall xDraft xImages xKept xSlots xCourse xSight xParting xSuiting xGame xLots xTold xTried a_first a_now a_lawPlace a_lawOther a_lawEach a_lawFrom a_foes a_suitTable a_acts : Nat) (p0 : Int32) : Met l yX11_bests (wk yX11_bests cX11_bests 2 (some .int)) ({ frames := 2, cells := 0, slots := 0, locals := 81 }) (va_Pc [.ref x, .int p0] (fun U => va_P (dC, dI) vwCl [(x, .inr (10, [.ref xTape, .ref xHall, .ref xDraft, .ref xImages, .ref xKept, .ref xSlots, .ref xCourse, .ref xSight, .ref xParting, .ref xSuiting, .ref xGame, .ref xLots, .ref xTold, .ref xTried, .null])), (xHall, .inr (2, [.int 0, .int 0, .int 0, .int 0, .int 0, .int 0, .ref a_first, .ref a_now, .ref a_lawPlace, .ref a_lawOther, .ref a_lawEach, .ref a_lawFrom, .ref a_foes, .ref a_suitTable, .ref a_acts]))] U.heap ∧ va_K (dC, dI) vwCl [(cyI, .int), (cyB, .byte), (cyJ, .long), (cyZ, .boolean), (cyH, .object RX2), (cyN, .array .long)] U)) (vp_Si (fun r : Int32 => r = (-2))) 0 0 (fun _ => False) := by
  refine Met.ofW (cc := cX11_bests) (maxL := 2) (ret := (some .int)) (by decide) rfl ?_
  intro p e s m args below meth c s₁ B hml hv
  obtain ⟨rfl, hP, hK⟩ := hv
  have hx := B.exec
  have hb := B.bytes
  have hr := B.returns
  have hts : ∀ w ∈ uU, w.before ([.ref x, .int p0] : List Value).toArray s = true := fun w h => atoms_spec (ws := wk yX11_bests cX11_bests 2 (some .int)) B.pre w (List.mem_cons_of_mem _ h)
  have hown : s.vm.findClass RX11 = some m.cls := findClass_of_methodNamed B.named
  have hlocks := B.notSynchronized
  have hl := lv_entry ([.ref x, .int p0]) (n := 2) (Nat.le_of_ble_eq_true rfl)
  rw [lg_entry_eq]
  generalize (lg_sl ([.ref x, .int p0]) ++ List.replicate (2 - (lg_sl ([.ref x, .int p0])).length) Slot.unset).toArray = ls at hl ⊢
  have hl : lv_has ls 2 [(0, .ref x), (1, .int p0)] := hl
  refine lv_aload_n hx hb dX11_bests_0 rfl (lv_at hl 0 rfl) ?_
  refine va_get (D := (dC, dI)) (ci := 10) (v := .ref xHall) (C := RX11) (T := TX11) (N := 15) hx hb hts uinX11 hown hK hP 0 rfl rfl 1 (by decide) (hts _ wd_2_66) (fun _ h9 => h9) rfl dX11_bests_1 ?_
  refine lv_iload_n hx hb dX11_bests_4 rfl (lv_at hl 1 rfl) ?_
  have hPc := hP.sub (ws' := [(xHall, .inr (2, [.int 0, .int 0, .int 0, .int 0, .int 0, .int 0, .ref a_first, .ref a_now, .ref a_lawPlace, .ref a_lawOther, .ref a_lawEach, .ref a_lawFrom, .ref a_foes, .ref a_suitTable, .ref a_acts]))]) [1] rfl
  have hKc := hK.sub (tys' := [(cyI, .int), (cyB, .byte), (cyJ, .long), (cyZ, .boolean), (cyH, .object RX2), (cyN, .array .long)]) [0, 1, 2, 3, 4, 5] rfl
  refine vp_callSi (va_Run.run (va_runV (As := [.int p0]) (rest := []) ⟨hx, hb, hml, hown, hts⟩ (c_holds l dC dI cyI cyB cyJ cyZ cyH cyN xHall a_first a_now a_lawPlace a_lawOther a_lawEach a_lawFrom a_foes a_suitTable a_acts p0) (cwV 1 hts (gdV wd_3_56 wd_3_57 wd_3_58 wd_1_3 wd_3_59) rfl rfl rfl (by decide +kernel) ⟨Nat.le_of_ble_eq_true rfl, Nat.le_of_ble_eq_true rfl⟩) ⟨fun a U g mk q => by obtain ⟨q0, qP, qK⟩ := q; exact ⟨q0, qP, va_K.moved (u := U) (U := U.calling g mk a) (Vm.Alike.refl U.vm) qK⟩, va_recv hKc hPc (ci := 2) (q0 := 0) rfl rfl, fun U hU hW => ⟨rfl, by rw [hU]; exact hPc, va_K.moved hW.alike hKc⟩⟩ rfl rfl hl.1 rfl (lv_room (Nat.le_of_ble_eq_true rfl)) dX11_bests_5 ⟨Nat.le_of_ble_eq_true rfl, Nat.le_of_ble_eq_true rfl⟩)) (fun r_1 hw => ?_)
  subst hw
  refine lv_if_ne (tgt := 14) hx hb dX11_bests_8 (by decide) (fun c_2 => absurd c_2 (by decide)) (fun _ => ?_)
  refine lv_bipush (v := (-2)) hx hb dX11_bests_11 (by decide) ?_
  exact W.iret (v := (-2)) hx hb hr (fun t ht hW => ⟨(-2), rfl, rfl, ht⟩) (fun q h => by cases h) dX11_bests_13

/- X11_ways -/
set_option maxHeartbeats 4000000 in
set_option maxRecDepth 100000 in
theorem c_ways (l : Launch) (dC : Nat → ClassId) (dI : Nat → Nat → Nat) (cyI cyB cyJ cyZ cyH cyN : ClassId) (x xTape xHall xDraft xImages xKept xSlots xCourse xSight xParting xSuiting xGame xLots xTold xTried a_first a_now a_lawPlace a_lawOther a_lawEach a_lawFrom a_foes a_suitTable a_acts : Nat) : Met l yX11_ways (wk yX11_ways cX11_ways 1 (some .int)) ({ frames := 2, cells := 0, slots := 0, locals := 80 }) (va_Pc [.ref x] (fun U => va_P (dC, dI) vwCl [(x, .inr (10, [.ref xTape, .ref xHall, .ref xDraft, .ref xImages, .ref xKept, .ref xSlots, .ref xCourse, .ref xSight, .ref xParting, .ref xSuiting, .ref xGame, .ref xLots, .ref xTold, .ref xTried, .null])), (xHall, .inr (2, [.int 0, .int 0, .int 0, .int 0, .int 0, .int 0, .ref a_first, .ref a_now, .ref a_lawPlace, .ref a_lawOther, .ref a_lawEach, .ref a_lawFrom, .ref a_foes, .ref a_suitTable, .ref a_acts]))] U.heap ∧ va_K (dC, dI) vwCl [(cyI, .int), (cyB, .byte), (cyJ, .long), (cyZ, .boolean), (cyH, .object RX2), (cyN, .array .long)] U)) (vp_Si (fun r : Int32 => r = (-2))) 0 0 (fun _ => False) := by
  refine Met.ofW (cc := cX11_ways) (maxL := 1) (ret := (some .int)) (by decide) rfl ?_
  intro p e s m args below meth c s₁ B hml hv
  obtain ⟨rfl, hP, hK⟩ := hv
  have hx := B.exec
  have hb := B.bytes
  have hr := B.returns
  have hts : ∀ w ∈ uU, w.before ([.ref x] : List Value).toArray s = true := fun w h => atoms_spec (ws := wk yX11_ways cX11_ways 1 (some .int)) B.pre w (List.mem_cons_of_mem _ h)
  have hown : s.vm.findClass RX11 = some m.cls := findClass_of_methodNamed B.named
  have hlocks := B.notSynchronized
  have hl := lv_entry ([.ref x]) (n := 1) (Nat.le_of_ble_eq_true rfl)
  rw [lg_entry_eq]
  generalize (lg_sl ([.ref x]) ++ List.replicate (1 - (lg_sl ([.ref x])).length) Slot.unset).toArray = ls at hl ⊢
  have hl : lv_has ls 1 [(0, .ref x)] := hl
  refine lv_aload_n hx hb dX11_ways_0 rfl (lv_at hl 0 rfl) ?_
  refine va_get (D := (dC, dI)) (ci := 10) (v := .ref xHall) (C := RX11) (T := TX11) (N := 15) hx hb hts uinX11 hown hK hP 0 rfl rfl 1 (by decide) (hts _ wd_2_66) (fun _ h9 => h9) rfl dX11_ways_1 ?_
  have hPc := hP.sub (ws' := [(xHall, .inr (2, [.int 0, .int 0, .int 0, .int 0, .int 0, .int 0, .ref a_first, .ref a_now, .ref a_lawPlace, .ref a_lawOther, .ref a_lawEach, .ref a_lawFrom, .ref a_foes, .ref a_suitTable, .ref a_acts]))]) [1] rfl
  have hKc := hK.sub (tys' := [(cyI, .int), (cyB, .byte), (cyJ, .long), (cyZ, .boolean), (cyH, .object RX2), (cyN, .array .long)]) [0, 1, 2, 3, 4, 5] rfl
  refine vp_callSi (va_Run.run (va_runV (As := []) (rest := []) ⟨hx, hb, hml, hown, hts⟩ (c_isNone l dC dI cyI cyB cyJ cyZ cyH cyN xHall a_first a_now a_lawPlace a_lawOther a_lawEach a_lawFrom a_foes a_suitTable a_acts) (cwV 0 hts (gdV wd_3_130 wd_3_131 wd_3_132 wd_1_3 wd_3_133) rfl rfl rfl (by decide +kernel) ⟨Nat.le_of_ble_eq_true rfl, Nat.le_of_ble_eq_true rfl⟩) ⟨fun a U g mk q => by obtain ⟨q0, qP, qK⟩ := q; exact ⟨q0, qP, va_K.moved (u := U) (U := U.calling g mk a) (Vm.Alike.refl U.vm) qK⟩, va_recv hKc hPc (ci := 2) (q0 := 0) rfl rfl, fun U hU hW => ⟨rfl, by rw [hU]; exact hPc, va_K.moved hW.alike hKc⟩⟩ rfl rfl hl.1 rfl (lv_room (Nat.le_of_ble_eq_true rfl)) dX11_ways_4 ⟨Nat.le_of_ble_eq_true rfl, Nat.le_of_ble_eq_true rfl⟩)) (fun r_1 hw => ?_)
  subst hw
  refine lv_if_eq (tgt := 13) hx hb dX11_ways_7 (by decide) (fun c_2 => absurd c_2 (by decide)) (fun _ => ?_)
  refine lv_bipush (v := (-2)) hx hb dX11_ways_10 (by decide) ?_
  exact W.iret (v := (-2)) hx hb hr (fun t ht hW => ⟨(-2), rfl, rfl, ht⟩) (fun q h => by cases h) dX11_ways_12

/- X11_suit -/
set_option maxHeartbeats 4000000 in
set_option maxRecDepth 100000 in
theorem c_suit (l : Launch) (dC : Nat → ClassId) (dI : Nat → Nat → Nat) (cyI cyB cyJ cyZ cyH cyN : ClassId) (x xTape xHall xDraft xImages xKept xSlots xCourse xSight xParting xSuiting xGame xLots xTold xTried a_first a_now a_lawPlace a_lawOther a_lawEach a_lawFrom a_foes a_suitTable a_acts : Nat) : Met l yX11_suit (wk yX11_suit cX11_suit 1 (some .int)) ({ frames := 2, cells := 0, slots := 0, locals := 80 }) (va_Pc [.ref x] (fun U => va_P (dC, dI) vwCl [(x, .inr (10, [.ref xTape, .ref xHall, .ref xDraft, .ref xImages, .ref xKept, .ref xSlots, .ref xCourse, .ref xSight, .ref xParting, .ref xSuiting, .ref xGame, .ref xLots, .ref xTold, .ref xTried, .null])), (xHall, .inr (2, [.int 0, .int 0, .int 0, .int 0, .int 0, .int 0, .ref a_first, .ref a_now, .ref a_lawPlace, .ref a_lawOther, .ref a_lawEach, .ref a_lawFrom, .ref a_foes, .ref a_suitTable, .ref a_acts]))] U.heap ∧ va_K (dC, dI) vwCl [(cyI, .int), (cyB, .byte), (cyJ, .long), (cyZ, .boolean), (cyH, .object RX2), (cyN, .array .long)] U)) (vp_Si (fun r : Int32 => r = (-2))) 0 0 (fun _ => False) := by
  refine Met.ofW (cc := cX11_suit) (maxL := 1) (ret := (some .int)) (by decide) rfl ?_
  intro p e s m args below meth c s₁ B hml hv
  obtain ⟨rfl, hP, hK⟩ := hv
  have hx := B.exec
  have hb := B.bytes
  have hr := B.returns
  have hts : ∀ w ∈ uU, w.before ([.ref x] : List Value).toArray s = true := fun w h => atoms_spec (ws := wk yX11_suit cX11_suit 1 (some .int)) B.pre w (List.mem_cons_of_mem _ h)
  have hown : s.vm.findClass RX11 = some m.cls := findClass_of_methodNamed B.named
  have hlocks := B.notSynchronized
  have hl := lv_entry ([.ref x]) (n := 1) (Nat.le_of_ble_eq_true rfl)
  rw [lg_entry_eq]
  generalize (lg_sl ([.ref x]) ++ List.replicate (1 - (lg_sl ([.ref x])).length) Slot.unset).toArray = ls at hl ⊢
  have hl : lv_has ls 1 [(0, .ref x)] := hl
  refine lv_aload_n hx hb dX11_suit_0 rfl (lv_at hl 0 rfl) ?_
  refine va_get (D := (dC, dI)) (ci := 10) (v := .ref xHall) (C := RX11) (T := TX11) (N := 15) hx hb hts uinX11 hown hK hP 0 rfl rfl 1 (by decide) (hts _ wd_2_66) (fun _ h9 => h9) rfl dX11_suit_1 ?_
  have hPc := hP.sub (ws' := [(xHall, .inr (2, [.int 0, .int 0, .int 0, .int 0, .int 0, .int 0, .ref a_first, .ref a_now, .ref a_lawPlace, .ref a_lawOther, .ref a_lawEach, .ref a_lawFrom, .ref a_foes, .ref a_suitTable, .ref a_acts]))]) [1] rfl
  have hKc := hK.sub (tys' := [(cyI, .int), (cyB, .byte), (cyJ, .long), (cyZ, .boolean), (cyH, .object RX2), (cyN, .array .long)]) [0, 1, 2, 3, 4, 5] rfl
  refine vp_callSi (va_Run.run (va_runV (As := []) (rest := []) ⟨hx, hb, hml, hown, hts⟩ (c_isNone l dC dI cyI cyB cyJ cyZ cyH cyN xHall a_first a_now a_lawPlace a_lawOther a_lawEach a_lawFrom a_foes a_suitTable a_acts) (cwV 0 hts (gdV wd_3_130 wd_3_131 wd_3_132 wd_1_3 wd_3_133) rfl rfl rfl (by decide +kernel) ⟨Nat.le_of_ble_eq_true rfl, Nat.le_of_ble_eq_true rfl⟩) ⟨fun a U g mk q => by obtain ⟨q0, qP, qK⟩ := q; exact ⟨q0, qP, va_K.moved (u := U) (U := U.calling g mk a) (Vm.Alike.refl U.vm) qK⟩, va_recv hKc hPc (ci := 2) (q0 := 0) rfl rfl, fun U hU hW => ⟨rfl, by rw [hU]; exact hPc, va_K.moved hW.alike hKc⟩⟩ rfl rfl hl.1 rfl (lv_room (Nat.le_of_ble_eq_true rfl)) dX11_suit_4 ⟨Nat.le_of_ble_eq_true rfl, Nat.le_of_ble_eq_true rfl⟩)) (fun r_1 hw => ?_)
  subst hw
  refine lv_if_eq (tgt := 15) hx hb dX11_suit_7 (by decide) (fun c_2 => absurd c_2 (by decide)) (fun _ => ?_)
  refine lv_bipush (v := (-2)) hx hb dX11_suit_10 (by decide) ?_
  refine lv_goto (tgt := 22) hx hb dX11_suit_12 (by decide) ?_
  exact W.iret (v := (-2)) hx hb hr (fun t ht hW => ⟨(-2), rfl, rfl, ht⟩) (fun q h => by cases h) dX11_suit_22

/- X11_trade -/
set_option maxHeartbeats 4000000 in
set_option maxRecDepth 100000 in
theorem c_trade (l : Launch) (dC : Nat → ClassId) (dI : Nat → Nat → Nat) (cyI cyB cyJ cyZ cyH cyN : ClassId) (x xTape xHall xDraft xImages xKept xSlots xCourse xSight xParting xSuiting xGame xLots xTold xTried a_first a_now a_lawPlace a_lawOther a_lawEach a_lawFrom a_foes a_suitTable a_acts : Nat) : Met l yX11_trade (wk yX11_trade cX11_trade 6 (some .int)) ({ frames := 2, cells := 0, slots := 0, locals := 80 }) (va_Pc [.ref x] (fun U => va_P (dC, dI) vwCl [(x, .inr (10, [.ref xTape, .ref xHall, .ref xDraft, .ref xImages, .ref xKept, .ref xSlots, .ref xCourse, .ref xSight, .ref xParting, .ref xSuiting, .ref xGame, .ref xLots, .ref xTold, .ref xTried, .null])), (xHall, .inr (2, [.int 0, .int 0, .int 0, .int 0, .int 0, .int 0, .ref a_first, .ref a_now, .ref a_lawPlace, .ref a_lawOther, .ref a_lawEach, .ref a_lawFrom, .ref a_foes, .ref a_suitTable, .ref a_acts]))] U.heap ∧ va_K (dC, dI) vwCl [(cyI, .int), (cyB, .byte), (cyJ, .long), (cyZ, .boolean), (cyH, .object RX2), (cyN, .array .long)] U)) (vp_Si (fun r : Int32 => r = (-2))) 0 0 (fun _ => False) := by
  refine Met.ofW (cc := cX11_trade) (maxL := 6) (ret := (some .int)) (by decide) rfl ?_
  intro p e s m args below meth c s₁ B hml hv
  obtain ⟨rfl, hP, hK⟩ := hv
  have hx := B.exec
  have hb := B.bytes
  have hr := B.returns
  have hts : ∀ w ∈ uU, w.before ([.ref x] : List Value).toArray s = true := fun w h => atoms_spec (ws := wk yX11_trade cX11_trade 6 (some .int)) B.pre w (List.mem_cons_of_mem _ h)
  have hown : s.vm.findClass RX11 = some m.cls := findClass_of_methodNamed B.named
  have hlocks := B.notSynchronized
  have hl := lv_entry ([.ref x]) (n := 6) (Nat.le_of_ble_eq_true rfl)
  rw [lg_entry_eq]
  generalize (lg_sl ([.ref x]) ++ List.replicate (6 - (lg_sl ([.ref x])).length) Slot.unset).toArray = ls at hl ⊢
  have hl : lv_has ls 6 [(0, .ref x)] := hl
  refine lv_aload_n hx hb dX11_trade_0 rfl (lv_at hl 0 rfl) ?_
  refine va_get (D := (dC, dI)) (ci := 10) (v := .ref xHall) (C := RX11) (T := TX11) (N := 15) hx hb hts uinX11 hown hK hP 0 rfl rfl 1 (by decide) (hts _ wd_2_66) (fun _ h9 => h9) rfl dX11_trade_1 ?_
  have hPc := hP.sub (ws' := [(xHall, .inr (2, [.int 0, .int 0, .int 0, .int 0, .int 0, .int 0, .ref a_first, .ref a_now, .ref a_lawPlace, .ref a_lawOther, .ref a_lawEach, .ref a_lawFrom, .ref a_foes, .ref a_suitTable, .ref a_acts]))]) [1] rfl
  have hKc := hK.sub (tys' := [(cyI, .int), (cyB, .byte), (cyJ, .long), (cyZ, .boolean), (cyH, .object RX2), (cyN, .array .long)]) [0, 1, 2, 3, 4, 5] rfl
  refine vp_callSi (va_Run.run (va_runV (As := []) (rest := []) ⟨hx, hb, hml, hown, hts⟩ (c_isNone l dC dI cyI cyB cyJ cyZ cyH cyN xHall a_first a_now a_lawPlace a_lawOther a_lawEach a_lawFrom a_foes a_suitTable a_acts) (cwV 0 hts (gdV wd_3_130 wd_3_131 wd_3_132 wd_1_3 wd_3_133) rfl rfl rfl (by decide +kernel) ⟨Nat.le_of_ble_eq_true rfl, Nat.le_of_ble_eq_true rfl⟩) ⟨fun a U g mk q => by obtain ⟨q0, qP, qK⟩ := q; exact ⟨q0, qP, va_K.moved (u := U) (U := U.calling g mk a) (Vm.Alike.refl U.vm) qK⟩, va_recv hKc hPc (ci := 2) (q0 := 0) rfl rfl, fun U hU hW => ⟨rfl, by rw [hU]; exact hPc, va_K.moved hW.alike hKc⟩⟩ rfl rfl hl.1 rfl (lv_room (Nat.le_of_ble_eq_true rfl)) dX11_trade_4 ⟨Nat.le_of_ble_eq_true rfl, Nat.le_of_ble_eq_true rfl⟩)) (fun r_1 hw => ?_)
  subst hw
  refine lv_if_eq (tgt := 13) hx hb dX11_trade_7 (by decide) (fun c_2 => absurd c_2 (by decide)) (fun _ => ?_)
  refine lv_bipush (v := (-2)) hx hb dX11_trade_10 (by decide) ?_
  exact W.iret (v := (-2)) hx hb hr (fun t ht hW => ⟨(-2), rfl, rfl, ht⟩) (fun q h => by cases h) dX11_trade_12

/- X11_wins -/
set_option maxHeartbeats 4000000 in
set_option maxRecDepth 100000 in
theorem c_wins (l : Launch) (dC : Nat → ClassId) (dI : Nat → Nat → Nat) (cyI cyB cyJ cyZ cyH cyN : ClassId) (x xTape xHall xDraft xImages xKept xSlots xCourse xSight xParting xSuiting xGame xLots xTold xTried a_first a_now a_lawPlace a_lawOther a_lawEach a_lawFrom a_foes a_suitTable a_acts : Nat) (p0 : Int32) : Met l yX11_wins (wk yX11_wins cX11_wins 2 (some .int)) ({ frames := 2, cells := 0, slots := 0, locals := 81 }) (va_Pc [.ref x, .int p0] (fun U => va_P (dC, dI) vwCl [(x, .inr (10, [.ref xTape, .ref xHall, .ref xDraft, .ref xImages, .ref xKept, .ref xSlots, .ref xCourse, .ref xSight, .ref xParting, .ref xSuiting, .ref xGame, .ref xLots, .ref xTold, .ref xTried, .null])), (xHall, .inr (2, [.int 0, .int 0, .int 0, .int 0, .int 0, .int 0, .ref a_first, .ref a_now, .ref a_lawPlace, .ref a_lawOther, .ref a_lawEach, .ref a_lawFrom, .ref a_foes, .ref a_suitTable, .ref a_acts]))] U.heap ∧ va_K (dC, dI) vwCl [(cyI, .int), (cyB, .byte), (cyJ, .long), (cyZ, .boolean), (cyH, .object RX2), (cyN, .array .long)] U)) (vp_Si (fun r : Int32 => r = (-2))) 0 0 (fun _ => False) := by
  refine Met.ofW (cc := cX11_wins) (maxL := 2) (ret := (some .int)) (by decide) rfl ?_
  intro p e s m args below meth c s₁ B hml hv
  obtain ⟨rfl, hP, hK⟩ := hv
  have hx := B.exec
  have hb := B.bytes
  have hr := B.returns
  have hts : ∀ w ∈ uU, w.before ([.ref x, .int p0] : List Value).toArray s = true := fun w h => atoms_spec (ws := wk yX11_wins cX11_wins 2 (some .int)) B.pre w (List.mem_cons_of_mem _ h)
  have hown : s.vm.findClass RX11 = some m.cls := findClass_of_methodNamed B.named
  have hlocks := B.notSynchronized
  have hl := lv_entry ([.ref x, .int p0]) (n := 2) (Nat.le_of_ble_eq_true rfl)
  rw [lg_entry_eq]
  generalize (lg_sl ([.ref x, .int p0]) ++ List.replicate (2 - (lg_sl ([.ref x, .int p0])).length) Slot.unset).toArray = ls at hl ⊢
  have hl : lv_has ls 2 [(0, .ref x), (1, .int p0)] := hl
  refine lv_aload_n hx hb dX11_wins_0 rfl (lv_at hl 0 rfl) ?_
  refine va_get (D := (dC, dI)) (ci := 10) (v := .ref xHall) (C := RX11) (T := TX11) (N := 15) hx hb hts uinX11 hown hK hP 0 rfl rfl 1 (by decide) (hts _ wd_2_66) (fun _ h9 => h9) rfl dX11_wins_1 ?_
  refine lv_iload_n hx hb dX11_wins_4 rfl (lv_at hl 1 rfl) ?_
  have hPc := hP.sub (ws' := [(xHall, .inr (2, [.int 0, .int 0, .int 0, .int 0, .int 0, .int 0, .ref a_first, .ref a_now, .ref a_lawPlace, .ref a_lawOther, .ref a_lawEach, .ref a_lawFrom, .ref a_foes, .ref a_suitTable, .ref a_acts]))]) [1] rfl
  have hKc := hK.sub (tys' := [(cyI, .int), (cyB, .byte), (cyJ, .long), (cyZ, .boolean), (cyH, .object RX2), (cyN, .array .long)]) [0, 1, 2, 3, 4, 5] rfl
  refine vp_callSi (va_Run.run (va_runV (As := [.int p0]) (rest := []) ⟨hx, hb, hml, hown, hts⟩ (c_holds l dC dI cyI cyB cyJ cyZ cyH cyN xHall a_first a_now a_lawPlace a_lawOther a_lawEach a_lawFrom a_foes a_suitTable a_acts p0) (cwV 1 hts (gdV wd_3_56 wd_3_57 wd_3_58 wd_1_3 wd_3_59) rfl rfl rfl (by decide +kernel) ⟨Nat.le_of_ble_eq_true rfl, Nat.le_of_ble_eq_true rfl⟩) ⟨fun a U g mk q => by obtain ⟨q0, qP, qK⟩ := q; exact ⟨q0, qP, va_K.moved (u := U) (U := U.calling g mk a) (Vm.Alike.refl U.vm) qK⟩, va_recv hKc hPc (ci := 2) (q0 := 0) rfl rfl, fun U hU hW => ⟨rfl, by rw [hU]; exact hPc, va_K.moved hW.alike hKc⟩⟩ rfl rfl hl.1 rfl (lv_room (Nat.le_of_ble_eq_true rfl)) dX11_wins_5 ⟨Nat.le_of_ble_eq_true rfl, Nat.le_of_ble_eq_true rfl⟩)) (fun r_1 hw => ?_)
  subst hw
  refine lv_if_ne (tgt := 14) hx hb dX11_wins_8 (by decide) (fun c_2 => absurd c_2 (by decide)) (fun _ => ?_)
  refine lv_bipush (v := (-2)) hx hb dX11_wins_11 (by decide) ?_
  exact W.iret (v := (-2)) hx hb hr (fun t ht hW => ⟨(-2), rfl, rfl, ht⟩) (fun q h => by cases h) dX11_wins_13

/- X11_takes -/
set_option maxHeartbeats 4000000 in
set_option maxRecDepth 100000 in
theorem c_takes (l : Launch) (dC : Nat → ClassId) (dI : Nat → Nat → Nat) (cyI cyB cyJ cyZ cyH cyN : ClassId) (x xTape xHall xDraft xImages xKept xSlots xCourse xSight xParting xSuiting xGame xLots xTold xTried a_first a_now a_lawPlace a_lawOther a_lawEach a_lawFrom a_foes a_suitTable a_acts : Nat) (p0 : Int32) : Met l yX11_takes (wk yX11_takes cX11_takes 2 (some .int)) ({ frames := 2, cells := 0, slots := 0, locals := 81 }) (va_Pc [.ref x, .int p0] (fun U => va_P (dC, dI) vwCl [(x, .inr (10, [.ref xTape, .ref xHall, .ref xDraft, .ref xImages, .ref xKept, .ref xSlots, .ref xCourse, .ref xSight, .ref xParting, .ref xSuiting, .ref xGame, .ref xLots, .ref xTold, .ref xTried, .null])), (xHall, .inr (2, [.int 0, .int 0, .int 0, .int 0, .int 0, .int 0, .ref a_first, .ref a_now, .ref a_lawPlace, .ref a_lawOther, .ref a_lawEach, .ref a_lawFrom, .ref a_foes, .ref a_suitTable, .ref a_acts]))] U.heap ∧ va_K (dC, dI) vwCl [(cyI, .int), (cyB, .byte), (cyJ, .long), (cyZ, .boolean), (cyH, .object RX2), (cyN, .array .long)] U)) (vp_Si (fun r : Int32 => r = (-2))) 0 0 (fun _ => False) := by
  refine Met.ofW (cc := cX11_takes) (maxL := 2) (ret := (some .int)) (by decide) rfl ?_
  intro p e s m args below meth c s₁ B hml hv
  obtain ⟨rfl, hP, hK⟩ := hv
  have hx := B.exec
  have hb := B.bytes
  have hr := B.returns
  have hts : ∀ w ∈ uU, w.before ([.ref x, .int p0] : List Value).toArray s = true := fun w h => atoms_spec (ws := wk yX11_takes cX11_takes 2 (some .int)) B.pre w (List.mem_cons_of_mem _ h)
  have hown : s.vm.findClass RX11 = some m.cls := findClass_of_methodNamed B.named
  have hlocks := B.notSynchronized
  have hl := lv_entry ([.ref x, .int p0]) (n := 2) (Nat.le_of_ble_eq_true rfl)
  rw [lg_entry_eq]
  generalize (lg_sl ([.ref x, .int p0]) ++ List.replicate (2 - (lg_sl ([.ref x, .int p0])).length) Slot.unset).toArray = ls at hl ⊢
  have hl : lv_has ls 2 [(0, .ref x), (1, .int p0)] := hl
  refine lv_aload_n hx hb dX11_takes_0 rfl (lv_at hl 0 rfl) ?_
  refine va_get (D := (dC, dI)) (ci := 10) (v := .ref xHall) (C := RX11) (T := TX11) (N := 15) hx hb hts uinX11 hown hK hP 0 rfl rfl 1 (by decide) (hts _ wd_2_66) (fun _ h9 => h9) rfl dX11_takes_1 ?_
  refine lv_iload_n hx hb dX11_takes_4 rfl (lv_at hl 1 rfl) ?_
  have hPc := hP.sub (ws' := [(xHall, .inr (2, [.int 0, .int 0, .int 0, .int 0, .int 0, .int 0, .ref a_first, .ref a_now, .ref a_lawPlace, .ref a_lawOther, .ref a_lawEach, .ref a_lawFrom, .ref a_foes, .ref a_suitTable, .ref a_acts]))]) [1] rfl
  have hKc := hK.sub (tys' := [(cyI, .int), (cyB, .byte), (cyJ, .long), (cyZ, .boolean), (cyH, .object RX2), (cyN, .array .long)]) [0, 1, 2, 3, 4, 5] rfl
  refine vp_callSi (va_Run.run (va_runV (As := [.int p0]) (rest := []) ⟨hx, hb, hml, hown, hts⟩ (c_holds l dC dI cyI cyB cyJ cyZ cyH cyN xHall a_first a_now a_lawPlace a_lawOther a_lawEach a_lawFrom a_foes a_suitTable a_acts p0) (cwV 1 hts (gdV wd_3_56 wd_3_57 wd_3_58 wd_1_3 wd_3_59) rfl rfl rfl (by decide +kernel) ⟨Nat.le_of_ble_eq_true rfl, Nat.le_of_ble_eq_true rfl⟩) ⟨fun a U g mk q => by obtain ⟨q0, qP, qK⟩ := q; exact ⟨q0, qP, va_K.moved (u := U) (U := U.calling g mk a) (Vm.Alike.refl U.vm) qK⟩, va_recv hKc hPc (ci := 2) (q0 := 0) rfl rfl, fun U hU hW => ⟨rfl, by rw [hU]; exact hPc, va_K.moved hW.alike hKc⟩⟩ rfl rfl hl.1 rfl (lv_room (Nat.le_of_ble_eq_true rfl)) dX11_takes_5 ⟨Nat.le_of_ble_eq_true rfl, Nat.le_of_ble_eq_true rfl⟩)) (fun r_1 hw => ?_)
  subst hw
  refine lv_if_ne (tgt := 14) hx hb dX11_takes_8 (by decide) (fun c_2 => absurd c_2 (by decide)) (fun _ => ?_)
  refine lv_bipush (v := (-2)) hx hb dX11_takes_11 (by decide) ?_
  exact W.iret (v := (-2)) hx hb hr (fun t ht hW => ⟨(-2), rfl, rfl, ht⟩) (fun q h => by cases h) dX11_takes_13

/- X11_chance -/
set_option maxHeartbeats 4000000 in
set_option maxRecDepth 100000 in
theorem c_chance (l : Launch) (dC : Nat → ClassId) (dI : Nat → Nat → Nat) (cyI cyB cyJ cyZ cyH cyN : ClassId) (x xTape xHall xDraft xImages xKept xSlots xCourse xSight xParting xSuiting xGame xLots xTold xTried a_first a_now a_lawPlace a_lawOther a_lawEach a_lawFrom a_foes a_suitTable a_acts : Nat) (p0 p1 p2 : Int32) : Met l yX11_chance (wk yX11_chance cX11_chance 8 (some .long)) ({ frames := 2, cells := 0, slots := 0, locals := 81 }) (va_Pc [.ref x, .int p0, .int p1, .int p2] (fun U => va_P (dC, dI) vwCl [(x, .inr (10, [.ref xTape, .ref xHall, .ref xDraft, .ref xImages, .ref xKept, .ref xSlots, .ref xCourse, .ref xSight, .ref xParting, .ref xSuiting, .ref xGame, .ref xLots, .ref xTold, .ref xTried, .null])), (xHall, .inr (2, [.int 0, .int 0, .int 0, .int 0, .int 0, .int 0, .ref a_first, .ref a_now, .ref a_lawPlace, .ref a_lawOther, .ref a_lawEach, .ref a_lawFrom, .ref a_foes, .ref a_suitTable, .ref a_acts]))] U.heap ∧ va_K (dC, dI) vwCl [(cyI, .int), (cyB, .byte), (cyJ, .long), (cyZ, .boolean), (cyH, .object RX2), (cyN, .array .long)] U)) (vp_Sl (fun r : Int64 => r = (-2))) 0 0 (fun _ => False) := by
  refine Met.ofW (cc := cX11_chance) (maxL := 8) (ret := (some .long)) (by decide) rfl ?_
  intro p e s m args below meth c s₁ B hml hv
  obtain ⟨rfl, hP, hK⟩ := hv
  have hx := B.exec
  have hb := B.bytes
  have hr := B.returns
  have hts : ∀ w ∈ uU, w.before ([.ref x, .int p0, .int p1, .int p2] : List Value).toArray s = true := fun w h => atoms_spec (ws := wk yX11_chance cX11_chance 8 (some .long)) B.pre w (List.mem_cons_of_mem _ h)
  have hown : s.vm.findClass RX11 = some m.cls := findClass_of_methodNamed B.named
  have hlocks := B.notSynchronized
  have hl := lv_entry ([.ref x, .int p0, .int p1, .int p2]) (n := 8) (Nat.le_of_ble_eq_true rfl)
  rw [lg_entry_eq]
  generalize (lg_sl ([.ref x, .int p0, .int p1, .int p2]) ++ List.replicate (8 - (lg_sl ([.ref x, .int p0, .int p1, .int p2])).length) Slot.unset).toArray = ls at hl ⊢
  have hl : lv_has ls 8 [(0, .ref x), (1, .int p0), (2, .int p1), (3, .int p2)] := hl
  refine lv_aload_n hx hb dX11_chance_0 rfl (lv_at hl 0 rfl) ?_
  refine va_get (D := (dC, dI)) (ci := 10) (v := .ref xHall) (C := RX11) (T := TX11) (N := 15) hx hb hts uinX11 hown hK hP 0 rfl rfl 1 (by decide) (hts _ wd_2_66) (fun _ h9 => h9) rfl dX11_chance_1 ?_
  refine lv_iload_n hx hb dX11_chance_4 rfl (lv_at hl 1 rfl) ?_
  have hPc := hP.sub (ws' := [(xHall, .inr (2, [.int 0, .int 0, .int 0, .int 0, .int 0, .int 0, .ref a_first, .ref a_now, .ref a_lawPlace, .ref a_lawOther, .ref a_lawEach, .ref a_lawFrom, .ref a_foes, .ref a_suitTable, .ref a_acts]))]) [1] rfl
  have hKc := hK.sub (tys' := [(cyI, .int), (cyB, .byte), (cyJ, .long), (cyZ, .boolean), (cyH, .object RX2), (cyN, .array .long)]) [0, 1, 2, 3, 4, 5] rfl
  refine vp_callSi (va_Run.run (va_runV (As := [.int p0]) (rest := []) ⟨hx, hb, hml, hown, hts⟩ (c_holds l dC dI cyI cyB cyJ cyZ cyH cyN xHall a_first a_now a_lawPlace a_lawOther a_lawEach a_lawFrom a_foes a_suitTable a_acts p0) (cwV 1 hts (gdV wd_3_56 wd_3_57 wd_3_58 wd_1_3 wd_3_59) rfl rfl rfl (by decide +kernel) ⟨Nat.le_of_ble_eq_true rfl, Nat.le_of_ble_eq_true rfl⟩) ⟨fun a U g mk q => by obtain ⟨q0, qP, qK⟩ := q; exact ⟨q0, qP, va_K.moved (u := U) (U := U.calling g mk a) (Vm.Alike.refl U.vm) qK⟩, va_recv hKc hPc (ci := 2) (q0 := 0) rfl rfl, fun U hU hW => ⟨rfl, by rw [hU]; exact hPc, va_K.moved hW.alike hKc⟩⟩ rfl rfl hl.1 rfl (lv_room (Nat.le_of_ble_eq_true rfl)) dX11_chance_5 ⟨Nat.le_of_ble_eq_true rfl, Nat.le_of_ble_eq_true rfl⟩)) (fun r_1 hw => ?_)
  subst hw
  refine lv_if_eq (tgt := 30) hx hb dX11_chance_8 (by decide) (fun _ => ?_) (fun c_2 => absurd c_2 (by decide))
  refine lv_ldc2 (v := (-2)) hx hb hown (hts _ wd_5_133) dX11_chance_30 ?_
  exact W.lret (v := (-2)) hx hb hr (fun t ht hW => ⟨(-2), rfl, rfl, ht⟩) (fun q h => by cases h) dX11_chance_33

/- X11_likely -/
set_option maxHeartbeats 4000000 in
set_option maxRecDepth 100000 in
theorem c_likely (l : Launch) (dC : Nat → ClassId) (dI : Nat → Nat → Nat) (cyI cyB cyJ cyZ cyH cyN : ClassId) (x xTape xHall xDraft xImages xKept xSlots xCourse xSight xParting xSuiting xGame xLots xTold xTried a_first a_now a_lawPlace a_lawOther a_lawEach a_lawFrom a_foes a_suitTable a_acts : Nat) (p0 : Int32) : Met l yX11_likely (wk yX11_likely cX11_likely 4 (some .int)) ({ frames := 2, cells := 0, slots := 0, locals := 80 }) (va_Pc [.ref x, .int p0] (fun U => va_P (dC, dI) vwCl [(x, .inr (10, [.ref xTape, .ref xHall, .ref xDraft, .ref xImages, .ref xKept, .ref xSlots, .ref xCourse, .ref xSight, .ref xParting, .ref xSuiting, .ref xGame, .ref xLots, .ref xTold, .ref xTried, .null])), (xHall, .inr (2, [.int 0, .int 0, .int 0, .int 0, .int 0, .int 0, .ref a_first, .ref a_now, .ref a_lawPlace, .ref a_lawOther, .ref a_lawEach, .ref a_lawFrom, .ref a_foes, .ref a_suitTable, .ref a_acts]))] U.heap ∧ va_K (dC, dI) vwCl [(cyI, .int), (cyB, .byte), (cyJ, .long), (cyZ, .boolean), (cyH, .object RX2), (cyN, .array .long)] U)) (vp_Si (fun r : Int32 => r = (-2))) 0 0 (fun _ => False) := by
  refine Met.ofW (cc := cX11_likely) (maxL := 4) (ret := (some .int)) (by decide) rfl ?_
  intro p e s m args below meth c s₁ B hml hv
  obtain ⟨rfl, hP, hK⟩ := hv
  have hx := B.exec
  have hb := B.bytes
  have hr := B.returns
  have hts : ∀ w ∈ uU, w.before ([.ref x, .int p0] : List Value).toArray s = true := fun w h => atoms_spec (ws := wk yX11_likely cX11_likely 4 (some .int)) B.pre w (List.mem_cons_of_mem _ h)
  have hown : s.vm.findClass RX11 = some m.cls := findClass_of_methodNamed B.named
  have hlocks := B.notSynchronized
  have hl := lv_entry ([.ref x, .int p0]) (n := 4) (Nat.le_of_ble_eq_true rfl)
  rw [lg_entry_eq]
  generalize (lg_sl ([.ref x, .int p0]) ++ List.replicate (4 - (lg_sl ([.ref x, .int p0])).length) Slot.unset).toArray = ls at hl ⊢
  have hl : lv_has ls 4 [(0, .ref x), (1, .int p0)] := hl
  refine lv_aload_n hx hb dX11_likely_0 rfl (lv_at hl 0 rfl) ?_
  refine va_get (D := (dC, dI)) (ci := 10) (v := .ref xHall) (C := RX11) (T := TX11) (N := 15) hx hb hts uinX11 hown hK hP 0 rfl rfl 1 (by decide) (hts _ wd_2_66) (fun _ h9 => h9) rfl dX11_likely_1 ?_
  have hPc := hP.sub (ws' := [(xHall, .inr (2, [.int 0, .int 0, .int 0, .int 0, .int 0, .int 0, .ref a_first, .ref a_now, .ref a_lawPlace, .ref a_lawOther, .ref a_lawEach, .ref a_lawFrom, .ref a_foes, .ref a_suitTable, .ref a_acts]))]) [1] rfl
  have hKc := hK.sub (tys' := [(cyI, .int), (cyB, .byte), (cyJ, .long), (cyZ, .boolean), (cyH, .object RX2), (cyN, .array .long)]) [0, 1, 2, 3, 4, 5] rfl
  refine vp_callSi (va_Run.run (va_runV (As := []) (rest := []) ⟨hx, hb, hml, hown, hts⟩ (c_isNone l dC dI cyI cyB cyJ cyZ cyH cyN xHall a_first a_now a_lawPlace a_lawOther a_lawEach a_lawFrom a_foes a_suitTable a_acts) (cwV 0 hts (gdV wd_3_130 wd_3_131 wd_3_132 wd_1_3 wd_3_133) rfl rfl rfl (by decide +kernel) ⟨Nat.le_of_ble_eq_true rfl, Nat.le_of_ble_eq_true rfl⟩) ⟨fun a U g mk q => by obtain ⟨q0, qP, qK⟩ := q; exact ⟨q0, qP, va_K.moved (u := U) (U := U.calling g mk a) (Vm.Alike.refl U.vm) qK⟩, va_recv hKc hPc (ci := 2) (q0 := 0) rfl rfl, fun U hU hW => ⟨rfl, by rw [hU]; exact hPc, va_K.moved hW.alike hKc⟩⟩ rfl rfl hl.1 rfl (lv_room (Nat.le_of_ble_eq_true rfl)) dX11_likely_4 ⟨Nat.le_of_ble_eq_true rfl, Nat.le_of_ble_eq_true rfl⟩)) (fun r_1 hw => ?_)
  subst hw
  refine lv_if_ne (tgt := 20) hx hb dX11_likely_7 (by decide) (fun _ => ?_) (fun c_2 => absurd c_2 (by decide))
  refine lv_bipush (v := (-2)) hx hb dX11_likely_20 (by decide) ?_
  exact W.iret (v := (-2)) hx hb hr (fun t ht hW => ⟨(-2), rfl, rfl, ht⟩) (fun q h => by cases h) dX11_likely_22

/- X11_swap -/
set_option maxHeartbeats 4000000 in
set_option maxRecDepth 100000 in
theorem c_swap (l : Launch) (dC : Nat → ClassId) (dI : Nat → Nat → Nat) (cyI cyB cyJ cyZ cyH cyN : ClassId) (x xTape xHall xDraft xImages xKept xSlots xCourse xSight xParting xSuiting xGame xLots xTold xTried a_first a_now a_lawPlace a_lawOther a_lawEach a_lawFrom a_foes a_suitTable a_acts : Nat) (p0 p1 : Int32) : Met l yX11_swap (wk yX11_swap cX11_swap 3 (some .int)) ({ frames := 2, cells := 0, slots := 0, locals := 81 }) (va_Pc [.ref x, .int p0, .int p1] (fun U => va_P (dC, dI) vwCl [(x, .inr (10, [.ref xTape, .ref xHall, .ref xDraft, .ref xImages, .ref xKept, .ref xSlots, .ref xCourse, .ref xSight, .ref xParting, .ref xSuiting, .ref xGame, .ref xLots, .ref xTold, .ref xTried, .null])), (xHall, .inr (2, [.int 0, .int 0, .int 0, .int 0, .int 0, .int 0, .ref a_first, .ref a_now, .ref a_lawPlace, .ref a_lawOther, .ref a_lawEach, .ref a_lawFrom, .ref a_foes, .ref a_suitTable, .ref a_acts]))] U.heap ∧ va_K (dC, dI) vwCl [(cyI, .int), (cyB, .byte), (cyJ, .long), (cyZ, .boolean), (cyH, .object RX2), (cyN, .array .long)] U)) (vp_Si (fun r : Int32 => r = (-2))) 0 0 (fun _ => False) := by
  refine Met.ofW (cc := cX11_swap) (maxL := 3) (ret := (some .int)) (by decide) rfl ?_
  intro p e s m args below meth c s₁ B hml hv
  obtain ⟨rfl, hP, hK⟩ := hv
  have hx := B.exec
  have hb := B.bytes
  have hr := B.returns
  have hts : ∀ w ∈ uU, w.before ([.ref x, .int p0, .int p1] : List Value).toArray s = true := fun w h => atoms_spec (ws := wk yX11_swap cX11_swap 3 (some .int)) B.pre w (List.mem_cons_of_mem _ h)
  have hown : s.vm.findClass RX11 = some m.cls := findClass_of_methodNamed B.named
  have hlocks := B.notSynchronized
  have hl := lv_entry ([.ref x, .int p0, .int p1]) (n := 3) (Nat.le_of_ble_eq_true rfl)
  rw [lg_entry_eq]
  generalize (lg_sl ([.ref x, .int p0, .int p1]) ++ List.replicate (3 - (lg_sl ([.ref x, .int p0, .int p1])).length) Slot.unset).toArray = ls at hl ⊢
  have hl : lv_has ls 3 [(0, .ref x), (1, .int p0), (2, .int p1)] := hl
  refine lv_aload_n hx hb dX11_swap_0 rfl (lv_at hl 0 rfl) ?_
  refine va_get (D := (dC, dI)) (ci := 10) (v := .ref xHall) (C := RX11) (T := TX11) (N := 15) hx hb hts uinX11 hown hK hP 0 rfl rfl 1 (by decide) (hts _ wd_2_66) (fun _ h9 => h9) rfl dX11_swap_1 ?_
  refine lv_iload_n hx hb dX11_swap_4 rfl (lv_at hl 1 rfl) ?_
  have hPc := hP.sub (ws' := [(xHall, .inr (2, [.int 0, .int 0, .int 0, .int 0, .int 0, .int 0, .ref a_first, .ref a_now, .ref a_lawPlace, .ref a_lawOther, .ref a_lawEach, .ref a_lawFrom, .ref a_foes, .ref a_suitTable, .ref a_acts]))]) [1] rfl
  have hKc := hK.sub (tys' := [(cyI, .int), (cyB, .byte), (cyJ, .long), (cyZ, .boolean), (cyH, .object RX2), (cyN, .array .long)]) [0, 1, 2, 3, 4, 5] rfl
  refine vp_callSi (va_Run.run (va_runV (As := [.int p0]) (rest := []) ⟨hx, hb, hml, hown, hts⟩ (c_holds l dC dI cyI cyB cyJ cyZ cyH cyN xHall a_first a_now a_lawPlace a_lawOther a_lawEach a_lawFrom a_foes a_suitTable a_acts p0) (cwV 1 hts (gdV wd_3_56 wd_3_57 wd_3_58 wd_1_3 wd_3_59) rfl rfl rfl (by decide +kernel) ⟨Nat.le_of_ble_eq_true rfl, Nat.le_of_ble_eq_true rfl⟩) ⟨fun a U g mk q => by obtain ⟨q0, qP, qK⟩ := q; exact ⟨q0, qP, va_K.moved (u := U) (U := U.calling g mk a) (Vm.Alike.refl U.vm) qK⟩, va_recv hKc hPc (ci := 2) (q0 := 0) rfl rfl, fun U hU hW => ⟨rfl, by rw [hU]; exact hPc, va_K.moved hW.alike hKc⟩⟩ rfl rfl hl.1 rfl (lv_room (Nat.le_of_ble_eq_true rfl)) dX11_swap_5 ⟨Nat.le_of_ble_eq_true rfl, Nat.le_of_ble_eq_true rfl⟩)) (fun r_1 hw => ?_)
  subst hw
  refine lv_if_eq (tgt := 27) hx hb dX11_swap_8 (by decide) (fun _ => ?_) (fun c_2 => absurd c_2 (by decide))
  refine lv_bipush (v := (-2)) hx hb dX11_swap_27 (by decide) ?_
  exact W.iret (v := (-2)) hx hb hr (fun t ht hW => ⟨(-2), rfl, rfl, ht⟩) (fun q h => by cases h) dX11_swap_29

/- X11_night -/
set_option maxHeartbeats 4000000 in
set_option maxRecDepth 100000 in
theorem c_night (l : Launch) (dC : Nat → ClassId) (dI : Nat → Nat → Nat) (cyI cyB cyJ cyZ cyH cyN : ClassId) (x xTape xHall xDraft xImages xKept xSlots xCourse xSight xParting xSuiting xGame xLots xTold xTried a_first a_now a_lawPlace a_lawOther a_lawEach a_lawFrom a_foes a_suitTable a_acts : Nat) : Met l yX11_night (wk yX11_night cX11_night 1 (some .int)) ({ frames := 2, cells := 0, slots := 0, locals := 80 }) (va_Pc [.ref x] (fun U => va_P (dC, dI) vwCl [(x, .inr (10, [.ref xTape, .ref xHall, .ref xDraft, .ref xImages, .ref xKept, .ref xSlots, .ref xCourse, .ref xSight, .ref xParting, .ref xSuiting, .ref xGame, .ref xLots, .ref xTold, .ref xTried, .null])), (xHall, .inr (2, [.int 0, .int 0, .int 0, .int 0, .int 0, .int 0, .ref a_first, .ref a_now, .ref a_lawPlace, .ref a_lawOther, .ref a_lawEach, .ref a_lawFrom, .ref a_foes, .ref a_suitTable, .ref a_acts]))] U.heap ∧ va_K (dC, dI) vwCl [(cyI, .int), (cyB, .byte), (cyJ, .long), (cyZ, .boolean), (cyH, .object RX2), (cyN, .array .long)] U)) (vp_Si (fun r : Int32 => r = (-2))) 0 0 (fun _ => False) := by
  refine Met.ofW (cc := cX11_night) (maxL := 1) (ret := (some .int)) (by decide) rfl ?_
  intro p e s m args below meth c s₁ B hml hv
  obtain ⟨rfl, hP, hK⟩ := hv
  have hx := B.exec
  have hb := B.bytes
  have hr := B.returns
  have hts : ∀ w ∈ uU, w.before ([.ref x] : List Value).toArray s = true := fun w h => atoms_spec (ws := wk yX11_night cX11_night 1 (some .int)) B.pre w (List.mem_cons_of_mem _ h)
  have hown : s.vm.findClass RX11 = some m.cls := findClass_of_methodNamed B.named
  have hlocks := B.notSynchronized
  have hl := lv_entry ([.ref x]) (n := 1) (Nat.le_of_ble_eq_true rfl)
  rw [lg_entry_eq]
  generalize (lg_sl ([.ref x]) ++ List.replicate (1 - (lg_sl ([.ref x])).length) Slot.unset).toArray = ls at hl ⊢
  have hl : lv_has ls 1 [(0, .ref x)] := hl
  refine lv_aload_n hx hb dX11_night_0 rfl (lv_at hl 0 rfl) ?_
  refine va_get (D := (dC, dI)) (ci := 10) (v := .ref xHall) (C := RX11) (T := TX11) (N := 15) hx hb hts uinX11 hown hK hP 0 rfl rfl 1 (by decide) (hts _ wd_2_66) (fun _ h9 => h9) rfl dX11_night_1 ?_
  have hPc := hP.sub (ws' := [(xHall, .inr (2, [.int 0, .int 0, .int 0, .int 0, .int 0, .int 0, .ref a_first, .ref a_now, .ref a_lawPlace, .ref a_lawOther, .ref a_lawEach, .ref a_lawFrom, .ref a_foes, .ref a_suitTable, .ref a_acts]))]) [1] rfl
  have hKc := hK.sub (tys' := [(cyI, .int), (cyB, .byte), (cyJ, .long), (cyZ, .boolean), (cyH, .object RX2), (cyN, .array .long)]) [0, 1, 2, 3, 4, 5] rfl
  refine vp_callSi (va_Run.run (va_runV (As := []) (rest := []) ⟨hx, hb, hml, hown, hts⟩ (c_isNone l dC dI cyI cyB cyJ cyZ cyH cyN xHall a_first a_now a_lawPlace a_lawOther a_lawEach a_lawFrom a_foes a_suitTable a_acts) (cwV 0 hts (gdV wd_3_130 wd_3_131 wd_3_132 wd_1_3 wd_3_133) rfl rfl rfl (by decide +kernel) ⟨Nat.le_of_ble_eq_true rfl, Nat.le_of_ble_eq_true rfl⟩) ⟨fun a U g mk q => by obtain ⟨q0, qP, qK⟩ := q; exact ⟨q0, qP, va_K.moved (u := U) (U := U.calling g mk a) (Vm.Alike.refl U.vm) qK⟩, va_recv hKc hPc (ci := 2) (q0 := 0) rfl rfl, fun U hU hW => ⟨rfl, by rw [hU]; exact hPc, va_K.moved hW.alike hKc⟩⟩ rfl rfl hl.1 rfl (lv_room (Nat.le_of_ble_eq_true rfl)) dX11_night_4 ⟨Nat.le_of_ble_eq_true rfl, Nat.le_of_ble_eq_true rfl⟩)) (fun r_1 hw => ?_)
  subst hw
  refine lv_if_eq (tgt := 13) hx hb dX11_night_7 (by decide) (fun c_2 => absurd c_2 (by decide)) (fun _ => ?_)
  refine lv_bipush (v := (-2)) hx hb dX11_night_10 (by decide) ?_
  exact W.iret (v := (-2)) hx hb hr (fun t ht hW => ⟨(-2), rfl, rfl, ht⟩) (fun q h => by cases h) dX11_night_12

/- X11_undo -/
set_option maxHeartbeats 4000000 in
set_option maxRecDepth 100000 in
theorem c_undo (l : Launch) (dC : Nat → ClassId) (dI : Nat → Nat → Nat) (cyI cyB cyJ cyZ cyH cyN : ClassId) (x xTape xHall xDraft xImages xKept xSlots xCourse xSight xParting xSuiting xGame xLots xTold xTried a_first a_now a_lawPlace a_lawOther a_lawEach a_lawFrom a_foes a_suitTable a_acts : Nat) : Met l yX11_undo (wk yX11_undo cX11_undo 1 (some .int)) ({ frames := 2, cells := 0, slots := 0, locals := 80 }) (va_Pc [.ref x] (fun U => va_P (dC, dI) vwCl [(x, .inr (10, [.ref xTape, .ref xHall, .ref xDraft, .ref xImages, .ref xKept, .ref xSlots, .ref xCourse, .ref xSight, .ref xParting, .ref xSuiting, .ref xGame, .ref xLots, .ref xTold, .ref xTried, .null])), (xHall, .inr (2, [.int 0, .int 0, .int 0, .int 0, .int 0, .int 0, .ref a_first, .ref a_now, .ref a_lawPlace, .ref a_lawOther, .ref a_lawEach, .ref a_lawFrom, .ref a_foes, .ref a_suitTable, .ref a_acts]))] U.heap ∧ va_K (dC, dI) vwCl [(cyI, .int), (cyB, .byte), (cyJ, .long), (cyZ, .boolean), (cyH, .object RX2), (cyN, .array .long)] U)) (vp_Si (fun r : Int32 => r = (-2))) 0 0 (fun _ => False) := by
  refine Met.ofW (cc := cX11_undo) (maxL := 1) (ret := (some .int)) (by decide) rfl ?_
  intro p e s m args below meth c s₁ B hml hv
  obtain ⟨rfl, hP, hK⟩ := hv
  have hx := B.exec
  have hb := B.bytes
  have hr := B.returns
  have hts : ∀ w ∈ uU, w.before ([.ref x] : List Value).toArray s = true := fun w h => atoms_spec (ws := wk yX11_undo cX11_undo 1 (some .int)) B.pre w (List.mem_cons_of_mem _ h)
  have hown : s.vm.findClass RX11 = some m.cls := findClass_of_methodNamed B.named
  have hlocks := B.notSynchronized
  have hl := lv_entry ([.ref x]) (n := 1) (Nat.le_of_ble_eq_true rfl)
  rw [lg_entry_eq]
  generalize (lg_sl ([.ref x]) ++ List.replicate (1 - (lg_sl ([.ref x])).length) Slot.unset).toArray = ls at hl ⊢
  have hl : lv_has ls 1 [(0, .ref x)] := hl
  refine lv_aload_n hx hb dX11_undo_0 rfl (lv_at hl 0 rfl) ?_
  refine va_get (D := (dC, dI)) (ci := 10) (v := .ref xHall) (C := RX11) (T := TX11) (N := 15) hx hb hts uinX11 hown hK hP 0 rfl rfl 1 (by decide) (hts _ wd_2_66) (fun _ h9 => h9) rfl dX11_undo_1 ?_
  have hPc := hP.sub (ws' := [(xHall, .inr (2, [.int 0, .int 0, .int 0, .int 0, .int 0, .int 0, .ref a_first, .ref a_now, .ref a_lawPlace, .ref a_lawOther, .ref a_lawEach, .ref a_lawFrom, .ref a_foes, .ref a_suitTable, .ref a_acts]))]) [1] rfl
  have hKc := hK.sub (tys' := [(cyI, .int), (cyB, .byte), (cyJ, .long), (cyZ, .boolean), (cyH, .object RX2), (cyN, .array .long)]) [0, 1, 2, 3, 4, 5] rfl
  refine vp_callSi (va_Run.run (va_runV (As := []) (rest := []) ⟨hx, hb, hml, hown, hts⟩ (c_isNone l dC dI cyI cyB cyJ cyZ cyH cyN xHall a_first a_now a_lawPlace a_lawOther a_lawEach a_lawFrom a_foes a_suitTable a_acts) (cwV 0 hts (gdV wd_3_130 wd_3_131 wd_3_132 wd_1_3 wd_3_133) rfl rfl rfl (by decide +kernel) ⟨Nat.le_of_ble_eq_true rfl, Nat.le_of_ble_eq_true rfl⟩) ⟨fun a U g mk q => by obtain ⟨q0, qP, qK⟩ := q; exact ⟨q0, qP, va_K.moved (u := U) (U := U.calling g mk a) (Vm.Alike.refl U.vm) qK⟩, va_recv hKc hPc (ci := 2) (q0 := 0) rfl rfl, fun U hU hW => ⟨rfl, by rw [hU]; exact hPc, va_K.moved hW.alike hKc⟩⟩ rfl rfl hl.1 rfl (lv_room (Nat.le_of_ble_eq_true rfl)) dX11_undo_4 ⟨Nat.le_of_ble_eq_true rfl, Nat.le_of_ble_eq_true rfl⟩)) (fun r_1 hw => ?_)
  subst hw
  refine lv_if_eq (tgt := 13) hx hb dX11_undo_7 (by decide) (fun c_2 => absurd c_2 (by decide)) (fun _ => ?_)
  refine lv_bipush (v := (-2)) hx hb dX11_undo_10 (by decide) ?_
  exact W.iret (v := (-2)) hx hb hr (fun t ht hW => ⟨(-2), rfl, rfl, ht⟩) (fun q h => by cases h) dX11_undo_12

/- X11_anew -/
set_option maxHeartbeats 4000000 in
set_option maxRecDepth 100000 in
theorem c_anew (l : Launch) (dC : Nat → ClassId) (dI : Nat → Nat → Nat) (cyI cyB cyJ cyZ cyH cyN : ClassId) (x xTape xHall xDraft xImages xKept xSlots xCourse xSight xParting xSuiting xGame xLots xTold xTried a_first a_now a_lawPlace a_lawOther a_lawEach a_lawFrom a_foes a_suitTable a_acts : Nat) : Met l yX11_anew (wk yX11_anew cX11_anew 2 (some .int)) ({ frames := 2, cells := 0, slots := 0, locals := 80 }) (va_Pc [.ref x] (fun U => va_P (dC, dI) vwCl [(x, .inr (10, [.ref xTape, .ref xHall, .ref xDraft, .ref xImages, .ref xKept, .ref xSlots, .ref xCourse, .ref xSight, .ref xParting, .ref xSuiting, .ref xGame, .ref xLots, .ref xTold, .ref xTried, .null])), (xHall, .inr (2, [.int 0, .int 0, .int 0, .int 0, .int 0, .int 0, .ref a_first, .ref a_now, .ref a_lawPlace, .ref a_lawOther, .ref a_lawEach, .ref a_lawFrom, .ref a_foes, .ref a_suitTable, .ref a_acts]))] U.heap ∧ va_K (dC, dI) vwCl [(cyI, .int), (cyB, .byte), (cyJ, .long), (cyZ, .boolean), (cyH, .object RX2), (cyN, .array .long)] U)) (vp_Si (fun r : Int32 => r = (-2))) 0 0 (fun _ => False) := by
  refine Met.ofW (cc := cX11_anew) (maxL := 2) (ret := (some .int)) (by decide) rfl ?_
  intro p e s m args below meth c s₁ B hml hv
  obtain ⟨rfl, hP, hK⟩ := hv
  have hx := B.exec
  have hb := B.bytes
  have hr := B.returns
  have hts : ∀ w ∈ uU, w.before ([.ref x] : List Value).toArray s = true := fun w h => atoms_spec (ws := wk yX11_anew cX11_anew 2 (some .int)) B.pre w (List.mem_cons_of_mem _ h)
  have hown : s.vm.findClass RX11 = some m.cls := findClass_of_methodNamed B.named
  have hlocks := B.notSynchronized
  have hl := lv_entry ([.ref x]) (n := 2) (Nat.le_of_ble_eq_true rfl)
  rw [lg_entry_eq]
  generalize (lg_sl ([.ref x]) ++ List.replicate (2 - (lg_sl ([.ref x])).length) Slot.unset).toArray = ls at hl ⊢
  have hl : lv_has ls 2 [(0, .ref x)] := hl
  refine lv_aload_n hx hb dX11_anew_0 rfl (lv_at hl 0 rfl) ?_
  refine va_get (D := (dC, dI)) (ci := 10) (v := .ref xHall) (C := RX11) (T := TX11) (N := 15) hx hb hts uinX11 hown hK hP 0 rfl rfl 1 (by decide) (hts _ wd_2_66) (fun _ h9 => h9) rfl dX11_anew_1 ?_
  have hPc := hP.sub (ws' := [(xHall, .inr (2, [.int 0, .int 0, .int 0, .int 0, .int 0, .int 0, .ref a_first, .ref a_now, .ref a_lawPlace, .ref a_lawOther, .ref a_lawEach, .ref a_lawFrom, .ref a_foes, .ref a_suitTable, .ref a_acts]))]) [1] rfl
  have hKc := hK.sub (tys' := [(cyI, .int), (cyB, .byte), (cyJ, .long), (cyZ, .boolean), (cyH, .object RX2), (cyN, .array .long)]) [0, 1, 2, 3, 4, 5] rfl
  refine vp_callSi (va_Run.run (va_runV (As := []) (rest := []) ⟨hx, hb, hml, hown, hts⟩ (c_isNone l dC dI cyI cyB cyJ cyZ cyH cyN xHall a_first a_now a_lawPlace a_lawOther a_lawEach a_lawFrom a_foes a_suitTable a_acts) (cwV 0 hts (gdV wd_3_130 wd_3_131 wd_3_132 wd_1_3 wd_3_133) rfl rfl rfl (by decide +kernel) ⟨Nat.le_of_ble_eq_true rfl, Nat.le_of_ble_eq_true rfl⟩) ⟨fun a U g mk q => by obtain ⟨q0, qP, qK⟩ := q; exact ⟨q0, qP, va_K.moved (u := U) (U := U.calling g mk a) (Vm.Alike.refl U.vm) qK⟩, va_recv hKc hPc (ci := 2) (q0 := 0) rfl rfl, fun U hU hW => ⟨rfl, by rw [hU]; exact hPc, va_K.moved hW.alike hKc⟩⟩ rfl rfl hl.1 rfl (lv_room (Nat.le_of_ble_eq_true rfl)) dX11_anew_4 ⟨Nat.le_of_ble_eq_true rfl, Nat.le_of_ble_eq_true rfl⟩)) (fun r_1 hw => ?_)
  subst hw
  refine lv_if_eq (tgt := 13) hx hb dX11_anew_7 (by decide) (fun c_2 => absurd c_2 (by decide)) (fun _ => ?_)
  refine lv_bipush (v := (-2)) hx hb dX11_anew_10 (by decide) ?_
  exact W.iret (v := (-2)) hx hb hr (fun t ht hW => ⟨(-2), rfl, rfl, ht⟩) (fun q h => by cases h) dX11_anew_12

/- X11_nights -/
set_option maxHeartbeats 4000000 in
set_option maxRecDepth 100000 in
theorem c_nights (l : Launch) (dC : Nat → ClassId) (dI : Nat → Nat → Nat) (cyI cyB cyJ cyZ cyH cyN : ClassId) (x xTape xHall xDraft xImages xKept xSlots xCourse xSight xParting xSuiting xGame xLots xTold xTried a_first a_now a_lawPlace a_lawOther a_lawEach a_lawFrom a_foes a_suitTable a_acts : Nat) : Met l yX11_nights (wk yX11_nights cX11_nights 1 (some .int)) ({ frames := 2, cells := 0, slots := 0, locals := 80 }) (va_Pc [.ref x] (fun U => va_P (dC, dI) vwCl [(x, .inr (10, [.ref xTape, .ref xHall, .ref xDraft, .ref xImages, .ref xKept, .ref xSlots, .ref xCourse, .ref xSight, .ref xParting, .ref xSuiting, .ref xGame, .ref xLots, .ref xTold, .ref xTried, .null])), (xHall, .inr (2, [.int 0, .int 0, .int 0, .int 0, .int 0, .int 0, .ref a_first, .ref a_now, .ref a_lawPlace, .ref a_lawOther, .ref a_lawEach, .ref a_lawFrom, .ref a_foes, .ref a_suitTable, .ref a_acts]))] U.heap ∧ va_K (dC, dI) vwCl [(cyI, .int), (cyB, .byte), (cyJ, .long), (cyZ, .boolean), (cyH, .object RX2), (cyN, .array .long)] U)) (vp_Si (fun r : Int32 => r = (-2))) 0 0 (fun _ => False) := by
  refine Met.ofW (cc := cX11_nights) (maxL := 1) (ret := (some .int)) (by decide) rfl ?_
  intro p e s m args below meth c s₁ B hml hv
  obtain ⟨rfl, hP, hK⟩ := hv
  have hx := B.exec
  have hb := B.bytes
  have hr := B.returns
  have hts : ∀ w ∈ uU, w.before ([.ref x] : List Value).toArray s = true := fun w h => atoms_spec (ws := wk yX11_nights cX11_nights 1 (some .int)) B.pre w (List.mem_cons_of_mem _ h)
  have hown : s.vm.findClass RX11 = some m.cls := findClass_of_methodNamed B.named
  have hlocks := B.notSynchronized
  have hl := lv_entry ([.ref x]) (n := 1) (Nat.le_of_ble_eq_true rfl)
  rw [lg_entry_eq]
  generalize (lg_sl ([.ref x]) ++ List.replicate (1 - (lg_sl ([.ref x])).length) Slot.unset).toArray = ls at hl ⊢
  have hl : lv_has ls 1 [(0, .ref x)] := hl
  refine lv_aload_n hx hb dX11_nights_0 rfl (lv_at hl 0 rfl) ?_
  refine va_get (D := (dC, dI)) (ci := 10) (v := .ref xHall) (C := RX11) (T := TX11) (N := 15) hx hb hts uinX11 hown hK hP 0 rfl rfl 1 (by decide) (hts _ wd_2_66) (fun _ h9 => h9) rfl dX11_nights_1 ?_
  have hPc := hP.sub (ws' := [(xHall, .inr (2, [.int 0, .int 0, .int 0, .int 0, .int 0, .int 0, .ref a_first, .ref a_now, .ref a_lawPlace, .ref a_lawOther, .ref a_lawEach, .ref a_lawFrom, .ref a_foes, .ref a_suitTable, .ref a_acts]))]) [1] rfl
  have hKc := hK.sub (tys' := [(cyI, .int), (cyB, .byte), (cyJ, .long), (cyZ, .boolean), (cyH, .object RX2), (cyN, .array .long)]) [0, 1, 2, 3, 4, 5] rfl
  refine vp_callSi (va_Run.run (va_runV (As := []) (rest := []) ⟨hx, hb, hml, hown, hts⟩ (c_isNone l dC dI cyI cyB cyJ cyZ cyH cyN xHall a_first a_now a_lawPlace a_lawOther a_lawEach a_lawFrom a_foes a_suitTable a_acts) (cwV 0 hts (gdV wd_3_130 wd_3_131 wd_3_132 wd_1_3 wd_3_133) rfl rfl rfl (by decide +kernel) ⟨Nat.le_of_ble_eq_true rfl, Nat.le_of_ble_eq_true rfl⟩) ⟨fun a U g mk q => by obtain ⟨q0, qP, qK⟩ := q; exact ⟨q0, qP, va_K.moved (u := U) (U := U.calling g mk a) (Vm.Alike.refl U.vm) qK⟩, va_recv hKc hPc (ci := 2) (q0 := 0) rfl rfl, fun U hU hW => ⟨rfl, by rw [hU]; exact hPc, va_K.moved hW.alike hKc⟩⟩ rfl rfl hl.1 rfl (lv_room (Nat.le_of_ble_eq_true rfl)) dX11_nights_4 ⟨Nat.le_of_ble_eq_true rfl, Nat.le_of_ble_eq_true rfl⟩)) (fun r_1 hw => ?_)
  subst hw
  refine lv_if_eq (tgt := 15) hx hb dX11_nights_7 (by decide) (fun c_2 => absurd c_2 (by decide)) (fun _ => ?_)
  refine lv_bipush (v := (-2)) hx hb dX11_nights_10 (by decide) ?_
  refine lv_goto (tgt := 22) hx hb dX11_nights_12 (by decide) ?_
  exact W.iret (v := (-2)) hx hb hr (fun t ht hW => ⟨(-2), rfl, rfl, ht⟩) (fun q h => by cases h) dX11_nights_22

/- X11_drawn -/
set_option maxHeartbeats 4000000 in
set_option maxRecDepth 100000 in
theorem c_drawn (l : Launch) (dC : Nat → ClassId) (dI : Nat → Nat → Nat) (cyI cyB cyJ cyZ cyH cyN : ClassId) (x xTape xHall xDraft xImages xKept xSlots xCourse xSight xParting xSuiting xGame xLots xTold xTried a_first a_now a_lawPlace a_lawOther a_lawEach a_lawFrom a_foes a_suitTable a_acts : Nat) (p0 p1 p2 : Int32) : Met l yX11_drawn (wk yX11_drawn cX11_drawn 4 (some .int)) ({ frames := 2, cells := 0, slots := 0, locals := 81 }) (va_Pc [.ref x, .int p0, .int p1, .int p2] (fun U => va_P (dC, dI) vwCl [(x, .inr (10, [.ref xTape, .ref xHall, .ref xDraft, .ref xImages, .ref xKept, .ref xSlots, .ref xCourse, .ref xSight, .ref xParting, .ref xSuiting, .ref xGame, .ref xLots, .ref xTold, .ref xTried, .null])), (xHall, .inr (2, [.int 0, .int 0, .int 0, .int 0, .int 0, .int 0, .ref a_first, .ref a_now, .ref a_lawPlace, .ref a_lawOther, .ref a_lawEach, .ref a_lawFrom, .ref a_foes, .ref a_suitTable, .ref a_acts]))] U.heap ∧ va_K (dC, dI) vwCl [(cyI, .int), (cyB, .byte), (cyJ, .long), (cyZ, .boolean), (cyH, .object RX2), (cyN, .array .long)] U)) (vp_Si (fun r : Int32 => r = (-2))) 0 0 (fun _ => False) := by
  refine Met.ofW (cc := cX11_drawn) (maxL := 4) (ret := (some .int)) (by decide) rfl ?_
  intro p e s m args below meth c s₁ B hml hv
  obtain ⟨rfl, hP, hK⟩ := hv
  have hx := B.exec
  have hb := B.bytes
  have hr := B.returns
  have hts : ∀ w ∈ uU, w.before ([.ref x, .int p0, .int p1, .int p2] : List Value).toArray s = true := fun w h => atoms_spec (ws := wk yX11_drawn cX11_drawn 4 (some .int)) B.pre w (List.mem_cons_of_mem _ h)
  have hown : s.vm.findClass RX11 = some m.cls := findClass_of_methodNamed B.named
  have hlocks := B.notSynchronized
  have hl := lv_entry ([.ref x, .int p0, .int p1, .int p2]) (n := 4) (Nat.le_of_ble_eq_true rfl)
  rw [lg_entry_eq]
  generalize (lg_sl ([.ref x, .int p0, .int p1, .int p2]) ++ List.replicate (4 - (lg_sl ([.ref x, .int p0, .int p1, .int p2])).length) Slot.unset).toArray = ls at hl ⊢
  have hl : lv_has ls 4 [(0, .ref x), (1, .int p0), (2, .int p1), (3, .int p2)] := hl
  refine lv_aload_n hx hb dX11_drawn_0 rfl (lv_at hl 0 rfl) ?_
  refine va_get (D := (dC, dI)) (ci := 10) (v := .ref xHall) (C := RX11) (T := TX11) (N := 15) hx hb hts uinX11 hown hK hP 0 rfl rfl 1 (by decide) (hts _ wd_2_66) (fun _ h9 => h9) rfl dX11_drawn_1 ?_
  refine lv_iload_n hx hb dX11_drawn_4 rfl (lv_at hl 3 rfl) ?_
  have hPc := hP.sub (ws' := [(xHall, .inr (2, [.int 0, .int 0, .int 0, .int 0, .int 0, .int 0, .ref a_first, .ref a_now, .ref a_lawPlace, .ref a_lawOther, .ref a_lawEach, .ref a_lawFrom, .ref a_foes, .ref a_suitTable, .ref a_acts]))]) [1] rfl
  have hKc := hK.sub (tys' := [(cyI, .int), (cyB, .byte), (cyJ, .long), (cyZ, .boolean), (cyH, .object RX2), (cyN, .array .long)]) [0, 1, 2, 3, 4, 5] rfl
  refine vp_callSi (va_Run.run (va_runV (As := [.int p2]) (rest := []) ⟨hx, hb, hml, hown, hts⟩ (c_holds l dC dI cyI cyB cyJ cyZ cyH cyN xHall a_first a_now a_lawPlace a_lawOther a_lawEach a_lawFrom a_foes a_suitTable a_acts p2) (cwV 1 hts (gdV wd_3_56 wd_3_57 wd_3_58 wd_1_3 wd_3_59) rfl rfl rfl (by decide +kernel) ⟨Nat.le_of_ble_eq_true rfl, Nat.le_of_ble_eq_true rfl⟩) ⟨fun a U g mk q => by obtain ⟨q0, qP, qK⟩ := q; exact ⟨q0, qP, va_K.moved (u := U) (U := U.calling g mk a) (Vm.Alike.refl U.vm) qK⟩, va_recv hKc hPc (ci := 2) (q0 := 0) rfl rfl, fun U hU hW => ⟨rfl, by rw [hU]; exact hPc, va_K.moved hW.alike hKc⟩⟩ rfl rfl hl.1 rfl (lv_room (Nat.le_of_ble_eq_true rfl)) dX11_drawn_5 ⟨Nat.le_of_ble_eq_true rfl, Nat.le_of_ble_eq_true rfl⟩)) (fun r_1 hw => ?_)
  subst hw
  refine lv_if_eq (tgt := 32) hx hb dX11_drawn_8 (by decide) (fun _ => ?_) (fun c_2 => absurd c_2 (by decide))
  refine lv_bipush (v := (-2)) hx hb dX11_drawn_32 (by decide) ?_
  exact W.iret (v := (-2)) hx hb hr (fun t ht hW => ⟨(-2), rfl, rfl, ht⟩) (fun q h => by cases h) dX11_drawn_34

/- X11_luck -/
set_option maxHeartbeats 4000000 in
set_option maxRecDepth 100000 in
theorem c_luck (l : Launch) (dC : Nat → ClassId) (dI : Nat → Nat → Nat) (cyI cyB cyJ cyZ cyH cyN : ClassId) (x xTape xHall xDraft xImages xKept xSlots xCourse xSight xParting xSuiting xGame xLots xTold xTried a_first a_now a_lawPlace a_lawOther a_lawEach a_lawFrom a_foes a_suitTable a_acts : Nat) (p0 p1 p2 p3 : Int32) : Met l yX11_luck (wk yX11_luck cX11_luck 8 (some .int)) ({ frames := 2, cells := 0, slots := 0, locals := 81 }) (va_Pc [.ref x, .int p0, .int p1, .int p2, .int p3] (fun U => va_P (dC, dI) vwCl [(x, .inr (10, [.ref xTape, .ref xHall, .ref xDraft, .ref xImages, .ref xKept, .ref xSlots, .ref xCourse, .ref xSight, .ref xParting, .ref xSuiting, .ref xGame, .ref xLots, .ref xTold, .ref xTried, .null])), (xHall, .inr (2, [.int 0, .int 0, .int 0, .int 0, .int 0, .int 0, .ref a_first, .ref a_now, .ref a_lawPlace, .ref a_lawOther, .ref a_lawEach, .ref a_lawFrom, .ref a_foes, .ref a_suitTable, .ref a_acts]))] U.heap ∧ va_K (dC, dI) vwCl [(cyI, .int), (cyB, .byte), (cyJ, .long), (cyZ, .boolean), (cyH, .object RX2), (cyN, .array .long)] U)) (vp_Si (fun r : Int32 => r = (-2))) 0 0 (fun _ => False) := by
  refine Met.ofW (cc := cX11_luck) (maxL := 8) (ret := (some .int)) (by decide) rfl ?_
  intro p e s m args below meth c s₁ B hml hv
  obtain ⟨rfl, hP, hK⟩ := hv
  have hx := B.exec
  have hb := B.bytes
  have hr := B.returns
  have hts : ∀ w ∈ uU, w.before ([.ref x, .int p0, .int p1, .int p2, .int p3] : List Value).toArray s = true := fun w h => atoms_spec (ws := wk yX11_luck cX11_luck 8 (some .int)) B.pre w (List.mem_cons_of_mem _ h)
  have hown : s.vm.findClass RX11 = some m.cls := findClass_of_methodNamed B.named
  have hlocks := B.notSynchronized
  have hl := lv_entry ([.ref x, .int p0, .int p1, .int p2, .int p3]) (n := 8) (Nat.le_of_ble_eq_true rfl)
  rw [lg_entry_eq]
  generalize (lg_sl ([.ref x, .int p0, .int p1, .int p2, .int p3]) ++ List.replicate (8 - (lg_sl ([.ref x, .int p0, .int p1, .int p2, .int p3])).length) Slot.unset).toArray = ls at hl ⊢
  have hl : lv_has ls 8 [(0, .ref x), (1, .int p0), (2, .int p1), (3, .int p2), (4, .int p3)] := hl
  refine lv_aload_n hx hb dX11_luck_0 rfl (lv_at hl 0 rfl) ?_
  refine va_get (D := (dC, dI)) (ci := 10) (v := .ref xHall) (C := RX11) (T := TX11) (N := 15) hx hb hts uinX11 hown hK hP 0 rfl rfl 1 (by decide) (hts _ wd_2_66) (fun _ h9 => h9) rfl dX11_luck_1 ?_
  refine lv_iload hx hb dX11_luck_4 (lv_at hl 4 rfl) ?_
  have hPc := hP.sub (ws' := [(xHall, .inr (2, [.int 0, .int 0, .int 0, .int 0, .int 0, .int 0, .ref a_first, .ref a_now, .ref a_lawPlace, .ref a_lawOther, .ref a_lawEach, .ref a_lawFrom, .ref a_foes, .ref a_suitTable, .ref a_acts]))]) [1] rfl
  have hKc := hK.sub (tys' := [(cyI, .int), (cyB, .byte), (cyJ, .long), (cyZ, .boolean), (cyH, .object RX2), (cyN, .array .long)]) [0, 1, 2, 3, 4, 5] rfl
  refine vp_callSi (va_Run.run (va_runV (As := [.int p3]) (rest := []) ⟨hx, hb, hml, hown, hts⟩ (c_holds l dC dI cyI cyB cyJ cyZ cyH cyN xHall a_first a_now a_lawPlace a_lawOther a_lawEach a_lawFrom a_foes a_suitTable a_acts p3) (cwV 1 hts (gdV wd_3_56 wd_3_57 wd_3_58 wd_1_3 wd_3_59) rfl rfl rfl (by decide +kernel) ⟨Nat.le_of_ble_eq_true rfl, Nat.le_of_ble_eq_true rfl⟩) ⟨fun a U g mk q => by obtain ⟨q0, qP, qK⟩ := q; exact ⟨q0, qP, va_K.moved (u := U) (U := U.calling g mk a) (Vm.Alike.refl U.vm) qK⟩, va_recv hKc hPc (ci := 2) (q0 := 0) rfl rfl, fun U hU hW => ⟨rfl, by rw [hU]; exact hPc, va_K.moved hW.alike hKc⟩⟩ rfl rfl hl.1 rfl (lv_room (Nat.le_of_ble_eq_true rfl)) dX11_luck_6 ⟨Nat.le_of_ble_eq_true rfl, Nat.le_of_ble_eq_true rfl⟩)) (fun r_1 hw => ?_)
  subst hw
  refine lv_if_eq (tgt := 33) hx hb dX11_luck_9 (by decide) (fun _ => ?_) (fun c_2 => absurd c_2 (by decide))
  refine lv_bipush (v := (-2)) hx hb dX11_luck_33 (by decide) ?_
  exact W.iret (v := (-2)) hx hb hr (fun t ht hW => ⟨(-2), rfl, rfl, ht⟩) (fun q h => by cases h) dX11_luck_35

/- X11_tell -/
set_option maxHeartbeats 4000000 in
set_option maxRecDepth 100000 in
theorem c_tell (l : Launch) (dC : Nat → ClassId) (dI : Nat → Nat → Nat) (cyI cyB cyJ cyZ cyH cyN : ClassId) (x xTape xHall xDraft xImages xKept xSlots xCourse xSight xParting xSuiting xGame xLots xTold xTried a_first a_now a_lawPlace a_lawOther a_lawEach a_lawFrom a_foes a_suitTable a_acts : Nat) (p0 p1 p2 : Int32) : Met l yX11_tell (wk yX11_tell cX11_tell 5 (some .int)) ({ frames := 2, cells := 0, slots := 0, locals := 81 }) (va_Pc [.ref x, .int p0, .int p1, .int p2] (fun U => va_P (dC, dI) vwCl [(x, .inr (10, [.ref xTape, .ref xHall, .ref xDraft, .ref xImages, .ref xKept, .ref xSlots, .ref xCourse, .ref xSight, .ref xParting, .ref xSuiting, .ref xGame, .ref xLots, .ref xTold, .ref xTried, .null])), (xHall, .inr (2, [.int 0, .int 0, .int 0, .int 0, .int 0, .int 0, .ref a_first, .ref a_now, .ref a_lawPlace, .ref a_lawOther, .ref a_lawEach, .ref a_lawFrom, .ref a_foes, .ref a_suitTable, .ref a_acts]))] U.heap ∧ va_K (dC, dI) vwCl [(cyI, .int), (cyB, .byte), (cyJ, .long), (cyZ, .boolean), (cyH, .object RX2), (cyN, .array .long)] U)) (vp_Si (fun r : Int32 => r = (-2))) 0 0 (fun _ => False) := by
  refine Met.ofW (cc := cX11_tell) (maxL := 5) (ret := (some .int)) (by decide) rfl ?_
  intro p e s m args below meth c s₁ B hml hv
  obtain ⟨rfl, hP, hK⟩ := hv
  have hx := B.exec
  have hb := B.bytes
  have hr := B.returns
  have hts : ∀ w ∈ uU, w.before ([.ref x, .int p0, .int p1, .int p2] : List Value).toArray s = true := fun w h => atoms_spec (ws := wk yX11_tell cX11_tell 5 (some .int)) B.pre w (List.mem_cons_of_mem _ h)
  have hown : s.vm.findClass RX11 = some m.cls := findClass_of_methodNamed B.named
  have hlocks := B.notSynchronized
  have hl := lv_entry ([.ref x, .int p0, .int p1, .int p2]) (n := 5) (Nat.le_of_ble_eq_true rfl)
  rw [lg_entry_eq]
  generalize (lg_sl ([.ref x, .int p0, .int p1, .int p2]) ++ List.replicate (5 - (lg_sl ([.ref x, .int p0, .int p1, .int p2])).length) Slot.unset).toArray = ls at hl ⊢
  have hl : lv_has ls 5 [(0, .ref x), (1, .int p0), (2, .int p1), (3, .int p2)] := hl
  refine lv_aload_n hx hb dX11_tell_0 rfl (lv_at hl 0 rfl) ?_
  refine va_get (D := (dC, dI)) (ci := 10) (v := .ref xHall) (C := RX11) (T := TX11) (N := 15) hx hb hts uinX11 hown hK hP 0 rfl rfl 1 (by decide) (hts _ wd_2_66) (fun _ h9 => h9) rfl dX11_tell_1 ?_
  refine lv_iload_n hx hb dX11_tell_4 rfl (lv_at hl 1 rfl) ?_
  have hPc := hP.sub (ws' := [(xHall, .inr (2, [.int 0, .int 0, .int 0, .int 0, .int 0, .int 0, .ref a_first, .ref a_now, .ref a_lawPlace, .ref a_lawOther, .ref a_lawEach, .ref a_lawFrom, .ref a_foes, .ref a_suitTable, .ref a_acts]))]) [1] rfl
  have hKc := hK.sub (tys' := [(cyI, .int), (cyB, .byte), (cyJ, .long), (cyZ, .boolean), (cyH, .object RX2), (cyN, .array .long)]) [0, 1, 2, 3, 4, 5] rfl
  refine vp_callSi (va_Run.run (va_runV (As := [.int p0]) (rest := []) ⟨hx, hb, hml, hown, hts⟩ (c_holds l dC dI cyI cyB cyJ cyZ cyH cyN xHall a_first a_now a_lawPlace a_lawOther a_lawEach a_lawFrom a_foes a_suitTable a_acts p0) (cwV 1 hts (gdV wd_3_56 wd_3_57 wd_3_58 wd_1_3 wd_3_59) rfl rfl rfl (by decide +kernel) ⟨Nat.le_of_ble_eq_true rfl, Nat.le_of_ble_eq_true rfl⟩) ⟨fun a U g mk q => by obtain ⟨q0, qP, qK⟩ := q; exact ⟨q0, qP, va_K.moved (u := U) (U := U.calling g mk a) (Vm.Alike.refl U.vm) qK⟩, va_recv hKc hPc (ci := 2) (q0 := 0) rfl rfl, fun U hU hW => ⟨rfl, by rw [hU]; exact hPc, va_K.moved hW.alike hKc⟩⟩ rfl rfl hl.1 rfl (lv_room (Nat.le_of_ble_eq_true rfl)) dX11_tell_5 ⟨Nat.le_of_ble_eq_true rfl, Nat.le_of_ble_eq_true rfl⟩)) (fun r_1 hw => ?_)
  subst hw
  refine lv_if_eq (tgt := 32) hx hb dX11_tell_8 (by decide) (fun _ => ?_) (fun c_2 => absurd c_2 (by decide))
  refine lv_bipush (v := (-2)) hx hb dX11_tell_32 (by decide) ?_
  exact W.iret (v := (-2)) hx hb hr (fun t ht hW => ⟨(-2), rfl, rfl, ht⟩) (fun q h => by cases h) dX11_tell_34

/- X11_fault -/
set_option maxHeartbeats 4000000 in
set_option maxRecDepth 100000 in
theorem c_fault (l : Launch) (dC : Nat → ClassId) (dI : Nat → Nat → Nat) (cyI cyB cyJ cyZ cyH cyN : ClassId) (x xTape xHall xDraft xImages xKept xSlots xCourse xSight xParting xSuiting xGame xLots xTold xTried tBytes : Nat) (p0 : Int32) : Met l yX11_fault (wk yX11_fault cX11_fault 2 (some .int)) ({ frames := 1, cells := 0, slots := 0, locals := 60 }) (va_Pc [.ref x, .int p0] (fun U => va_P (dC, dI) vwCl [(x, .inr (10, [.ref xTape, .ref xHall, .ref xDraft, .ref xImages, .ref xKept, .ref xSlots, .ref xCourse, .ref xSight, .ref xParting, .ref xSuiting, .ref xGame, .ref xLots, .ref xTold, .ref xTried, .null])), (xTape, .inr (9, [.ref tBytes, .int 0, .int 0, .int (-1), .int 0, .int 0, .int 0, .int 0, .int 0, .int 0]))] U.heap ∧ va_K (dC, dI) vwCl [(cyI, .int), (cyB, .byte), (cyJ, .long), (cyZ, .boolean), (cyH, .object RX2), (cyN, .array .long)] U)) (vp_Si (fun r : Int32 => r = (if p0.toInt = 0 then 0 else (-1)))) 0 0 (fun _ => False) := by
  refine Met.ofW (cc := cX11_fault) (maxL := 2) (ret := (some .int)) (by decide) rfl ?_
  intro p e s m args below meth c s₁ B hml hv
  obtain ⟨rfl, hP, hK⟩ := hv
  have hx := B.exec
  have hb := B.bytes
  have hr := B.returns
  have hts : ∀ w ∈ uU, w.before ([.ref x, .int p0] : List Value).toArray s = true := fun w h => atoms_spec (ws := wk yX11_fault cX11_fault 2 (some .int)) B.pre w (List.mem_cons_of_mem _ h)
  have hown : s.vm.findClass RX11 = some m.cls := findClass_of_methodNamed B.named
  have hlocks := B.notSynchronized
  have hl := lv_entry ([.ref x, .int p0]) (n := 2) (Nat.le_of_ble_eq_true rfl)
  rw [lg_entry_eq]
  generalize (lg_sl ([.ref x, .int p0]) ++ List.replicate (2 - (lg_sl ([.ref x, .int p0])).length) Slot.unset).toArray = ls at hl ⊢
  have hl : lv_has ls 2 [(0, .ref x), (1, .int p0)] := hl
  refine lv_iload_n hx hb dX11_fault_0 rfl (lv_at hl 1 rfl) ?_
  refine lv_if_ne (tgt := 12) hx hb dX11_fault_1 (by decide) (fun c_1 => ?_) (fun c_1 => ?_)
  · have c_1 : p0.toInt ≠ 0 := cv_ne c_1
    refine lv_iload_n hx hb dX11_fault_12 rfl (lv_at hl 1 rfl) ?_
    refine lv_iconst (v := 1) hx hb dX11_fault_13 (by decide) ?_
    refine lv_icmp_ne (tgt := 27) hx hb dX11_fault_14 (by decide) (fun c_2 => ?_) (fun c_2 => ?_)
    · have c_2 : p0.toInt ≠ 1 := cv_ne c_2
      refine lv_iconst (v := (-1)) hx hb dX11_fault_27 (by decide) ?_
      exact W.iret (v := (-1)) hx hb hr (fun t ht hW => ⟨(-1), rfl, (by first | (rw [if_pos (by omega)]; done) | (rw [if_neg (by omega)]; done) | (rw [if_neg (by omega), if_pos (by omega)]; done) | (rw [if_neg (by omega), if_neg (by omega)]; done)), ht⟩) (fun q h => by cases h) dX11_fault_28
    · have c_2 : p0.toInt = 1 := cv_eq c_2
      refine lv_aload_n hx hb dX11_fault_17 rfl (lv_at hl 0 rfl) ?_
      refine va_get (D := (dC, dI)) (ci := 10) (v := .ref xTape) (C := RX11) (T := TX11) (N := 15) hx hb hts uinX11 hown hK hP 0 rfl rfl 0 (by decide) (hts _ wd_2_65) (fun _ h9 => h9) rfl dX11_fault_18 ?_
      refine va_get (D := (dC, dI)) (ci := 9) (v := .int (-1)) (C := RX10) (T := TX10) (N := 10) hx hb hts uinX10 hown hK hP 1 rfl rfl 3 (by decide) (hts _ wd_1_42) (fun _ h9 => h9) rfl dX11_fault_21 ?_
      refine lv_goto (tgt := 28) hx hb dX11_fault_24 (by decide) ?_
      exact W.iret (v := (-1)) hx hb hr (fun t ht hW => ⟨(-1), rfl, (by first | (rw [if_pos (by omega)]; done) | (rw [if_neg (by omega)]; done) | (rw [if_neg (by omega), if_pos (by omega)]; done) | (rw [if_neg (by omega), if_neg (by omega)]; done)), ht⟩) (fun q h => by cases h) dX11_fault_28
  · have c_1 : p0.toInt = 0 := cv_eq c_1
    refine lv_aload_n hx hb dX11_fault_4 rfl (lv_at hl 0 rfl) ?_
    refine va_get (D := (dC, dI)) (ci := 10) (v := .ref xTape) (C := RX11) (T := TX11) (N := 15) hx hb hts uinX11 hown hK hP 0 rfl rfl 0 (by decide) (hts _ wd_2_65) (fun _ h9 => h9) rfl dX11_fault_5 ?_
    refine va_get (D := (dC, dI)) (ci := 9) (v := .int 0) (C := RX10) (T := TX10) (N := 10) hx hb hts uinX10 hown hK hP 1 rfl rfl 2 (by decide) (hts _ wd_1_40) (fun _ h9 => h9) rfl dX11_fault_8 ?_
    exact W.iret (v := 0) hx hb hr (fun t ht hW => ⟨0, rfl, (by first | (rw [if_pos (by omega)]; done) | (rw [if_neg (by omega)]; done) | (rw [if_neg (by omega), if_pos (by omega)]; done) | (rw [if_neg (by omega), if_neg (by omega)]; done)), ht⟩) (fun q h => by cases h) dX11_fault_11

/- X11_count -/
set_option maxHeartbeats 4000000 in
set_option maxRecDepth 100000 in
theorem c_count (l : Launch) (dC : Nat → ClassId) (dI : Nat → Nat → Nat) (cyI cyB cyJ cyZ cyH cyN : ClassId) (x xTape xHall xDraft xImages xKept xSlots xCourse xSight xParting xSuiting xGame xLots xTold xTried a_first a_now a_lawPlace a_lawOther a_lawEach a_lawFrom a_foes a_suitTable a_acts tBytes sNum sLen sWid sMade : Nat) (p0 : Int32) : Met l yX11_count (wk yX11_count cX11_count 2 (some .int)) ({ frames := 2, cells := 0, slots := 0, locals := 82 }) (va_Pc [.ref x, .int p0] (fun U => va_P (dC, dI) vwCl [(x, .inr (10, [.ref xTape, .ref xHall, .ref xDraft, .ref xImages, .ref xKept, .ref xSlots, .ref xCourse, .ref xSight, .ref xParting, .ref xSuiting, .ref xGame, .ref xLots, .ref xTold, .ref xTried, .null])), (xHall, .inr (2, [.int 0, .int 0, .int 0, .int 0, .int 0, .int 0, .ref a_first, .ref a_now, .ref a_lawPlace, .ref a_lawOther, .ref a_lawEach, .ref a_lawFrom, .ref a_foes, .ref a_suitTable, .ref a_acts])), (xTape, .inr (9, [.ref tBytes, .int 0, .int 0, .int (-1), .int 0, .int 0, .int 0, .int 0, .int 0, .int 0])), (xSlots, .inr (7, [.ref sNum, .ref sLen, .ref sWid, .ref sMade])), (sMade, .inl (cyZ, 4, .inl (fun _ => 0)))] U.heap ∧ va_K (dC, dI) vwCl [(cyI, .int), (cyB, .byte), (cyJ, .long), (cyZ, .boolean), (cyH, .object RX2), (cyN, .array .long)] U)) (vp_Si (fun r : Int32 => r = (if 0 ≤ p0.toInt ∧ p0.toInt ≤ 6 then 0 else (-1)))) 0 0 (fun _ => False) := by
  refine Met.ofW (cc := cX11_count) (maxL := 2) (ret := (some .int)) (by decide) rfl ?_
  intro p e s m args below meth c s₁ B hml hv
  obtain ⟨rfl, hP, hK⟩ := hv
  have hx := B.exec
  have hb := B.bytes
  have hr := B.returns
  have hts : ∀ w ∈ uU, w.before ([.ref x, .int p0] : List Value).toArray s = true := fun w h => atoms_spec (ws := wk yX11_count cX11_count 2 (some .int)) B.pre w (List.mem_cons_of_mem _ h)
  have hown : s.vm.findClass RX11 = some m.cls := findClass_of_methodNamed B.named
  have hlocks := B.notSynchronized
  have hl := lv_entry ([.ref x, .int p0]) (n := 2) (Nat.le_of_ble_eq_true rfl)
  rw [lg_entry_eq]
  generalize (lg_sl ([.ref x, .int p0]) ++ List.replicate (2 - (lg_sl ([.ref x, .int p0])).length) Slot.unset).toArray = ls at hl ⊢
  have hl : lv_has ls 2 [(0, .ref x), (1, .int p0)] := hl
  refine lv_iload_n hx hb dX11_count_0 rfl (lv_at hl 1 rfl) ?_
  rcases (show p0.toInt = 0 ∨ p0.toInt = 1 ∨ p0.toInt = 2 ∨ p0.toInt = 3 ∨ p0.toInt = 4 ∨ p0.toInt = 5 ∨ p0.toInt = 6 ∨ (p0.toInt < 0 ∨ 6 < p0.toInt) by omega) with c_1 | c_1 | c_1 | c_1 | c_1 | c_1 | c_1 | c_1
  · refine lv_tableIn (off := 43) (tgt := 44) hx hb dX11_count_1 (by omega) (by omega) (by rw [c_1]; rfl) (by decide) ?_
    refine lv_aload_n hx hb dX11_count_44 rfl (lv_at hl 0 rfl) ?_
    refine va_get (D := (dC, dI)) (ci := 10) (v := .ref xHall) (C := RX11) (T := TX11) (N := 15) hx hb hts uinX11 hown hK hP 0 rfl rfl 1 (by decide) (hts _ wd_2_66) (fun _ h9 => h9) rfl dX11_count_45 ?_
    refine va_get (D := (dC, dI)) (ci := 2) (v := .int 0) (C := RX2) (T := TX2) (N := 15) hx hb hts uinX2 hown hK hP 1 rfl rfl 0 (by decide) (hts _ wd_1_85) (fun _ h9 => h9) rfl dX11_count_48 ?_
    exact W.iret (v := 0) hx hb hr (fun t ht hW => ⟨0, rfl, (by first | (rw [if_pos (by omega)]; done) | (rw [if_neg (by omega)]; done) | (rw [if_neg (by omega), if_pos (by omega)]; done) | (rw [if_neg (by omega), if_neg (by omega)]; done)), ht⟩) (fun q h => by cases h) dX11_count_51
  · refine lv_tableIn (off := 51) (tgt := 52) hx hb dX11_count_1 (by omega) (by omega) (by rw [c_1]; rfl) (by decide) ?_
    refine lv_aload_n hx hb dX11_count_52 rfl (lv_at hl 0 rfl) ?_
    refine va_get (D := (dC, dI)) (ci := 10) (v := .ref xHall) (C := RX11) (T := TX11) (N := 15) hx hb hts uinX11 hown hK hP 0 rfl rfl 1 (by decide) (hts _ wd_2_66) (fun _ h9 => h9) rfl dX11_count_53 ?_
    refine va_get (D := (dC, dI)) (ci := 2) (v := .int 0) (C := RX2) (T := TX2) (N := 15) hx hb hts uinX2 hown hK hP 1 rfl rfl 3 (by decide) (hts _ wd_1_93) (fun _ h9 => h9) rfl dX11_count_56 ?_
    exact W.iret (v := 0) hx hb hr (fun t ht hW => ⟨0, rfl, (by first | (rw [if_pos (by omega)]; done) | (rw [if_neg (by omega)]; done) | (rw [if_neg (by omega), if_pos (by omega)]; done) | (rw [if_neg (by omega), if_neg (by omega)]; done)), ht⟩) (fun q h => by cases h) dX11_count_59
  · refine lv_tableIn (off := 59) (tgt := 60) hx hb dX11_count_1 (by omega) (by omega) (by rw [c_1]; rfl) (by decide) ?_
    refine lv_aload_n hx hb dX11_count_60 rfl (lv_at hl 0 rfl) ?_
    refine va_get (D := (dC, dI)) (ci := 10) (v := .ref xHall) (C := RX11) (T := TX11) (N := 15) hx hb hts uinX11 hown hK hP 0 rfl rfl 1 (by decide) (hts _ wd_2_66) (fun _ h9 => h9) rfl dX11_count_61 ?_
    have hPc := hP.sub (ws' := [(xHall, .inr (2, [.int 0, .int 0, .int 0, .int 0, .int 0, .int 0, .ref a_first, .ref a_now, .ref a_lawPlace, .ref a_lawOther, .ref a_lawEach, .ref a_lawFrom, .ref a_foes, .ref a_suitTable, .ref a_acts]))]) [1] rfl
    have hKc := hK.sub (tys' := [(cyI, .int), (cyB, .byte), (cyJ, .long), (cyZ, .boolean), (cyH, .object RX2), (cyN, .array .long)]) [0, 1, 2, 3, 4, 5] rfl
    refine vp_callSi (va_Run.run (va_runV (As := []) (rest := []) ⟨hx, hb, hml, hown, hts⟩ (c_foePairs l dC dI cyI cyB cyJ cyZ cyH cyN xHall a_first a_now a_lawPlace a_lawOther a_lawEach a_lawFrom a_foes a_suitTable a_acts) (cwV 0 hts (gdV wd_5_227 wd_5_228 wd_5_229 wd_1_3 wd_5_230) rfl rfl rfl (by decide +kernel) ⟨Nat.le_of_ble_eq_true rfl, Nat.le_of_ble_eq_true rfl⟩) ⟨fun a U g mk q => by obtain ⟨q0, qP, qK⟩ := q; exact ⟨q0, qP, va_K.moved (u := U) (U := U.calling g mk a) (Vm.Alike.refl U.vm) qK⟩, va_recv hKc hPc (ci := 2) (q0 := 0) rfl rfl, fun U hU hW => ⟨rfl, by rw [hU]; exact hPc, va_K.moved hW.alike hKc⟩⟩ rfl rfl hl.1 rfl (lv_room (Nat.le_of_ble_eq_true rfl)) dX11_count_64 ⟨Nat.le_of_ble_eq_true rfl, Nat.le_of_ble_eq_true rfl⟩)) (fun r_2 hw => ?_)
    subst hw
    exact W.iret (v := 0) hx hb hr (fun t ht hW => ⟨0, rfl, (by first | (rw [if_pos (by omega)]; done) | (rw [if_neg (by omega)]; done) | (rw [if_neg (by omega), if_pos (by omega)]; done) | (rw [if_neg (by omega), if_neg (by omega)]; done)), ht⟩) (fun q h => by cases h) dX11_count_67
  · refine lv_tableIn (off := 67) (tgt := 68) hx hb dX11_count_1 (by omega) (by omega) (by rw [c_1]; rfl) (by decide) ?_
    refine lv_aload_n hx hb dX11_count_68 rfl (lv_at hl 0 rfl) ?_
    refine va_get (D := (dC, dI)) (ci := 10) (v := .ref xHall) (C := RX11) (T := TX11) (N := 15) hx hb hts uinX11 hown hK hP 0 rfl rfl 1 (by decide) (hts _ wd_2_66) (fun _ h9 => h9) rfl dX11_count_69 ?_
    refine va_get (D := (dC, dI)) (ci := 2) (v := .int 0) (C := RX2) (T := TX2) (N := 15) hx hb hts uinX2 hown hK hP 1 rfl rfl 4 (by decide) (hts _ wd_1_96) (fun _ h9 => h9) rfl dX11_count_72 ?_
    exact W.iret (v := 0) hx hb hr (fun t ht hW => ⟨0, rfl, (by first | (rw [if_pos (by omega)]; done) | (rw [if_neg (by omega)]; done) | (rw [if_neg (by omega), if_pos (by omega)]; done) | (rw [if_neg (by omega), if_neg (by omega)]; done)), ht⟩) (fun q h => by cases h) dX11_count_75
  · refine lv_tableIn (off := 75) (tgt := 76) hx hb dX11_count_1 (by omega) (by omega) (by rw [c_1]; rfl) (by decide) ?_
    refine lv_aload_n hx hb dX11_count_76 rfl (lv_at hl 0 rfl) ?_
    refine va_get (D := (dC, dI)) (ci := 10) (v := .ref xHall) (C := RX11) (T := TX11) (N := 15) hx hb hts uinX11 hown hK hP 0 rfl rfl 1 (by decide) (hts _ wd_2_66) (fun _ h9 => h9) rfl dX11_count_77 ?_
    refine va_get (D := (dC, dI)) (ci := 2) (v := .int 0) (C := RX2) (T := TX2) (N := 15) hx hb hts uinX2 hown hK hP 1 rfl rfl 1 (by decide) (hts _ wd_1_87) (fun _ h9 => h9) rfl dX11_count_80 ?_
    exact W.iret (v := 0) hx hb hr (fun t ht hW => ⟨0, rfl, (by first | (rw [if_pos (by omega)]; done) | (rw [if_neg (by omega)]; done) | (rw [if_neg (by omega), if_pos (by omega)]; done) | (rw [if_neg (by omega), if_neg (by omega)]; done)), ht⟩) (fun q h => by cases h) dX11_count_83
  · refine lv_tableIn (off := 83) (tgt := 84) hx hb dX11_count_1 (by omega) (by omega) (by rw [c_1]; rfl) (by decide) ?_
    refine lv_aload_n hx hb dX11_count_84 rfl (lv_at hl 0 rfl) ?_
    refine va_get (D := (dC, dI)) (ci := 10) (v := .ref xTape) (C := RX11) (T := TX11) (N := 15) hx hb hts uinX11 hown hK hP 0 rfl rfl 0 (by decide) (hts _ wd_2_65) (fun _ h9 => h9) rfl dX11_count_85 ?_
    refine va_get (D := (dC, dI)) (ci := 9) (v := .int 0) (C := RX10) (T := TX10) (N := 10) hx hb hts uinX10 hown hK hP 2 rfl rfl 1 (by decide) (hts _ wd_1_38) (fun _ h9 => h9) rfl dX11_count_88 ?_
    exact W.iret (v := 0) hx hb hr (fun t ht hW => ⟨0, rfl, (by first | (rw [if_pos (by omega)]; done) | (rw [if_neg (by omega)]; done) | (rw [if_neg (by omega), if_pos (by omega)]; done) | (rw [if_neg (by omega), if_neg (by omega)]; done)), ht⟩) (fun q h => by cases h) dX11_count_91
  · refine lv_tableIn (off := 91) (tgt := 92) hx hb dX11_count_1 (by omega) (by omega) (by rw [c_1]; rfl) (by decide) ?_
    refine lv_aload_n hx hb dX11_count_92 rfl (lv_at hl 0 rfl) ?_
    refine va_get (D := (dC, dI)) (ci := 10) (v := .ref xSlots) (C := RX11) (T := TX11) (N := 15) hx hb hts uinX11 hown hK hP 0 rfl rfl 5 (by decide) (hts _ wd_2_70) (fun _ h9 => h9) rfl dX11_count_93 ?_
    have hPc := hP.sub (ws' := [(xSlots, .inr (7, [.ref sNum, .ref sLen, .ref sWid, .ref sMade])), (sMade, .inl (cyZ, 4, .inl (fun _ => 0)))]) [3, 4] rfl
    have hKc := hK.sub (tys' := [(cyI, .int), (cyB, .byte), (cyJ, .long), (cyZ, .boolean), (cyH, .object RX2), (cyN, .array .long)]) [0, 1, 2, 3, 4, 5] rfl
    refine vp_callSi (va_Run.run (va_runV (As := []) (rest := []) ⟨hx, hb, hml, hown, hts⟩ (c_filled l dC dI cyI cyB cyJ cyZ cyH cyN xSlots sNum sLen sWid sMade) (cwV 0 hts (gdV wd_5_232 wd_5_233 wd_5_234 wd_1_4 wd_5_235) rfl rfl rfl (by decide +kernel) ⟨Nat.le_of_ble_eq_true rfl, Nat.le_of_ble_eq_true rfl⟩) ⟨fun a U g mk q => by obtain ⟨q0, qP, qK⟩ := q; exact ⟨q0, qP, va_K.moved (u := U) (U := U.calling g mk a) (Vm.Alike.refl U.vm) qK⟩, va_recv hKc hPc (ci := 7) (q0 := 0) rfl rfl, fun U hU hW => ⟨rfl, by rw [hU]; exact hPc, va_K.moved hW.alike hKc⟩⟩ rfl rfl hl.1 rfl (lv_room (Nat.le_of_ble_eq_true rfl)) dX11_count_96 ⟨Nat.le_of_ble_eq_true rfl, Nat.le_of_ble_eq_true rfl⟩)) (fun r_3 hw => ?_)
    subst hw
    exact W.iret (v := 0) hx hb hr (fun t ht hW => ⟨0, rfl, (by first | (rw [if_pos (by omega)]; done) | (rw [if_neg (by omega)]; done) | (rw [if_neg (by omega), if_pos (by omega)]; done) | (rw [if_neg (by omega), if_neg (by omega)]; done)), ht⟩) (fun q h => by cases h) dX11_count_99
  · refine lv_tableOut (tgt := 100) hx hb dX11_count_1 (by omega) (by decide) ?_
    refine lv_iconst (v := (-1)) hx hb dX11_count_100 (by decide) ?_
    exact W.iret (v := (-1)) hx hb hr (fun t ht hW => ⟨(-1), rfl, (by first | (rw [if_pos (by omega)]; done) | (rw [if_neg (by omega)]; done) | (rw [if_neg (by omega), if_pos (by omega)]; done) | (rw [if_neg (by omega), if_neg (by omega)]; done)), ht⟩) (fun q h => by cases h) dX11_count_101

/- X11_back -/
set_option maxHeartbeats 4000000 in
set_option maxRecDepth 100000 in
theorem c_back (l : Launch) (dC : Nat → ClassId) (dI : Nat → Nat → Nat) (cyI cyB cyJ cyZ cyH cyN : ClassId) (x xTape xHall xDraft xImages xKept xSlots xCourse xSight xParting xSuiting xGame xLots xTold xTried : Nat) (p0 : Int32) : Met l yX11_back (wk yX11_back cX11_back 2 (some .int)) ({ frames := 2, cells := 0, slots := 0, locals := 82 }) (va_Pc [.ref x, .int p0] (fun U => va_P (dC, dI) vwCl [(x, .inr (10, [.ref xTape, .ref xHall, .ref xDraft, .ref xImages, .ref xKept, .ref xSlots, .ref xCourse, .ref xSight, .ref xParting, .ref xSuiting, .ref xGame, .ref xLots, .ref xTold, .ref xTried, .null])), (xKept, .inl (cyZ, 3, .inl (fun _ => 0)))] U.heap ∧ va_K (dC, dI) vwCl [(cyI, .int), (cyB, .byte), (cyJ, .long), (cyZ, .boolean), (cyH, .object RX2), (cyN, .array .long)] U)) (vp_Si (fun r : Int32 => r = (if 0 ≤ p0.toInt ∧ p0.toInt ≤ 2 then (-6) else (-2)))) 0 0 (fun _ => False) := by
  refine Met.ofW (cc := cX11_back) (maxL := 2) (ret := (some .int)) (by decide) rfl ?_
  intro p e s m args below meth c s₁ B hml hv
  obtain ⟨rfl, hP, hK⟩ := hv
  have hx := B.exec
  have hb := B.bytes
  have hr := B.returns
  have hts : ∀ w ∈ uU, w.before ([.ref x, .int p0] : List Value).toArray s = true := fun w h => atoms_spec (ws := wk yX11_back cX11_back 2 (some .int)) B.pre w (List.mem_cons_of_mem _ h)
  have hown : s.vm.findClass RX11 = some m.cls := findClass_of_methodNamed B.named
  have hlocks := B.notSynchronized
  have hl := lv_entry ([.ref x, .int p0]) (n := 2) (Nat.le_of_ble_eq_true rfl)
  rw [lg_entry_eq]
  generalize (lg_sl ([.ref x, .int p0]) ++ List.replicate (2 - (lg_sl ([.ref x, .int p0])).length) Slot.unset).toArray = ls at hl ⊢
  have hl : lv_has ls 2 [(0, .ref x), (1, .int p0)] := hl
  refine lv_iload_n hx hb dX11_back_0 rfl (lv_at hl 1 rfl) ?_
  refine lv_iconst (v := 0) hx hb dX11_back_1 (by decide) ?_
  refine lv_iconst (v := 2) hx hb dX11_back_2 (by decide) ?_
  refine vp_callSi (va_Run.run (va_runS (As := [.int p0, .int 0, .int 2]) (rest := []) ⟨hx, hb, hml, hown, hts⟩ (c_within l dC dI cyI cyB cyJ cyZ cyH cyN p0 0 2) (va_cwS 3 hts (gdS wd_3_88 wd_3_89 wd_1_1 wd_3_90) rfl rfl rfl (by decide +kernel) ⟨Nat.le_of_ble_eq_true rfl, Nat.le_of_ble_eq_true rfl⟩) ⟨fun a U g mk q => q, fun U hU hW => ⟨rfl, trivial⟩⟩ rfl rfl hl.1 rfl (lv_room (Nat.le_of_ble_eq_true rfl)) dX11_back_3 ⟨Nat.le_of_ble_eq_true rfl, Nat.le_of_ble_eq_true rfl⟩)) (fun r_1 hw => ?_)
  by_cases c_2 : ((0 : Int32).toInt ≤ p0.toInt ∧ p0.toInt ≤ (2 : Int32).toInt)
  · rw [if_pos c_2] at hw; subst hw; have c_2 : (0 ≤ p0.toInt ∧ p0.toInt ≤ 2) := c_2
    refine lv_if_ne (tgt := 12) hx hb dX11_back_6 (by decide) (fun _ => ?_) (fun c_3 => absurd c_3 (by decide))
    refine lv_aload_n hx hb dX11_back_12 rfl (lv_at hl 0 rfl) ?_
    refine va_get (D := (dC, dI)) (ci := 10) (v := .ref xKept) (C := RX11) (T := TX11) (N := 15) hx hb hts uinX11 hown hK hP 0 rfl rfl 4 (by decide) (hts _ wd_2_69) (fun _ h9 => h9) rfl dX11_back_13 ?_
    refine lv_iload_n hx hb dX11_back_16 rfl (lv_at hl 1 rfl) ?_
    refine va_zald hx hb hK hP 1 3 rfl rfl (vp_in_iff.mpr (by omega)) dX11_back_17 ?_
    refine cv_topi (b := 0) (rfl) ?_
    refine lv_if_ne (tgt := 24) hx hb dX11_back_18 (by decide) (fun c_4 => absurd c_4 (by decide)) (fun _ => ?_)
    refine lv_bipush (v := (-6)) hx hb dX11_back_21 (by decide) ?_
    exact W.iret (v := (-6)) hx hb hr (fun t ht hW => ⟨(-6), rfl, (by first | (rw [if_pos (by omega)]; done) | (rw [if_neg (by omega)]; done) | (rw [if_neg (by omega), if_pos (by omega)]; done) | (rw [if_neg (by omega), if_neg (by omega)]; done)), ht⟩) (fun q h => by cases h) dX11_back_23
  · rw [if_neg c_2] at hw; subst hw; have c_2 : ¬ (0 ≤ p0.toInt ∧ p0.toInt ≤ 2) := c_2
    refine lv_if_ne (tgt := 12) hx hb dX11_back_6 (by decide) (fun c_5 => absurd c_5 (by decide)) (fun _ => ?_)
    refine lv_bipush (v := (-2)) hx hb dX11_back_9 (by decide) ?_
    exact W.iret (v := (-2)) hx hb hr (fun t ht hW => ⟨(-2), rfl, (by first | (rw [if_pos (by omega)]; done) | (rw [if_neg (by omega)]; done) | (rw [if_neg (by omega), if_pos (by omega)]; done) | (rw [if_neg (by omega), if_neg (by omega)]; done)), ht⟩) (fun q h => by cases h) dX11_back_11

/- X11_write -/
set_option maxHeartbeats 4000000 in
set_option maxRecDepth 100000 in
theorem c_write (l : Launch) (dC : Nat → ClassId) (dI : Nat → Nat → Nat) (cyI cyB cyJ cyZ cyH cyN : ClassId) (x xTape xHall xDraft xImages xKept xSlots xCourse xSight xParting xSuiting xGame xLots xTold xTried sNum sLen sWid sMade : Nat) (p0 p1 : Int32) (v : Int64) : Met l yX11_write (wk yX11_write cX11_write 5 (some .int)) ({ frames := 2, cells := 0, slots := 0, locals := 81 }) (va_Pc [.ref x, .int p0, .int p1, .long v] (fun U => va_P (dC, dI) vwCl [(x, .inr (10, [.ref xTape, .ref xHall, .ref xDraft, .ref xImages, .ref xKept, .ref xSlots, .ref xCourse, .ref xSight, .ref xParting, .ref xSuiting, .ref xGame, .ref xLots, .ref xTold, .ref xTried, .null])), (xSlots, .inr (7, [.ref sNum, .ref sLen, .ref sWid, .ref sMade])), (sMade, .inl (cyZ, 4, .inl (fun _ => 0)))] U.heap ∧ va_K (dC, dI) vwCl [(cyI, .int), (cyB, .byte), (cyJ, .long), (cyZ, .boolean), (cyH, .object RX2), (cyN, .array .long)] U)) (vp_Si (fun r : Int32 => r = (if 0 ≤ p0.toInt ∧ p0.toInt < 4 then (-6) else (-2)))) 0 0 (fun _ => False) := by
  refine Met.ofW (cc := cX11_write) (maxL := 5) (ret := (some .int)) (by decide) rfl ?_
  intro p e s m args below meth c s₁ B hml hv
  obtain ⟨rfl, hP, hK⟩ := hv
  have hx := B.exec
  have hb := B.bytes
  have hr := B.returns
  have hts : ∀ w ∈ uU, w.before ([.ref x, .int p0, .int p1, .long v] : List Value).toArray s = true := fun w h => atoms_spec (ws := wk yX11_write cX11_write 5 (some .int)) B.pre w (List.mem_cons_of_mem _ h)
  have hown : s.vm.findClass RX11 = some m.cls := findClass_of_methodNamed B.named
  have hlocks := B.notSynchronized
  have hl := lv_entry ([.ref x, .int p0, .int p1, .long v]) (n := 5) (Nat.le_of_ble_eq_true rfl)
  rw [lg_entry_eq]
  generalize (lg_sl ([.ref x, .int p0, .int p1, .long v]) ++ List.replicate (5 - (lg_sl ([.ref x, .int p0, .int p1, .long v])).length) Slot.unset).toArray = ls at hl ⊢
  have hl : lv_has ls 5 [(0, .ref x), (1, .int p0), (2, .int p1), (3, .long v)] := hl
  refine lv_iload_n hx hb dX11_write_0 rfl (lv_at hl 1 rfl) ?_
  refine vp_callSi (va_Run.run (va_runS (As := [.int p0]) (rest := []) ⟨hx, hb, hml, hown, hts⟩ (c_isSlot l dC dI cyI cyB cyJ cyZ cyH cyN p0) (va_cwS 1 hts (gdS wd_4_33 wd_4_34 wd_1_4 wd_4_35) rfl rfl rfl (by decide +kernel) ⟨Nat.le_of_ble_eq_true rfl, Nat.le_of_ble_eq_true rfl⟩) ⟨fun a U g mk q => q, fun U hU hW => ⟨rfl, trivial⟩⟩ rfl rfl hl.1 rfl (lv_room (Nat.le_of_ble_eq_true rfl)) dX11_write_1 ⟨Nat.le_of_ble_eq_true rfl, Nat.le_of_ble_eq_true rfl⟩)) (fun r_1 hw => ?_)
  by_cases c_2 : (0 ≤ p0.toInt ∧ p0.toInt < 4)
  · rw [if_pos c_2] at hw; subst hw; have c_2 : (0 ≤ p0.toInt ∧ p0.toInt < 4) := c_2
    refine lv_if_ne (tgt := 10) hx hb dX11_write_4 (by decide) (fun _ => ?_) (fun c_3 => absurd c_3 (by decide))
    refine lv_aload_n hx hb dX11_write_10 rfl (lv_at hl 0 rfl) ?_
    refine va_get (D := (dC, dI)) (ci := 10) (v := .ref xSlots) (C := RX11) (T := TX11) (N := 15) hx hb hts uinX11 hown hK hP 0 rfl rfl 5 (by decide) (hts _ wd_2_70) (fun _ h9 => h9) rfl dX11_write_11 ?_
    refine lv_iload_n hx hb dX11_write_14 rfl (lv_at hl 1 rfl) ?_
    have hPc := hP.sub (ws' := [(xSlots, .inr (7, [.ref sNum, .ref sLen, .ref sWid, .ref sMade])), (sMade, .inl (cyZ, 4, .inl (fun _ => 0)))]) [1, 2] rfl
    have hKc := hK.sub (tys' := [(cyI, .int), (cyB, .byte), (cyJ, .long), (cyZ, .boolean), (cyH, .object RX2), (cyN, .array .long)]) [0, 1, 2, 3, 4, 5] rfl
    refine vp_callSi (va_Run.run (va_runV (As := [.int p0]) (rest := []) ⟨hx, hb, hml, hown, hts⟩ (c_isFilled l dC dI cyI cyB cyJ cyZ cyH cyN xSlots sNum sLen sWid sMade p0 (by omega)) (cwV 1 hts (gdV wd_4_36 wd_4_37 wd_4_38 wd_1_4 wd_4_39) rfl rfl rfl (by decide +kernel) ⟨Nat.le_of_ble_eq_true rfl, Nat.le_of_ble_eq_true rfl⟩) ⟨fun a U g mk q => by obtain ⟨q0, qP, qK⟩ := q; exact ⟨q0, qP, va_K.moved (u := U) (U := U.calling g mk a) (Vm.Alike.refl U.vm) qK⟩, va_recv hKc hPc (ci := 7) (q0 := 0) rfl rfl, fun U hU hW => ⟨rfl, by rw [hU]; exact hPc, va_K.moved hW.alike hKc⟩⟩ rfl rfl hl.1 rfl (lv_room (Nat.le_of_ble_eq_true rfl)) dX11_write_15 ⟨Nat.le_of_ble_eq_true rfl, Nat.le_of_ble_eq_true rfl⟩)) (fun r_4 hw => ?_)
    subst hw
    refine lv_if_ne (tgt := 24) hx hb dX11_write_18 (by decide) (fun c_5 => absurd c_5 (by decide)) (fun _ => ?_)
    refine lv_bipush (v := (-6)) hx hb dX11_write_21 (by decide) ?_
    exact W.iret (v := (-6)) hx hb hr (fun t ht hW => ⟨(-6), rfl, (by first | (rw [if_pos (by omega)]; done) | (rw [if_neg (by omega)]; done) | (rw [if_neg (by omega), if_pos (by omega)]; done) | (rw [if_neg (by omega), if_neg (by omega)]; done)), ht⟩) (fun q h => by cases h) dX11_write_23
  · rw [if_neg c_2] at hw; subst hw; have c_2 : ¬ (0 ≤ p0.toInt ∧ p0.toInt < 4) := c_2
    refine lv_if_ne (tgt := 10) hx hb dX11_write_4 (by decide) (fun c_6 => absurd c_6 (by decide)) (fun _ => ?_)
    refine lv_bipush (v := (-2)) hx hb dX11_write_7 (by decide) ?_
    exact W.iret (v := (-2)) hx hb hr (fun t ht hW => ⟨(-2), rfl, (by first | (rw [if_pos (by omega)]; done) | (rw [if_neg (by omega)]; done) | (rw [if_neg (by omega), if_pos (by omega)]; done) | (rw [if_neg (by omega), if_neg (by omega)]; done)), ht⟩) (fun q h => by cases h) dX11_write_9

/- X11_paste -/
set_option maxHeartbeats 4000000 in
set_option maxRecDepth 100000 in
theorem c_paste (l : Launch) (dC : Nat → ClassId) (dI : Nat → Nat → Nat) (cyI cyB cyJ cyZ cyH cyN : ClassId) (x xTape xHall xDraft xImages xKept xSlots xCourse xSight xParting xSuiting xGame xLots xTold xTried sNum sLen sWid sMade : Nat) (p0 p1 p2 p3 p4 : Int32) : Met l yX11_paste (wk yX11_paste cX11_paste 6 (some .int)) ({ frames := 2, cells := 0, slots := 0, locals := 81 }) (va_Pc [.ref x, .int p0, .int p1, .int p2, .int p3, .int p4] (fun U => va_P (dC, dI) vwCl [(x, .inr (10, [.ref xTape, .ref xHall, .ref xDraft, .ref xImages, .ref xKept, .ref xSlots, .ref xCourse, .ref xSight, .ref xParting, .ref xSuiting, .ref xGame, .ref xLots, .ref xTold, .ref xTried, .null])), (xSlots, .inr (7, [.ref sNum, .ref sLen, .ref sWid, .ref sMade])), (sMade, .inl (cyZ, 4, .inl (fun _ => 0)))] U.heap ∧ va_K (dC, dI) vwCl [(cyI, .int), (cyB, .byte), (cyJ, .long), (cyZ, .boolean), (cyH, .object RX2), (cyN, .array .long)] U)) (vp_Si (fun r : Int32 => r = (if (0 ≤ p0.toInt ∧ p0.toInt < 4) ∧ (0 ≤ p2.toInt ∧ p2.toInt < 4) then (-6) else (-2)))) 0 0 (fun _ => False) := by
  refine Met.ofW (cc := cX11_paste) (maxL := 6) (ret := (some .int)) (by decide) rfl ?_
  intro p e s m args below meth c s₁ B hml hv
  obtain ⟨rfl, hP, hK⟩ := hv
  have hx := B.exec
  have hb := B.bytes
  have hr := B.returns
  have hts : ∀ w ∈ uU, w.before ([.ref x, .int p0, .int p1, .int p2, .int p3, .int p4] : List Value).toArray s = true := fun w h => atoms_spec (ws := wk yX11_paste cX11_paste 6 (some .int)) B.pre w (List.mem_cons_of_mem _ h)
  have hown : s.vm.findClass RX11 = some m.cls := findClass_of_methodNamed B.named
  have hlocks := B.notSynchronized
  have hl := lv_entry ([.ref x, .int p0, .int p1, .int p2, .int p3, .int p4]) (n := 6) (Nat.le_of_ble_eq_true rfl)
  rw [lg_entry_eq]
  generalize (lg_sl ([.ref x, .int p0, .int p1, .int p2, .int p3, .int p4]) ++ List.replicate (6 - (lg_sl ([.ref x, .int p0, .int p1, .int p2, .int p3, .int p4])).length) Slot.unset).toArray = ls at hl ⊢
  have hl : lv_has ls 6 [(0, .ref x), (1, .int p0), (2, .int p1), (3, .int p2), (4, .int p3), (5, .int p4)] := hl
  refine lv_iload_n hx hb dX11_paste_0 rfl (lv_at hl 1 rfl) ?_
  refine vp_callSi (va_Run.run (va_runS (As := [.int p0]) (rest := []) ⟨hx, hb, hml, hown, hts⟩ (c_isSlot l dC dI cyI cyB cyJ cyZ cyH cyN p0) (va_cwS 1 hts (gdS wd_4_33 wd_4_34 wd_1_4 wd_4_35) rfl rfl rfl (by decide +kernel) ⟨Nat.le_of_ble_eq_true rfl, Nat.le_of_ble_eq_true rfl⟩) ⟨fun a U g mk q => q, fun U hU hW => ⟨rfl, trivial⟩⟩ rfl rfl hl.1 rfl (lv_room (Nat.le_of_ble_eq_true rfl)) dX11_paste_1 ⟨Nat.le_of_ble_eq_true rfl, Nat.le_of_ble_eq_true rfl⟩)) (fun r_1 hw => ?_)
  by_cases c_2 : (0 ≤ p0.toInt ∧ p0.toInt < 4)
  · rw [if_pos c_2] at hw; subst hw; have c_2 : (0 ≤ p0.toInt ∧ p0.toInt < 4) := c_2
    refine lv_if_eq (tgt := 14) hx hb dX11_paste_4 (by decide) (fun c_3 => absurd c_3 (by decide)) (fun _ => ?_)
    refine lv_iload_n hx hb dX11_paste_7 rfl (lv_at hl 3 rfl) ?_
    refine vp_callSi (va_Run.run (va_runS (As := [.int p2]) (rest := []) ⟨hx, hb, hml, hown, hts⟩ (c_isSlot l dC dI cyI cyB cyJ cyZ cyH cyN p2) (va_cwS 1 hts (gdS wd_4_33 wd_4_34 wd_1_4 wd_4_35) rfl rfl rfl (by decide +kernel) ⟨Nat.le_of_ble_eq_true rfl, Nat.le_of_ble_eq_true rfl⟩) ⟨fun a U g mk q => q, fun U hU hW => ⟨rfl, trivial⟩⟩ rfl rfl hl.1 rfl (lv_room (Nat.le_of_ble_eq_true rfl)) dX11_paste_8 ⟨Nat.le_of_ble_eq_true rfl, Nat.le_of_ble_eq_true rfl⟩)) (fun r_4 hw => ?_)
    by_cases c_5 : (0 ≤ p2.toInt ∧ p2.toInt < 4)
    · rw [if_pos c_5] at hw; subst hw; have c_5 : (0 ≤ p2.toInt ∧ p2.toInt < 4) := c_5
      refine lv_if_ne (tgt := 17) hx hb dX11_paste_11 (by decide) (fun _ => ?_) (fun c_6 => absurd c_6 (by decide))
      refine lv_aload_n hx hb dX11_paste_17 rfl (lv_at hl 0 rfl) ?_
      refine va_get (D := (dC, dI)) (ci := 10) (v := .ref xSlots) (C := RX11) (T := TX11) (N := 15) hx hb hts uinX11 hown hK hP 0 rfl rfl 5 (by decide) (hts _ wd_2_70) (fun _ h9 => h9) rfl dX11_paste_18 ?_
      refine lv_iload_n hx hb dX11_paste_21 rfl (lv_at hl 1 rfl) ?_
      have hPc := hP.sub (ws' := [(xSlots, .inr (7, [.ref sNum, .ref sLen, .ref sWid, .ref sMade])), (sMade, .inl (cyZ, 4, .inl (fun _ => 0)))]) [1, 2] rfl
      have hKc := hK.sub (tys' := [(cyI, .int), (cyB, .byte), (cyJ, .long), (cyZ, .boolean), (cyH, .object RX2), (cyN, .array .long)]) [0, 1, 2, 3, 4, 5] rfl
      refine vp_callSi (va_Run.run (va_runV (As := [.int p0]) (rest := []) ⟨hx, hb, hml, hown, hts⟩ (c_isFilled l dC dI cyI cyB cyJ cyZ cyH cyN xSlots sNum sLen sWid sMade p0 (by omega)) (cwV 1 hts (gdV wd_4_36 wd_4_37 wd_4_38 wd_1_4 wd_4_39) rfl rfl rfl (by decide +kernel) ⟨Nat.le_of_ble_eq_true rfl, Nat.le_of_ble_eq_true rfl⟩) ⟨fun a U g mk q => by obtain ⟨q0, qP, qK⟩ := q; exact ⟨q0, qP, va_K.moved (u := U) (U := U.calling g mk a) (Vm.Alike.refl U.vm) qK⟩, va_recv hKc hPc (ci := 7) (q0 := 0) rfl rfl, fun U hU hW => ⟨rfl, by rw [hU]; exact hPc, va_K.moved hW.alike hKc⟩⟩ rfl rfl hl.1 rfl (lv_room (Nat.le_of_ble_eq_true rfl)) dX11_paste_22 ⟨Nat.le_of_ble_eq_true rfl, Nat.le_of_ble_eq_true rfl⟩)) (fun r_7 hw => ?_)
      subst hw
      refine lv_if_eq (tgt := 39) hx hb dX11_paste_25 (by decide) (fun _ => ?_) (fun c_8 => absurd c_8 (by decide))
      refine lv_bipush (v := (-6)) hx hb dX11_paste_39 (by decide) ?_
      exact W.iret (v := (-6)) hx hb hr (fun t ht hW => ⟨(-6), rfl, (by first | (rw [if_pos (by omega)]; done) | (rw [if_neg (by omega)]; done) | (rw [if_neg (by omega), if_pos (by omega)]; done) | (rw [if_neg (by omega), if_neg (by omega)]; done)), ht⟩) (fun q h => by cases h) dX11_paste_41
    · rw [if_neg c_5] at hw; subst hw; have c_5 : ¬ (0 ≤ p2.toInt ∧ p2.toInt < 4) := c_5
      refine lv_if_ne (tgt := 17) hx hb dX11_paste_11 (by decide) (fun c_9 => absurd c_9 (by decide)) (fun _ => ?_)
      refine lv_bipush (v := (-2)) hx hb dX11_paste_14 (by decide) ?_
      exact W.iret (v := (-2)) hx hb hr (fun t ht hW => ⟨(-2), rfl, (by first | (rw [if_pos (by omega)]; done) | (rw [if_neg (by omega)]; done) | (rw [if_neg (by omega), if_pos (by omega)]; done) | (rw [if_neg (by omega), if_neg (by omega)]; done)), ht⟩) (fun q h => by cases h) dX11_paste_16
  · rw [if_neg c_2] at hw; subst hw; have c_2 : ¬ (0 ≤ p0.toInt ∧ p0.toInt < 4) := c_2
    refine lv_if_eq (tgt := 14) hx hb dX11_paste_4 (by decide) (fun _ => ?_) (fun c_10 => absurd c_10 (by decide))
    refine lv_bipush (v := (-2)) hx hb dX11_paste_14 (by decide) ?_
    exact W.iret (v := (-2)) hx hb hr (fun t ht hW => ⟨(-2), rfl, (by first | (rw [if_pos (by omega)]; done) | (rw [if_neg (by omega)]; done) | (rw [if_neg (by omega), if_pos (by omega)]; done) | (rw [if_neg (by omega), if_neg (by omega)]; done)), ht⟩) (fun q h => by cases h) dX11_paste_16

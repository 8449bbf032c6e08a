/- X12_four -/
set_option maxHeartbeats 4000000 in
set_option maxRecDepth 100000 in
theorem m_four0 (l : Launch) (dC : Nat → ClassId) (dI : Nat → Nat → Nat) (cyI cyB cyJ cyZ cyH cyN : ClassId) (sz : Nat) (m0 mwidth mmany mcells mmoved mtape mlines mhas mtold mlaw msuit mapart mact misKept mseen mhung mgoal mleaps mqueue mrow mwanted mfirst moften mlots mthen : Nat) (f : Nat → Int32) (p0 : Int32) : Met l yX12_four (wk yX12_four cX12_four 3 none) ({ frames := 1, cells := 0, slots := 0, locals := 60 }) (va_Pc [.ref m0, .int p0] (fun U => U.heap.size = sz ∧ va_P (dC, dI) vwCl [(m0, .inr (11, [.int 0, .ref mwidth, .ref mmany, .ref mcells, .ref mmoved, .ref mtape, .int 0, .int 0, .int 0, .int 0, .int 0, .long 0, .int 0, .int 0, .int 0, .int (-1), .ref mlines, .ref mhas, .ref mtold, .ref mlaw, .ref msuit, .ref mapart, .ref mact, .ref misKept, .ref mseen, .ref mhung, .int 0, .ref mgoal, .ref mleaps, .ref mqueue, .ref mrow, .int 0, .ref mwanted, .ref mfirst, .ref moften, .int 0, .int 0, .int 0, .int 0, .int 0, .int 0, .ref mlots, .ref mthen, .long 0])), (mtape, .inl (cyB, 800, .inl f))] U.heap ∧ va_K (dC, dI) vwCl [(cyI, .int), (cyB, .byte), (cyJ, .long), (cyZ, .boolean), (cyH, .object RX2), (cyN, .array .long)] U ∧ va_D (fun _ => True) [(m0, .inr (11, [.int 0, .ref mwidth, .ref mmany, .ref mcells, .ref mmoved, .ref mtape, .int 0, .int 0, .int 0, .int 0, .int 0, .long 0, .int 0, .int 0, .int 0, .int (-1), .ref mlines, .ref mhas, .ref mtold, .ref mlaw, .ref msuit, .ref mapart, .ref mact, .ref misKept, .ref mseen, .ref mhung, .int 0, .ref mgoal, .ref mleaps, .ref mqueue, .ref mrow, .int 0, .ref mwanted, .ref mfirst, .ref moften, .int 0, .int 0, .int 0, .int 0, .int 0, .int 0, .ref mlots, .ref mthen, .long 0])), (mtape, .inl (cyB, 800, .inl f))])) (va_Qv (fun _ : Unit => True) (fun (_ : Unit) (t : State) => ∃ g : Nat → Int32, va_P (dC, dI) vwCl [(m0, .inr (11, [.int 0, .ref mwidth, .ref mmany, .ref mcells, .ref mmoved, .ref mtape, .int 4, .int 0, .int 0, .int 0, .int 0, .long 0, .int 0, .int 0, .int 0, .int (-1), .ref mlines, .ref mhas, .ref mtold, .ref mlaw, .ref msuit, .ref mapart, .ref mact, .ref misKept, .ref mseen, .ref mhung, .int 0, .ref mgoal, .ref mleaps, .ref mqueue, .ref mrow, .int 0, .ref mwanted, .ref mfirst, .ref moften, .int 0, .int 0, .int 0, .int 0, .int 0, .int 0, .ref mlots, .ref mthen, .long 0])), (mtape, .inl (cyB, 800, .inl g))] t.heap ∧ va_D (va_A [(m0, .inr (11, [.int 0, .ref mwidth, .ref mmany, .ref mcells, .ref mmoved, .ref mtape, .int 0, .int 0, .int 0, .int 0, .int 0, .long 0, .int 0, .int 0, .int 0, .int (-1), .ref mlines, .ref mhas, .ref mtold, .ref mlaw, .ref msuit, .ref mapart, .ref mact, .ref misKept, .ref mseen, .ref mhung, .int 0, .ref mgoal, .ref mleaps, .ref mqueue, .ref mrow, .int 0, .ref mwanted, .ref mfirst, .ref moften, .int 0, .int 0, .int 0, .int 0, .int 0, .int 0, .ref mlots, .ref mthen, .long 0])), (mtape, .inl (cyB, 800, .inl f))] sz) [(m0, .inr (11, [.int 0, .ref mwidth, .ref mmany, .ref mcells, .ref mmoved, .ref mtape, .int 4, .int 0, .int 0, .int 0, .int 0, .long 0, .int 0, .int 0, .int 0, .int (-1), .ref mlines, .ref mhas, .ref mtold, .ref mlaw, .ref msuit, .ref mapart, .ref mact, .ref misKept, .ref mseen, .ref mhung, .int 0, .ref mgoal, .ref mleaps, .ref mqueue, .ref mrow, .int 0, .ref mwanted, .ref mfirst, .ref moften, .int 0, .int 0, .int 0, .int 0, .int 0, .int 0, .ref mlots, .ref mthen, .long 0])), (mtape, .inl (cyB, 800, .inl g))]) (va_A [(m0, .inr (11, [.int 0, .ref mwidth, .ref mmany, .ref mcells, .ref mmoved, .ref mtape, .int 0, .int 0, .int 0, .int 0, .int 0, .long 0, .int 0, .int 0, .int 0, .int (-1), .ref mlines, .ref mhas, .ref mtold, .ref mlaw, .ref msuit, .ref mapart, .ref mact, .ref misKept, .ref mseen, .ref mhung, .int 0, .ref mgoal, .ref mleaps, .ref mqueue, .ref mrow, .int 0, .ref mwanted, .ref mfirst, .ref moften, .int 0, .int 0, .int 0, .int 0, .int 0, .int 0, .ref mlots, .ref mthen, .long 0])), (mtape, .inl (cyB, 800, .inl f))] sz)) 0 0 (va_A [(m0, .inr (11, [.int 0, .ref mwidth, .ref mmany, .ref mcells, .ref mmoved, .ref mtape, .int 0, .int 0, .int 0, .int 0, .int 0, .long 0, .int 0, .int 0, .int 0, .int (-1), .ref mlines, .ref mhas, .ref mtold, .ref mlaw, .ref msuit, .ref mapart, .ref mact, .ref misKept, .ref mseen, .ref mhung, .int 0, .ref mgoal, .ref mleaps, .ref mqueue, .ref mrow, .int 0, .ref mwanted, .ref mfirst, .ref moften, .int 0, .int 0, .int 0, .int 0, .int 0, .int 0, .ref mlots, .ref mthen, .long 0])), (mtape, .inl (cyB, 800, .inl f))] sz) := by
  refine Met.ofW (cc := cX12_four) (maxL := 3) (ret := none) (by decide) rfl ?_
  intro p e s m args below meth c s₁ B hml hv
  obtain ⟨rfl, hsz, hP, hK, hD0⟩ := hv
  have hx := B.exec
  have hb := B.bytes
  have hr := B.returns
  have hts : ∀ w ∈ uU, w.before ([.ref m0, .int p0] : List Value).toArray s = true := fun w h => atoms_spec (ws := wk yX12_four cX12_four 3 none) B.pre w (List.mem_cons_of_mem _ h)
  have hown : s.vm.findClass RX12 = some m.cls := findClass_of_methodNamed B.named
  have hlocks := B.notSynchronized
  subst hsz
  have hD := hD0.self (sz := s.heap.size)
  generalize hAe : va_A [(m0, .inr (11, [.int 0, .ref mwidth, .ref mmany, .ref mcells, .ref mmoved, .ref mtape, .int 0, .int 0, .int 0, .int 0, .int 0, .long 0, .int 0, .int 0, .int 0, .int (-1), .ref mlines, .ref mhas, .ref mtold, .ref mlaw, .ref msuit, .ref mapart, .ref mact, .ref misKept, .ref mseen, .ref mhung, .int 0, .ref mgoal, .ref mleaps, .ref mqueue, .ref mrow, .int 0, .ref mwanted, .ref mfirst, .ref moften, .int 0, .int 0, .int 0, .int 0, .int 0, .int 0, .ref mlots, .ref mthen, .long 0])), (mtape, .inl (cyB, 800, .inl f))] s.heap.size = A at hD ⊢
  have hA : ∀ q : Nat, s.heap.size ≤ q → A q := fun q h => by rw [← hAe]; exact Or.inr h
  have hS : va_S A s.heap s.heap [] := va_S.rf
  have hP : va_P (dC, dI) vwCl [(m0, .inr (11, [.int 0, .ref mwidth, .ref mmany, .ref mcells, .ref mmoved, .ref mtape, .int 0, .int 0, .int 0, .int 0, .int 0, .long 0, .int 0, .int 0, .int 0, .int (-1), .ref mlines, .ref mhas, .ref mtold, .ref mlaw, .ref msuit, .ref mapart, .ref mact, .ref misKept, .ref mseen, .ref mhung, .int 0, .ref mgoal, .ref mleaps, .ref mqueue, .ref mrow, .int 0, .ref mwanted, .ref mfirst, .ref moften, .int 0, .int 0, .int 0, .int 0, .int 0, .int 0, .ref mlots, .ref mthen, .long 0])), (mtape, .inl (cyB, 800, .inl f))] s.heap := hP
  have hl := lv_entry ([.ref m0, .int p0]) (n := 3) (Nat.le_of_ble_eq_true rfl)
  rw [lg_entry_eq]
  generalize (lg_sl ([.ref m0, .int p0]) ++ List.replicate (3 - (lg_sl ([.ref m0, .int p0])).length) Slot.unset).toArray = ls at hl ⊢
  have hl : lv_has ls 3 [(0, .ref m0), (1, .int p0)] := hl
  obtain ⟨H, hHe⟩ : ∃ H, H = s.heap := ⟨_, rfl⟩
  have hP : va_P (dC, dI) vwCl [(m0, .inr (11, [.int 0, .ref mwidth, .ref mmany, .ref mcells, .ref mmoved, .ref mtape, .int 0, .int 0, .int 0, .int 0, .int 0, .long 0, .int 0, .int 0, .int 0, .int (-1), .ref mlines, .ref mhas, .ref mtold, .ref mlaw, .ref msuit, .ref mapart, .ref mact, .ref misKept, .ref mseen, .ref mhung, .int 0, .ref mgoal, .ref mleaps, .ref mqueue, .ref mrow, .int 0, .ref mwanted, .ref mfirst, .ref moften, .int 0, .int 0, .int 0, .int 0, .int 0, .int 0, .ref mlots, .ref mthen, .long 0])), (mtape, .inl (cyB, 800, .inl f))] H := by rw [hHe]; exact hP
  have hS : va_S A s.heap H [] := by rw [hHe]; exact hS
  refine cv_heap hHe ?_
  refine lv_bipush (v := 24) hx hb dX12_four_0 (by decide) ?_
  refine lv_istore_n (lv' := [(2, .int 24), (0, .ref m0), (1, .int p0)]) hx hb dX12_four_2 rfl hl (by decide) rfl (fun ls hl => ?_)
  refine lv_iload_n hx hb dX12_four_3 rfl (lv_at hl 0 rfl) ?_
  refine lv_if_lt (tgt := 36) hx hb dX12_four_4 (by decide) (fun c_1 => absurd c_1 (by decide)) (fun _ => ?_)
  refine lv_aload_n hx hb dX12_four_7 rfl (lv_at hl 1 rfl) ?_
  refine va_get (D := (dC, dI)) (ci := 11) (v := .ref mtape) (C := RX12) (T := TX12) (N := 44) hx hb hts uinX12 hown hK hP 0 rfl rfl 5 (by decide) (hts _ wd_6_42) (fun _ h9 => h9) rfl dX12_four_8 ?_
  refine lv_aload_n hx hb dX12_four_11 rfl (lv_at hl 1 rfl) ?_
  refine va_get (D := (dC, dI)) (ci := 11) (v := .int 0) (C := RX12) (T := TX12) (N := 44) hx hb hts uinX12 hown hK hP 0 rfl rfl 6 (by decide) (hts _ wd_6_43) (fun _ h9 => h9) rfl dX12_four_12 ?_
  refine lv_iload_n hx hb dX12_four_15 rfl (lv_at hl 2 rfl) ?_
  refine lv_iload_n hx hb dX12_four_16 rfl (lv_at hl 0 rfl) ?_
  refine lv_ishr hx hb dX12_four_17 ?_
  refine lv_topi (fun x_2 ex_2 => ?_)
  refine lv_i2b hx hb dX12_four_18 rfl ?_
  refine lv_topi (fun x_3 ex_3 => ?_)
  refine va_bast hx hb hK hP hD hS 1 1 rfl rfl (vp_in_iff.mpr (by decide)) dX12_four_19 (fun H locs hP hD hS => ?_)
  obtain ⟨f_4, ef_4⟩ : ∃ z9 : Nat → Int32, z9 = upd f (0 : Int32).toNatClampNeg (vp_nar .byte x_3) := ⟨_, rfl⟩
  rw [← ef_4] at hP hD
  have hP : va_P (dC, dI) vwCl [(m0, .inr (11, [.int 0, .ref mwidth, .ref mmany, .ref mcells, .ref mmoved, .ref mtape, .int 0, .int 0, .int 0, .int 0, .int 0, .long 0, .int 0, .int 0, .int 0, .int (-1), .ref mlines, .ref mhas, .ref mtold, .ref mlaw, .ref msuit, .ref mapart, .ref mact, .ref misKept, .ref mseen, .ref mhung, .int 0, .ref mgoal, .ref mleaps, .ref mqueue, .ref mrow, .int 0, .ref mwanted, .ref mfirst, .ref moften, .int 0, .int 0, .int 0, .int 0, .int 0, .int 0, .ref mlots, .ref mthen, .long 0])), (mtape, .inl (cyB, 800, .inl f_4))] H := hP
  have hD : va_D A [(m0, .inr (11, [.int 0, .ref mwidth, .ref mmany, .ref mcells, .ref mmoved, .ref mtape, .int 0, .int 0, .int 0, .int 0, .int 0, .long 0, .int 0, .int 0, .int 0, .int (-1), .ref mlines, .ref mhas, .ref mtold, .ref mlaw, .ref msuit, .ref mapart, .ref mact, .ref misKept, .ref mseen, .ref mhung, .int 0, .ref mgoal, .ref mleaps, .ref mqueue, .ref mrow, .int 0, .ref mwanted, .ref mfirst, .ref moften, .int 0, .int 0, .int 0, .int 0, .int 0, .int 0, .ref mlots, .ref mthen, .long 0])), (mtape, .inl (cyB, 800, .inl f_4))] := hD
  refine lv_aload_n hx hb dX12_four_20 rfl (lv_at hl 1 rfl) ?_
  refine lv_dup hx hb dX12_four_21 rfl ?_
  refine va_get (D := (dC, dI)) (ci := 11) (v := .int 0) (C := RX12) (T := TX12) (N := 44) hx hb hts uinX12 hown hK hP 0 rfl rfl 6 (by decide) (hts _ wd_6_43) (fun _ h9 => h9) rfl dX12_four_22 ?_
  refine lv_iconst (v := 1) hx hb dX12_four_25 (by decide) ?_
  refine lv_iadd hx hb dX12_four_26 ?_
  refine cv_topi (b := 1) (by decide) ?_
  refine va_put (D := (dC, dI)) (ci := 11) (v := .int 1) (ty := .int) (C := RX12) (T := TX12) (N := 44) hx hb hts uinX12 tyX12 tyX12_ok nmX12 hown hK hP hD hS 0 rfl rfl 6 (by decide) (hts _ wd_6_43) (fun _ h9 => h9) rfl (by decide +kernel) rfl rfl (Nat.le_of_ble_eq_true rfl) dX12_four_27 (fun H locs hP hD hS => ?_)
  have hP : va_P (dC, dI) vwCl [(m0, .inr (11, [.int 0, .ref mwidth, .ref mmany, .ref mcells, .ref mmoved, .ref mtape, .int 1, .int 0, .int 0, .int 0, .int 0, .long 0, .int 0, .int 0, .int 0, .int (-1), .ref mlines, .ref mhas, .ref mtold, .ref mlaw, .ref msuit, .ref mapart, .ref mact, .ref misKept, .ref mseen, .ref mhung, .int 0, .ref mgoal, .ref mleaps, .ref mqueue, .ref mrow, .int 0, .ref mwanted, .ref mfirst, .ref moften, .int 0, .int 0, .int 0, .int 0, .int 0, .int 0, .ref mlots, .ref mthen, .long 0])), (mtape, .inl (cyB, 800, .inl f_4))] H := hP
  have hD : va_D A [(m0, .inr (11, [.int 0, .ref mwidth, .ref mmany, .ref mcells, .ref mmoved, .ref mtape, .int 1, .int 0, .int 0, .int 0, .int 0, .long 0, .int 0, .int 0, .int 0, .int (-1), .ref mlines, .ref mhas, .ref mtold, .ref mlaw, .ref msuit, .ref mapart, .ref mact, .ref misKept, .ref mseen, .ref mhung, .int 0, .ref mgoal, .ref mleaps, .ref mqueue, .ref mrow, .int 0, .ref mwanted, .ref mfirst, .ref moften, .int 0, .int 0, .int 0, .int 0, .int 0, .int 0, .ref mlots, .ref mthen, .long 0])), (mtape, .inl (cyB, 800, .inl f_4))] := hD
  refine lv_iinc (v := 16) (lv' := [(2, .int 16), (0, .ref m0), (1, .int p0)]) hx hb dX12_four_30 hl (k := 0) rfl (by decide) (by decide) rfl (fun ls hl => ?_)
  refine lv_goto (tgt := 3) hx hb dX12_four_33 (by decide) ?_
  refine lv_iload_n hx hb dX12_four_3 rfl (lv_at hl 0 rfl) ?_
  refine lv_if_lt (tgt := 36) hx hb dX12_four_4 (by decide) (fun c_5 => absurd c_5 (by decide)) (fun _ => ?_)
  refine lv_aload_n hx hb dX12_four_7 rfl (lv_at hl 1 rfl) ?_
  refine va_get (D := (dC, dI)) (ci := 11) (v := .ref mtape) (C := RX12) (T := TX12) (N := 44) hx hb hts uinX12 hown hK hP 0 rfl rfl 5 (by decide) (hts _ wd_6_42) (fun _ h9 => h9) rfl dX12_four_8 ?_
  refine lv_aload_n hx hb dX12_four_11 rfl (lv_at hl 1 rfl) ?_
  refine va_get (D := (dC, dI)) (ci := 11) (v := .int 1) (C := RX12) (T := TX12) (N := 44) hx hb hts uinX12 hown hK hP 0 rfl rfl 6 (by decide) (hts _ wd_6_43) (fun _ h9 => h9) rfl dX12_four_12 ?_
  refine lv_iload_n hx hb dX12_four_15 rfl (lv_at hl 2 rfl) ?_
  refine lv_iload_n hx hb dX12_four_16 rfl (lv_at hl 0 rfl) ?_
  refine lv_ishr hx hb dX12_four_17 ?_
  refine lv_topi (fun x_6 ex_6 => ?_)
  refine lv_i2b hx hb dX12_four_18 rfl ?_
  refine lv_topi (fun x_7 ex_7 => ?_)
  refine va_bast hx hb hK hP hD hS 1 1 rfl rfl (vp_in_iff.mpr (by decide)) dX12_four_19 (fun H locs hP hD hS => ?_)
  obtain ⟨f_8, ef_8⟩ : ∃ z9 : Nat → Int32, z9 = upd f_4 (1 : Int32).toNatClampNeg (vp_nar .byte x_7) := ⟨_, rfl⟩
  rw [← ef_8] at hP hD
  have hP : va_P (dC, dI) vwCl [(m0, .inr (11, [.int 0, .ref mwidth, .ref mmany, .ref mcells, .ref mmoved, .ref mtape, .int 1, .int 0, .int 0, .int 0, .int 0, .long 0, .int 0, .int 0, .int 0, .int (-1), .ref mlines, .ref mhas, .ref mtold, .ref mlaw, .ref msuit, .ref mapart, .ref mact, .ref misKept, .ref mseen, .ref mhung, .int 0, .ref mgoal, .ref mleaps, .ref mqueue, .ref mrow, .int 0, .ref mwanted, .ref mfirst, .ref moften, .int 0, .int 0, .int 0, .int 0, .int 0, .int 0, .ref mlots, .ref mthen, .long 0])), (mtape, .inl (cyB, 800, .inl f_8))] H := hP
  have hD : va_D A [(m0, .inr (11, [.int 0, .ref mwidth, .ref mmany, .ref mcells, .ref mmoved, .ref mtape, .int 1, .int 0, .int 0, .int 0, .int 0, .long 0, .int 0, .int 0, .int 0, .int (-1), .ref mlines, .ref mhas, .ref mtold, .ref mlaw, .ref msuit, .ref mapart, .ref mact, .ref misKept, .ref mseen, .ref mhung, .int 0, .ref mgoal, .ref mleaps, .ref mqueue, .ref mrow, .int 0, .ref mwanted, .ref mfirst, .ref moften, .int 0, .int 0, .int 0, .int 0, .int 0, .int 0, .ref mlots, .ref mthen, .long 0])), (mtape, .inl (cyB, 800, .inl f_8))] := hD
  refine lv_aload_n hx hb dX12_four_20 rfl (lv_at hl 1 rfl) ?_
  refine lv_dup hx hb dX12_four_21 rfl ?_
  refine va_get (D := (dC, dI)) (ci := 11) (v := .int 1) (C := RX12) (T := TX12) (N := 44) hx hb hts uinX12 hown hK hP 0 rfl rfl 6 (by decide) (hts _ wd_6_43) (fun _ h9 => h9) rfl dX12_four_22 ?_
  refine lv_iconst (v := 1) hx hb dX12_four_25 (by decide) ?_
  refine lv_iadd hx hb dX12_four_26 ?_
  refine cv_topi (b := 2) (by decide) ?_
  refine va_put (D := (dC, dI)) (ci := 11) (v := .int 2) (ty := .int) (C := RX12) (T := TX12) (N := 44) hx hb hts uinX12 tyX12 tyX12_ok nmX12 hown hK hP hD hS 0 rfl rfl 6 (by decide) (hts _ wd_6_43) (fun _ h9 => h9) rfl (by decide +kernel) rfl rfl (Nat.le_of_ble_eq_true rfl) dX12_four_27 (fun H locs hP hD hS => ?_)
  have hP : va_P (dC, dI) vwCl [(m0, .inr (11, [.int 0, .ref mwidth, .ref mmany, .ref mcells, .ref mmoved, .ref mtape, .int 2, .int 0, .int 0, .int 0, .int 0, .long 0, .int 0, .int 0, .int 0, .int (-1), .ref mlines, .ref mhas, .ref mtold, .ref mlaw, .ref msuit, .ref mapart, .ref mact, .ref misKept, .ref mseen, .ref mhung, .int 0, .ref mgoal, .ref mleaps, .ref mqueue, .ref mrow, .int 0, .ref mwanted, .ref mfirst, .ref moften, .int 0, .int 0, .int 0, .int 0, .int 0, .int 0, .ref mlots, .ref mthen, .long 0])), (mtape, .inl (cyB, 800, .inl f_8))] H := hP
  have hD : va_D A [(m0, .inr (11, [.int 0, .ref mwidth, .ref mmany, .ref mcells, .ref mmoved, .ref mtape, .int 2, .int 0, .int 0, .int 0, .int 0, .long 0, .int 0, .int 0, .int 0, .int (-1), .ref mlines, .ref mhas, .ref mtold, .ref mlaw, .ref msuit, .ref mapart, .ref mact, .ref misKept, .ref mseen, .ref mhung, .int 0, .ref mgoal, .ref mleaps, .ref mqueue, .ref mrow, .int 0, .ref mwanted, .ref mfirst, .ref moften, .int 0, .int 0, .int 0, .int 0, .int 0, .int 0, .ref mlots, .ref mthen, .long 0])), (mtape, .inl (cyB, 800, .inl f_8))] := hD
  refine lv_iinc (v := 8) (lv' := [(2, .int 8), (0, .ref m0), (1, .int p0)]) hx hb dX12_four_30 hl (k := 0) rfl (by decide) (by decide) rfl (fun ls hl => ?_)
  refine lv_goto (tgt := 3) hx hb dX12_four_33 (by decide) ?_
  refine lv_iload_n hx hb dX12_four_3 rfl (lv_at hl 0 rfl) ?_
  refine lv_if_lt (tgt := 36) hx hb dX12_four_4 (by decide) (fun c_9 => absurd c_9 (by decide)) (fun _ => ?_)
  refine lv_aload_n hx hb dX12_four_7 rfl (lv_at hl 1 rfl) ?_
  refine va_get (D := (dC, dI)) (ci := 11) (v := .ref mtape) (C := RX12) (T := TX12) (N := 44) hx hb hts uinX12 hown hK hP 0 rfl rfl 5 (by decide) (hts _ wd_6_42) (fun _ h9 => h9) rfl dX12_four_8 ?_
  refine lv_aload_n hx hb dX12_four_11 rfl (lv_at hl 1 rfl) ?_
  refine va_get (D := (dC, dI)) (ci := 11) (v := .int 2) (C := RX12) (T := TX12) (N := 44) hx hb hts uinX12 hown hK hP 0 rfl rfl 6 (by decide) (hts _ wd_6_43) (fun _ h9 => h9) rfl dX12_four_12 ?_
  refine lv_iload_n hx hb dX12_four_15 rfl (lv_at hl 2 rfl) ?_
  refine lv_iload_n hx hb dX12_four_16 rfl (lv_at hl 0 rfl) ?_
  refine lv_ishr hx hb dX12_four_17 ?_
  refine lv_topi (fun x_10 ex_10 => ?_)
  refine lv_i2b hx hb dX12_four_18 rfl ?_
  refine lv_topi (fun x_11 ex_11 => ?_)
  refine va_bast hx hb hK hP hD hS 1 1 rfl rfl (vp_in_iff.mpr (by decide)) dX12_four_19 (fun H locs hP hD hS => ?_)
  obtain ⟨f_12, ef_12⟩ : ∃ z9 : Nat → Int32, z9 = upd f_8 (2 : Int32).toNatClampNeg (vp_nar .byte x_11) := ⟨_, rfl⟩
  rw [← ef_12] at hP hD
  have hP : va_P (dC, dI) vwCl [(m0, .inr (11, [.int 0, .ref mwidth, .ref mmany, .ref mcells, .ref mmoved, .ref mtape, .int 2, .int 0, .int 0, .int 0, .int 0, .long 0, .int 0, .int 0, .int 0, .int (-1), .ref mlines, .ref mhas, .ref mtold, .ref mlaw, .ref msuit, .ref mapart, .ref mact, .ref misKept, .ref mseen, .ref mhung, .int 0, .ref mgoal, .ref mleaps, .ref mqueue, .ref mrow, .int 0, .ref mwanted, .ref mfirst, .ref moften, .int 0, .int 0, .int 0, .int 0, .int 0, .int 0, .ref mlots, .ref mthen, .long 0])), (mtape, .inl (cyB, 800, .inl f_12))] H := hP
  have hD : va_D A [(m0, .inr (11, [.int 0, .ref mwidth, .ref mmany, .ref mcells, .ref mmoved, .ref mtape, .int 2, .int 0, .int 0, .int 0, .int 0, .long 0, .int 0, .int 0, .int 0, .int (-1), .ref mlines, .ref mhas, .ref mtold, .ref mlaw, .ref msuit, .ref mapart, .ref mact, .ref misKept, .ref mseen, .ref mhung, .int 0, .ref mgoal, .ref mleaps, .ref mqueue, .ref mrow, .int 0, .ref mwanted, .ref mfirst, .ref moften, .int 0, .int 0, .int 0, .int 0, .int 0, .int 0, .ref mlots, .ref mthen, .long 0])), (mtape, .inl (cyB, 800, .inl f_12))] := hD
  refine lv_aload_n hx hb dX12_four_20 rfl (lv_at hl 1 rfl) ?_
  refine lv_dup hx hb dX12_four_21 rfl ?_
  refine va_get (D := (dC, dI)) (ci := 11) (v := .int 2) (C := RX12) (T := TX12) (N := 44) hx hb hts uinX12 hown hK hP 0 rfl rfl 6 (by decide) (hts _ wd_6_43) (fun _ h9 => h9) rfl dX12_four_22 ?_
  refine lv_iconst (v := 1) hx hb dX12_four_25 (by decide) ?_
  refine lv_iadd hx hb dX12_four_26 ?_
  refine cv_topi (b := 3) (by decide) ?_
  refine va_put (D := (dC, dI)) (ci := 11) (v := .int 3) (ty := .int) (C := RX12) (T := TX12) (N := 44) hx hb hts uinX12 tyX12 tyX12_ok nmX12 hown hK hP hD hS 0 rfl rfl 6 (by decide) (hts _ wd_6_43) (fun _ h9 => h9) rfl (by decide +kernel) rfl rfl (Nat.le_of_ble_eq_true rfl) dX12_four_27 (fun H locs hP hD hS => ?_)
  have hP : va_P (dC, dI) vwCl [(m0, .inr (11, [.int 0, .ref mwidth, .ref mmany, .ref mcells, .ref mmoved, .ref mtape, .int 3, .int 0, .int 0, .int 0, .int 0, .long 0, .int 0, .int 0, .int 0, .int (-1), .ref mlines, .ref mhas, .ref mtold, .ref mlaw, .ref msuit, .ref mapart, .ref mact, .ref misKept, .ref mseen, .ref mhung, .int 0, .ref mgoal, .ref mleaps, .ref mqueue, .ref mrow, .int 0, .ref mwanted, .ref mfirst, .ref moften, .int 0, .int 0, .int 0, .int 0, .int 0, .int 0, .ref mlots, .ref mthen, .long 0])), (mtape, .inl (cyB, 800, .inl f_12))] H := hP
  have hD : va_D A [(m0, .inr (11, [.int 0, .ref mwidth, .ref mmany, .ref mcells, .ref mmoved, .ref mtape, .int 3, .int 0, .int 0, .int 0, .int 0, .long 0, .int 0, .int 0, .int 0, .int (-1), .ref mlines, .ref mhas, .ref mtold, .ref mlaw, .ref msuit, .ref mapart, .ref mact, .ref misKept, .ref mseen, .ref mhung, .int 0, .ref mgoal, .ref mleaps, .ref mqueue, .ref mrow, .int 0, .ref mwanted, .ref mfirst, .ref moften, .int 0, .int 0, .int 0, .int 0, .int 0, .int 0, .ref mlots, .ref mthen, .long 0])), (mtape, .inl (cyB, 800, .inl f_12))] := hD
  refine lv_iinc (v := 0) (lv' := [(2, .int 0), (0, .ref m0), (1, .int p0)]) hx hb dX12_four_30 hl (k := 0) rfl (by decide) (by decide) rfl (fun ls hl => ?_)
  refine lv_goto (tgt := 3) hx hb dX12_four_33 (by decide) ?_
  refine lv_iload_n hx hb dX12_four_3 rfl (lv_at hl 0 rfl) ?_
  refine lv_if_lt (tgt := 36) hx hb dX12_four_4 (by decide) (fun c_13 => absurd c_13 (by decide)) (fun _ => ?_)
  refine lv_aload_n hx hb dX12_four_7 rfl (lv_at hl 1 rfl) ?_
  refine va_get (D := (dC, dI)) (ci := 11) (v := .ref mtape) (C := RX12) (T := TX12) (N := 44) hx hb hts uinX12 hown hK hP 0 rfl rfl 5 (by decide) (hts _ wd_6_42) (fun _ h9 => h9) rfl dX12_four_8 ?_
  refine lv_aload_n hx hb dX12_four_11 rfl (lv_at hl 1 rfl) ?_
  refine va_get (D := (dC, dI)) (ci := 11) (v := .int 3) (C := RX12) (T := TX12) (N := 44) hx hb hts uinX12 hown hK hP 0 rfl rfl 6 (by decide) (hts _ wd_6_43) (fun _ h9 => h9) rfl dX12_four_12 ?_
  refine lv_iload_n hx hb dX12_four_15 rfl (lv_at hl 2 rfl) ?_
  refine lv_iload_n hx hb dX12_four_16 rfl (lv_at hl 0 rfl) ?_
  refine lv_ishr hx hb dX12_four_17 ?_
  refine lv_topi (fun x_14 ex_14 => ?_)
  refine lv_i2b hx hb dX12_four_18 rfl ?_
  refine lv_topi (fun x_15 ex_15 => ?_)
  refine va_bast hx hb hK hP hD hS 1 1 rfl rfl (vp_in_iff.mpr (by decide)) dX12_four_19 (fun H locs hP hD hS => ?_)
  obtain ⟨f_16, ef_16⟩ : ∃ z9 : Nat → Int32, z9 = upd f_12 (3 : Int32).toNatClampNeg (vp_nar .byte x_15) := ⟨_, rfl⟩
  rw [← ef_16] at hP hD
  have hP : va_P (dC, dI) vwCl [(m0, .inr (11, [.int 0, .ref mwidth, .ref mmany, .ref mcells, .ref mmoved, .ref mtape, .int 3, .int 0, .int 0, .int 0, .int 0, .long 0, .int 0, .int 0, .int 0, .int (-1), .ref mlines, .ref mhas, .ref mtold, .ref mlaw, .ref msuit, .ref mapart, .ref mact, .ref misKept, .ref mseen, .ref mhung, .int 0, .ref mgoal, .ref mleaps, .ref mqueue, .ref mrow, .int 0, .ref mwanted, .ref mfirst, .ref moften, .int 0, .int 0, .int 0, .int 0, .int 0, .int 0, .ref mlots, .ref mthen, .long 0])), (mtape, .inl (cyB, 800, .inl f_16))] H := hP
  have hD : va_D A [(m0, .inr (11, [.int 0, .ref mwidth, .ref mmany, .ref mcells, .ref mmoved, .ref mtape, .int 3, .int 0, .int 0, .int 0, .int 0, .long 0, .int 0, .int 0, .int 0, .int (-1), .ref mlines, .ref mhas, .ref mtold, .ref mlaw, .ref msuit, .ref mapart, .ref mact, .ref misKept, .ref mseen, .ref mhung, .int 0, .ref mgoal, .ref mleaps, .ref mqueue, .ref mrow, .int 0, .ref mwanted, .ref mfirst, .ref moften, .int 0, .int 0, .int 0, .int 0, .int 0, .int 0, .ref mlots, .ref mthen, .long 0])), (mtape, .inl (cyB, 800, .inl f_16))] := hD
  refine lv_aload_n hx hb dX12_four_20 rfl (lv_at hl 1 rfl) ?_
  refine lv_dup hx hb dX12_four_21 rfl ?_
  refine va_get (D := (dC, dI)) (ci := 11) (v := .int 3) (C := RX12) (T := TX12) (N := 44) hx hb hts uinX12 hown hK hP 0 rfl rfl 6 (by decide) (hts _ wd_6_43) (fun _ h9 => h9) rfl dX12_four_22 ?_
  refine lv_iconst (v := 1) hx hb dX12_four_25 (by decide) ?_
  refine lv_iadd hx hb dX12_four_26 ?_
  refine cv_topi (b := 4) (by decide) ?_
  refine va_put (D := (dC, dI)) (ci := 11) (v := .int 4) (ty := .int) (C := RX12) (T := TX12) (N := 44) hx hb hts uinX12 tyX12 tyX12_ok nmX12 hown hK hP hD hS 0 rfl rfl 6 (by decide) (hts _ wd_6_43) (fun _ h9 => h9) rfl (by decide +kernel) rfl rfl (Nat.le_of_ble_eq_true rfl) dX12_four_27 (fun H locs hP hD hS => ?_)
  have hP : va_P (dC, dI) vwCl [(m0, .inr (11, [.int 0, .ref mwidth, .ref mmany, .ref mcells, .ref mmoved, .ref mtape, .int 4, .int 0, .int 0, .int 0, .int 0, .long 0, .int 0, .int 0, .int 0, .int (-1), .ref mlines, .ref mhas, .ref mtold, .ref mlaw, .ref msuit, .ref mapart, .ref mact, .ref misKept, .ref mseen, .ref mhung, .int 0, .ref mgoal, .ref mleaps, .ref mqueue, .ref mrow, .int 0, .ref mwanted, .ref mfirst, .ref moften, .int 0, .int 0, .int 0, .int 0, .int 0, .int 0, .ref mlots, .ref mthen, .long 0])), (mtape, .inl (cyB, 800, .inl f_16))] H := hP
  have hD : va_D A [(m0, .inr (11, [.int 0, .ref mwidth, .ref mmany, .ref mcells, .ref mmoved, .ref mtape, .int 4, .int 0, .int 0, .int 0, .int 0, .long 0, .int 0, .int 0, .int 0, .int (-1), .ref mlines, .ref mhas, .ref mtold, .ref mlaw, .ref msuit, .ref mapart, .ref mact, .ref misKept, .ref mseen, .ref mhung, .int 0, .ref mgoal, .ref mleaps, .ref mqueue, .ref mrow, .int 0, .ref mwanted, .ref mfirst, .ref moften, .int 0, .int 0, .int 0, .int 0, .int 0, .int 0, .ref mlots, .ref mthen, .long 0])), (mtape, .inl (cyB, 800, .inl f_16))] := hD
  refine lv_iinc (v := (-8)) (lv' := [(2, .int (-8)), (0, .ref m0), (1, .int p0)]) hx hb dX12_four_30 hl (k := 0) rfl (by decide) (by decide) rfl (fun ls hl => ?_)
  refine lv_goto (tgt := 3) hx hb dX12_four_33 (by decide) ?_
  refine lv_iload_n hx hb dX12_four_3 rfl (lv_at hl 0 rfl) ?_
  refine lv_if_lt (tgt := 36) hx hb dX12_four_4 (by decide) (fun _ => ?_) (fun c_17 => absurd c_17 (by decide))
  have hP9 := hP.sub (ws' := [(m0, .inr (11, [.int 0, .ref mwidth, .ref mmany, .ref mcells, .ref mmoved, .ref mtape, .int 4, .int 0, .int 0, .int 0, .int 0, .long 0, .int 0, .int 0, .int 0, .int (-1), .ref mlines, .ref mhas, .ref mtold, .ref mlaw, .ref msuit, .ref mapart, .ref mact, .ref misKept, .ref mseen, .ref mhung, .int 0, .ref mgoal, .ref mleaps, .ref mqueue, .ref mrow, .int 0, .ref mwanted, .ref mfirst, .ref moften, .int 0, .int 0, .int 0, .int 0, .int 0, .int 0, .ref mlots, .ref mthen, .long 0])), (mtape, .inl (cyB, 800, .inl f_16))]) [0, 1] rfl
  have hD9 := hD.sub (ws' := [(m0, .inr (11, [.int 0, .ref mwidth, .ref mmany, .ref mcells, .ref mmoved, .ref mtape, .int 4, .int 0, .int 0, .int 0, .int 0, .long 0, .int 0, .int 0, .int 0, .int (-1), .ref mlines, .ref mhas, .ref mtold, .ref mlaw, .ref msuit, .ref mapart, .ref mact, .ref misKept, .ref mseen, .ref mhung, .int 0, .ref mgoal, .ref mleaps, .ref mqueue, .ref mrow, .int 0, .ref mwanted, .ref mfirst, .ref moften, .int 0, .int 0, .int 0, .int 0, .int 0, .int 0, .ref mlots, .ref mthen, .long 0])), (mtape, .inl (cyB, 800, .inl f_16))]) [0, 1] (by decide) rfl
  exact W.vret hx hb hr (fun t ht hW => ⟨⟨(), rfl, trivial, ⟨f_16, by rw [ht]; exact hP9, hD9⟩⟩, hS.F ht⟩) hS.2.2 dX12_four_36

/- X12_four -/
set_option maxHeartbeats 4000000 in
set_option maxRecDepth 100000 in
theorem m_four4 (l : Launch) (dC : Nat → ClassId) (dI : Nat → Nat → Nat) (cyI cyB cyJ cyZ cyH cyN : ClassId) (sz : Nat) (m0 mwidth mmany mcells mmoved mtape mlines mhas mtold mlaw msuit mapart mact misKept mseen mhung mgoal mleaps mqueue mrow mwanted mfirst moften mlots mthen : Nat) (f : Nat → Int32) (p0 : Int32) : Met l yX12_four (wk yX12_four cX12_four 3 none) ({ frames := 1, cells := 0, slots := 0, locals := 60 }) (va_Pc [.ref m0, .int p0] (fun U => U.heap.size = sz ∧ va_P (dC, dI) vwCl [(m0, .inr (11, [.int 0, .ref mwidth, .ref mmany, .ref mcells, .ref mmoved, .ref mtape, .int 4, .int 0, .int 0, .int 0, .int 0, .long 0, .int 0, .int 0, .int 0, .int (-1), .ref mlines, .ref mhas, .ref mtold, .ref mlaw, .ref msuit, .ref mapart, .ref mact, .ref misKept, .ref mseen, .ref mhung, .int 0, .ref mgoal, .ref mleaps, .ref mqueue, .ref mrow, .int 0, .ref mwanted, .ref mfirst, .ref moften, .int 0, .int 0, .int 0, .int 0, .int 0, .int 0, .ref mlots, .ref mthen, .long 0])), (mtape, .inl (cyB, 800, .inl f))] U.heap ∧ va_K (dC, dI) vwCl [(cyI, .int), (cyB, .byte), (cyJ, .long), (cyZ, .boolean), (cyH, .object RX2), (cyN, .array .long)] U ∧ va_D (fun _ => True) [(m0, .inr (11, [.int 0, .ref mwidth, .ref mmany, .ref mcells, .ref mmoved, .ref mtape, .int 4, .int 0, .int 0, .int 0, .int 0, .long 0, .int 0, .int 0, .int 0, .int (-1), .ref mlines, .ref mhas, .ref mtold, .ref mlaw, .ref msuit, .ref mapart, .ref mact, .ref misKept, .ref mseen, .ref mhung, .int 0, .ref mgoal, .ref mleaps, .ref mqueue, .ref mrow, .int 0, .ref mwanted, .ref mfirst, .ref moften, .int 0, .int 0, .int 0, .int 0, .int 0, .int 0, .ref mlots, .ref mthen, .long 0])), (mtape, .inl (cyB, 800, .inl f))])) (va_Qv (fun _ : Unit => True) (fun (_ : Unit) (t : State) => ∃ g : Nat → Int32, va_P (dC, dI) vwCl [(m0, .inr (11, [.int 0, .ref mwidth, .ref mmany, .ref mcells, .ref mmoved, .ref mtape, .int 8, .int 0, .int 0, .int 0, .int 0, .long 0, .int 0, .int 0, .int 0, .int (-1), .ref mlines, .ref mhas, .ref mtold, .ref mlaw, .ref msuit, .ref mapart, .ref mact, .ref misKept, .ref mseen, .ref mhung, .int 0, .ref mgoal, .ref mleaps, .ref mqueue, .ref mrow, .int 0, .ref mwanted, .ref mfirst, .ref moften, .int 0, .int 0, .int 0, .int 0, .int 0, .int 0, .ref mlots, .ref mthen, .long 0])), (mtape, .inl (cyB, 800, .inl g))] t.heap ∧ va_D (va_A [(m0, .inr (11, [.int 0, .ref mwidth, .ref mmany, .ref mcells, .ref mmoved, .ref mtape, .int 4, .int 0, .int 0, .int 0, .int 0, .long 0, .int 0, .int 0, .int 0, .int (-1), .ref mlines, .ref mhas, .ref mtold, .ref mlaw, .ref msuit, .ref mapart, .ref mact, .ref misKept, .ref mseen, .ref mhung, .int 0, .ref mgoal, .ref mleaps, .ref mqueue, .ref mrow, .int 0, .ref mwanted, .ref mfirst, .ref moften, .int 0, .int 0, .int 0, .int 0, .int 0, .int 0, .ref mlots, .ref mthen, .long 0])), (mtape, .inl (cyB, 800, .inl f))] sz) [(m0, .inr (11, [.int 0, .ref mwidth, .ref mmany, .ref mcells, .ref mmoved, .ref mtape, .int 8, .int 0, .int 0, .int 0, .int 0, .long 0, .int 0, .int 0, .int 0, .int (-1), .ref mlines, .ref mhas, .ref mtold, .ref mlaw, .ref msuit, .ref mapart, .ref mact, .ref misKept, .ref mseen, .ref mhung, .int 0, .ref mgoal, .ref mleaps, .ref mqueue, .ref mrow, .int 0, .ref mwanted, .ref mfirst, .ref moften, .int 0, .int 0, .int 0, .int 0, .int 0, .int 0, .ref mlots, .ref mthen, .long 0])), (mtape, .inl (cyB, 800, .inl g))]) (va_A [(m0, .inr (11, [.int 0, .ref mwidth, .ref mmany, .ref mcells, .ref mmoved, .ref mtape, .int 4, .int 0, .int 0, .int 0, .int 0, .long 0, .int 0, .int 0, .int 0, .int (-1), .ref mlines, .ref mhas, .ref mtold, .ref mlaw, .ref msuit, .ref mapart, .ref mact, .ref misKept, .ref mseen, .ref mhung, .int 0, .ref mgoal, .ref mleaps, .ref mqueue, .ref mrow, .int 0, .ref mwanted, .ref mfirst, .ref moften, .int 0, .int 0, .int 0, .int 0, .int 0, .int 0, .ref mlots, .ref mthen, .long 0])), (mtape, .inl (cyB, 800, .inl f))] sz)) 0 0 (va_A [(m0, .inr (11, [.int 0, .ref mwidth, .ref mmany, .ref mcells, .ref mmoved, .ref mtape, .int 4, .int 0, .int 0, .int 0, .int 0, .long 0, .int 0, .int 0, .int 0, .int (-1), .ref mlines, .ref mhas, .ref mtold, .ref mlaw, .ref msuit, .ref mapart, .ref mact, .ref misKept, .ref mseen, .ref mhung, .int 0, .ref mgoal, .ref mleaps, .ref mqueue, .ref mrow, .int 0, .ref mwanted, .ref mfirst, .ref moften, .int 0, .int 0, .int 0, .int 0, .int 0, .int 0, .ref mlots, .ref mthen, .long 0])), (mtape, .inl (cyB, 800, .inl f))] sz) := by
  refine Met.ofW (cc := cX12_four) (maxL := 3) (ret := none) (by decide) rfl ?_
  intro p e s m args below meth c s₁ B hml hv
  obtain ⟨rfl, hsz, hP, hK, hD0⟩ := hv
  have hx := B.exec
  have hb := B.bytes
  have hr := B.returns
  have hts : ∀ w ∈ uU, w.before ([.ref m0, .int p0] : List Value).toArray s = true := fun w h => atoms_spec (ws := wk yX12_four cX12_four 3 none) B.pre w (List.mem_cons_of_mem _ h)
  have hown : s.vm.findClass RX12 = some m.cls := findClass_of_methodNamed B.named
  have hlocks := B.notSynchronized
  subst hsz
  have hD := hD0.self (sz := s.heap.size)
  generalize hAe : va_A [(m0, .inr (11, [.int 0, .ref mwidth, .ref mmany, .ref mcells, .ref mmoved, .ref mtape, .int 4, .int 0, .int 0, .int 0, .int 0, .long 0, .int 0, .int 0, .int 0, .int (-1), .ref mlines, .ref mhas, .ref mtold, .ref mlaw, .ref msuit, .ref mapart, .ref mact, .ref misKept, .ref mseen, .ref mhung, .int 0, .ref mgoal, .ref mleaps, .ref mqueue, .ref mrow, .int 0, .ref mwanted, .ref mfirst, .ref moften, .int 0, .int 0, .int 0, .int 0, .int 0, .int 0, .ref mlots, .ref mthen, .long 0])), (mtape, .inl (cyB, 800, .inl f))] s.heap.size = A at hD ⊢
  have hA : ∀ q : Nat, s.heap.size ≤ q → A q := fun q h => by rw [← hAe]; exact Or.inr h
  have hS : va_S A s.heap s.heap [] := va_S.rf
  have hP : va_P (dC, dI) vwCl [(m0, .inr (11, [.int 0, .ref mwidth, .ref mmany, .ref mcells, .ref mmoved, .ref mtape, .int 4, .int 0, .int 0, .int 0, .int 0, .long 0, .int 0, .int 0, .int 0, .int (-1), .ref mlines, .ref mhas, .ref mtold, .ref mlaw, .ref msuit, .ref mapart, .ref mact, .ref misKept, .ref mseen, .ref mhung, .int 0, .ref mgoal, .ref mleaps, .ref mqueue, .ref mrow, .int 0, .ref mwanted, .ref mfirst, .ref moften, .int 0, .int 0, .int 0, .int 0, .int 0, .int 0, .ref mlots, .ref mthen, .long 0])), (mtape, .inl (cyB, 800, .inl f))] s.heap := hP
  have hl := lv_entry ([.ref m0, .int p0]) (n := 3) (Nat.le_of_ble_eq_true rfl)
  rw [lg_entry_eq]
  generalize (lg_sl ([.ref m0, .int p0]) ++ List.replicate (3 - (lg_sl ([.ref m0, .int p0])).length) Slot.unset).toArray = ls at hl ⊢
  have hl : lv_has ls 3 [(0, .ref m0), (1, .int p0)] := hl
  obtain ⟨H, hHe⟩ : ∃ H, H = s.heap := ⟨_, rfl⟩
  have hP : va_P (dC, dI) vwCl [(m0, .inr (11, [.int 0, .ref mwidth, .ref mmany, .ref mcells, .ref mmoved, .ref mtape, .int 4, .int 0, .int 0, .int 0, .int 0, .long 0, .int 0, .int 0, .int 0, .int (-1), .ref mlines, .ref mhas, .ref mtold, .ref mlaw, .ref msuit, .ref mapart, .ref mact, .ref misKept, .ref mseen, .ref mhung, .int 0, .ref mgoal, .ref mleaps, .ref mqueue, .ref mrow, .int 0, .ref mwanted, .ref mfirst, .ref moften, .int 0, .int 0, .int 0, .int 0, .int 0, .int 0, .ref mlots, .ref mthen, .long 0])), (mtape, .inl (cyB, 800, .inl f))] H := by rw [hHe]; exact hP
  have hS : va_S A s.heap H [] := by rw [hHe]; exact hS
  refine cv_heap hHe ?_
  refine lv_bipush (v := 24) hx hb dX12_four_0 (by decide) ?_
  refine lv_istore_n (lv' := [(2, .int 24), (0, .ref m0), (1, .int p0)]) hx hb dX12_four_2 rfl hl (by decide) rfl (fun ls hl => ?_)
  refine lv_iload_n hx hb dX12_four_3 rfl (lv_at hl 0 rfl) ?_
  refine lv_if_lt (tgt := 36) hx hb dX12_four_4 (by decide) (fun c_1 => absurd c_1 (by decide)) (fun _ => ?_)
  refine lv_aload_n hx hb dX12_four_7 rfl (lv_at hl 1 rfl) ?_
  refine va_get (D := (dC, dI)) (ci := 11) (v := .ref mtape) (C := RX12) (T := TX12) (N := 44) hx hb hts uinX12 hown hK hP 0 rfl rfl 5 (by decide) (hts _ wd_6_42) (fun _ h9 => h9) rfl dX12_four_8 ?_
  refine lv_aload_n hx hb dX12_four_11 rfl (lv_at hl 1 rfl) ?_
  refine va_get (D := (dC, dI)) (ci := 11) (v := .int 4) (C := RX12) (T := TX12) (N := 44) hx hb hts uinX12 hown hK hP 0 rfl rfl 6 (by decide) (hts _ wd_6_43) (fun _ h9 => h9) rfl dX12_four_12 ?_
  refine lv_iload_n hx hb dX12_four_15 rfl (lv_at hl 2 rfl) ?_
  refine lv_iload_n hx hb dX12_four_16 rfl (lv_at hl 0 rfl) ?_
  refine lv_ishr hx hb dX12_four_17 ?_
  refine lv_topi (fun x_2 ex_2 => ?_)
  refine lv_i2b hx hb dX12_four_18 rfl ?_
  refine lv_topi (fun x_3 ex_3 => ?_)
  refine va_bast hx hb hK hP hD hS 1 1 rfl rfl (vp_in_iff.mpr (by decide)) dX12_four_19 (fun H locs hP hD hS => ?_)
  obtain ⟨f_4, ef_4⟩ : ∃ z9 : Nat → Int32, z9 = upd f (4 : Int32).toNatClampNeg (vp_nar .byte x_3) := ⟨_, rfl⟩
  rw [← ef_4] at hP hD
  have hP : va_P (dC, dI) vwCl [(m0, .inr (11, [.int 0, .ref mwidth, .ref mmany, .ref mcells, .ref mmoved, .ref mtape, .int 4, .int 0, .int 0, .int 0, .int 0, .long 0, .int 0, .int 0, .int 0, .int (-1), .ref mlines, .ref mhas, .ref mtold, .ref mlaw, .ref msuit, .ref mapart, .ref mact, .ref misKept, .ref mseen, .ref mhung, .int 0, .ref mgoal, .ref mleaps, .ref mqueue, .ref mrow, .int 0, .ref mwanted, .ref mfirst, .ref moften, .int 0, .int 0, .int 0, .int 0, .int 0, .int 0, .ref mlots, .ref mthen, .long 0])), (mtape, .inl (cyB, 800, .inl f_4))] H := hP
  have hD : va_D A [(m0, .inr (11, [.int 0, .ref mwidth, .ref mmany, .ref mcells, .ref mmoved, .ref mtape, .int 4, .int 0, .int 0, .int 0, .int 0, .long 0, .int 0, .int 0, .int 0, .int (-1), .ref mlines, .ref mhas, .ref mtold, .ref mlaw, .ref msuit, .ref mapart, .ref mact, .ref misKept, .ref mseen, .ref mhung, .int 0, .ref mgoal, .ref mleaps, .ref mqueue, .ref mrow, .int 0, .ref mwanted, .ref mfirst, .ref moften, .int 0, .int 0, .int 0, .int 0, .int 0, .int 0, .ref mlots, .ref mthen, .long 0])), (mtape, .inl (cyB, 800, .inl f_4))] := hD
  refine lv_aload_n hx hb dX12_four_20 rfl (lv_at hl 1 rfl) ?_
  refine lv_dup hx hb dX12_four_21 rfl ?_
  refine va_get (D := (dC, dI)) (ci := 11) (v := .int 4) (C := RX12) (T := TX12) (N := 44) hx hb hts uinX12 hown hK hP 0 rfl rfl 6 (by decide) (hts _ wd_6_43) (fun _ h9 => h9) rfl dX12_four_22 ?_
  refine lv_iconst (v := 1) hx hb dX12_four_25 (by decide) ?_
  refine lv_iadd hx hb dX12_four_26 ?_
  refine cv_topi (b := 5) (by decide) ?_
  refine va_put (D := (dC, dI)) (ci := 11) (v := .int 5) (ty := .int) (C := RX12) (T := TX12) (N := 44) hx hb hts uinX12 tyX12 tyX12_ok nmX12 hown hK hP hD hS 0 rfl rfl 6 (by decide) (hts _ wd_6_43) (fun _ h9 => h9) rfl (by decide +kernel) rfl rfl (Nat.le_of_ble_eq_true rfl) dX12_four_27 (fun H locs hP hD hS => ?_)
  have hP : va_P (dC, dI) vwCl [(m0, .inr (11, [.int 0, .ref mwidth, .ref mmany, .ref mcells, .ref mmoved, .ref mtape, .int 5, .int 0, .int 0, .int 0, .int 0, .long 0, .int 0, .int 0, .int 0, .int (-1), .ref mlines, .ref mhas, .ref mtold, .ref mlaw, .ref msuit, .ref mapart, .ref mact, .ref misKept, .ref mseen, .ref mhung, .int 0, .ref mgoal, .ref mleaps, .ref mqueue, .ref mrow, .int 0, .ref mwanted, .ref mfirst, .ref moften, .int 0, .int 0, .int 0, .int 0, .int 0, .int 0, .ref mlots, .ref mthen, .long 0])), (mtape, .inl (cyB, 800, .inl f_4))] H := hP
  have hD : va_D A [(m0, .inr (11, [.int 0, .ref mwidth, .ref mmany, .ref mcells, .ref mmoved, .ref mtape, .int 5, .int 0, .int 0, .int 0, .int 0, .long 0, .int 0, .int 0, .int 0, .int (-1), .ref mlines, .ref mhas, .ref mtold, .ref mlaw, .ref msuit, .ref mapart, .ref mact, .ref misKept, .ref mseen, .ref mhung, .int 0, .ref mgoal, .ref mleaps, .ref mqueue, .ref mrow, .int 0, .ref mwanted, .ref mfirst, .ref moften, .int 0, .int 0, .int 0, .int 0, .int 0, .int 0, .ref mlots, .ref mthen, .long 0])), (mtape, .inl (cyB, 800, .inl f_4))] := hD
  refine lv_iinc (v := 16) (lv' := [(2, .int 16), (0, .ref m0), (1, .int p0)]) hx hb dX12_four_30 hl (k := 0) rfl (by decide) (by decide) rfl (fun ls hl => ?_)
  refine lv_goto (tgt := 3) hx hb dX12_four_33 (by decide) ?_
  refine lv_iload_n hx hb dX12_four_3 rfl (lv_at hl 0 rfl) ?_
  refine lv_if_lt (tgt := 36) hx hb dX12_four_4 (by decide) (fun c_5 => absurd c_5 (by decide)) (fun _ => ?_)
  refine lv_aload_n hx hb dX12_four_7 rfl (lv_at hl 1 rfl) ?_
  refine va_get (D := (dC, dI)) (ci := 11) (v := .ref mtape) (C := RX12) (T := TX12) (N := 44) hx hb hts uinX12 hown hK hP 0 rfl rfl 5 (by decide) (hts _ wd_6_42) (fun _ h9 => h9) rfl dX12_four_8 ?_
  refine lv_aload_n hx hb dX12_four_11 rfl (lv_at hl 1 rfl) ?_
  refine va_get (D := (dC, dI)) (ci := 11) (v := .int 5) (C := RX12) (T := TX12) (N := 44) hx hb hts uinX12 hown hK hP 0 rfl rfl 6 (by decide) (hts _ wd_6_43) (fun _ h9 => h9) rfl dX12_four_12 ?_
  refine lv_iload_n hx hb dX12_four_15 rfl (lv_at hl 2 rfl) ?_
  refine lv_iload_n hx hb dX12_four_16 rfl (lv_at hl 0 rfl) ?_
  refine lv_ishr hx hb dX12_four_17 ?_
  refine lv_topi (fun x_6 ex_6 => ?_)
  refine lv_i2b hx hb dX12_four_18 rfl ?_
  refine lv_topi (fun x_7 ex_7 => ?_)
  refine va_bast hx hb hK hP hD hS 1 1 rfl rfl (vp_in_iff.mpr (by decide)) dX12_four_19 (fun H locs hP hD hS => ?_)
  obtain ⟨f_8, ef_8⟩ : ∃ z9 : Nat → Int32, z9 = upd f_4 (5 : Int32).toNatClampNeg (vp_nar .byte x_7) := ⟨_, rfl⟩
  rw [← ef_8] at hP hD
  have hP : va_P (dC, dI) vwCl [(m0, .inr (11, [.int 0, .ref mwidth, .ref mmany, .ref mcells, .ref mmoved, .ref mtape, .int 5, .int 0, .int 0, .int 0, .int 0, .long 0, .int 0, .int 0, .int 0, .int (-1), .ref mlines, .ref mhas, .ref mtold, .ref mlaw, .ref msuit, .ref mapart, .ref mact, .ref misKept, .ref mseen, .ref mhung, .int 0, .ref mgoal, .ref mleaps, .ref mqueue, .ref mrow, .int 0, .ref mwanted, .ref mfirst, .ref moften, .int 0, .int 0, .int 0, .int 0, .int 0, .int 0, .ref mlots, .ref mthen, .long 0])), (mtape, .inl (cyB, 800, .inl f_8))] H := hP
  have hD : va_D A [(m0, .inr (11, [.int 0, .ref mwidth, .ref mmany, .ref mcells, .ref mmoved, .ref mtape, .int 5, .int 0, .int 0, .int 0, .int 0, .long 0, .int 0, .int 0, .int 0, .int (-1), .ref mlines, .ref mhas, .ref mtold, .ref mlaw, .ref msuit, .ref mapart, .ref mact, .ref misKept, .ref mseen, .ref mhung, .int 0, .ref mgoal, .ref mleaps, .ref mqueue, .ref mrow, .int 0, .ref mwanted, .ref mfirst, .ref moften, .int 0, .int 0, .int 0, .int 0, .int 0, .int 0, .ref mlots, .ref mthen, .long 0])), (mtape, .inl (cyB, 800, .inl f_8))] := hD
  refine lv_aload_n hx hb dX12_four_20 rfl (lv_at hl 1 rfl) ?_
  refine lv_dup hx hb dX12_four_21 rfl ?_
  refine va_get (D := (dC, dI)) (ci := 11) (v := .int 5) (C := RX12) (T := TX12) (N := 44) hx hb hts uinX12 hown hK hP 0 rfl rfl 6 (by decide) (hts _ wd_6_43) (fun _ h9 => h9) rfl dX12_four_22 ?_
  refine lv_iconst (v := 1) hx hb dX12_four_25 (by decide) ?_
  refine lv_iadd hx hb dX12_four_26 ?_
  refine cv_topi (b := 6) (by decide) ?_
  refine va_put (D := (dC, dI)) (ci := 11) (v := .int 6) (ty := .int) (C := RX12) (T := TX12) (N := 44) hx hb hts uinX12 tyX12 tyX12_ok nmX12 hown hK hP hD hS 0 rfl rfl 6 (by decide) (hts _ wd_6_43) (fun _ h9 => h9) rfl (by decide +kernel) rfl rfl (Nat.le_of_ble_eq_true rfl) dX12_four_27 (fun H locs hP hD hS => ?_)
  have hP : va_P (dC, dI) vwCl [(m0, .inr (11, [.int 0, .ref mwidth, .ref mmany, .ref mcells, .ref mmoved, .ref mtape, .int 6, .int 0, .int 0, .int 0, .int 0, .long 0, .int 0, .int 0, .int 0, .int (-1), .ref mlines, .ref mhas, .ref mtold, .ref mlaw, .ref msuit, .ref mapart, .ref mact, .ref misKept, .ref mseen, .ref mhung, .int 0, .ref mgoal, .ref mleaps, .ref mqueue, .ref mrow, .int 0, .ref mwanted, .ref mfirst, .ref moften, .int 0, .int 0, .int 0, .int 0, .int 0, .int 0, .ref mlots, .ref mthen, .long 0])), (mtape, .inl (cyB, 800, .inl f_8))] H := hP
  have hD : va_D A [(m0, .inr (11, [.int 0, .ref mwidth, .ref mmany, .ref mcells, .ref mmoved, .ref mtape, .int 6, .int 0, .int 0, .int 0, .int 0, .long 0, .int 0, .int 0, .int 0, .int (-1), .ref mlines, .ref mhas, .ref mtold, .ref mlaw, .ref msuit, .ref mapart, .ref mact, .ref misKept, .ref mseen, .ref mhung, .int 0, .ref mgoal, .ref mleaps, .ref mqueue, .ref mrow, .int 0, .ref mwanted, .ref mfirst, .ref moften, .int 0, .int 0, .int 0, .int 0, .int 0, .int 0, .ref mlots, .ref mthen, .long 0])), (mtape, .inl (cyB, 800, .inl f_8))] := hD
  refine lv_iinc (v := 8) (lv' := [(2, .int 8), (0, .ref m0), (1, .int p0)]) hx hb dX12_four_30 hl (k := 0) rfl (by decide) (by decide) rfl (fun ls hl => ?_)
  refine lv_goto (tgt := 3) hx hb dX12_four_33 (by decide) ?_
  refine lv_iload_n hx hb dX12_four_3 rfl (lv_at hl 0 rfl) ?_
  refine lv_if_lt (tgt := 36) hx hb dX12_four_4 (by decide) (fun c_9 => absurd c_9 (by decide)) (fun _ => ?_)
  refine lv_aload_n hx hb dX12_four_7 rfl (lv_at hl 1 rfl) ?_
  refine va_get (D := (dC, dI)) (ci := 11) (v := .ref mtape) (C := RX12) (T := TX12) (N := 44) hx hb hts uinX12 hown hK hP 0 rfl rfl 5 (by decide) (hts _ wd_6_42) (fun _ h9 => h9) rfl dX12_four_8 ?_
  refine lv_aload_n hx hb dX12_four_11 rfl (lv_at hl 1 rfl) ?_
  refine va_get (D := (dC, dI)) (ci := 11) (v := .int 6) (C := RX12) (T := TX12) (N := 44) hx hb hts uinX12 hown hK hP 0 rfl rfl 6 (by decide) (hts _ wd_6_43) (fun _ h9 => h9) rfl dX12_four_12 ?_
  refine lv_iload_n hx hb dX12_four_15 rfl (lv_at hl 2 rfl) ?_
  refine lv_iload_n hx hb dX12_four_16 rfl (lv_at hl 0 rfl) ?_
  refine lv_ishr hx hb dX12_four_17 ?_
  refine lv_topi (fun x_10 ex_10 => ?_)
  refine lv_i2b hx hb dX12_four_18 rfl ?_
  refine lv_topi (fun x_11 ex_11 => ?_)
  refine va_bast hx hb hK hP hD hS 1 1 rfl rfl (vp_in_iff.mpr (by decide)) dX12_four_19 (fun H locs hP hD hS => ?_)
  obtain ⟨f_12, ef_12⟩ : ∃ z9 : Nat → Int32, z9 = upd f_8 (6 : Int32).toNatClampNeg (vp_nar .byte x_11) := ⟨_, rfl⟩
  rw [← ef_12] at hP hD
  have hP : va_P (dC, dI) vwCl [(m0, .inr (11, [.int 0, .ref mwidth, .ref mmany, .ref mcells, .ref mmoved, .ref mtape, .int 6, .int 0, .int 0, .int 0, .int 0, .long 0, .int 0, .int 0, .int 0, .int (-1), .ref mlines, .ref mhas, .ref mtold, .ref mlaw, .ref msuit, .ref mapart, .ref mact, .ref misKept, .ref mseen, .ref mhung, .int 0, .ref mgoal, .ref mleaps, .ref mqueue, .ref mrow, .int 0, .ref mwanted, .ref mfirst, .ref moften, .int 0, .int 0, .int 0, .int 0, .int 0, .int 0, .ref mlots, .ref mthen, .long 0])), (mtape, .inl (cyB, 800, .inl f_12))] H := hP
  have hD : va_D A [(m0, .inr (11, [.int 0, .ref mwidth, .ref mmany, .ref mcells, .ref mmoved, .ref mtape, .int 6, .int 0, .int 0, .int 0, .int 0, .long 0, .int 0, .int 0, .int 0, .int (-1), .ref mlines, .ref mhas, .ref mtold, .ref mlaw, .ref msuit, .ref mapart, .ref mact, .ref misKept, .ref mseen, .ref mhung, .int 0, .ref mgoal, .ref mleaps, .ref mqueue, .ref mrow, .int 0, .ref mwanted, .ref mfirst, .ref moften, .int 0, .int 0, .int 0, .int 0, .int 0, .int 0, .ref mlots, .ref mthen, .long 0])), (mtape, .inl (cyB, 800, .inl f_12))] := hD
  refine lv_aload_n hx hb dX12_four_20 rfl (lv_at hl 1 rfl) ?_
  refine lv_dup hx hb dX12_four_21 rfl ?_
  refine va_get (D := (dC, dI)) (ci := 11) (v := .int 6) (C := RX12) (T := TX12) (N := 44) hx hb hts uinX12 hown hK hP 0 rfl rfl 6 (by decide) (hts _ wd_6_43) (fun _ h9 => h9) rfl dX12_four_22 ?_
  refine lv_iconst (v := 1) hx hb dX12_four_25 (by decide) ?_
  refine lv_iadd hx hb dX12_four_26 ?_
  refine cv_topi (b := 7) (by decide) ?_
  refine va_put (D := (dC, dI)) (ci := 11) (v := .int 7) (ty := .int) (C := RX12) (T := TX12) (N := 44) hx hb hts uinX12 tyX12 tyX12_ok nmX12 hown hK hP hD hS 0 rfl rfl 6 (by decide) (hts _ wd_6_43) (fun _ h9 => h9) rfl (by decide +kernel) rfl rfl (Nat.le_of_ble_eq_true rfl) dX12_four_27 (fun H locs hP hD hS => ?_)
  have hP : va_P (dC, dI) vwCl [(m0, .inr (11, [.int 0, .ref mwidth, .ref mmany, .ref mcells, .ref mmoved, .ref mtape, .int 7, .int 0, .int 0, .int 0, .int 0, .long 0, .int 0, .int 0, .int 0, .int (-1), .ref mlines, .ref mhas, .ref mtold, .ref mlaw, .ref msuit, .ref mapart, .ref mact, .ref misKept, .ref mseen, .ref mhung, .int 0, .ref mgoal, .ref mleaps, .ref mqueue, .ref mrow, .int 0, .ref mwanted, .ref mfirst, .ref moften, .int 0, .int 0, .int 0, .int 0, .int 0, .int 0, .ref mlots, .ref mthen, .long 0])), (mtape, .inl (cyB, 800, .inl f_12))] H := hP
  have hD : va_D A [(m0, .inr (11, [.int 0, .ref mwidth, .ref mmany, .ref mcells, .ref mmoved, .ref mtape, .int 7, .int 0, .int 0, .int 0, .int 0, .long 0, .int 0, .int 0, .int 0, .int (-1), .ref mlines, .ref mhas, .ref mtold, .ref mlaw, .ref msuit, .ref mapart, .ref mact, .ref misKept, .ref mseen, .ref mhung, .int 0, .ref mgoal, .ref mleaps, .ref mqueue, .ref mrow, .int 0, .ref mwanted, .ref mfirst, .ref moften, .int 0, .int 0, .int 0, .int 0, .int 0, .int 0, .ref mlots, .ref mthen, .long 0])), (mtape, .inl (cyB, 800, .inl f_12))] := hD
  refine lv_iinc (v := 0) (lv' := [(2, .int 0), (0, .ref m0), (1, .int p0)]) hx hb dX12_four_30 hl (k := 0) rfl (by decide) (by decide) rfl (fun ls hl => ?_)
  refine lv_goto (tgt := 3) hx hb dX12_four_33 (by decide) ?_
  refine lv_iload_n hx hb dX12_four_3 rfl (lv_at hl 0 rfl) ?_
  refine lv_if_lt (tgt := 36) hx hb dX12_four_4 (by decide) (fun c_13 => absurd c_13 (by decide)) (fun _ => ?_)
  refine lv_aload_n hx hb dX12_four_7 rfl (lv_at hl 1 rfl) ?_
  refine va_get (D := (dC, dI)) (ci := 11) (v := .ref mtape) (C := RX12) (T := TX12) (N := 44) hx hb hts uinX12 hown hK hP 0 rfl rfl 5 (by decide) (hts _ wd_6_42) (fun _ h9 => h9) rfl dX12_four_8 ?_
  refine lv_aload_n hx hb dX12_four_11 rfl (lv_at hl 1 rfl) ?_
  refine va_get (D := (dC, dI)) (ci := 11) (v := .int 7) (C := RX12) (T := TX12) (N := 44) hx hb hts uinX12 hown hK hP 0 rfl rfl 6 (by decide) (hts _ wd_6_43) (fun _ h9 => h9) rfl dX12_four_12 ?_
  refine lv_iload_n hx hb dX12_four_15 rfl (lv_at hl 2 rfl) ?_
  refine lv_iload_n hx hb dX12_four_16 rfl (lv_at hl 0 rfl) ?_
  refine lv_ishr hx hb dX12_four_17 ?_
  refine lv_topi (fun x_14 ex_14 => ?_)
  refine lv_i2b hx hb dX12_four_18 rfl ?_
  refine lv_topi (fun x_15 ex_15 => ?_)
  refine va_bast hx hb hK hP hD hS 1 1 rfl rfl (vp_in_iff.mpr (by decide)) dX12_four_19 (fun H locs hP hD hS => ?_)
  obtain ⟨f_16, ef_16⟩ : ∃ z9 : Nat → Int32, z9 = upd f_12 (7 : Int32).toNatClampNeg (vp_nar .byte x_15) := ⟨_, rfl⟩
  rw [← ef_16] at hP hD
  have hP : va_P (dC, dI) vwCl [(m0, .inr (11, [.int 0, .ref mwidth, .ref mmany, .ref mcells, .ref mmoved, .ref mtape, .int 7, .int 0, .int 0, .int 0, .int 0, .long 0, .int 0, .int 0, .int 0, .int (-1), .ref mlines, .ref mhas, .ref mtold, .ref mlaw, .ref msuit, .ref mapart, .ref mact, .ref misKept, .ref mseen, .ref mhung, .int 0, .ref mgoal, .ref mleaps, .ref mqueue, .ref mrow, .int 0, .ref mwanted, .ref mfirst, .ref moften, .int 0, .int 0, .int 0, .int 0, .int 0, .int 0, .ref mlots, .ref mthen, .long 0])), (mtape, .inl (cyB, 800, .inl f_16))] H := hP
  have hD : va_D A [(m0, .inr (11, [.int 0, .ref mwidth, .ref mmany, .ref mcells, .ref mmoved, .ref mtape, .int 7, .int 0, .int 0, .int 0, .int 0, .long 0, .int 0, .int 0, .int 0, .int (-1), .ref mlines, .ref mhas, .ref mtold, .ref mlaw, .ref msuit, .ref mapart, .ref mact, .ref misKept, .ref mseen, .ref mhung, .int 0, .ref mgoal, .ref mleaps, .ref mqueue, .ref mrow, .int 0, .ref mwanted, .ref mfirst, .ref moften, .int 0, .int 0, .int 0, .int 0, .int 0, .int 0, .ref mlots, .ref mthen, .long 0])), (mtape, .inl (cyB, 800, .inl f_16))] := hD
  refine lv_aload_n hx hb dX12_four_20 rfl (lv_at hl 1 rfl) ?_
  refine lv_dup hx hb dX12_four_21 rfl ?_
  refine va_get (D := (dC, dI)) (ci := 11) (v := .int 7) (C := RX12) (T := TX12) (N := 44) hx hb hts uinX12 hown hK hP 0 rfl rfl 6 (by decide) (hts _ wd_6_43) (fun _ h9 => h9) rfl dX12_four_22 ?_
  refine lv_iconst (v := 1) hx hb dX12_four_25 (by decide) ?_
  refine lv_iadd hx hb dX12_four_26 ?_
  refine cv_topi (b := 8) (by decide) ?_
  refine va_put (D := (dC, dI)) (ci := 11) (v := .int 8) (ty := .int) (C := RX12) (T := TX12) (N := 44) hx hb hts uinX12 tyX12 tyX12_ok nmX12 hown hK hP hD hS 0 rfl rfl 6 (by decide) (hts _ wd_6_43) (fun _ h9 => h9) rfl (by decide +kernel) rfl rfl (Nat.le_of_ble_eq_true rfl) dX12_four_27 (fun H locs hP hD hS => ?_)
  have hP : va_P (dC, dI) vwCl [(m0, .inr (11, [.int 0, .ref mwidth, .ref mmany, .ref mcells, .ref mmoved, .ref mtape, .int 8, .int 0, .int 0, .int 0, .int 0, .long 0, .int 0, .int 0, .int 0, .int (-1), .ref mlines, .ref mhas, .ref mtold, .ref mlaw, .ref msuit, .ref mapart, .ref mact, .ref misKept, .ref mseen, .ref mhung, .int 0, .ref mgoal, .ref mleaps, .ref mqueue, .ref mrow, .int 0, .ref mwanted, .ref mfirst, .ref moften, .int 0, .int 0, .int 0, .int 0, .int 0, .int 0, .ref mlots, .ref mthen, .long 0])), (mtape, .inl (cyB, 800, .inl f_16))] H := hP
  have hD : va_D A [(m0, .inr (11, [.int 0, .ref mwidth, .ref mmany, .ref mcells, .ref mmoved, .ref mtape, .int 8, .int 0, .int 0, .int 0, .int 0, .long 0, .int 0, .int 0, .int 0, .int (-1), .ref mlines, .ref mhas, .ref mtold, .ref mlaw, .ref msuit, .ref mapart, .ref mact, .ref misKept, .ref mseen, .ref mhung, .int 0, .ref mgoal, .ref mleaps, .ref mqueue, .ref mrow, .int 0, .ref mwanted, .ref mfirst, .ref moften, .int 0, .int 0, .int 0, .int 0, .int 0, .int 0, .ref mlots, .ref mthen, .long 0])), (mtape, .inl (cyB, 800, .inl f_16))] := hD
  refine lv_iinc (v := (-8)) (lv' := [(2, .int (-8)), (0, .ref m0), (1, .int p0)]) hx hb dX12_four_30 hl (k := 0) rfl (by decide) (by decide) rfl (fun ls hl => ?_)
  refine lv_goto (tgt := 3) hx hb dX12_four_33 (by decide) ?_
  refine lv_iload_n hx hb dX12_four_3 rfl (lv_at hl 0 rfl) ?_
  refine lv_if_lt (tgt := 36) hx hb dX12_four_4 (by decide) (fun _ => ?_) (fun c_17 => absurd c_17 (by decide))
  have hP9 := hP.sub (ws' := [(m0, .inr (11, [.int 0, .ref mwidth, .ref mmany, .ref mcells, .ref mmoved, .ref mtape, .int 8, .int 0, .int 0, .int 0, .int 0, .long 0, .int 0, .int 0, .int 0, .int (-1), .ref mlines, .ref mhas, .ref mtold, .ref mlaw, .ref msuit, .ref mapart, .ref mact, .ref misKept, .ref mseen, .ref mhung, .int 0, .ref mgoal, .ref mleaps, .ref mqueue, .ref mrow, .int 0, .ref mwanted, .ref mfirst, .ref moften, .int 0, .int 0, .int 0, .int 0, .int 0, .int 0, .ref mlots, .ref mthen, .long 0])), (mtape, .inl (cyB, 800, .inl f_16))]) [0, 1] rfl
  have hD9 := hD.sub (ws' := [(m0, .inr (11, [.int 0, .ref mwidth, .ref mmany, .ref mcells, .ref mmoved, .ref mtape, .int 8, .int 0, .int 0, .int 0, .int 0, .long 0, .int 0, .int 0, .int 0, .int (-1), .ref mlines, .ref mhas, .ref mtold, .ref mlaw, .ref msuit, .ref mapart, .ref mact, .ref misKept, .ref mseen, .ref mhung, .int 0, .ref mgoal, .ref mleaps, .ref mqueue, .ref mrow, .int 0, .ref mwanted, .ref mfirst, .ref moften, .int 0, .int 0, .int 0, .int 0, .int 0, .int 0, .ref mlots, .ref mthen, .long 0])), (mtape, .inl (cyB, 800, .inl f_16))]) [0, 1] (by decide) rfl
  exact W.vret hx hb hr (fun t ht hW => ⟨⟨(), rfl, trivial, ⟨f_16, by rw [ht]; exact hP9, hD9⟩⟩, hS.F ht⟩) hS.2.2 dX12_four_36

/- X12_four -/
set_option maxHeartbeats 4000000 in
set_option maxRecDepth 100000 in
theorem m_four8 (l : Launch) (dC : Nat → ClassId) (dI : Nat → Nat → Nat) (cyI cyB cyJ cyZ cyH cyN : ClassId) (sz : Nat) (m0 mwidth mmany mcells mmoved mtape mlines mhas mtold mlaw msuit mapart mact misKept mseen mhung mgoal mleaps mqueue mrow mwanted mfirst moften mlots mthen : Nat) (f : Nat → Int32) (p0 : Int32) : Met l yX12_four (wk yX12_four cX12_four 3 none) ({ frames := 1, cells := 0, slots := 0, locals := 60 }) (va_Pc [.ref m0, .int p0] (fun U => U.heap.size = sz ∧ va_P (dC, dI) vwCl [(m0, .inr (11, [.int 0, .ref mwidth, .ref mmany, .ref mcells, .ref mmoved, .ref mtape, .int 8, .int 0, .int 0, .int 0, .int 0, .long 0, .int 0, .int 0, .int 0, .int (-1), .ref mlines, .ref mhas, .ref mtold, .ref mlaw, .ref msuit, .ref mapart, .ref mact, .ref misKept, .ref mseen, .ref mhung, .int 0, .ref mgoal, .ref mleaps, .ref mqueue, .ref mrow, .int 0, .ref mwanted, .ref mfirst, .ref moften, .int 0, .int 0, .int 0, .int 0, .int 0, .int 0, .ref mlots, .ref mthen, .long 0])), (mtape, .inl (cyB, 800, .inl f))] U.heap ∧ va_K (dC, dI) vwCl [(cyI, .int), (cyB, .byte), (cyJ, .long), (cyZ, .boolean), (cyH, .object RX2), (cyN, .array .long)] U ∧ va_D (fun _ => True) [(m0, .inr (11, [.int 0, .ref mwidth, .ref mmany, .ref mcells, .ref mmoved, .ref mtape, .int 8, .int 0, .int 0, .int 0, .int 0, .long 0, .int 0, .int 0, .int 0, .int (-1), .ref mlines, .ref mhas, .ref mtold, .ref mlaw, .ref msuit, .ref mapart, .ref mact, .ref misKept, .ref mseen, .ref mhung, .int 0, .ref mgoal, .ref mleaps, .ref mqueue, .ref mrow, .int 0, .ref mwanted, .ref mfirst, .ref moften, .int 0, .int 0, .int 0, .int 0, .int 0, .int 0, .ref mlots, .ref mthen, .long 0])), (mtape, .inl (cyB, 800, .inl f))])) (va_Qv (fun _ : Unit => True) (fun (_ : Unit) (t : State) => ∃ g : Nat → Int32, va_P (dC, dI) vwCl [(m0, .inr (11, [.int 0, .ref mwidth, .ref mmany, .ref mcells, .ref mmoved, .ref mtape, .int 12, .int 0, .int 0, .int 0, .int 0, .long 0, .int 0, .int 0, .int 0, .int (-1), .ref mlines, .ref mhas, .ref mtold, .ref mlaw, .ref msuit, .ref mapart, .ref mact, .ref misKept, .ref mseen, .ref mhung, .int 0, .ref mgoal, .ref mleaps, .ref mqueue, .ref mrow, .int 0, .ref mwanted, .ref mfirst, .ref moften, .int 0, .int 0, .int 0, .int 0, .int 0, .int 0, .ref mlots, .ref mthen, .long 0])), (mtape, .inl (cyB, 800, .inl g))] t.heap ∧ va_D (va_A [(m0, .inr (11, [.int 0, .ref mwidth, .ref mmany, .ref mcells, .ref mmoved, .ref mtape, .int 8, .int 0, .int 0, .int 0, .int 0, .long 0, .int 0, .int 0, .int 0, .int (-1), .ref mlines, .ref mhas, .ref mtold, .ref mlaw, .ref msuit, .ref mapart, .ref mact, .ref misKept, .ref mseen, .ref mhung, .int 0, .ref mgoal, .ref mleaps, .ref mqueue, .ref mrow, .int 0, .ref mwanted, .ref mfirst, .ref moften, .int 0, .int 0, .int 0, .int 0, .int 0, .int 0, .ref mlots, .ref mthen, .long 0])), (mtape, .inl (cyB, 800, .inl f))] sz) [(m0, .inr (11, [.int 0, .ref mwidth, .ref mmany, .ref mcells, .ref mmoved, .ref mtape, .int 12, .int 0, .int 0, .int 0, .int 0, .long 0, .int 0, .int 0, .int 0, .int (-1), .ref mlines, .ref mhas, .ref mtold, .ref mlaw, .ref msuit, .ref mapart, .ref mact, .ref misKept, .ref mseen, .ref mhung, .int 0, .ref mgoal, .ref mleaps, .ref mqueue, .ref mrow, .int 0, .ref mwanted, .ref mfirst, .ref moften, .int 0, .int 0, .int 0, .int 0, .int 0, .int 0, .ref mlots, .ref mthen, .long 0])), (mtape, .inl (cyB, 800, .inl g))]) (va_A [(m0, .inr (11, [.int 0, .ref mwidth, .ref mmany, .ref mcells, .ref mmoved, .ref mtape, .int 8, .int 0, .int 0, .int 0, .int 0, .long 0, .int 0, .int 0, .int 0, .int (-1), .ref mlines, .ref mhas, .ref mtold, .ref mlaw, .ref msuit, .ref mapart, .ref mact, .ref misKept, .ref mseen, .ref mhung, .int 0, .ref mgoal, .ref mleaps, .ref mqueue, .ref mrow, .int 0, .ref mwanted, .ref mfirst, .ref moften, .int 0, .int 0, .int 0, .int 0, .int 0, .int 0, .ref mlots, .ref mthen, .long 0])), (mtape, .inl (cyB, 800, .inl f))] sz)) 0 0 (va_A [(m0, .inr (11, [.int 0, .ref mwidth, .ref mmany, .ref mcells, .ref mmoved, .ref mtape, .int 8, .int 0, .int 0, .int 0, .int 0, .long 0, .int 0, .int 0, .int 0, .int (-1), .ref mlines, .ref mhas, .ref mtold, .ref mlaw, .ref msuit, .ref mapart, .ref mact, .ref misKept, .ref mseen, .ref mhung, .int 0, .ref mgoal, .ref mleaps, .ref mqueue, .ref mrow, .int 0, .ref mwanted, .ref mfirst, .ref moften, .int 0, .int 0, .int 0, .int 0, .int 0, .int 0, .ref mlots, .ref mthen, .long 0])), (mtape, .inl (cyB, 800, .inl f))] sz) := by
  refine Met.ofW (cc := cX12_four) (maxL := 3) (ret := none) (by decide) rfl ?_
  intro p e s m args below meth c s₁ B hml hv
  obtain ⟨rfl, hsz, hP, hK, hD0⟩ := hv
  have hx := B.exec
  have hb := B.bytes
  have hr := B.returns
  have hts : ∀ w ∈ uU, w.before ([.ref m0, .int p0] : List Value).toArray s = true := fun w h => atoms_spec (ws := wk yX12_four cX12_four 3 none) B.pre w (List.mem_cons_of_mem _ h)
  have hown : s.vm.findClass RX12 = some m.cls := findClass_of_methodNamed B.named
  have hlocks := B.notSynchronized
  subst hsz
  have hD := hD0.self (sz := s.heap.size)
  generalize hAe : va_A [(m0, .inr (11, [.int 0, .ref mwidth, .ref mmany, .ref mcells, .ref mmoved, .ref mtape, .int 8, .int 0, .int 0, .int 0, .int 0, .long 0, .int 0, .int 0, .int 0, .int (-1), .ref mlines, .ref mhas, .ref mtold, .ref mlaw, .ref msuit, .ref mapart, .ref mact, .ref misKept, .ref mseen, .ref mhung, .int 0, .ref mgoal, .ref mleaps, .ref mqueue, .ref mrow, .int 0, .ref mwanted, .ref mfirst, .ref moften, .int 0, .int 0, .int 0, .int 0, .int 0, .int 0, .ref mlots, .ref mthen, .long 0])), (mtape, .inl (cyB, 800, .inl f))] s.heap.size = A at hD ⊢
  have hA : ∀ q : Nat, s.heap.size ≤ q → A q := fun q h => by rw [← hAe]; exact Or.inr h
  have hS : va_S A s.heap s.heap [] := va_S.rf
  have hP : va_P (dC, dI) vwCl [(m0, .inr (11, [.int 0, .ref mwidth, .ref mmany, .ref mcells, .ref mmoved, .ref mtape, .int 8, .int 0, .int 0, .int 0, .int 0, .long 0, .int 0, .int 0, .int 0, .int (-1), .ref mlines, .ref mhas, .ref mtold, .ref mlaw, .ref msuit, .ref mapart, .ref mact, .ref misKept, .ref mseen, .ref mhung, .int 0, .ref mgoal, .ref mleaps, .ref mqueue, .ref mrow, .int 0, .ref mwanted, .ref mfirst, .ref moften, .int 0, .int 0, .int 0, .int 0, .int 0, .int 0, .ref mlots, .ref mthen, .long 0])), (mtape, .inl (cyB, 800, .inl f))] s.heap := hP
  have hl := lv_entry ([.ref m0, .int p0]) (n := 3) (Nat.le_of_ble_eq_true rfl)
  rw [lg_entry_eq]
  generalize (lg_sl ([.ref m0, .int p0]) ++ List.replicate (3 - (lg_sl ([.ref m0, .int p0])).length) Slot.unset).toArray = ls at hl ⊢
  have hl : lv_has ls 3 [(0, .ref m0), (1, .int p0)] := hl
  obtain ⟨H, hHe⟩ : ∃ H, H = s.heap := ⟨_, rfl⟩
  have hP : va_P (dC, dI) vwCl [(m0, .inr (11, [.int 0, .ref mwidth, .ref mmany, .ref mcells, .ref mmoved, .ref mtape, .int 8, .int 0, .int 0, .int 0, .int 0, .long 0, .int 0, .int 0, .int 0, .int (-1), .ref mlines, .ref mhas, .ref mtold, .ref mlaw, .ref msuit, .ref mapart, .ref mact, .ref misKept, .ref mseen, .ref mhung, .int 0, .ref mgoal, .ref mleaps, .ref mqueue, .ref mrow, .int 0, .ref mwanted, .ref mfirst, .ref moften, .int 0, .int 0, .int 0, .int 0, .int 0, .int 0, .ref mlots, .ref mthen, .long 0])), (mtape, .inl (cyB, 800, .inl f))] H := by rw [hHe]; exact hP
  have hS : va_S A s.heap H [] := by rw [hHe]; exact hS
  refine cv_heap hHe ?_
  refine lv_bipush (v := 24) hx hb dX12_four_0 (by decide) ?_
  refine lv_istore_n (lv' := [(2, .int 24), (0, .ref m0), (1, .int p0)]) hx hb dX12_four_2 rfl hl (by decide) rfl (fun ls hl => ?_)
  refine lv_iload_n hx hb dX12_four_3 rfl (lv_at hl 0 rfl) ?_
  refine lv_if_lt (tgt := 36) hx hb dX12_four_4 (by decide) (fun c_1 => absurd c_1 (by decide)) (fun _ => ?_)
  refine lv_aload_n hx hb dX12_four_7 rfl (lv_at hl 1 rfl) ?_
  refine va_get (D := (dC, dI)) (ci := 11) (v := .ref mtape) (C := RX12) (T := TX12) (N := 44) hx hb hts uinX12 hown hK hP 0 rfl rfl 5 (by decide) (hts _ wd_6_42) (fun _ h9 => h9) rfl dX12_four_8 ?_
  refine lv_aload_n hx hb dX12_four_11 rfl (lv_at hl 1 rfl) ?_
  refine va_get (D := (dC, dI)) (ci := 11) (v := .int 8) (C := RX12) (T := TX12) (N := 44) hx hb hts uinX12 hown hK hP 0 rfl rfl 6 (by decide) (hts _ wd_6_43) (fun _ h9 => h9) rfl dX12_four_12 ?_
  refine lv_iload_n hx hb dX12_four_15 rfl (lv_at hl 2 rfl) ?_
  refine lv_iload_n hx hb dX12_four_16 rfl (lv_at hl 0 rfl) ?_
  refine lv_ishr hx hb dX12_four_17 ?_
  refine lv_topi (fun x_2 ex_2 => ?_)
  refine lv_i2b hx hb dX12_four_18 rfl ?_
  refine lv_topi (fun x_3 ex_3 => ?_)
  refine va_bast hx hb hK hP hD hS 1 1 rfl rfl (vp_in_iff.mpr (by decide)) dX12_four_19 (fun H locs hP hD hS => ?_)
  obtain ⟨f_4, ef_4⟩ : ∃ z9 : Nat → Int32, z9 = upd f (8 : Int32).toNatClampNeg (vp_nar .byte x_3) := ⟨_, rfl⟩
  rw [← ef_4] at hP hD
  have hP : va_P (dC, dI) vwCl [(m0, .inr (11, [.int 0, .ref mwidth, .ref mmany, .ref mcells, .ref mmoved, .ref mtape, .int 8, .int 0, .int 0, .int 0, .int 0, .long 0, .int 0, .int 0, .int 0, .int (-1), .ref mlines, .ref mhas, .ref mtold, .ref mlaw, .ref msuit, .ref mapart, .ref mact, .ref misKept, .ref mseen, .ref mhung, .int 0, .ref mgoal, .ref mleaps, .ref mqueue, .ref mrow, .int 0, .ref mwanted, .ref mfirst, .ref moften, .int 0, .int 0, .int 0, .int 0, .int 0, .int 0, .ref mlots, .ref mthen, .long 0])), (mtape, .inl (cyB, 800, .inl f_4))] H := hP
  have hD : va_D A [(m0, .inr (11, [.int 0, .ref mwidth, .ref mmany, .ref mcells, .ref mmoved, .ref mtape, .int 8, .int 0, .int 0, .int 0, .int 0, .long 0, .int 0, .int 0, .int 0, .int (-1), .ref mlines, .ref mhas, .ref mtold, .ref mlaw, .ref msuit, .ref mapart, .ref mact, .ref misKept, .ref mseen, .ref mhung, .int 0, .ref mgoal, .ref mleaps, .ref mqueue, .ref mrow, .int 0, .ref mwanted, .ref mfirst, .ref moften, .int 0, .int 0, .int 0, .int 0, .int 0, .int 0, .ref mlots, .ref mthen, .long 0])), (mtape, .inl (cyB, 800, .inl f_4))] := hD
  refine lv_aload_n hx hb dX12_four_20 rfl (lv_at hl 1 rfl) ?_
  refine lv_dup hx hb dX12_four_21 rfl ?_
  refine va_get (D := (dC, dI)) (ci := 11) (v := .int 8) (C := RX12) (T := TX12) (N := 44) hx hb hts uinX12 hown hK hP 0 rfl rfl 6 (by decide) (hts _ wd_6_43) (fun _ h9 => h9) rfl dX12_four_22 ?_
  refine lv_iconst (v := 1) hx hb dX12_four_25 (by decide) ?_
  refine lv_iadd hx hb dX12_four_26 ?_
  refine cv_topi (b := 9) (by decide) ?_
  refine va_put (D := (dC, dI)) (ci := 11) (v := .int 9) (ty := .int) (C := RX12) (T := TX12) (N := 44) hx hb hts uinX12 tyX12 tyX12_ok nmX12 hown hK hP hD hS 0 rfl rfl 6 (by decide) (hts _ wd_6_43) (fun _ h9 => h9) rfl (by decide +kernel) rfl rfl (Nat.le_of_ble_eq_true rfl) dX12_four_27 (fun H locs hP hD hS => ?_)
  have hP : va_P (dC, dI) vwCl [(m0, .inr (11, [.int 0, .ref mwidth, .ref mmany, .ref mcells, .ref mmoved, .ref mtape, .int 9, .int 0, .int 0, .int 0, .int 0, .long 0, .int 0, .int 0, .int 0, .int (-1), .ref mlines, .ref mhas, .ref mtold, .ref mlaw, .ref msuit, .ref mapart, .ref mact, .ref misKept, .ref mseen, .ref mhung, .int 0, .ref mgoal, .ref mleaps, .ref mqueue, .ref mrow, .int 0, .ref mwanted, .ref mfirst, .ref moften, .int 0, .int 0, .int 0, .int 0, .int 0, .int 0, .ref mlots, .ref mthen, .long 0])), (mtape, .inl (cyB, 800, .inl f_4))] H := hP
  have hD : va_D A [(m0, .inr (11, [.int 0, .ref mwidth, .ref mmany, .ref mcells, .ref mmoved, .ref mtape, .int 9, .int 0, .int 0, .int 0, .int 0, .long 0, .int 0, .int 0, .int 0, .int (-1), .ref mlines, .ref mhas, .ref mtold, .ref mlaw, .ref msuit, .ref mapart, .ref mact, .ref misKept, .ref mseen, .ref mhung, .int 0, .ref mgoal, .ref mleaps, .ref mqueue, .ref mrow, .int 0, .ref mwanted, .ref mfirst, .ref moften, .int 0, .int 0, .int 0, .int 0, .int 0, .int 0, .ref mlots, .ref mthen, .long 0])), (mtape, .inl (cyB, 800, .inl f_4))] := hD
  refine lv_iinc (v := 16) (lv' := [(2, .int 16), (0, .ref m0), (1, .int p0)]) hx hb dX12_four_30 hl (k := 0) rfl (by decide) (by decide) rfl (fun ls hl => ?_)
  refine lv_goto (tgt := 3) hx hb dX12_four_33 (by decide) ?_
  refine lv_iload_n hx hb dX12_four_3 rfl (lv_at hl 0 rfl) ?_
  refine lv_if_lt (tgt := 36) hx hb dX12_four_4 (by decide) (fun c_5 => absurd c_5 (by decide)) (fun _ => ?_)
  refine lv_aload_n hx hb dX12_four_7 rfl (lv_at hl 1 rfl) ?_
  refine va_get (D := (dC, dI)) (ci := 11) (v := .ref mtape) (C := RX12) (T := TX12) (N := 44) hx hb hts uinX12 hown hK hP 0 rfl rfl 5 (by decide) (hts _ wd_6_42) (fun _ h9 => h9) rfl dX12_four_8 ?_
  refine lv_aload_n hx hb dX12_four_11 rfl (lv_at hl 1 rfl) ?_
  refine va_get (D := (dC, dI)) (ci := 11) (v := .int 9) (C := RX12) (T := TX12) (N := 44) hx hb hts uinX12 hown hK hP 0 rfl rfl 6 (by decide) (hts _ wd_6_43) (fun _ h9 => h9) rfl dX12_four_12 ?_
  refine lv_iload_n hx hb dX12_four_15 rfl (lv_at hl 2 rfl) ?_
  refine lv_iload_n hx hb dX12_four_16 rfl (lv_at hl 0 rfl) ?_
  refine lv_ishr hx hb dX12_four_17 ?_
  refine lv_topi (fun x_6 ex_6 => ?_)
  refine lv_i2b hx hb dX12_four_18 rfl ?_
  refine lv_topi (fun x_7 ex_7 => ?_)
  refine va_bast hx hb hK hP hD hS 1 1 rfl rfl (vp_in_iff.mpr (by decide)) dX12_four_19 (fun H locs hP hD hS => ?_)
  obtain ⟨f_8, ef_8⟩ : ∃ z9 : Nat → Int32, z9 = upd f_4 (9 : Int32).toNatClampNeg (vp_nar .byte x_7) := ⟨_, rfl⟩
  rw [← ef_8] at hP hD
  have hP : va_P (dC, dI) vwCl [(m0, .inr (11, [.int 0, .ref mwidth, .ref mmany, .ref mcells, .ref mmoved, .ref mtape, .int 9, .int 0, .int 0, .int 0, .int 0, .long 0, .int 0, .int 0, .int 0, .int (-1), .ref mlines, .ref mhas, .ref mtold, .ref mlaw, .ref msuit, .ref mapart, .ref mact, .ref misKept, .ref mseen, .ref mhung, .int 0, .ref mgoal, .ref mleaps, .ref mqueue, .ref mrow, .int 0, .ref mwanted, .ref mfirst, .ref moften, .int 0, .int 0, .int 0, .int 0, .int 0, .int 0, .ref mlots, .ref mthen, .long 0])), (mtape, .inl (cyB, 800, .inl f_8))] H := hP
  have hD : va_D A [(m0, .inr (11, [.int 0, .ref mwidth, .ref mmany, .ref mcells, .ref mmoved, .ref mtape, .int 9, .int 0, .int 0, .int 0, .int 0, .long 0, .int 0, .int 0, .int 0, .int (-1), .ref mlines, .ref mhas, .ref mtold, .ref mlaw, .ref msuit, .ref mapart, .ref mact, .ref misKept, .ref mseen, .ref mhung, .int 0, .ref mgoal, .ref mleaps, .ref mqueue, .ref mrow, .int 0, .ref mwanted, .ref mfirst, .ref moften, .int 0, .int 0, .int 0, .int 0, .int 0, .int 0, .ref mlots, .ref mthen, .long 0])), (mtape, .inl (cyB, 800, .inl f_8))] := hD
  refine lv_aload_n hx hb dX12_four_20 rfl (lv_at hl 1 rfl) ?_
  refine lv_dup hx hb dX12_four_21 rfl ?_
  refine va_get (D := (dC, dI)) (ci := 11) (v := .int 9) (C := RX12) (T := TX12) (N := 44) hx hb hts uinX12 hown hK hP 0 rfl rfl 6 (by decide) (hts _ wd_6_43) (fun _ h9 => h9) rfl dX12_four_22 ?_
  refine lv_iconst (v := 1) hx hb dX12_four_25 (by decide) ?_
  refine lv_iadd hx hb dX12_four_26 ?_
  refine cv_topi (b := 10) (by decide) ?_
  refine va_put (D := (dC, dI)) (ci := 11) (v := .int 10) (ty := .int) (C := RX12) (T := TX12) (N := 44) hx hb hts uinX12 tyX12 tyX12_ok nmX12 hown hK hP hD hS 0 rfl rfl 6 (by decide) (hts _ wd_6_43) (fun _ h9 => h9) rfl (by decide +kernel) rfl rfl (Nat.le_of_ble_eq_true rfl) dX12_four_27 (fun H locs hP hD hS => ?_)
  have hP : va_P (dC, dI) vwCl [(m0, .inr (11, [.int 0, .ref mwidth, .ref mmany, .ref mcells, .ref mmoved, .ref mtape, .int 10, .int 0, .int 0, .int 0, .int 0, .long 0, .int 0, .int 0, .int 0, .int (-1), .ref mlines, .ref mhas, .ref mtold, .ref mlaw, .ref msuit, .ref mapart, .ref mact, .ref misKept, .ref mseen, .ref mhung, .int 0, .ref mgoal, .ref mleaps, .ref mqueue, .ref mrow, .int 0, .ref mwanted, .ref mfirst, .ref moften, .int 0, .int 0, .int 0, .int 0, .int 0, .int 0, .ref mlots, .ref mthen, .long 0])), (mtape, .inl (cyB, 800, .inl f_8))] H := hP
  have hD : va_D A [(m0, .inr (11, [.int 0, .ref mwidth, .ref mmany, .ref mcells, .ref mmoved, .ref mtape, .int 10, .int 0, .int 0, .int 0, .int 0, .long 0, .int 0, .int 0, .int 0, .int (-1), .ref mlines, .ref mhas, .ref mtold, .ref mlaw, .ref msuit, .ref mapart, .ref mact, .ref misKept, .ref mseen, .ref mhung, .int 0, .ref mgoal, .ref mleaps, .ref mqueue, .ref mrow, .int 0, .ref mwanted, .ref mfirst, .ref moften, .int 0, .int 0, .int 0, .int 0, .int 0, .int 0, .ref mlots, .ref mthen, .long 0])), (mtape, .inl (cyB, 800, .inl f_8))] := hD
  refine lv_iinc (v := 8) (lv' := [(2, .int 8), (0, .ref m0), (1, .int p0)]) hx hb dX12_four_30 hl (k := 0) rfl (by decide) (by decide) rfl (fun ls hl => ?_)
  refine lv_goto (tgt := 3) hx hb dX12_four_33 (by decide) ?_
  refine lv_iload_n hx hb dX12_four_3 rfl (lv_at hl 0 rfl) ?_
  refine lv_if_lt (tgt := 36) hx hb dX12_four_4 (by decide) (fun c_9 => absurd c_9 (by decide)) (fun _ => ?_)
  refine lv_aload_n hx hb dX12_four_7 rfl (lv_at hl 1 rfl) ?_
  refine va_get (D := (dC, dI)) (ci := 11) (v := .ref mtape) (C := RX12) (T := TX12) (N := 44) hx hb hts uinX12 hown hK hP 0 rfl rfl 5 (by decide) (hts _ wd_6_42) (fun _ h9 => h9) rfl dX12_four_8 ?_
  refine lv_aload_n hx hb dX12_four_11 rfl (lv_at hl 1 rfl) ?_
  refine va_get (D := (dC, dI)) (ci := 11) (v := .int 10) (C := RX12) (T := TX12) (N := 44) hx hb hts uinX12 hown hK hP 0 rfl rfl 6 (by decide) (hts _ wd_6_43) (fun _ h9 => h9) rfl dX12_four_12 ?_
  refine lv_iload_n hx hb dX12_four_15 rfl (lv_at hl 2 rfl) ?_
  refine lv_iload_n hx hb dX12_four_16 rfl (lv_at hl 0 rfl) ?_
  refine lv_ishr hx hb dX12_four_17 ?_
  refine lv_topi (fun x_10 ex_10 => ?_)
  refine lv_i2b hx hb dX12_four_18 rfl ?_
  refine lv_topi (fun x_11 ex_11 => ?_)
  refine va_bast hx hb hK hP hD hS 1 1 rfl rfl (vp_in_iff.mpr (by decide)) dX12_four_19 (fun H locs hP hD hS => ?_)
  obtain ⟨f_12, ef_12⟩ : ∃ z9 : Nat → Int32, z9 = upd f_8 (10 : Int32).toNatClampNeg (vp_nar .byte x_11) := ⟨_, rfl⟩
  rw [← ef_12] at hP hD
  have hP : va_P (dC, dI) vwCl [(m0, .inr (11, [.int 0, .ref mwidth, .ref mmany, .ref mcells, .ref mmoved, .ref mtape, .int 10, .int 0, .int 0, .int 0, .int 0, .long 0, .int 0, .int 0, .int 0, .int (-1), .ref mlines, .ref mhas, .ref mtold, .ref mlaw, .ref msuit, .ref mapart, .ref mact, .ref misKept, .ref mseen, .ref mhung, .int 0, .ref mgoal, .ref mleaps, .ref mqueue, .ref mrow, .int 0, .ref mwanted, .ref mfirst, .ref moften, .int 0, .int 0, .int 0, .int 0, .int 0, .int 0, .ref mlots, .ref mthen, .long 0])), (mtape, .inl (cyB, 800, .inl f_12))] H := hP
  have hD : va_D A [(m0, .inr (11, [.int 0, .ref mwidth, .ref mmany, .ref mcells, .ref mmoved, .ref mtape, .int 10, .int 0, .int 0, .int 0, .int 0, .long 0, .int 0, .int 0, .int 0, .int (-1), .ref mlines, .ref mhas, .ref mtold, .ref mlaw, .ref msuit, .ref mapart, .ref mact, .ref misKept, .ref mseen, .ref mhung, .int 0, .ref mgoal, .ref mleaps, .ref mqueue, .ref mrow, .int 0, .ref mwanted, .ref mfirst, .ref moften, .int 0, .int 0, .int 0, .int 0, .int 0, .int 0, .ref mlots, .ref mthen, .long 0])), (mtape, .inl (cyB, 800, .inl f_12))] := hD
  refine lv_aload_n hx hb dX12_four_20 rfl (lv_at hl 1 rfl) ?_
  refine lv_dup hx hb dX12_four_21 rfl ?_
  refine va_get (D := (dC, dI)) (ci := 11) (v := .int 10) (C := RX12) (T := TX12) (N := 44) hx hb hts uinX12 hown hK hP 0 rfl rfl 6 (by decide) (hts _ wd_6_43) (fun _ h9 => h9) rfl dX12_four_22 ?_
  refine lv_iconst (v := 1) hx hb dX12_four_25 (by decide) ?_
  refine lv_iadd hx hb dX12_four_26 ?_
  refine cv_topi (b := 11) (by decide) ?_
  refine va_put (D := (dC, dI)) (ci := 11) (v := .int 11) (ty := .int) (C := RX12) (T := TX12) (N := 44) hx hb hts uinX12 tyX12 tyX12_ok nmX12 hown hK hP hD hS 0 rfl rfl 6 (by decide) (hts _ wd_6_43) (fun _ h9 => h9) rfl (by decide +kernel) rfl rfl (Nat.le_of_ble_eq_true rfl) dX12_four_27 (fun H locs hP hD hS => ?_)
  have hP : va_P (dC, dI) vwCl [(m0, .inr (11, [.int 0, .ref mwidth, .ref mmany, .ref mcells, .ref mmoved, .ref mtape, .int 11, .int 0, .int 0, .int 0, .int 0, .long 0, .int 0, .int 0, .int 0, .int (-1), .ref mlines, .ref mhas, .ref mtold, .ref mlaw, .ref msuit, .ref mapart, .ref mact, .ref misKept, .ref mseen, .ref mhung, .int 0, .ref mgoal, .ref mleaps, .ref mqueue, .ref mrow, .int 0, .ref mwanted, .ref mfirst, .ref moften, .int 0, .int 0, .int 0, .int 0, .int 0, .int 0, .ref mlots, .ref mthen, .long 0])), (mtape, .inl (cyB, 800, .inl f_12))] H := hP
  have hD : va_D A [(m0, .inr (11, [.int 0, .ref mwidth, .ref mmany, .ref mcells, .ref mmoved, .ref mtape, .int 11, .int 0, .int 0, .int 0, .int 0, .long 0, .int 0, .int 0, .int 0, .int (-1), .ref mlines, .ref mhas, .ref mtold, .ref mlaw, .ref msuit, .ref mapart, .ref mact, .ref misKept, .ref mseen, .ref mhung, .int 0, .ref mgoal, .ref mleaps, .ref mqueue, .ref mrow, .int 0, .ref mwanted, .ref mfirst, .ref moften, .int 0, .int 0, .int 0, .int 0, .int 0, .int 0, .ref mlots, .ref mthen, .long 0])), (mtape, .inl (cyB, 800, .inl f_12))] := hD
  refine lv_iinc (v := 0) (lv' := [(2, .int 0), (0, .ref m0), (1, .int p0)]) hx hb dX12_four_30 hl (k := 0) rfl (by decide) (by decide) rfl (fun ls hl => ?_)
  refine lv_goto (tgt := 3) hx hb dX12_four_33 (by decide) ?_
  refine lv_iload_n hx hb dX12_four_3 rfl (lv_at hl 0 rfl) ?_
  refine lv_if_lt (tgt := 36) hx hb dX12_four_4 (by decide) (fun c_13 => absurd c_13 (by decide)) (fun _ => ?_)
  refine lv_aload_n hx hb dX12_four_7 rfl (lv_at hl 1 rfl) ?_
  refine va_get (D := (dC, dI)) (ci := 11) (v := .ref mtape) (C := RX12) (T := TX12) (N := 44) hx hb hts uinX12 hown hK hP 0 rfl rfl 5 (by decide) (hts _ wd_6_42) (fun _ h9 => h9) rfl dX12_four_8 ?_
  refine lv_aload_n hx hb dX12_four_11 rfl (lv_at hl 1 rfl) ?_
  refine va_get (D := (dC, dI)) (ci := 11) (v := .int 11) (C := RX12) (T := TX12) (N := 44) hx hb hts uinX12 hown hK hP 0 rfl rfl 6 (by decide) (hts _ wd_6_43) (fun _ h9 => h9) rfl dX12_four_12 ?_
  refine lv_iload_n hx hb dX12_four_15 rfl (lv_at hl 2 rfl) ?_
  refine lv_iload_n hx hb dX12_four_16 rfl (lv_at hl 0 rfl) ?_
  refine lv_ishr hx hb dX12_four_17 ?_
  refine lv_topi (fun x_14 ex_14 => ?_)
  refine lv_i2b hx hb dX12_four_18 rfl ?_
  refine lv_topi (fun x_15 ex_15 => ?_)
  refine va_bast hx hb hK hP hD hS 1 1 rfl rfl (vp_in_iff.mpr (by decide)) dX12_four_19 (fun H locs hP hD hS => ?_)
  obtain ⟨f_16, ef_16⟩ : ∃ z9 : Nat → Int32, z9 = upd f_12 (11 : Int32).toNatClampNeg (vp_nar .byte x_15) := ⟨_, rfl⟩
  rw [← ef_16] at hP hD
  have hP : va_P (dC, dI) vwCl [(m0, .inr (11, [.int 0, .ref mwidth, .ref mmany, .ref mcells, .ref mmoved, .ref mtape, .int 11, .int 0, .int 0, .int 0, .int 0, .long 0, .int 0, .int 0, .int 0, .int (-1), .ref mlines, .ref mhas, .ref mtold, .ref mlaw, .ref msuit, .ref mapart, .ref mact, .ref misKept, .ref mseen, .ref mhung, .int 0, .ref mgoal, .ref mleaps, .ref mqueue, .ref mrow, .int 0, .ref mwanted, .ref mfirst, .ref moften, .int 0, .int 0, .int 0, .int 0, .int 0, .int 0, .ref mlots, .ref mthen, .long 0])), (mtape, .inl (cyB, 800, .inl f_16))] H := hP
  have hD : va_D A [(m0, .inr (11, [.int 0, .ref mwidth, .ref mmany, .ref mcells, .ref mmoved, .ref mtape, .int 11, .int 0, .int 0, .int 0, .int 0, .long 0, .int 0, .int 0, .int 0, .int (-1), .ref mlines, .ref mhas, .ref mtold, .ref mlaw, .ref msuit, .ref mapart, .ref mact, .ref misKept, .ref mseen, .ref mhung, .int 0, .ref mgoal, .ref mleaps, .ref mqueue, .ref mrow, .int 0, .ref mwanted, .ref mfirst, .ref moften, .int 0, .int 0, .int 0, .int 0, .int 0, .int 0, .ref mlots, .ref mthen, .long 0])), (mtape, .inl (cyB, 800, .inl f_16))] := hD
  refine lv_aload_n hx hb dX12_four_20 rfl (lv_at hl 1 rfl) ?_
  refine lv_dup hx hb dX12_four_21 rfl ?_
  refine va_get (D := (dC, dI)) (ci := 11) (v := .int 11) (C := RX12) (T := TX12) (N := 44) hx hb hts uinX12 hown hK hP 0 rfl rfl 6 (by decide) (hts _ wd_6_43) (fun _ h9 => h9) rfl dX12_four_22 ?_
  refine lv_iconst (v := 1) hx hb dX12_four_25 (by decide) ?_
  refine lv_iadd hx hb dX12_four_26 ?_
  refine cv_topi (b := 12) (by decide) ?_
  refine va_put (D := (dC, dI)) (ci := 11) (v := .int 12) (ty := .int) (C := RX12) (T := TX12) (N := 44) hx hb hts uinX12 tyX12 tyX12_ok nmX12 hown hK hP hD hS 0 rfl rfl 6 (by decide) (hts _ wd_6_43) (fun _ h9 => h9) rfl (by decide +kernel) rfl rfl (Nat.le_of_ble_eq_true rfl) dX12_four_27 (fun H locs hP hD hS => ?_)
  have hP : va_P (dC, dI) vwCl [(m0, .inr (11, [.int 0, .ref mwidth, .ref mmany, .ref mcells, .ref mmoved, .ref mtape, .int 12, .int 0, .int 0, .int 0, .int 0, .long 0, .int 0, .int 0, .int 0, .int (-1), .ref mlines, .ref mhas, .ref mtold, .ref mlaw, .ref msuit, .ref mapart, .ref mact, .ref misKept, .ref mseen, .ref mhung, .int 0, .ref mgoal, .ref mleaps, .ref mqueue, .ref mrow, .int 0, .ref mwanted, .ref mfirst, .ref moften, .int 0, .int 0, .int 0, .int 0, .int 0, .int 0, .ref mlots, .ref mthen, .long 0])), (mtape, .inl (cyB, 800, .inl f_16))] H := hP
  have hD : va_D A [(m0, .inr (11, [.int 0, .ref mwidth, .ref mmany, .ref mcells, .ref mmoved, .ref mtape, .int 12, .int 0, .int 0, .int 0, .int 0, .long 0, .int 0, .int 0, .int 0, .int (-1), .ref mlines, .ref mhas, .ref mtold, .ref mlaw, .ref msuit, .ref mapart, .ref mact, .ref misKept, .ref mseen, .ref mhung, .int 0, .ref mgoal, .ref mleaps, .ref mqueue, .ref mrow, .int 0, .ref mwanted, .ref mfirst, .ref moften, .int 0, .int 0, .int 0, .int 0, .int 0, .int 0, .ref mlots, .ref mthen, .long 0])), (mtape, .inl (cyB, 800, .inl f_16))] := hD
  refine lv_iinc (v := (-8)) (lv' := [(2, .int (-8)), (0, .ref m0), (1, .int p0)]) hx hb dX12_four_30 hl (k := 0) rfl (by decide) (by decide) rfl (fun ls hl => ?_)
  refine lv_goto (tgt := 3) hx hb dX12_four_33 (by decide) ?_
  refine lv_iload_n hx hb dX12_four_3 rfl (lv_at hl 0 rfl) ?_
  refine lv_if_lt (tgt := 36) hx hb dX12_four_4 (by decide) (fun _ => ?_) (fun c_17 => absurd c_17 (by decide))
  have hP9 := hP.sub (ws' := [(m0, .inr (11, [.int 0, .ref mwidth, .ref mmany, .ref mcells, .ref mmoved, .ref mtape, .int 12, .int 0, .int 0, .int 0, .int 0, .long 0, .int 0, .int 0, .int 0, .int (-1), .ref mlines, .ref mhas, .ref mtold, .ref mlaw, .ref msuit, .ref mapart, .ref mact, .ref misKept, .ref mseen, .ref mhung, .int 0, .ref mgoal, .ref mleaps, .ref mqueue, .ref mrow, .int 0, .ref mwanted, .ref mfirst, .ref moften, .int 0, .int 0, .int 0, .int 0, .int 0, .int 0, .ref mlots, .ref mthen, .long 0])), (mtape, .inl (cyB, 800, .inl f_16))]) [0, 1] rfl
  have hD9 := hD.sub (ws' := [(m0, .inr (11, [.int 0, .ref mwidth, .ref mmany, .ref mcells, .ref mmoved, .ref mtape, .int 12, .int 0, .int 0, .int 0, .int 0, .long 0, .int 0, .int 0, .int 0, .int (-1), .ref mlines, .ref mhas, .ref mtold, .ref mlaw, .ref msuit, .ref mapart, .ref mact, .ref misKept, .ref mseen, .ref mhung, .int 0, .ref mgoal, .ref mleaps, .ref mqueue, .ref mrow, .int 0, .ref mwanted, .ref mfirst, .ref moften, .int 0, .int 0, .int 0, .int 0, .int 0, .int 0, .ref mlots, .ref mthen, .long 0])), (mtape, .inl (cyB, 800, .inl f_16))]) [0, 1] (by decide) rfl
  exact W.vret hx hb hr (fun t ht hW => ⟨⟨(), rfl, trivial, ⟨f_16, by rw [ht]; exact hP9, hD9⟩⟩, hS.F ht⟩) hS.2.2 dX12_four_36

/- X12_four -/
set_option maxHeartbeats 4000000 in
set_option maxRecDepth 100000 in
theorem m_four12 (l : Launch) (dC : Nat → ClassId) (dI : Nat → Nat → Nat) (cyI cyB cyJ cyZ cyH cyN : ClassId) (sz : Nat) (m0 mwidth mmany mcells mmoved mtape mlines mhas mtold mlaw msuit mapart mact misKept mseen mhung mgoal mleaps mqueue mrow mwanted mfirst moften mlots mthen : Nat) (f : Nat → Int32) (p0 : Int32) : Met l yX12_four (wk yX12_four cX12_four 3 none) ({ frames := 1, cells := 0, slots := 0, locals := 60 }) (va_Pc [.ref m0, .int p0] (fun U => U.heap.size = sz ∧ va_P (dC, dI) vwCl [(m0, .inr (11, [.int 0, .ref mwidth, .ref mmany, .ref mcells, .ref mmoved, .ref mtape, .int 12, .int 0, .int 0, .int 0, .int 0, .long 0, .int 0, .int 0, .int 0, .int (-1), .ref mlines, .ref mhas, .ref mtold, .ref mlaw, .ref msuit, .ref mapart, .ref mact, .ref misKept, .ref mseen, .ref mhung, .int 0, .ref mgoal, .ref mleaps, .ref mqueue, .ref mrow, .int 0, .ref mwanted, .ref mfirst, .ref moften, .int 0, .int 0, .int 0, .int 0, .int 0, .int 0, .ref mlots, .ref mthen, .long 0])), (mtape, .inl (cyB, 800, .inl f))] U.heap ∧ va_K (dC, dI) vwCl [(cyI, .int), (cyB, .byte), (cyJ, .long), (cyZ, .boolean), (cyH, .object RX2), (cyN, .array .long)] U ∧ va_D (fun _ => True) [(m0, .inr (11, [.int 0, .ref mwidth, .ref mmany, .ref mcells, .ref mmoved, .ref mtape, .int 12, .int 0, .int 0, .int 0, .int 0, .long 0, .int 0, .int 0, .int 0, .int (-1), .ref mlines, .ref mhas, .ref mtold, .ref mlaw, .ref msuit, .ref mapart, .ref mact, .ref misKept, .ref mseen, .ref mhung, .int 0, .ref mgoal, .ref mleaps, .ref mqueue, .ref mrow, .int 0, .ref mwanted, .ref mfirst, .ref moften, .int 0, .int 0, .int 0, .int 0, .int 0, .int 0, .ref mlots, .ref mthen, .long 0])), (mtape, .inl (cyB, 800, .inl f))])) (va_Qv (fun _ : Unit => True) (fun (_ : Unit) (t : State) => ∃ g : Nat → Int32, va_P (dC, dI) vwCl [(m0, .inr (11, [.int 0, .ref mwidth, .ref mmany, .ref mcells, .ref mmoved, .ref mtape, .int 16, .int 0, .int 0, .int 0, .int 0, .long 0, .int 0, .int 0, .int 0, .int (-1), .ref mlines, .ref mhas, .ref mtold, .ref mlaw, .ref msuit, .ref mapart, .ref mact, .ref misKept, .ref mseen, .ref mhung, .int 0, .ref mgoal, .ref mleaps, .ref mqueue, .ref mrow, .int 0, .ref mwanted, .ref mfirst, .ref moften, .int 0, .int 0, .int 0, .int 0, .int 0, .int 0, .ref mlots, .ref mthen, .long 0])), (mtape, .inl (cyB, 800, .inl g))] t.heap ∧ va_D (va_A [(m0, .inr (11, [.int 0, .ref mwidth, .ref mmany, .ref mcells, .ref mmoved, .ref mtape, .int 12, .int 0, .int 0, .int 0, .int 0, .long 0, .int 0, .int 0, .int 0, .int (-1), .ref mlines, .ref mhas, .ref mtold, .ref mlaw, .ref msuit, .ref mapart, .ref mact, .ref misKept, .ref mseen, .ref mhung, .int 0, .ref mgoal, .ref mleaps, .ref mqueue, .ref mrow, .int 0, .ref mwanted, .ref mfirst, .ref moften, .int 0, .int 0, .int 0, .int 0, .int 0, .int 0, .ref mlots, .ref mthen, .long 0])), (mtape, .inl (cyB, 800, .inl f))] sz) [(m0, .inr (11, [.int 0, .ref mwidth, .ref mmany, .ref mcells, .ref mmoved, .ref mtape, .int 16, .int 0, .int 0, .int 0, .int 0, .long 0, .int 0, .int 0, .int 0, .int (-1), .ref mlines, .ref mhas, .ref mtold, .ref mlaw, .ref msuit, .ref mapart, .ref mact, .ref misKept, .ref mseen, .ref mhung, .int 0, .ref mgoal, .ref mleaps, .ref mqueue, .ref mrow, .int 0, .ref mwanted, .ref mfirst, .ref moften, .int 0, .int 0, .int 0, .int 0, .int 0, .int 0, .ref mlots, .ref mthen, .long 0])), (mtape, .inl (cyB, 800, .inl g))]) (va_A [(m0, .inr (11, [.int 0, .ref mwidth, .ref mmany, .ref mcells, .ref mmoved, .ref mtape, .int 12, .int 0, .int 0, .int 0, .int 0, .long 0, .int 0, .int 0, .int 0, .int (-1), .ref mlines, .ref mhas, .ref mtold, .ref mlaw, .ref msuit, .ref mapart, .ref mact, .ref misKept, .ref mseen, .ref mhung, .int 0, .ref mgoal, .ref mleaps, .ref mqueue, .ref mrow, .int 0, .ref mwanted, .ref mfirst, .ref moften, .int 0, .int 0, .int 0, .int 0, .int 0, .int 0, .ref mlots, .ref mthen, .long 0])), (mtape, .inl (cyB, 800, .inl f))] sz)) 0 0 (va_A [(m0, .inr (11, [.int 0, .ref mwidth, .ref mmany, .ref mcells, .ref mmoved, .ref mtape, .int 12, .int 0, .int 0, .int 0, .int 0, .long 0, .int 0, .int 0, .int 0, .int (-1), .ref mlines, .ref mhas, .ref mtold, .ref mlaw, .ref msuit, .ref mapart, .ref mact, .ref misKept, .ref mseen, .ref mhung, .int 0, .ref mgoal, .ref mleaps, .ref mqueue, .ref mrow, .int 0, .ref mwanted, .ref mfirst, .ref moften, .int 0, .int 0, .int 0, .int 0, .int 0, .int 0, .ref mlots, .ref mthen, .long 0])), (mtape, .inl (cyB, 800, .inl f))] sz) := by
  refine Met.ofW (cc := cX12_four) (maxL := 3) (ret := none) (by decide) rfl ?_
  intro p e s m args below meth c s₁ B hml hv
  obtain ⟨rfl, hsz, hP, hK, hD0⟩ := hv
  have hx := B.exec
  have hb := B.bytes
  have hr := B.returns
  have hts : ∀ w ∈ uU, w.before ([.ref m0, .int p0] : List Value).toArray s = true := fun w h => atoms_spec (ws := wk yX12_four cX12_four 3 none) B.pre w (List.mem_cons_of_mem _ h)
  have hown : s.vm.findClass RX12 = some m.cls := findClass_of_methodNamed B.named
  have hlocks := B.notSynchronized
  subst hsz
  have hD := hD0.self (sz := s.heap.size)
  generalize hAe : va_A [(m0, .inr (11, [.int 0, .ref mwidth, .ref mmany, .ref mcells, .ref mmoved, .ref mtape, .int 12, .int 0, .int 0, .int 0, .int 0, .long 0, .int 0, .int 0, .int 0, .int (-1), .ref mlines, .ref mhas, .ref mtold, .ref mlaw, .ref msuit, .ref mapart, .ref mact, .ref misKept, .ref mseen, .ref mhung, .int 0, .ref mgoal, .ref mleaps, .ref mqueue, .ref mrow, .int 0, .ref mwanted, .ref mfirst, .ref moften, .int 0, .int 0, .int 0, .int 0, .int 0, .int 0, .ref mlots, .ref mthen, .long 0])), (mtape, .inl (cyB, 800, .inl f))] s.heap.size = A at hD ⊢
  have hA : ∀ q : Nat, s.heap.size ≤ q → A q := fun q h => by rw [← hAe]; exact Or.inr h
  have hS : va_S A s.heap s.heap [] := va_S.rf
  have hP : va_P (dC, dI) vwCl [(m0, .inr (11, [.int 0, .ref mwidth, .ref mmany, .ref mcells, .ref mmoved, .ref mtape, .int 12, .int 0, .int 0, .int 0, .int 0, .long 0, .int 0, .int 0, .int 0, .int (-1), .ref mlines, .ref mhas, .ref mtold, .ref mlaw, .ref msuit, .ref mapart, .ref mact, .ref misKept, .ref mseen, .ref mhung, .int 0, .ref mgoal, .ref mleaps, .ref mqueue, .ref mrow, .int 0, .ref mwanted, .ref mfirst, .ref moften, .int 0, .int 0, .int 0, .int 0, .int 0, .int 0, .ref mlots, .ref mthen, .long 0])), (mtape, .inl (cyB, 800, .inl f))] s.heap := hP
  have hl := lv_entry ([.ref m0, .int p0]) (n := 3) (Nat.le_of_ble_eq_true rfl)
  rw [lg_entry_eq]
  generalize (lg_sl ([.ref m0, .int p0]) ++ List.replicate (3 - (lg_sl ([.ref m0, .int p0])).length) Slot.unset).toArray = ls at hl ⊢
  have hl : lv_has ls 3 [(0, .ref m0), (1, .int p0)] := hl
  obtain ⟨H, hHe⟩ : ∃ H, H = s.heap := ⟨_, rfl⟩
  have hP : va_P (dC, dI) vwCl [(m0, .inr (11, [.int 0, .ref mwidth, .ref mmany, .ref mcells, .ref mmoved, .ref mtape, .int 12, .int 0, .int 0, .int 0, .int 0, .long 0, .int 0, .int 0, .int 0, .int (-1), .ref mlines, .ref mhas, .ref mtold, .ref mlaw, .ref msuit, .ref mapart, .ref mact, .ref misKept, .ref mseen, .ref mhung, .int 0, .ref mgoal, .ref mleaps, .ref mqueue, .ref mrow, .int 0, .ref mwanted, .ref mfirst, .ref moften, .int 0, .int 0, .int 0, .int 0, .int 0, .int 0, .ref mlots, .ref mthen, .long 0])), (mtape, .inl (cyB, 800, .inl f))] H := by rw [hHe]; exact hP
  have hS : va_S A s.heap H [] := by rw [hHe]; exact hS
  refine cv_heap hHe ?_
  refine lv_bipush (v := 24) hx hb dX12_four_0 (by decide) ?_
  refine lv_istore_n (lv' := [(2, .int 24), (0, .ref m0), (1, .int p0)]) hx hb dX12_four_2 rfl hl (by decide) rfl (fun ls hl => ?_)
  refine lv_iload_n hx hb dX12_four_3 rfl (lv_at hl 0 rfl) ?_
  refine lv_if_lt (tgt := 36) hx hb dX12_four_4 (by decide) (fun c_1 => absurd c_1 (by decide)) (fun _ => ?_)
  refine lv_aload_n hx hb dX12_four_7 rfl (lv_at hl 1 rfl) ?_
  refine va_get (D := (dC, dI)) (ci := 11) (v := .ref mtape) (C := RX12) (T := TX12) (N := 44) hx hb hts uinX12 hown hK hP 0 rfl rfl 5 (by decide) (hts _ wd_6_42) (fun _ h9 => h9) rfl dX12_four_8 ?_
  refine lv_aload_n hx hb dX12_four_11 rfl (lv_at hl 1 rfl) ?_
  refine va_get (D := (dC, dI)) (ci := 11) (v := .int 12) (C := RX12) (T := TX12) (N := 44) hx hb hts uinX12 hown hK hP 0 rfl rfl 6 (by decide) (hts _ wd_6_43) (fun _ h9 => h9) rfl dX12_four_12 ?_
  refine lv_iload_n hx hb dX12_four_15 rfl (lv_at hl 2 rfl) ?_
  refine lv_iload_n hx hb dX12_four_16 rfl (lv_at hl 0 rfl) ?_
  refine lv_ishr hx hb dX12_four_17 ?_
  refine lv_topi (fun x_2 ex_2 => ?_)
  refine lv_i2b hx hb dX12_four_18 rfl ?_
  refine lv_topi (fun x_3 ex_3 => ?_)
  refine va_bast hx hb hK hP hD hS 1 1 rfl rfl (vp_in_iff.mpr (by decide)) dX12_four_19 (fun H locs hP hD hS => ?_)
  obtain ⟨f_4, ef_4⟩ : ∃ z9 : Nat → Int32, z9 = upd f (12 : Int32).toNatClampNeg (vp_nar .byte x_3) := ⟨_, rfl⟩
  rw [← ef_4] at hP hD
  have hP : va_P (dC, dI) vwCl [(m0, .inr (11, [.int 0, .ref mwidth, .ref mmany, .ref mcells, .ref mmoved, .ref mtape, .int 12, .int 0, .int 0, .int 0, .int 0, .long 0, .int 0, .int 0, .int 0, .int (-1), .ref mlines, .ref mhas, .ref mtold, .ref mlaw, .ref msuit, .ref mapart, .ref mact, .ref misKept, .ref mseen, .ref mhung, .int 0, .ref mgoal, .ref mleaps, .ref mqueue, .ref mrow, .int 0, .ref mwanted, .ref mfirst, .ref moften, .int 0, .int 0, .int 0, .int 0, .int 0, .int 0, .ref mlots, .ref mthen, .long 0])), (mtape, .inl (cyB, 800, .inl f_4))] H := hP
  have hD : va_D A [(m0, .inr (11, [.int 0, .ref mwidth, .ref mmany, .ref mcells, .ref mmoved, .ref mtape, .int 12, .int 0, .int 0, .int 0, .int 0, .long 0, .int 0, .int 0, .int 0, .int (-1), .ref mlines, .ref mhas, .ref mtold, .ref mlaw, .ref msuit, .ref mapart, .ref mact, .ref misKept, .ref mseen, .ref mhung, .int 0, .ref mgoal, .ref mleaps, .ref mqueue, .ref mrow, .int 0, .ref mwanted, .ref mfirst, .ref moften, .int 0, .int 0, .int 0, .int 0, .int 0, .int 0, .ref mlots, .ref mthen, .long 0])), (mtape, .inl (cyB, 800, .inl f_4))] := hD
  refine lv_aload_n hx hb dX12_four_20 rfl (lv_at hl 1 rfl) ?_
  refine lv_dup hx hb dX12_four_21 rfl ?_
  refine va_get (D := (dC, dI)) (ci := 11) (v := .int 12) (C := RX12) (T := TX12) (N := 44) hx hb hts uinX12 hown hK hP 0 rfl rfl 6 (by decide) (hts _ wd_6_43) (fun _ h9 => h9) rfl dX12_four_22 ?_
  refine lv_iconst (v := 1) hx hb dX12_four_25 (by decide) ?_
  refine lv_iadd hx hb dX12_four_26 ?_
  refine cv_topi (b := 13) (by decide) ?_
  refine va_put (D := (dC, dI)) (ci := 11) (v := .int 13) (ty := .int) (C := RX12) (T := TX12) (N := 44) hx hb hts uinX12 tyX12 tyX12_ok nmX12 hown hK hP hD hS 0 rfl rfl 6 (by decide) (hts _ wd_6_43) (fun _ h9 => h9) rfl (by decide +kernel) rfl rfl (Nat.le_of_ble_eq_true rfl) dX12_four_27 (fun H locs hP hD hS => ?_)
  have hP : va_P (dC, dI) vwCl [(m0, .inr (11, [.int 0, .ref mwidth, .ref mmany, .ref mcells, .ref mmoved, .ref mtape, .int 13, .int 0, .int 0, .int 0, .int 0, .long 0, .int 0, .int 0, .int 0, .int (-1), .ref mlines, .ref mhas, .ref mtold, .ref mlaw, .ref msuit, .ref mapart, .ref mact, .ref misKept, .ref mseen, .ref mhung, .int 0, .ref mgoal, .ref mleaps, .ref mqueue, .ref mrow, .int 0, .ref mwanted, .ref mfirst, .ref moften, .int 0, .int 0, .int 0, .int 0, .int 0, .int 0, .ref mlots, .ref mthen, .long 0])), (mtape, .inl (cyB, 800, .inl f_4))] H := hP
  have hD : va_D A [(m0, .inr (11, [.int 0, .ref mwidth, .ref mmany, .ref mcells, .ref mmoved, .ref mtape, .int 13, .int 0, .int 0, .int 0, .int 0, .long 0, .int 0, .int 0, .int 0, .int (-1), .ref mlines, .ref mhas, .ref mtold, .ref mlaw, .ref msuit, .ref mapart, .ref mact, .ref misKept, .ref mseen, .ref mhung, .int 0, .ref mgoal, .ref mleaps, .ref mqueue, .ref mrow, .int 0, .ref mwanted, .ref mfirst, .ref moften, .int 0, .int 0, .int 0, .int 0, .int 0, .int 0, .ref mlots, .ref mthen, .long 0])), (mtape, .inl (cyB, 800, .inl f_4))] := hD
  refine lv_iinc (v := 16) (lv' := [(2, .int 16), (0, .ref m0), (1, .int p0)]) hx hb dX12_four_30 hl (k := 0) rfl (by decide) (by decide) rfl (fun ls hl => ?_)
  refine lv_goto (tgt := 3) hx hb dX12_four_33 (by decide) ?_
  refine lv_iload_n hx hb dX12_four_3 rfl (lv_at hl 0 rfl) ?_
  refine lv_if_lt (tgt := 36) hx hb dX12_four_4 (by decide) (fun c_5 => absurd c_5 (by decide)) (fun _ => ?_)
  refine lv_aload_n hx hb dX12_four_7 rfl (lv_at hl 1 rfl) ?_
  refine va_get (D := (dC, dI)) (ci := 11) (v := .ref mtape) (C := RX12) (T := TX12) (N := 44) hx hb hts uinX12 hown hK hP 0 rfl rfl 5 (by decide) (hts _ wd_6_42) (fun _ h9 => h9) rfl dX12_four_8 ?_
  refine lv_aload_n hx hb dX12_four_11 rfl (lv_at hl 1 rfl) ?_
  refine va_get (D := (dC, dI)) (ci := 11) (v := .int 13) (C := RX12) (T := TX12) (N := 44) hx hb hts uinX12 hown hK hP 0 rfl rfl 6 (by decide) (hts _ wd_6_43) (fun _ h9 => h9) rfl dX12_four_12 ?_
  refine lv_iload_n hx hb dX12_four_15 rfl (lv_at hl 2 rfl) ?_
  refine lv_iload_n hx hb dX12_four_16 rfl (lv_at hl 0 rfl) ?_
  refine lv_ishr hx hb dX12_four_17 ?_
  refine lv_topi (fun x_6 ex_6 => ?_)
  refine lv_i2b hx hb dX12_four_18 rfl ?_
  refine lv_topi (fun x_7 ex_7 => ?_)
  refine va_bast hx hb hK hP hD hS 1 1 rfl rfl (vp_in_iff.mpr (by decide)) dX12_four_19 (fun H locs hP hD hS => ?_)
  obtain ⟨f_8, ef_8⟩ : ∃ z9 : Nat → Int32, z9 = upd f_4 (13 : Int32).toNatClampNeg (vp_nar .byte x_7) := ⟨_, rfl⟩
  rw [← ef_8] at hP hD
  have hP : va_P (dC, dI) vwCl [(m0, .inr (11, [.int 0, .ref mwidth, .ref mmany, .ref mcells, .ref mmoved, .ref mtape, .int 13, .int 0, .int 0, .int 0, .int 0, .long 0, .int 0, .int 0, .int 0, .int (-1), .ref mlines, .ref mhas, .ref mtold, .ref mlaw, .ref msuit, .ref mapart, .ref mact, .ref misKept, .ref mseen, .ref mhung, .int 0, .ref mgoal, .ref mleaps, .ref mqueue, .ref mrow, .int 0, .ref mwanted, .ref mfirst, .ref moften, .int 0, .int 0, .int 0, .int 0, .int 0, .int 0, .ref mlots, .ref mthen, .long 0])), (mtape, .inl (cyB, 800, .inl f_8))] H := hP
  have hD : va_D A [(m0, .inr (11, [.int 0, .ref mwidth, .ref mmany, .ref mcells, .ref mmoved, .ref mtape, .int 13, .int 0, .int 0, .int 0, .int 0, .long 0, .int 0, .int 0, .int 0, .int (-1), .ref mlines, .ref mhas, .ref mtold, .ref mlaw, .ref msuit, .ref mapart, .ref mact, .ref misKept, .ref mseen, .ref mhung, .int 0, .ref mgoal, .ref mleaps, .ref mqueue, .ref mrow, .int 0, .ref mwanted, .ref mfirst, .ref moften, .int 0, .int 0, .int 0, .int 0, .int 0, .int 0, .ref mlots, .ref mthen, .long 0])), (mtape, .inl (cyB, 800, .inl f_8))] := hD
  refine lv_aload_n hx hb dX12_four_20 rfl (lv_at hl 1 rfl) ?_
  refine lv_dup hx hb dX12_four_21 rfl ?_
  refine va_get (D := (dC, dI)) (ci := 11) (v := .int 13) (C := RX12) (T := TX12) (N := 44) hx hb hts uinX12 hown hK hP 0 rfl rfl 6 (by decide) (hts _ wd_6_43) (fun _ h9 => h9) rfl dX12_four_22 ?_
  refine lv_iconst (v := 1) hx hb dX12_four_25 (by decide) ?_
  refine lv_iadd hx hb dX12_four_26 ?_
  refine cv_topi (b := 14) (by decide) ?_
  refine va_put (D := (dC, dI)) (ci := 11) (v := .int 14) (ty := .int) (C := RX12) (T := TX12) (N := 44) hx hb hts uinX12 tyX12 tyX12_ok nmX12 hown hK hP hD hS 0 rfl rfl 6 (by decide) (hts _ wd_6_43) (fun _ h9 => h9) rfl (by decide +kernel) rfl rfl (Nat.le_of_ble_eq_true rfl) dX12_four_27 (fun H locs hP hD hS => ?_)
  have hP : va_P (dC, dI) vwCl [(m0, .inr (11, [.int 0, .ref mwidth, .ref mmany, .ref mcells, .ref mmoved, .ref mtape, .int 14, .int 0, .int 0, .int 0, .int 0, .long 0, .int 0, .int 0, .int 0, .int (-1), .ref mlines, .ref mhas, .ref mtold, .ref mlaw, .ref msuit, .ref mapart, .ref mact, .ref misKept, .ref mseen, .ref mhung, .int 0, .ref mgoal, .ref mleaps, .ref mqueue, .ref mrow, .int 0, .ref mwanted, .ref mfirst, .ref moften, .int 0, .int 0, .int 0, .int 0, .int 0, .int 0, .ref mlots, .ref mthen, .long 0])), (mtape, .inl (cyB, 800, .inl f_8))] H := hP
  have hD : va_D A [(m0, .inr (11, [.int 0, .ref mwidth, .ref mmany, .ref mcells, .ref mmoved, .ref mtape, .int 14, .int 0, .int 0, .int 0, .int 0, .long 0, .int 0, .int 0, .int 0, .int (-1), .ref mlines, .ref mhas, .ref mtold, .ref mlaw, .ref msuit, .ref mapart, .ref mact, .ref misKept, .ref mseen, .ref mhung, .int 0, .ref mgoal, .ref mleaps, .ref mqueue, .ref mrow, .int 0, .ref mwanted, .ref mfirst, .ref moften, .int 0, .int 0, .int 0, .int 0, .int 0, .int 0, .ref mlots, .ref mthen, .long 0])), (mtape, .inl (cyB, 800, .inl f_8))] := hD
  refine lv_iinc (v := 8) (lv' := [(2, .int 8), (0, .ref m0), (1, .int p0)]) hx hb dX12_four_30 hl (k := 0) rfl (by decide) (by decide) rfl (fun ls hl => ?_)
  refine lv_goto (tgt := 3) hx hb dX12_four_33 (by decide) ?_
  refine lv_iload_n hx hb dX12_four_3 rfl (lv_at hl 0 rfl) ?_
  refine lv_if_lt (tgt := 36) hx hb dX12_four_4 (by decide) (fun c_9 => absurd c_9 (by decide)) (fun _ => ?_)
  refine lv_aload_n hx hb dX12_four_7 rfl (lv_at hl 1 rfl) ?_
  refine va_get (D := (dC, dI)) (ci := 11) (v := .ref mtape) (C := RX12) (T := TX12) (N := 44) hx hb hts uinX12 hown hK hP 0 rfl rfl 5 (by decide) (hts _ wd_6_42) (fun _ h9 => h9) rfl dX12_four_8 ?_
  refine lv_aload_n hx hb dX12_four_11 rfl (lv_at hl 1 rfl) ?_
  refine va_get (D := (dC, dI)) (ci := 11) (v := .int 14) (C := RX12) (T := TX12) (N := 44) hx hb hts uinX12 hown hK hP 0 rfl rfl 6 (by decide) (hts _ wd_6_43) (fun _ h9 => h9) rfl dX12_four_12 ?_
  refine lv_iload_n hx hb dX12_four_15 rfl (lv_at hl 2 rfl) ?_
  refine lv_iload_n hx hb dX12_four_16 rfl (lv_at hl 0 rfl) ?_
  refine lv_ishr hx hb dX12_four_17 ?_
  refine lv_topi (fun x_10 ex_10 => ?_)
  refine lv_i2b hx hb dX12_four_18 rfl ?_
  refine lv_topi (fun x_11 ex_11 => ?_)
  refine va_bast hx hb hK hP hD hS 1 1 rfl rfl (vp_in_iff.mpr (by decide)) dX12_four_19 (fun H locs hP hD hS => ?_)
  obtain ⟨f_12, ef_12⟩ : ∃ z9 : Nat → Int32, z9 = upd f_8 (14 : Int32).toNatClampNeg (vp_nar .byte x_11) := ⟨_, rfl⟩
  rw [← ef_12] at hP hD
  have hP : va_P (dC, dI) vwCl [(m0, .inr (11, [.int 0, .ref mwidth, .ref mmany, .ref mcells, .ref mmoved, .ref mtape, .int 14, .int 0, .int 0, .int 0, .int 0, .long 0, .int 0, .int 0, .int 0, .int (-1), .ref mlines, .ref mhas, .ref mtold, .ref mlaw, .ref msuit, .ref mapart, .ref mact, .ref misKept, .ref mseen, .ref mhung, .int 0, .ref mgoal, .ref mleaps, .ref mqueue, .ref mrow, .int 0, .ref mwanted, .ref mfirst, .ref moften, .int 0, .int 0, .int 0, .int 0, .int 0, .int 0, .ref mlots, .ref mthen, .long 0])), (mtape, .inl (cyB, 800, .inl f_12))] H := hP
  have hD : va_D A [(m0, .inr (11, [.int 0, .ref mwidth, .ref mmany, .ref mcells, .ref mmoved, .ref mtape, .int 14, .int 0, .int 0, .int 0, .int 0, .long 0, .int 0, .int 0, .int 0, .int (-1), .ref mlines, .ref mhas, .ref mtold, .ref mlaw, .ref msuit, .ref mapart, .ref mact, .ref misKept, .ref mseen, .ref mhung, .int 0, .ref mgoal, .ref mleaps, .ref mqueue, .ref mrow, .int 0, .ref mwanted, .ref mfirst, .ref moften, .int 0, .int 0, .int 0, .int 0, .int 0, .int 0, .ref mlots, .ref mthen, .long 0])), (mtape, .inl (cyB, 800, .inl f_12))] := hD
  refine lv_aload_n hx hb dX12_four_20 rfl (lv_at hl 1 rfl) ?_
  refine lv_dup hx hb dX12_four_21 rfl ?_
  refine va_get (D := (dC, dI)) (ci := 11) (v := .int 14) (C := RX12) (T := TX12) (N := 44) hx hb hts uinX12 hown hK hP 0 rfl rfl 6 (by decide) (hts _ wd_6_43) (fun _ h9 => h9) rfl dX12_four_22 ?_
  refine lv_iconst (v := 1) hx hb dX12_four_25 (by decide) ?_
  refine lv_iadd hx hb dX12_four_26 ?_
  refine cv_topi (b := 15) (by decide) ?_
  refine va_put (D := (dC, dI)) (ci := 11) (v := .int 15) (ty := .int) (C := RX12) (T := TX12) (N := 44) hx hb hts uinX12 tyX12 tyX12_ok nmX12 hown hK hP hD hS 0 rfl rfl 6 (by decide) (hts _ wd_6_43) (fun _ h9 => h9) rfl (by decide +kernel) rfl rfl (Nat.le_of_ble_eq_true rfl) dX12_four_27 (fun H locs hP hD hS => ?_)
  have hP : va_P (dC, dI) vwCl [(m0, .inr (11, [.int 0, .ref mwidth, .ref mmany, .ref mcells, .ref mmoved, .ref mtape, .int 15, .int 0, .int 0, .int 0, .int 0, .long 0, .int 0, .int 0, .int 0, .int (-1), .ref mlines, .ref mhas, .ref mtold, .ref mlaw, .ref msuit, .ref mapart, .ref mact, .ref misKept, .ref mseen, .ref mhung, .int 0, .ref mgoal, .ref mleaps, .ref mqueue, .ref mrow, .int 0, .ref mwanted, .ref mfirst, .ref moften, .int 0, .int 0, .int 0, .int 0, .int 0, .int 0, .ref mlots, .ref mthen, .long 0])), (mtape, .inl (cyB, 800, .inl f_12))] H := hP
  have hD : va_D A [(m0, .inr (11, [.int 0, .ref mwidth, .ref mmany, .ref mcells, .ref mmoved, .ref mtape, .int 15, .int 0, .int 0, .int 0, .int 0, .long 0, .int 0, .int 0, .int 0, .int (-1), .ref mlines, .ref mhas, .ref mtold, .ref mlaw, .ref msuit, .ref mapart, .ref mact, .ref misKept, .ref mseen, .ref mhung, .int 0, .ref mgoal, .ref mleaps, .ref mqueue, .ref mrow, .int 0, .ref mwanted, .ref mfirst, .ref moften, .int 0, .int 0, .int 0, .int 0, .int 0, .int 0, .ref mlots, .ref mthen, .long 0])), (mtape, .inl (cyB, 800, .inl f_12))] := hD
  refine lv_iinc (v := 0) (lv' := [(2, .int 0), (0, .ref m0), (1, .int p0)]) hx hb dX12_four_30 hl (k := 0) rfl (by decide) (by decide) rfl (fun ls hl => ?_)
  refine lv_goto (tgt := 3) hx hb dX12_four_33 (by decide) ?_
  refine lv_iload_n hx hb dX12_four_3 rfl (lv_at hl 0 rfl) ?_
  refine lv_if_lt (tgt := 36) hx hb dX12_four_4 (by decide) (fun c_13 => absurd c_13 (by decide)) (fun _ => ?_)
  refine lv_aload_n hx hb dX12_four_7 rfl (lv_at hl 1 rfl) ?_
  refine va_get (D := (dC, dI)) (ci := 11) (v := .ref mtape) (C := RX12) (T := TX12) (N := 44) hx hb hts uinX12 hown hK hP 0 rfl rfl 5 (by decide) (hts _ wd_6_42) (fun _ h9 => h9) rfl dX12_four_8 ?_
  refine lv_aload_n hx hb dX12_four_11 rfl (lv_at hl 1 rfl) ?_
  refine va_get (D := (dC, dI)) (ci := 11) (v := .int 15) (C := RX12) (T := TX12) (N := 44) hx hb hts uinX12 hown hK hP 0 rfl rfl 6 (by decide) (hts _ wd_6_43) (fun _ h9 => h9) rfl dX12_four_12 ?_
  refine lv_iload_n hx hb dX12_four_15 rfl (lv_at hl 2 rfl) ?_
  refine lv_iload_n hx hb dX12_four_16 rfl (lv_at hl 0 rfl) ?_
  refine lv_ishr hx hb dX12_four_17 ?_
  refine lv_topi (fun x_14 ex_14 => ?_)
  refine lv_i2b hx hb dX12_four_18 rfl ?_
  refine lv_topi (fun x_15 ex_15 => ?_)
  refine va_bast hx hb hK hP hD hS 1 1 rfl rfl (vp_in_iff.mpr (by decide)) dX12_four_19 (fun H locs hP hD hS => ?_)
  obtain ⟨f_16, ef_16⟩ : ∃ z9 : Nat → Int32, z9 = upd f_12 (15 : Int32).toNatClampNeg (vp_nar .byte x_15) := ⟨_, rfl⟩
  rw [← ef_16] at hP hD
  have hP : va_P (dC, dI) vwCl [(m0, .inr (11, [.int 0, .ref mwidth, .ref mmany, .ref mcells, .ref mmoved, .ref mtape, .int 15, .int 0, .int 0, .int 0, .int 0, .long 0, .int 0, .int 0, .int 0, .int (-1), .ref mlines, .ref mhas, .ref mtold, .ref mlaw, .ref msuit, .ref mapart, .ref mact, .ref misKept, .ref mseen, .ref mhung, .int 0, .ref mgoal, .ref mleaps, .ref mqueue, .ref mrow, .int 0, .ref mwanted, .ref mfirst, .ref moften, .int 0, .int 0, .int 0, .int 0, .int 0, .int 0, .ref mlots, .ref mthen, .long 0])), (mtape, .inl (cyB, 800, .inl f_16))] H := hP
  have hD : va_D A [(m0, .inr (11, [.int 0, .ref mwidth, .ref mmany, .ref mcells, .ref mmoved, .ref mtape, .int 15, .int 0, .int 0, .int 0, .int 0, .long 0, .int 0, .int 0, .int 0, .int (-1), .ref mlines, .ref mhas, .ref mtold, .ref mlaw, .ref msuit, .ref mapart, .ref mact, .ref misKept, .ref mseen, .ref mhung, .int 0, .ref mgoal, .ref mleaps, .ref mqueue, .ref mrow, .int 0, .ref mwanted, .ref mfirst, .ref moften, .int 0, .int 0, .int 0, .int 0, .int 0, .int 0, .ref mlots, .ref mthen, .long 0])), (mtape, .inl (cyB, 800, .inl f_16))] := hD
  refine lv_aload_n hx hb dX12_four_20 rfl (lv_at hl 1 rfl) ?_
  refine lv_dup hx hb dX12_four_21 rfl ?_
  refine va_get (D := (dC, dI)) (ci := 11) (v := .int 15) (C := RX12) (T := TX12) (N := 44) hx hb hts uinX12 hown hK hP 0 rfl rfl 6 (by decide) (hts _ wd_6_43) (fun _ h9 => h9) rfl dX12_four_22 ?_
  refine lv_iconst (v := 1) hx hb dX12_four_25 (by decide) ?_
  refine lv_iadd hx hb dX12_four_26 ?_
  refine cv_topi (b := 16) (by decide) ?_
  refine va_put (D := (dC, dI)) (ci := 11) (v := .int 16) (ty := .int) (C := RX12) (T := TX12) (N := 44) hx hb hts uinX12 tyX12 tyX12_ok nmX12 hown hK hP hD hS 0 rfl rfl 6 (by decide) (hts _ wd_6_43) (fun _ h9 => h9) rfl (by decide +kernel) rfl rfl (Nat.le_of_ble_eq_true rfl) dX12_four_27 (fun H locs hP hD hS => ?_)
  have hP : va_P (dC, dI) vwCl [(m0, .inr (11, [.int 0, .ref mwidth, .ref mmany, .ref mcells, .ref mmoved, .ref mtape, .int 16, .int 0, .int 0, .int 0, .int 0, .long 0, .int 0, .int 0, .int 0, .int (-1), .ref mlines, .ref mhas, .ref mtold, .ref mlaw, .ref msuit, .ref mapart, .ref mact, .ref misKept, .ref mseen, .ref mhung, .int 0, .ref mgoal, .ref mleaps, .ref mqueue, .ref mrow, .int 0, .ref mwanted, .ref mfirst, .ref moften, .int 0, .int 0, .int 0, .int 0, .int 0, .int 0, .ref mlots, .ref mthen, .long 0])), (mtape, .inl (cyB, 800, .inl f_16))] H := hP
  have hD : va_D A [(m0, .inr (11, [.int 0, .ref mwidth, .ref mmany, .ref mcells, .ref mmoved, .ref mtape, .int 16, .int 0, .int 0, .int 0, .int 0, .long 0, .int 0, .int 0, .int 0, .int (-1), .ref mlines, .ref mhas, .ref mtold, .ref mlaw, .ref msuit, .ref mapart, .ref mact, .ref misKept, .ref mseen, .ref mhung, .int 0, .ref mgoal, .ref mleaps, .ref mqueue, .ref mrow, .int 0, .ref mwanted, .ref mfirst, .ref moften, .int 0, .int 0, .int 0, .int 0, .int 0, .int 0, .ref mlots, .ref mthen, .long 0])), (mtape, .inl (cyB, 800, .inl f_16))] := hD
  refine lv_iinc (v := (-8)) (lv' := [(2, .int (-8)), (0, .ref m0), (1, .int p0)]) hx hb dX12_four_30 hl (k := 0) rfl (by decide) (by decide) rfl (fun ls hl => ?_)
  refine lv_goto (tgt := 3) hx hb dX12_four_33 (by decide) ?_
  refine lv_iload_n hx hb dX12_four_3 rfl (lv_at hl 0 rfl) ?_
  refine lv_if_lt (tgt := 36) hx hb dX12_four_4 (by decide) (fun _ => ?_) (fun c_17 => absurd c_17 (by decide))
  have hP9 := hP.sub (ws' := [(m0, .inr (11, [.int 0, .ref mwidth, .ref mmany, .ref mcells, .ref mmoved, .ref mtape, .int 16, .int 0, .int 0, .int 0, .int 0, .long 0, .int 0, .int 0, .int 0, .int (-1), .ref mlines, .ref mhas, .ref mtold, .ref mlaw, .ref msuit, .ref mapart, .ref mact, .ref misKept, .ref mseen, .ref mhung, .int 0, .ref mgoal, .ref mleaps, .ref mqueue, .ref mrow, .int 0, .ref mwanted, .ref mfirst, .ref moften, .int 0, .int 0, .int 0, .int 0, .int 0, .int 0, .ref mlots, .ref mthen, .long 0])), (mtape, .inl (cyB, 800, .inl f_16))]) [0, 1] rfl
  have hD9 := hD.sub (ws' := [(m0, .inr (11, [.int 0, .ref mwidth, .ref mmany, .ref mcells, .ref mmoved, .ref mtape, .int 16, .int 0, .int 0, .int 0, .int 0, .long 0, .int 0, .int 0, .int 0, .int (-1), .ref mlines, .ref mhas, .ref mtold, .ref mlaw, .ref msuit, .ref mapart, .ref mact, .ref misKept, .ref mseen, .ref mhung, .int 0, .ref mgoal, .ref mleaps, .ref mqueue, .ref mrow, .int 0, .ref mwanted, .ref mfirst, .ref moften, .int 0, .int 0, .int 0, .int 0, .int 0, .int 0, .ref mlots, .ref mthen, .long 0])), (mtape, .inl (cyB, 800, .inl f_16))]) [0, 1] (by decide) rfl
  exact W.vret hx hb hr (fun t ht hW => ⟨⟨(), rfl, trivial, ⟨f_16, by rw [ht]; exact hP9, hD9⟩⟩, hS.F ht⟩) hS.2.2 dX12_four_36

/- X12_four -/
set_option maxHeartbeats 4000000 in
set_option maxRecDepth 100000 in
theorem m_four16 (l : Launch) (dC : Nat → ClassId) (dI : Nat → Nat → Nat) (cyI cyB cyJ cyZ cyH cyN : ClassId) (sz : Nat) (m0 mwidth mmany mcells mmoved mtape mlines mhas mtold mlaw msuit mapart mact misKept mseen mhung mgoal mleaps mqueue mrow mwanted mfirst moften mlots mthen : Nat) (f : Nat → Int32) (p0 : Int32) : Met l yX12_four (wk yX12_four cX12_four 3 none) ({ frames := 1, cells := 0, slots := 0, locals := 60 }) (va_Pc [.ref m0, .int p0] (fun U => U.heap.size = sz ∧ va_P (dC, dI) vwCl [(m0, .inr (11, [.int 0, .ref mwidth, .ref mmany, .ref mcells, .ref mmoved, .ref mtape, .int 16, .int 0, .int 0, .int 0, .int 0, .long 0, .int 0, .int 0, .int 0, .int (-1), .ref mlines, .ref mhas, .ref mtold, .ref mlaw, .ref msuit, .ref mapart, .ref mact, .ref misKept, .ref mseen, .ref mhung, .int 0, .ref mgoal, .ref mleaps, .ref mqueue, .ref mrow, .int 0, .ref mwanted, .ref mfirst, .ref moften, .int 0, .int 0, .int 0, .int 0, .int 0, .int 0, .ref mlots, .ref mthen, .long 0])), (mtape, .inl (cyB, 800, .inl f))] U.heap ∧ va_K (dC, dI) vwCl [(cyI, .int), (cyB, .byte), (cyJ, .long), (cyZ, .boolean), (cyH, .object RX2), (cyN, .array .long)] U ∧ va_D (fun _ => True) [(m0, .inr (11, [.int 0, .ref mwidth, .ref mmany, .ref mcells, .ref mmoved, .ref mtape, .int 16, .int 0, .int 0, .int 0, .int 0, .long 0, .int 0, .int 0, .int 0, .int (-1), .ref mlines, .ref mhas, .ref mtold, .ref mlaw, .ref msuit, .ref mapart, .ref mact, .ref misKept, .ref mseen, .ref mhung, .int 0, .ref mgoal, .ref mleaps, .ref mqueue, .ref mrow, .int 0, .ref mwanted, .ref mfirst, .ref moften, .int 0, .int 0, .int 0, .int 0, .int 0, .int 0, .ref mlots, .ref mthen, .long 0])), (mtape, .inl (cyB, 800, .inl f))])) (va_Qv (fun _ : Unit => True) (fun (_ : Unit) (t : State) => ∃ g : Nat → Int32, va_P (dC, dI) vwCl [(m0, .inr (11, [.int 0, .ref mwidth, .ref mmany, .ref mcells, .ref mmoved, .ref mtape, .int 20, .int 0, .int 0, .int 0, .int 0, .long 0, .int 0, .int 0, .int 0, .int (-1), .ref mlines, .ref mhas, .ref mtold, .ref mlaw, .ref msuit, .ref mapart, .ref mact, .ref misKept, .ref mseen, .ref mhung, .int 0, .ref mgoal, .ref mleaps, .ref mqueue, .ref mrow, .int 0, .ref mwanted, .ref mfirst, .ref moften, .int 0, .int 0, .int 0, .int 0, .int 0, .int 0, .ref mlots, .ref mthen, .long 0])), (mtape, .inl (cyB, 800, .inl g))] t.heap ∧ va_D (va_A [(m0, .inr (11, [.int 0, .ref mwidth, .ref mmany, .ref mcells, .ref mmoved, .ref mtape, .int 16, .int 0, .int 0, .int 0, .int 0, .long 0, .int 0, .int 0, .int 0, .int (-1), .ref mlines, .ref mhas, .ref mtold, .ref mlaw, .ref msuit, .ref mapart, .ref mact, .ref misKept, .ref mseen, .ref mhung, .int 0, .ref mgoal, .ref mleaps, .ref mqueue, .ref mrow, .int 0, .ref mwanted, .ref mfirst, .ref moften, .int 0, .int 0, .int 0, .int 0, .int 0, .int 0, .ref mlots, .ref mthen, .long 0])), (mtape, .inl (cyB, 800, .inl f))] sz) [(m0, .inr (11, [.int 0, .ref mwidth, .ref mmany, .ref mcells, .ref mmoved, .ref mtape, .int 20, .int 0, .int 0, .int 0, .int 0, .long 0, .int 0, .int 0, .int 0, .int (-1), .ref mlines, .ref mhas, .ref mtold, .ref mlaw, .ref msuit, .ref mapart, .ref mact, .ref misKept, .ref mseen, .ref mhung, .int 0, .ref mgoal, .ref mleaps, .ref mqueue, .ref mrow, .int 0, .ref mwanted, .ref mfirst, .ref moften, .int 0, .int 0, .int 0, .int 0, .int 0, .int 0, .ref mlots, .ref mthen, .long 0])), (mtape, .inl (cyB, 800, .inl g))]) (va_A [(m0, .inr (11, [.int 0, .ref mwidth, .ref mmany, .ref mcells, .ref mmoved, .ref mtape, .int 16, .int 0, .int 0, .int 0, .int 0, .long 0, .int 0, .int 0, .int 0, .int (-1), .ref mlines, .ref mhas, .ref mtold, .ref mlaw, .ref msuit, .ref mapart, .ref mact, .ref misKept, .ref mseen, .ref mhung, .int 0, .ref mgoal, .ref mleaps, .ref mqueue, .ref mrow, .int 0, .ref mwanted, .ref mfirst, .ref moften, .int 0, .int 0, .int 0, .int 0, .int 0, .int 0, .ref mlots, .ref mthen, .long 0])), (mtape, .inl (cyB, 800, .inl f))] sz)) 0 0 (va_A [(m0, .inr (11, [.int 0, .ref mwidth, .ref mmany, .ref mcells, .ref mmoved, .ref mtape, .int 16, .int 0, .int 0, .int 0, .int 0, .long 0, .int 0, .int 0, .int 0, .int (-1), .ref mlines, .ref mhas, .ref mtold, .ref mlaw, .ref msuit, .ref mapart, .ref mact, .ref misKept, .ref mseen, .ref mhung, .int 0, .ref mgoal, .ref mleaps, .ref mqueue, .ref mrow, .int 0, .ref mwanted, .ref mfirst, .ref moften, .int 0, .int 0, .int 0, .int 0, .int 0, .int 0, .ref mlots, .ref mthen, .long 0])), (mtape, .inl (cyB, 800, .inl f))] sz) := by
  refine Met.ofW (cc := cX12_four) (maxL := 3) (ret := none) (by decide) rfl ?_
  intro p e s m args below meth c s₁ B hml hv
  obtain ⟨rfl, hsz, hP, hK, hD0⟩ := hv
  have hx := B.exec
  have hb := B.bytes
  have hr := B.returns
  have hts : ∀ w ∈ uU, w.before ([.ref m0, .int p0] : List Value).toArray s = true := fun w h => atoms_spec (ws := wk yX12_four cX12_four 3 none) B.pre w (List.mem_cons_of_mem _ h)
  have hown : s.vm.findClass RX12 = some m.cls := findClass_of_methodNamed B.named
  have hlocks := B.notSynchronized
  subst hsz
  have hD := hD0.self (sz := s.heap.size)
  generalize hAe : va_A [(m0, .inr (11, [.int 0, .ref mwidth, .ref mmany, .ref mcells, .ref mmoved, .ref mtape, .int 16, .int 0, .int 0, .int 0, .int 0, .long 0, .int 0, .int 0, .int 0, .int (-1), .ref mlines, .ref mhas, .ref mtold, .ref mlaw, .ref msuit, .ref mapart, .ref mact, .ref misKept, .ref mseen, .ref mhung, .int 0, .ref mgoal, .ref mleaps, .ref mqueue, .ref mrow, .int 0, .ref mwanted, .ref mfirst, .ref moften, .int 0, .int 0, .int 0, .int 0, .int 0, .int 0, .ref mlots, .ref mthen, .long 0])), (mtape, .inl (cyB, 800, .inl f))] s.heap.size = A at hD ⊢
  have hA : ∀ q : Nat, s.heap.size ≤ q → A q := fun q h => by rw [← hAe]; exact Or.inr h
  have hS : va_S A s.heap s.heap [] := va_S.rf
  have hP : va_P (dC, dI) vwCl [(m0, .inr (11, [.int 0, .ref mwidth, .ref mmany, .ref mcells, .ref mmoved, .ref mtape, .int 16, .int 0, .int 0, .int 0, .int 0, .long 0, .int 0, .int 0, .int 0, .int (-1), .ref mlines, .ref mhas, .ref mtold, .ref mlaw, .ref msuit, .ref mapart, .ref mact, .ref misKept, .ref mseen, .ref mhung, .int 0, .ref mgoal, .ref mleaps, .ref mqueue, .ref mrow, .int 0, .ref mwanted, .ref mfirst, .ref moften, .int 0, .int 0, .int 0, .int 0, .int 0, .int 0, .ref mlots, .ref mthen, .long 0])), (mtape, .inl (cyB, 800, .inl f))] s.heap := hP
  have hl := lv_entry ([.ref m0, .int p0]) (n := 3) (Nat.le_of_ble_eq_true rfl)
  rw [lg_entry_eq]
  generalize (lg_sl ([.ref m0, .int p0]) ++ List.replicate (3 - (lg_sl ([.ref m0, .int p0])).length) Slot.unset).toArray = ls at hl ⊢
  have hl : lv_has ls 3 [(0, .ref m0), (1, .int p0)] := hl
  obtain ⟨H, hHe⟩ : ∃ H, H = s.heap := ⟨_, rfl⟩
  have hP : va_P (dC, dI) vwCl [(m0, .inr (11, [.int 0, .ref mwidth, .ref mmany, .ref mcells, .ref mmoved, .ref mtape, .int 16, .int 0, .int 0, .int 0, .int 0, .long 0, .int 0, .int 0, .int 0, .int (-1), .ref mlines, .ref mhas, .ref mtold, .ref mlaw, .ref msuit, .ref mapart, .ref mact, .ref misKept, .ref mseen, .ref mhung, .int 0, .ref mgoal, .ref mleaps, .ref mqueue, .ref mrow, .int 0, .ref mwanted, .ref mfirst, .ref moften, .int 0, .int 0, .int 0, .int 0, .int 0, .int 0, .ref mlots, .ref mthen, .long 0])), (mtape, .inl (cyB, 800, .inl f))] H := by rw [hHe]; exact hP
  have hS : va_S A s.heap H [] := by rw [hHe]; exact hS
  refine cv_heap hHe ?_
  refine lv_bipush (v := 24) hx hb dX12_four_0 (by decide) ?_
  refine lv_istore_n (lv' := [(2, .int 24), (0, .ref m0), (1, .int p0)]) hx hb dX12_four_2 rfl hl (by decide) rfl (fun ls hl => ?_)
  refine lv_iload_n hx hb dX12_four_3 rfl (lv_at hl 0 rfl) ?_
  refine lv_if_lt (tgt := 36) hx hb dX12_four_4 (by decide) (fun c_1 => absurd c_1 (by decide)) (fun _ => ?_)
  refine lv_aload_n hx hb dX12_four_7 rfl (lv_at hl 1 rfl) ?_
  refine va_get (D := (dC, dI)) (ci := 11) (v := .ref mtape) (C := RX12) (T := TX12) (N := 44) hx hb hts uinX12 hown hK hP 0 rfl rfl 5 (by decide) (hts _ wd_6_42) (fun _ h9 => h9) rfl dX12_four_8 ?_
  refine lv_aload_n hx hb dX12_four_11 rfl (lv_at hl 1 rfl) ?_
  refine va_get (D := (dC, dI)) (ci := 11) (v := .int 16) (C := RX12) (T := TX12) (N := 44) hx hb hts uinX12 hown hK hP 0 rfl rfl 6 (by decide) (hts _ wd_6_43) (fun _ h9 => h9) rfl dX12_four_12 ?_
  refine lv_iload_n hx hb dX12_four_15 rfl (lv_at hl 2 rfl) ?_
  refine lv_iload_n hx hb dX12_four_16 rfl (lv_at hl 0 rfl) ?_
  refine lv_ishr hx hb dX12_four_17 ?_
  refine lv_topi (fun x_2 ex_2 => ?_)
  refine lv_i2b hx hb dX12_four_18 rfl ?_
  refine lv_topi (fun x_3 ex_3 => ?_)
  refine va_bast hx hb hK hP hD hS 1 1 rfl rfl (vp_in_iff.mpr (by decide)) dX12_four_19 (fun H locs hP hD hS => ?_)
  obtain ⟨f_4, ef_4⟩ : ∃ z9 : Nat → Int32, z9 = upd f (16 : Int32).toNatClampNeg (vp_nar .byte x_3) := ⟨_, rfl⟩
  rw [← ef_4] at hP hD
  have hP : va_P (dC, dI) vwCl [(m0, .inr (11, [.int 0, .ref mwidth, .ref mmany, .ref mcells, .ref mmoved, .ref mtape, .int 16, .int 0, .int 0, .int 0, .int 0, .long 0, .int 0, .int 0, .int 0, .int (-1), .ref mlines, .ref mhas, .ref mtold, .ref mlaw, .ref msuit, .ref mapart, .ref mact, .ref misKept, .ref mseen, .ref mhung, .int 0, .ref mgoal, .ref mleaps, .ref mqueue, .ref mrow, .int 0, .ref mwanted, .ref mfirst, .ref moften, .int 0, .int 0, .int 0, .int 0, .int 0, .int 0, .ref mlots, .ref mthen, .long 0])), (mtape, .inl (cyB, 800, .inl f_4))] H := hP
  have hD : va_D A [(m0, .inr (11, [.int 0, .ref mwidth, .ref mmany, .ref mcells, .ref mmoved, .ref mtape, .int 16, .int 0, .int 0, .int 0, .int 0, .long 0, .int 0, .int 0, .int 0, .int (-1), .ref mlines, .ref mhas, .ref mtold, .ref mlaw, .ref msuit, .ref mapart, .ref mact, .ref misKept, .ref mseen, .ref mhung, .int 0, .ref mgoal, .ref mleaps, .ref mqueue, .ref mrow, .int 0, .ref mwanted, .ref mfirst, .ref moften, .int 0, .int 0, .int 0, .int 0, .int 0, .int 0, .ref mlots, .ref mthen, .long 0])), (mtape, .inl (cyB, 800, .inl f_4))] := hD
  refine lv_aload_n hx hb dX12_four_20 rfl (lv_at hl 1 rfl) ?_
  refine lv_dup hx hb dX12_four_21 rfl ?_
  refine va_get (D := (dC, dI)) (ci := 11) (v := .int 16) (C := RX12) (T := TX12) (N := 44) hx hb hts uinX12 hown hK hP 0 rfl rfl 6 (by decide) (hts _ wd_6_43) (fun _ h9 => h9) rfl dX12_four_22 ?_
  refine lv_iconst (v := 1) hx hb dX12_four_25 (by decide) ?_
  refine lv_iadd hx hb dX12_four_26 ?_
  refine cv_topi (b := 17) (by decide) ?_
  refine va_put (D := (dC, dI)) (ci := 11) (v := .int 17) (ty := .int) (C := RX12) (T := TX12) (N := 44) hx hb hts uinX12 tyX12 tyX12_ok nmX12 hown hK hP hD hS 0 rfl rfl 6 (by decide) (hts _ wd_6_43) (fun _ h9 => h9) rfl (by decide +kernel) rfl rfl (Nat.le_of_ble_eq_true rfl) dX12_four_27 (fun H locs hP hD hS => ?_)
  have hP : va_P (dC, dI) vwCl [(m0, .inr (11, [.int 0, .ref mwidth, .ref mmany, .ref mcells, .ref mmoved, .ref mtape, .int 17, .int 0, .int 0, .int 0, .int 0, .long 0, .int 0, .int 0, .int 0, .int (-1), .ref mlines, .ref mhas, .ref mtold, .ref mlaw, .ref msuit, .ref mapart, .ref mact, .ref misKept, .ref mseen, .ref mhung, .int 0, .ref mgoal, .ref mleaps, .ref mqueue, .ref mrow, .int 0, .ref mwanted, .ref mfirst, .ref moften, .int 0, .int 0, .int 0, .int 0, .int 0, .int 0, .ref mlots, .ref mthen, .long 0])), (mtape, .inl (cyB, 800, .inl f_4))] H := hP
  have hD : va_D A [(m0, .inr (11, [.int 0, .ref mwidth, .ref mmany, .ref mcells, .ref mmoved, .ref mtape, .int 17, .int 0, .int 0, .int 0, .int 0, .long 0, .int 0, .int 0, .int 0, .int (-1), .ref mlines, .ref mhas, .ref mtold, .ref mlaw, .ref msuit, .ref mapart, .ref mact, .ref misKept, .ref mseen, .ref mhung, .int 0, .ref mgoal, .ref mleaps, .ref mqueue, .ref mrow, .int 0, .ref mwanted, .ref mfirst, .ref moften, .int 0, .int 0, .int 0, .int 0, .int 0, .int 0, .ref mlots, .ref mthen, .long 0])), (mtape, .inl (cyB, 800, .inl f_4))] := hD
  refine lv_iinc (v := 16) (lv' := [(2, .int 16), (0, .ref m0), (1, .int p0)]) hx hb dX12_four_30 hl (k := 0) rfl (by decide) (by decide) rfl (fun ls hl => ?_)
  refine lv_goto (tgt := 3) hx hb dX12_four_33 (by decide) ?_
  refine lv_iload_n hx hb dX12_four_3 rfl (lv_at hl 0 rfl) ?_
  refine lv_if_lt (tgt := 36) hx hb dX12_four_4 (by decide) (fun c_5 => absurd c_5 (by decide)) (fun _ => ?_)
  refine lv_aload_n hx hb dX12_four_7 rfl (lv_at hl 1 rfl) ?_
  refine va_get (D := (dC, dI)) (ci := 11) (v := .ref mtape) (C := RX12) (T := TX12) (N := 44) hx hb hts uinX12 hown hK hP 0 rfl rfl 5 (by decide) (hts _ wd_6_42) (fun _ h9 => h9) rfl dX12_four_8 ?_
  refine lv_aload_n hx hb dX12_four_11 rfl (lv_at hl 1 rfl) ?_
  refine va_get (D := (dC, dI)) (ci := 11) (v := .int 17) (C := RX12) (T := TX12) (N := 44) hx hb hts uinX12 hown hK hP 0 rfl rfl 6 (by decide) (hts _ wd_6_43) (fun _ h9 => h9) rfl dX12_four_12 ?_
  refine lv_iload_n hx hb dX12_four_15 rfl (lv_at hl 2 rfl) ?_
  refine lv_iload_n hx hb dX12_four_16 rfl (lv_at hl 0 rfl) ?_
  refine lv_ishr hx hb dX12_four_17 ?_
  refine lv_topi (fun x_6 ex_6 => ?_)
  refine lv_i2b hx hb dX12_four_18 rfl ?_
  refine lv_topi (fun x_7 ex_7 => ?_)
  refine va_bast hx hb hK hP hD hS 1 1 rfl rfl (vp_in_iff.mpr (by decide)) dX12_four_19 (fun H locs hP hD hS => ?_)
  obtain ⟨f_8, ef_8⟩ : ∃ z9 : Nat → Int32, z9 = upd f_4 (17 : Int32).toNatClampNeg (vp_nar .byte x_7) := ⟨_, rfl⟩
  rw [← ef_8] at hP hD
  have hP : va_P (dC, dI) vwCl [(m0, .inr (11, [.int 0, .ref mwidth, .ref mmany, .ref mcells, .ref mmoved, .ref mtape, .int 17, .int 0, .int 0, .int 0, .int 0, .long 0, .int 0, .int 0, .int 0, .int (-1), .ref mlines, .ref mhas, .ref mtold, .ref mlaw, .ref msuit, .ref mapart, .ref mact, .ref misKept, .ref mseen, .ref mhung, .int 0, .ref mgoal, .ref mleaps, .ref mqueue, .ref mrow, .int 0, .ref mwanted, .ref mfirst, .ref moften, .int 0, .int 0, .int 0, .int 0, .int 0, .int 0, .ref mlots, .ref mthen, .long 0])), (mtape, .inl (cyB, 800, .inl f_8))] H := hP
  have hD : va_D A [(m0, .inr (11, [.int 0, .ref mwidth, .ref mmany, .ref mcells, .ref mmoved, .ref mtape, .int 17, .int 0, .int 0, .int 0, .int 0, .long 0, .int 0, .int 0, .int 0, .int (-1), .ref mlines, .ref mhas, .ref mtold, .ref mlaw, .ref msuit, .ref mapart, .ref mact, .ref misKept, .ref mseen, .ref mhung, .int 0, .ref mgoal, .ref mleaps, .ref mqueue, .ref mrow, .int 0, .ref mwanted, .ref mfirst, .ref moften, .int 0, .int 0, .int 0, .int 0, .int 0, .int 0, .ref mlots, .ref mthen, .long 0])), (mtape, .inl (cyB, 800, .inl f_8))] := hD
  refine lv_aload_n hx hb dX12_four_20 rfl (lv_at hl 1 rfl) ?_
  refine lv_dup hx hb dX12_four_21 rfl ?_
  refine va_get (D := (dC, dI)) (ci := 11) (v := .int 17) (C := RX12) (T := TX12) (N := 44) hx hb hts uinX12 hown hK hP 0 rfl rfl 6 (by decide) (hts _ wd_6_43) (fun _ h9 => h9) rfl dX12_four_22 ?_
  refine lv_iconst (v := 1) hx hb dX12_four_25 (by decide) ?_
  refine lv_iadd hx hb dX12_four_26 ?_
  refine cv_topi (b := 18) (by decide) ?_
  refine va_put (D := (dC, dI)) (ci := 11) (v := .int 18) (ty := .int) (C := RX12) (T := TX12) (N := 44) hx hb hts uinX12 tyX12 tyX12_ok nmX12 hown hK hP hD hS 0 rfl rfl 6 (by decide) (hts _ wd_6_43) (fun _ h9 => h9) rfl (by decide +kernel) rfl rfl (Nat.le_of_ble_eq_true rfl) dX12_four_27 (fun H locs hP hD hS => ?_)
  have hP : va_P (dC, dI) vwCl [(m0, .inr (11, [.int 0, .ref mwidth, .ref mmany, .ref mcells, .ref mmoved, .ref mtape, .int 18, .int 0, .int 0, .int 0, .int 0, .long 0, .int 0, .int 0, .int 0, .int (-1), .ref mlines, .ref mhas, .ref mtold, .ref mlaw, .ref msuit, .ref mapart, .ref mact, .ref misKept, .ref mseen, .ref mhung, .int 0, .ref mgoal, .ref mleaps, .ref mqueue, .ref mrow, .int 0, .ref mwanted, .ref mfirst, .ref moften, .int 0, .int 0, .int 0, .int 0, .int 0, .int 0, .ref mlots, .ref mthen, .long 0])), (mtape, .inl (cyB, 800, .inl f_8))] H := hP
  have hD : va_D A [(m0, .inr (11, [.int 0, .ref mwidth, .ref mmany, .ref mcells, .ref mmoved, .ref mtape, .int 18, .int 0, .int 0, .int 0, .int 0, .long 0, .int 0, .int 0, .int 0, .int (-1), .ref mlines, .ref mhas, .ref mtold, .ref mlaw, .ref msuit, .ref mapart, .ref mact, .ref misKept, .ref mseen, .ref mhung, .int 0, .ref mgoal, .ref mleaps, .ref mqueue, .ref mrow, .int 0, .ref mwanted, .ref mfirst, .ref moften, .int 0, .int 0, .int 0, .int 0, .int 0, .int 0, .ref mlots, .ref mthen, .long 0])), (mtape, .inl (cyB, 800, .inl f_8))] := hD
  refine lv_iinc (v := 8) (lv' := [(2, .int 8), (0, .ref m0), (1, .int p0)]) hx hb dX12_four_30 hl (k := 0) rfl (by decide) (by decide) rfl (fun ls hl => ?_)
  refine lv_goto (tgt := 3) hx hb dX12_four_33 (by decide) ?_
  refine lv_iload_n hx hb dX12_four_3 rfl (lv_at hl 0 rfl) ?_
  refine lv_if_lt (tgt := 36) hx hb dX12_four_4 (by decide) (fun c_9 => absurd c_9 (by decide)) (fun _ => ?_)
  refine lv_aload_n hx hb dX12_four_7 rfl (lv_at hl 1 rfl) ?_
  refine va_get (D := (dC, dI)) (ci := 11) (v := .ref mtape) (C := RX12) (T := TX12) (N := 44) hx hb hts uinX12 hown hK hP 0 rfl rfl 5 (by decide) (hts _ wd_6_42) (fun _ h9 => h9) rfl dX12_four_8 ?_
  refine lv_aload_n hx hb dX12_four_11 rfl (lv_at hl 1 rfl) ?_
  refine va_get (D := (dC, dI)) (ci := 11) (v := .int 18) (C := RX12) (T := TX12) (N := 44) hx hb hts uinX12 hown hK hP 0 rfl rfl 6 (by decide) (hts _ wd_6_43) (fun _ h9 => h9) rfl dX12_four_12 ?_
  refine lv_iload_n hx hb dX12_four_15 rfl (lv_at hl 2 rfl) ?_
  refine lv_iload_n hx hb dX12_four_16 rfl (lv_at hl 0 rfl) ?_
  refine lv_ishr hx hb dX12_four_17 ?_
  refine lv_topi (fun x_10 ex_10 => ?_)
  refine lv_i2b hx hb dX12_four_18 rfl ?_
  refine lv_topi (fun x_11 ex_11 => ?_)
  refine va_bast hx hb hK hP hD hS 1 1 rfl rfl (vp_in_iff.mpr (by decide)) dX12_four_19 (fun H locs hP hD hS => ?_)
  obtain ⟨f_12, ef_12⟩ : ∃ z9 : Nat → Int32, z9 = upd f_8 (18 : Int32).toNatClampNeg (vp_nar .byte x_11) := ⟨_, rfl⟩
  rw [← ef_12] at hP hD
  have hP : va_P (dC, dI) vwCl [(m0, .inr (11, [.int 0, .ref mwidth, .ref mmany, .ref mcells, .ref mmoved, .ref mtape, .int 18, .int 0, .int 0, .int 0, .int 0, .long 0, .int 0, .int 0, .int 0, .int (-1), .ref mlines, .ref mhas, .ref mtold, .ref mlaw, .ref msuit, .ref mapart, .ref mact, .ref misKept, .ref mseen, .ref mhung, .int 0, .ref mgoal, .ref mleaps, .ref mqueue, .ref mrow, .int 0, .ref mwanted, .ref mfirst, .ref moften, .int 0, .int 0, .int 0, .int 0, .int 0, .int 0, .ref mlots, .ref mthen, .long 0])), (mtape, .inl (cyB, 800, .inl f_12))] H := hP
  have hD : va_D A [(m0, .inr (11, [.int 0, .ref mwidth, .ref mmany, .ref mcells, .ref mmoved, .ref mtape, .int 18, .int 0, .int 0, .int 0, .int 0, .long 0, .int 0, .int 0, .int 0, .int (-1), .ref mlines, .ref mhas, .ref mtold, .ref mlaw, .ref msuit, .ref mapart, .ref mact, .ref misKept, .ref mseen, .ref mhung, .int 0, .ref mgoal, .ref mleaps, .ref mqueue, .ref mrow, .int 0, .ref mwanted, .ref mfirst, .ref moften, .int 0, .int 0, .int 0, .int 0, .int 0, .int 0, .ref mlots, .ref mthen, .long 0])), (mtape, .inl (cyB, 800, .inl f_12))] := hD
  refine lv_aload_n hx hb dX12_four_20 rfl (lv_at hl 1 rfl) ?_
  refine lv_dup hx hb dX12_four_21 rfl ?_
  refine va_get (D := (dC, dI)) (ci := 11) (v := .int 18) (C := RX12) (T := TX12) (N := 44) hx hb hts uinX12 hown hK hP 0 rfl rfl 6 (by decide) (hts _ wd_6_43) (fun _ h9 => h9) rfl dX12_four_22 ?_
  refine lv_iconst (v := 1) hx hb dX12_four_25 (by decide) ?_
  refine lv_iadd hx hb dX12_four_26 ?_
  refine cv_topi (b := 19) (by decide) ?_
  refine va_put (D := (dC, dI)) (ci := 11) (v := .int 19) (ty := .int) (C := RX12) (T := TX12) (N := 44) hx hb hts uinX12 tyX12 tyX12_ok nmX12 hown hK hP hD hS 0 rfl rfl 6 (by decide) (hts _ wd_6_43) (fun _ h9 => h9) rfl (by decide +kernel) rfl rfl (Nat.le_of_ble_eq_true rfl) dX12_four_27 (fun H locs hP hD hS => ?_)
  have hP : va_P (dC, dI) vwCl [(m0, .inr (11, [.int 0, .ref mwidth, .ref mmany, .ref mcells, .ref mmoved, .ref mtape, .int 19, .int 0, .int 0, .int 0, .int 0, .long 0, .int 0, .int 0, .int 0, .int (-1), .ref mlines, .ref mhas, .ref mtold, .ref mlaw, .ref msuit, .ref mapart, .ref mact, .ref misKept, .ref mseen, .ref mhung, .int 0, .ref mgoal, .ref mleaps, .ref mqueue, .ref mrow, .int 0, .ref mwanted, .ref mfirst, .ref moften, .int 0, .int 0, .int 0, .int 0, .int 0, .int 0, .ref mlots, .ref mthen, .long 0])), (mtape, .inl (cyB, 800, .inl f_12))] H := hP
  have hD : va_D A [(m0, .inr (11, [.int 0, .ref mwidth, .ref mmany, .ref mcells, .ref mmoved, .ref mtape, .int 19, .int 0, .int 0, .int 0, .int 0, .long 0, .int 0, .int 0, .int 0, .int (-1), .ref mlines, .ref mhas, .ref mtold, .ref mlaw, .ref msuit, .ref mapart, .ref mact, .ref misKept, .ref mseen, .ref mhung, .int 0, .ref mgoal, .ref mleaps, .ref mqueue, .ref mrow, .int 0, .ref mwanted, .ref mfirst, .ref moften, .int 0, .int 0, .int 0, .int 0, .int 0, .int 0, .ref mlots, .ref mthen, .long 0])), (mtape, .inl (cyB, 800, .inl f_12))] := hD
  refine lv_iinc (v := 0) (lv' := [(2, .int 0), (0, .ref m0), (1, .int p0)]) hx hb dX12_four_30 hl (k := 0) rfl (by decide) (by decide) rfl (fun ls hl => ?_)
  refine lv_goto (tgt := 3) hx hb dX12_four_33 (by decide) ?_
  refine lv_iload_n hx hb dX12_four_3 rfl (lv_at hl 0 rfl) ?_
  refine lv_if_lt (tgt := 36) hx hb dX12_four_4 (by decide) (fun c_13 => absurd c_13 (by decide)) (fun _ => ?_)
  refine lv_aload_n hx hb dX12_four_7 rfl (lv_at hl 1 rfl) ?_
  refine va_get (D := (dC, dI)) (ci := 11) (v := .ref mtape) (C := RX12) (T := TX12) (N := 44) hx hb hts uinX12 hown hK hP 0 rfl rfl 5 (by decide) (hts _ wd_6_42) (fun _ h9 => h9) rfl dX12_four_8 ?_
  refine lv_aload_n hx hb dX12_four_11 rfl (lv_at hl 1 rfl) ?_
  refine va_get (D := (dC, dI)) (ci := 11) (v := .int 19) (C := RX12) (T := TX12) (N := 44) hx hb hts uinX12 hown hK hP 0 rfl rfl 6 (by decide) (hts _ wd_6_43) (fun _ h9 => h9) rfl dX12_four_12 ?_
  refine lv_iload_n hx hb dX12_four_15 rfl (lv_at hl 2 rfl) ?_
  refine lv_iload_n hx hb dX12_four_16 rfl (lv_at hl 0 rfl) ?_
  refine lv_ishr hx hb dX12_four_17 ?_
  refine lv_topi (fun x_14 ex_14 => ?_)
  refine lv_i2b hx hb dX12_four_18 rfl ?_
  refine lv_topi (fun x_15 ex_15 => ?_)
  refine va_bast hx hb hK hP hD hS 1 1 rfl rfl (vp_in_iff.mpr (by decide)) dX12_four_19 (fun H locs hP hD hS => ?_)
  obtain ⟨f_16, ef_16⟩ : ∃ z9 : Nat → Int32, z9 = upd f_12 (19 : Int32).toNatClampNeg (vp_nar .byte x_15) := ⟨_, rfl⟩
  rw [← ef_16] at hP hD
  have hP : va_P (dC, dI) vwCl [(m0, .inr (11, [.int 0, .ref mwidth, .ref mmany, .ref mcells, .ref mmoved, .ref mtape, .int 19, .int 0, .int 0, .int 0, .int 0, .long 0, .int 0, .int 0, .int 0, .int (-1), .ref mlines, .ref mhas, .ref mtold, .ref mlaw, .ref msuit, .ref mapart, .ref mact, .ref misKept, .ref mseen, .ref mhung, .int 0, .ref mgoal, .ref mleaps, .ref mqueue, .ref mrow, .int 0, .ref mwanted, .ref mfirst, .ref moften, .int 0, .int 0, .int 0, .int 0, .int 0, .int 0, .ref mlots, .ref mthen, .long 0])), (mtape, .inl (cyB, 800, .inl f_16))] H := hP
  have hD : va_D A [(m0, .inr (11, [.int 0, .ref mwidth, .ref mmany, .ref mcells, .ref mmoved, .ref mtape, .int 19, .int 0, .int 0, .int 0, .int 0, .long 0, .int 0, .int 0, .int 0, .int (-1), .ref mlines, .ref mhas, .ref mtold, .ref mlaw, .ref msuit, .ref mapart, .ref mact, .ref misKept, .ref mseen, .ref mhung, .int 0, .ref mgoal, .ref mleaps, .ref mqueue, .ref mrow, .int 0, .ref mwanted, .ref mfirst, .ref moften, .int 0, .int 0, .int 0, .int 0, .int 0, .int 0, .ref mlots, .ref mthen, .long 0])), (mtape, .inl (cyB, 800, .inl f_16))] := hD
  refine lv_aload_n hx hb dX12_four_20 rfl (lv_at hl 1 rfl) ?_
  refine lv_dup hx hb dX12_four_21 rfl ?_
  refine va_get (D := (dC, dI)) (ci := 11) (v := .int 19) (C := RX12) (T := TX12) (N := 44) hx hb hts uinX12 hown hK hP 0 rfl rfl 6 (by decide) (hts _ wd_6_43) (fun _ h9 => h9) rfl dX12_four_22 ?_
  refine lv_iconst (v := 1) hx hb dX12_four_25 (by decide) ?_
  refine lv_iadd hx hb dX12_four_26 ?_
  refine cv_topi (b := 20) (by decide) ?_
  refine va_put (D := (dC, dI)) (ci := 11) (v := .int 20) (ty := .int) (C := RX12) (T := TX12) (N := 44) hx hb hts uinX12 tyX12 tyX12_ok nmX12 hown hK hP hD hS 0 rfl rfl 6 (by decide) (hts _ wd_6_43) (fun _ h9 => h9) rfl (by decide +kernel) rfl rfl (Nat.le_of_ble_eq_true rfl) dX12_four_27 (fun H locs hP hD hS => ?_)
  have hP : va_P (dC, dI) vwCl [(m0, .inr (11, [.int 0, .ref mwidth, .ref mmany, .ref mcells, .ref mmoved, .ref mtape, .int 20, .int 0, .int 0, .int 0, .int 0, .long 0, .int 0, .int 0, .int 0, .int (-1), .ref mlines, .ref mhas, .ref mtold, .ref mlaw, .ref msuit, .ref mapart, .ref mact, .ref misKept, .ref mseen, .ref mhung, .int 0, .ref mgoal, .ref mleaps, .ref mqueue, .ref mrow, .int 0, .ref mwanted, .ref mfirst, .ref moften, .int 0, .int 0, .int 0, .int 0, .int 0, .int 0, .ref mlots, .ref mthen, .long 0])), (mtape, .inl (cyB, 800, .inl f_16))] H := hP
  have hD : va_D A [(m0, .inr (11, [.int 0, .ref mwidth, .ref mmany, .ref mcells, .ref mmoved, .ref mtape, .int 20, .int 0, .int 0, .int 0, .int 0, .long 0, .int 0, .int 0, .int 0, .int (-1), .ref mlines, .ref mhas, .ref mtold, .ref mlaw, .ref msuit, .ref mapart, .ref mact, .ref misKept, .ref mseen, .ref mhung, .int 0, .ref mgoal, .ref mleaps, .ref mqueue, .ref mrow, .int 0, .ref mwanted, .ref mfirst, .ref moften, .int 0, .int 0, .int 0, .int 0, .int 0, .int 0, .ref mlots, .ref mthen, .long 0])), (mtape, .inl (cyB, 800, .inl f_16))] := hD
  refine lv_iinc (v := (-8)) (lv' := [(2, .int (-8)), (0, .ref m0), (1, .int p0)]) hx hb dX12_four_30 hl (k := 0) rfl (by decide) (by decide) rfl (fun ls hl => ?_)
  refine lv_goto (tgt := 3) hx hb dX12_four_33 (by decide) ?_
  refine lv_iload_n hx hb dX12_four_3 rfl (lv_at hl 0 rfl) ?_
  refine lv_if_lt (tgt := 36) hx hb dX12_four_4 (by decide) (fun _ => ?_) (fun c_17 => absurd c_17 (by decide))
  have hP9 := hP.sub (ws' := [(m0, .inr (11, [.int 0, .ref mwidth, .ref mmany, .ref mcells, .ref mmoved, .ref mtape, .int 20, .int 0, .int 0, .int 0, .int 0, .long 0, .int 0, .int 0, .int 0, .int (-1), .ref mlines, .ref mhas, .ref mtold, .ref mlaw, .ref msuit, .ref mapart, .ref mact, .ref misKept, .ref mseen, .ref mhung, .int 0, .ref mgoal, .ref mleaps, .ref mqueue, .ref mrow, .int 0, .ref mwanted, .ref mfirst, .ref moften, .int 0, .int 0, .int 0, .int 0, .int 0, .int 0, .ref mlots, .ref mthen, .long 0])), (mtape, .inl (cyB, 800, .inl f_16))]) [0, 1] rfl
  have hD9 := hD.sub (ws' := [(m0, .inr (11, [.int 0, .ref mwidth, .ref mmany, .ref mcells, .ref mmoved, .ref mtape, .int 20, .int 0, .int 0, .int 0, .int 0, .long 0, .int 0, .int 0, .int 0, .int (-1), .ref mlines, .ref mhas, .ref mtold, .ref mlaw, .ref msuit, .ref mapart, .ref mact, .ref misKept, .ref mseen, .ref mhung, .int 0, .ref mgoal, .ref mleaps, .ref mqueue, .ref mrow, .int 0, .ref mwanted, .ref mfirst, .ref moften, .int 0, .int 0, .int 0, .int 0, .int 0, .int 0, .ref mlots, .ref mthen, .long 0])), (mtape, .inl (cyB, 800, .inl f_16))]) [0, 1] (by decide) rfl
  exact W.vret hx hb hr (fun t ht hW => ⟨⟨(), rfl, trivial, ⟨f_16, by rw [ht]; exact hP9, hD9⟩⟩, hS.F ht⟩) hS.2.2 dX12_four_36

/- X12_feed -/
set_option maxHeartbeats 4000000 in
set_option maxRecDepth 100000 in
theorem m_feed (l : Launch) (dC : Nat → ClassId) (dI : Nat → Nat → Nat) (cyI cyB cyJ cyZ cyH cyN : ClassId) (sz : Nat) (m0 mwidth mmany mcells mmoved mtape mlines mhas mtold mlaw msuit mapart mact misKept mseen mhung mgoal mleaps mqueue mrow mwanted mfirst moften mlots mthen : Nat) (p0 p1 p2 p3 p4 : Int32) : Met l yX12_feed (wk yX12_feed cX12_feed 6 (some .int)) ({ frames := 2, cells := 0, slots := 0, locals := 82 }) (va_Pc [.ref m0, .int p0, .int p1, .int p2, .int p3, .int p4] (fun U => U.heap.size = sz ∧ va_P (dC, dI) vwCl [(m0, .inr (11, [.int 0, .ref mwidth, .ref mmany, .ref mcells, .ref mmoved, .ref mtape, .int 0, .int 0, .int 0, .int 0, .int 0, .long 0, .int 0, .int 0, .int 0, .int (-1), .ref mlines, .ref mhas, .ref mtold, .ref mlaw, .ref msuit, .ref mapart, .ref mact, .ref misKept, .ref mseen, .ref mhung, .int 0, .ref mgoal, .ref mleaps, .ref mqueue, .ref mrow, .int 0, .ref mwanted, .ref mfirst, .ref moften, .int 0, .int 0, .int 0, .int 0, .int 0, .int 0, .ref mlots, .ref mthen, .long 0])), (mtape, .inl (cyB, 800, .inl (fun _ => 0)))] U.heap ∧ va_K (dC, dI) vwCl [(cyI, .int), (cyB, .byte), (cyJ, .long), (cyZ, .boolean), (cyH, .object RX2), (cyN, .array .long)] U ∧ va_D (fun _ => True) [(m0, .inr (11, [.int 0, .ref mwidth, .ref mmany, .ref mcells, .ref mmoved, .ref mtape, .int 0, .int 0, .int 0, .int 0, .int 0, .long 0, .int 0, .int 0, .int 0, .int (-1), .ref mlines, .ref mhas, .ref mtold, .ref mlaw, .ref msuit, .ref mapart, .ref mact, .ref misKept, .ref mseen, .ref mhung, .int 0, .ref mgoal, .ref mleaps, .ref mqueue, .ref mrow, .int 0, .ref mwanted, .ref mfirst, .ref moften, .int 0, .int 0, .int 0, .int 0, .int 0, .int 0, .ref mlots, .ref mthen, .long 0])), (mtape, .inl (cyB, 800, .inl (fun _ => 0)))])) (va_Qi (fun (r : Int32) (_ : Unit) => r = 20) (fun (_ : Unit) (_ : State) => True) (va_A [(m0, .inr (11, [.int 0, .ref mwidth, .ref mmany, .ref mcells, .ref mmoved, .ref mtape, .int 0, .int 0, .int 0, .int 0, .int 0, .long 0, .int 0, .int 0, .int 0, .int (-1), .ref mlines, .ref mhas, .ref mtold, .ref mlaw, .ref msuit, .ref mapart, .ref mact, .ref misKept, .ref mseen, .ref mhung, .int 0, .ref mgoal, .ref mleaps, .ref mqueue, .ref mrow, .int 0, .ref mwanted, .ref mfirst, .ref moften, .int 0, .int 0, .int 0, .int 0, .int 0, .int 0, .ref mlots, .ref mthen, .long 0])), (mtape, .inl (cyB, 800, .inl (fun _ => 0)))] sz)) 0 0 (va_A [(m0, .inr (11, [.int 0, .ref mwidth, .ref mmany, .ref mcells, .ref mmoved, .ref mtape, .int 0, .int 0, .int 0, .int 0, .int 0, .long 0, .int 0, .int 0, .int 0, .int (-1), .ref mlines, .ref mhas, .ref mtold, .ref mlaw, .ref msuit, .ref mapart, .ref mact, .ref misKept, .ref mseen, .ref mhung, .int 0, .ref mgoal, .ref mleaps, .ref mqueue, .ref mrow, .int 0, .ref mwanted, .ref mfirst, .ref moften, .int 0, .int 0, .int 0, .int 0, .int 0, .int 0, .ref mlots, .ref mthen, .long 0])), (mtape, .inl (cyB, 800, .inl (fun _ => 0)))] sz) := by
  refine Met.ofW (cc := cX12_feed) (maxL := 6) (ret := (some .int)) (by decide) rfl ?_
  intro p e s m args below meth c s₁ B hml hv
  obtain ⟨rfl, hsz, hP, hK, hD0⟩ := hv
  have hx := B.exec
  have hb := B.bytes
  have hr := B.returns
  have hts : ∀ w ∈ uU, w.before ([.ref m0, .int p0, .int p1, .int p2, .int p3, .int p4] : List Value).toArray s = true := fun w h => atoms_spec (ws := wk yX12_feed cX12_feed 6 (some .int)) B.pre w (List.mem_cons_of_mem _ h)
  have hown : s.vm.findClass RX12 = some m.cls := findClass_of_methodNamed B.named
  have hlocks := B.notSynchronized
  subst hsz
  have hD := hD0.self (sz := s.heap.size)
  generalize hAe : va_A [(m0, .inr (11, [.int 0, .ref mwidth, .ref mmany, .ref mcells, .ref mmoved, .ref mtape, .int 0, .int 0, .int 0, .int 0, .int 0, .long 0, .int 0, .int 0, .int 0, .int (-1), .ref mlines, .ref mhas, .ref mtold, .ref mlaw, .ref msuit, .ref mapart, .ref mact, .ref misKept, .ref mseen, .ref mhung, .int 0, .ref mgoal, .ref mleaps, .ref mqueue, .ref mrow, .int 0, .ref mwanted, .ref mfirst, .ref moften, .int 0, .int 0, .int 0, .int 0, .int 0, .int 0, .ref mlots, .ref mthen, .long 0])), (mtape, .inl (cyB, 800, .inl (fun _ => 0)))] s.heap.size = A at hD ⊢
  have hA : ∀ q : Nat, s.heap.size ≤ q → A q := fun q h => by rw [← hAe]; exact Or.inr h
  have hS : va_S A s.heap s.heap [] := va_S.rf
  have hP : va_P (dC, dI) vwCl [(m0, .inr (11, [.int 0, .ref mwidth, .ref mmany, .ref mcells, .ref mmoved, .ref mtape, .int 0, .int 0, .int 0, .int 0, .int 0, .long 0, .int 0, .int 0, .int 0, .int (-1), .ref mlines, .ref mhas, .ref mtold, .ref mlaw, .ref msuit, .ref mapart, .ref mact, .ref misKept, .ref mseen, .ref mhung, .int 0, .ref mgoal, .ref mleaps, .ref mqueue, .ref mrow, .int 0, .ref mwanted, .ref mfirst, .ref moften, .int 0, .int 0, .int 0, .int 0, .int 0, .int 0, .ref mlots, .ref mthen, .long 0])), (mtape, .inl (cyB, 800, .inl (fun _ => 0)))] s.heap := hP
  have hl := lv_entry ([.ref m0, .int p0, .int p1, .int p2, .int p3, .int p4]) (n := 6) (Nat.le_of_ble_eq_true rfl)
  rw [lg_entry_eq]
  generalize (lg_sl ([.ref m0, .int p0, .int p1, .int p2, .int p3, .int p4]) ++ List.replicate (6 - (lg_sl ([.ref m0, .int p0, .int p1, .int p2, .int p3, .int p4])).length) Slot.unset).toArray = ls at hl ⊢
  have hl : lv_has ls 6 [(0, .ref m0), (1, .int p0), (2, .int p1), (3, .int p2), (4, .int p3), (5, .int p4)] := hl
  obtain ⟨H, hHe⟩ : ∃ H, H = s.heap := ⟨_, rfl⟩
  have hP : va_P (dC, dI) vwCl [(m0, .inr (11, [.int 0, .ref mwidth, .ref mmany, .ref mcells, .ref mmoved, .ref mtape, .int 0, .int 0, .int 0, .int 0, .int 0, .long 0, .int 0, .int 0, .int 0, .int (-1), .ref mlines, .ref mhas, .ref mtold, .ref mlaw, .ref msuit, .ref mapart, .ref mact, .ref misKept, .ref mseen, .ref mhung, .int 0, .ref mgoal, .ref mleaps, .ref mqueue, .ref mrow, .int 0, .ref mwanted, .ref mfirst, .ref moften, .int 0, .int 0, .int 0, .int 0, .int 0, .int 0, .ref mlots, .ref mthen, .long 0])), (mtape, .inl (cyB, 800, .inl (fun _ => 0)))] H := by rw [hHe]; exact hP
  have hS : va_S A s.heap H [] := by rw [hHe]; exact hS
  refine cv_heap hHe ?_
  refine lv_aload_n hx hb dX12_feed_0 rfl (lv_at hl 0 rfl) ?_
  refine lv_iconst (v := 0) hx hb dX12_feed_1 (by decide) ?_
  refine va_put (D := (dC, dI)) (ci := 11) (v := .int 0) (ty := .int) (C := RX12) (T := TX12) (N := 44) hx hb hts uinX12 tyX12 tyX12_ok nmX12 hown hK hP hD hS 0 rfl rfl 0 (by decide) (hts _ wd_6_37) (fun _ h9 => h9) rfl (by decide +kernel) rfl rfl (Nat.le_of_ble_eq_true rfl) dX12_feed_2 (fun H locs hP hD hS => ?_)
  have hP : va_P (dC, dI) vwCl [(m0, .inr (11, [.int 0, .ref mwidth, .ref mmany, .ref mcells, .ref mmoved, .ref mtape, .int 0, .int 0, .int 0, .int 0, .int 0, .long 0, .int 0, .int 0, .int 0, .int (-1), .ref mlines, .ref mhas, .ref mtold, .ref mlaw, .ref msuit, .ref mapart, .ref mact, .ref misKept, .ref mseen, .ref mhung, .int 0, .ref mgoal, .ref mleaps, .ref mqueue, .ref mrow, .int 0, .ref mwanted, .ref mfirst, .ref moften, .int 0, .int 0, .int 0, .int 0, .int 0, .int 0, .ref mlots, .ref mthen, .long 0])), (mtape, .inl (cyB, 800, .inl (fun _ => 0)))] H := hP
  have hD : va_D A [(m0, .inr (11, [.int 0, .ref mwidth, .ref mmany, .ref mcells, .ref mmoved, .ref mtape, .int 0, .int 0, .int 0, .int 0, .int 0, .long 0, .int 0, .int 0, .int 0, .int (-1), .ref mlines, .ref mhas, .ref mtold, .ref mlaw, .ref msuit, .ref mapart, .ref mact, .ref misKept, .ref mseen, .ref mhung, .int 0, .ref mgoal, .ref mleaps, .ref mqueue, .ref mrow, .int 0, .ref mwanted, .ref mfirst, .ref moften, .int 0, .int 0, .int 0, .int 0, .int 0, .int 0, .ref mlots, .ref mthen, .long 0])), (mtape, .inl (cyB, 800, .inl (fun _ => 0)))] := hD
  refine lv_aload_n hx hb dX12_feed_5 rfl (lv_at hl 0 rfl) ?_
  refine va_get (D := (dC, dI)) (ci := 11) (v := .int 0) (C := RX12) (T := TX12) (N := 44) hx hb hts uinX12 hown hK hP 0 rfl rfl 6 (by decide) (hts _ wd_6_43) (fun _ h9 => h9) rfl dX12_feed_6 ?_
  refine lv_bipush (v := 20) hx hb dX12_feed_9 (by decide) ?_
  refine lv_iadd hx hb dX12_feed_11 ?_
  refine cv_topi (b := 20) (by decide) ?_
  refine lv_sipush (v := 800) hx hb dX12_feed_12 (by decide) ?_
  refine lv_icmp_le (tgt := 20) hx hb dX12_feed_15 (by decide) (fun _ => ?_) (fun c_1 => absurd c_1 (by decide))
  refine lv_aload_n hx hb dX12_feed_20 rfl (lv_at hl 0 rfl) ?_
  refine lv_iload_n hx hb dX12_feed_21 rfl (lv_at hl 1 rfl) ?_
  have hPc := hP.sub (ws' := [(m0, .inr (11, [.int 0, .ref mwidth, .ref mmany, .ref mcells, .ref mmoved, .ref mtape, .int 0, .int 0, .int 0, .int 0, .int 0, .long 0, .int 0, .int 0, .int 0, .int (-1), .ref mlines, .ref mhas, .ref mtold, .ref mlaw, .ref msuit, .ref mapart, .ref mact, .ref misKept, .ref mseen, .ref mhung, .int 0, .ref mgoal, .ref mleaps, .ref mqueue, .ref mrow, .int 0, .ref mwanted, .ref mfirst, .ref moften, .int 0, .int 0, .int 0, .int 0, .int 0, .int 0, .ref mlots, .ref mthen, .long 0])), (mtape, .inl (cyB, 800, .inl (fun _ => 0)))]) [0, 1] rfl
  have hKc := hK.sub (tys' := [(cyI, .int), (cyB, .byte), (cyJ, .long), (cyZ, .boolean), (cyH, .object RX2), (cyN, .array .long)]) [0, 1, 2, 3, 4, 5] rfl
  have hDc := hD.sub (ws' := [(m0, .inr (11, [.int 0, .ref mwidth, .ref mmany, .ref mcells, .ref mmoved, .ref mtape, .int 0, .int 0, .int 0, .int 0, .int 0, .long 0, .int 0, .int 0, .int 0, .int (-1), .ref mlines, .ref mhas, .ref mtold, .ref mlaw, .ref msuit, .ref mapart, .ref mact, .ref misKept, .ref mseen, .ref mhung, .int 0, .ref mgoal, .ref mleaps, .ref mqueue, .ref mrow, .int 0, .ref mwanted, .ref mfirst, .ref moften, .int 0, .int 0, .int 0, .int 0, .int 0, .int 0, .ref mlots, .ref mthen, .long 0])), (mtape, .inl (cyB, 800, .inl (fun _ => 0)))]) [0, 1] (by decide) rfl
  have hFc := va_free (wc := [(m0, .inr (11, [.int 0, .ref mwidth, .ref mmany, .ref mcells, .ref mmoved, .ref mtape, .int 0, .int 0, .int 0, .int 0, .int 0, .long 0, .int 0, .int 0, .int 0, .int (-1), .ref mlines, .ref mhas, .ref mtold, .ref mlaw, .ref msuit, .ref mapart, .ref mact, .ref misKept, .ref mseen, .ref mhung, .int 0, .ref mgoal, .ref mleaps, .ref mqueue, .ref mrow, .int 0, .ref mwanted, .ref mfirst, .ref moften, .int 0, .int 0, .int 0, .int 0, .int 0, .int 0, .ref mlots, .ref mthen, .long 0])), (mtape, .inl (cyB, 800, .inl (fun _ => 0)))]) hD hS hA [0, 1] rfl
  refine va_callv (va_runV (As := [.int p0]) (rest := []) ⟨hx, hb, hml, hown, hts⟩ (m_four0 l dC dI cyI cyB cyJ cyZ cyH cyN H.size m0 mwidth mmany mcells mmoved mtape mlines mhas mtold mlaw msuit mapart mact misKept mseen mhung mgoal mleaps mqueue mrow mwanted mfirst moften mlots mthen (fun _ => 0) p0) (cwV 1 hts (gdV wd_6_196 wd_6_198 wd_s3_7 wd_1_11 wd_6_199) rfl rfl rfl (by decide +kernel) ⟨Nat.le_of_ble_eq_true rfl, Nat.le_of_ble_eq_true rfl⟩) ⟨fun a U g mk q => by obtain ⟨q0, q1, qP, qK, qD⟩ := q; exact ⟨q0, q1, qP, va_K.moved (u := U) (U := U.calling g mk a) (Vm.Alike.refl U.vm) qK, qD⟩, va_recv hKc hPc (ci := 11) (q0 := 0) rfl rfl, fun U hU hW => ⟨rfl, by rw [hU], by rw [hU]; exact hPc, va_K.moved hW.alike hKc, hDc.weaken (fun _ _ _ _ => trivial)⟩⟩ rfl rfl hl.1 rfl (lv_room (Nat.le_of_ble_eq_true rfl)) dX12_feed_22 ⟨Nat.le_of_ble_eq_true rfl, Nat.le_of_ble_eq_true rfl⟩) hS (fun q _ h => hFc q h) hFc (fun  u t H1 locs ht hvm hw hB hz1 hk1 hS => ?_)
  obtain ⟨g_2, hP1, hD1⟩ := hB
  rw [ht] at hP1
  obtain ⟨hP, hD⟩ := va_join (wr := []) (w1 := [(m0, .inr (11, [.int 0, .ref mwidth, .ref mmany, .ref mcells, .ref mmoved, .ref mtape, .int 4, .int 0, .int 0, .int 0, .int 0, .long 0, .int 0, .int 0, .int 0, .int (-1), .ref mlines, .ref mhas, .ref mtold, .ref mlaw, .ref msuit, .ref mapart, .ref mact, .ref misKept, .ref mseen, .ref mhung, .int 0, .ref mgoal, .ref mleaps, .ref mqueue, .ref mrow, .int 0, .ref mwanted, .ref mfirst, .ref moften, .int 0, .int 0, .int 0, .int 0, .int 0, .int 0, .ref mlots, .ref mthen, .long 0])), (mtape, .inl (cyB, 800, .inl g_2))]) hP hD [0, 1] [] rfl rfl (by decide) (by decide) hk1 hFc hP1 hD1
  generalize H1 = H at hP hS ⊢
  have hP : va_P (dC, dI) vwCl [(m0, .inr (11, [.int 0, .ref mwidth, .ref mmany, .ref mcells, .ref mmoved, .ref mtape, .int 4, .int 0, .int 0, .int 0, .int 0, .long 0, .int 0, .int 0, .int 0, .int (-1), .ref mlines, .ref mhas, .ref mtold, .ref mlaw, .ref msuit, .ref mapart, .ref mact, .ref misKept, .ref mseen, .ref mhung, .int 0, .ref mgoal, .ref mleaps, .ref mqueue, .ref mrow, .int 0, .ref mwanted, .ref mfirst, .ref moften, .int 0, .int 0, .int 0, .int 0, .int 0, .int 0, .ref mlots, .ref mthen, .long 0])), (mtape, .inl (cyB, 800, .inl g_2))] H := hP
  have hD : va_D A [(m0, .inr (11, [.int 0, .ref mwidth, .ref mmany, .ref mcells, .ref mmoved, .ref mtape, .int 4, .int 0, .int 0, .int 0, .int 0, .long 0, .int 0, .int 0, .int 0, .int (-1), .ref mlines, .ref mhas, .ref mtold, .ref mlaw, .ref msuit, .ref mapart, .ref mact, .ref misKept, .ref mseen, .ref mhung, .int 0, .ref mgoal, .ref mleaps, .ref mqueue, .ref mrow, .int 0, .ref mwanted, .ref mfirst, .ref moften, .int 0, .int 0, .int 0, .int 0, .int 0, .int 0, .ref mlots, .ref mthen, .long 0])), (mtape, .inl (cyB, 800, .inl g_2))] := hD
  refine lv_aload_n hx hb dX12_feed_25 rfl (lv_at hl 0 rfl) ?_
  refine lv_iload_n hx hb dX12_feed_26 rfl (lv_at hl 2 rfl) ?_
  have hPc := hP.sub (ws' := [(m0, .inr (11, [.int 0, .ref mwidth, .ref mmany, .ref mcells, .ref mmoved, .ref mtape, .int 4, .int 0, .int 0, .int 0, .int 0, .long 0, .int 0, .int 0, .int 0, .int (-1), .ref mlines, .ref mhas, .ref mtold, .ref mlaw, .ref msuit, .ref mapart, .ref mact, .ref misKept, .ref mseen, .ref mhung, .int 0, .ref mgoal, .ref mleaps, .ref mqueue, .ref mrow, .int 0, .ref mwanted, .ref mfirst, .ref moften, .int 0, .int 0, .int 0, .int 0, .int 0, .int 0, .ref mlots, .ref mthen, .long 0])), (mtape, .inl (cyB, 800, .inl g_2))]) [0, 1] rfl
  have hKc := hK.sub (tys' := [(cyI, .int), (cyB, .byte), (cyJ, .long), (cyZ, .boolean), (cyH, .object RX2), (cyN, .array .long)]) [0, 1, 2, 3, 4, 5] rfl
  have hDc := hD.sub (ws' := [(m0, .inr (11, [.int 0, .ref mwidth, .ref mmany, .ref mcells, .ref mmoved, .ref mtape, .int 4, .int 0, .int 0, .int 0, .int 0, .long 0, .int 0, .int 0, .int 0, .int (-1), .ref mlines, .ref mhas, .ref mtold, .ref mlaw, .ref msuit, .ref mapart, .ref mact, .ref misKept, .ref mseen, .ref mhung, .int 0, .ref mgoal, .ref mleaps, .ref mqueue, .ref mrow, .int 0, .ref mwanted, .ref mfirst, .ref moften, .int 0, .int 0, .int 0, .int 0, .int 0, .int 0, .ref mlots, .ref mthen, .long 0])), (mtape, .inl (cyB, 800, .inl g_2))]) [0, 1] (by decide) rfl
  have hFc := va_free (wc := [(m0, .inr (11, [.int 0, .ref mwidth, .ref mmany, .ref mcells, .ref mmoved, .ref mtape, .int 4, .int 0, .int 0, .int 0, .int 0, .long 0, .int 0, .int 0, .int 0, .int (-1), .ref mlines, .ref mhas, .ref mtold, .ref mlaw, .ref msuit, .ref mapart, .ref mact, .ref misKept, .ref mseen, .ref mhung, .int 0, .ref mgoal, .ref mleaps, .ref mqueue, .ref mrow, .int 0, .ref mwanted, .ref mfirst, .ref moften, .int 0, .int 0, .int 0, .int 0, .int 0, .int 0, .ref mlots, .ref mthen, .long 0])), (mtape, .inl (cyB, 800, .inl g_2))]) hD hS hA [0, 1] rfl
  refine va_callv (va_runV (As := [.int p1]) (rest := []) ⟨hx, hb, hml, hown, hts⟩ (m_four4 l dC dI cyI cyB cyJ cyZ cyH cyN H.size m0 mwidth mmany mcells mmoved mtape mlines mhas mtold mlaw msuit mapart mact misKept mseen mhung mgoal mleaps mqueue mrow mwanted mfirst moften mlots mthen g_2 p1) (cwV 1 hts (gdV wd_6_196 wd_6_198 wd_s3_7 wd_1_11 wd_6_199) rfl rfl rfl (by decide +kernel) ⟨Nat.le_of_ble_eq_true rfl, Nat.le_of_ble_eq_true rfl⟩) ⟨fun a U g mk q => by obtain ⟨q0, q1, qP, qK, qD⟩ := q; exact ⟨q0, q1, qP, va_K.moved (u := U) (U := U.calling g mk a) (Vm.Alike.refl U.vm) qK, qD⟩, va_recv hKc hPc (ci := 11) (q0 := 0) rfl rfl, fun U hU hW => ⟨rfl, by rw [hU], by rw [hU]; exact hPc, va_K.moved hW.alike hKc, hDc.weaken (fun _ _ _ _ => trivial)⟩⟩ rfl rfl hl.1 rfl (lv_room (Nat.le_of_ble_eq_true rfl)) dX12_feed_27 ⟨Nat.le_of_ble_eq_true rfl, Nat.le_of_ble_eq_true rfl⟩) hS (fun q _ h => hFc q h) hFc (fun  u t H1 locs ht hvm hw hB hz1 hk1 hS => ?_)
  obtain ⟨g_3, hP1, hD1⟩ := hB
  rw [ht] at hP1
  obtain ⟨hP, hD⟩ := va_join (wr := []) (w1 := [(m0, .inr (11, [.int 0, .ref mwidth, .ref mmany, .ref mcells, .ref mmoved, .ref mtape, .int 8, .int 0, .int 0, .int 0, .int 0, .long 0, .int 0, .int 0, .int 0, .int (-1), .ref mlines, .ref mhas, .ref mtold, .ref mlaw, .ref msuit, .ref mapart, .ref mact, .ref misKept, .ref mseen, .ref mhung, .int 0, .ref mgoal, .ref mleaps, .ref mqueue, .ref mrow, .int 0, .ref mwanted, .ref mfirst, .ref moften, .int 0, .int 0, .int 0, .int 0, .int 0, .int 0, .ref mlots, .ref mthen, .long 0])), (mtape, .inl (cyB, 800, .inl g_3))]) hP hD [0, 1] [] rfl rfl (by decide) (by decide) hk1 hFc hP1 hD1
  generalize H1 = H at hP hS ⊢
  have hP : va_P (dC, dI) vwCl [(m0, .inr (11, [.int 0, .ref mwidth, .ref mmany, .ref mcells, .ref mmoved, .ref mtape, .int 8, .int 0, .int 0, .int 0, .int 0, .long 0, .int 0, .int 0, .int 0, .int (-1), .ref mlines, .ref mhas, .ref mtold, .ref mlaw, .ref msuit, .ref mapart, .ref mact, .ref misKept, .ref mseen, .ref mhung, .int 0, .ref mgoal, .ref mleaps, .ref mqueue, .ref mrow, .int 0, .ref mwanted, .ref mfirst, .ref moften, .int 0, .int 0, .int 0, .int 0, .int 0, .int 0, .ref mlots, .ref mthen, .long 0])), (mtape, .inl (cyB, 800, .inl g_3))] H := hP
  have hD : va_D A [(m0, .inr (11, [.int 0, .ref mwidth, .ref mmany, .ref mcells, .ref mmoved, .ref mtape, .int 8, .int 0, .int 0, .int 0, .int 0, .long 0, .int 0, .int 0, .int 0, .int (-1), .ref mlines, .ref mhas, .ref mtold, .ref mlaw, .ref msuit, .ref mapart, .ref mact, .ref misKept, .ref mseen, .ref mhung, .int 0, .ref mgoal, .ref mleaps, .ref mqueue, .ref mrow, .int 0, .ref mwanted, .ref mfirst, .ref moften, .int 0, .int 0, .int 0, .int 0, .int 0, .int 0, .ref mlots, .ref mthen, .long 0])), (mtape, .inl (cyB, 800, .inl g_3))] := hD
  refine lv_aload_n hx hb dX12_feed_30 rfl (lv_at hl 0 rfl) ?_
  refine lv_iload_n hx hb dX12_feed_31 rfl (lv_at hl 3 rfl) ?_
  have hPc := hP.sub (ws' := [(m0, .inr (11, [.int 0, .ref mwidth, .ref mmany, .ref mcells, .ref mmoved, .ref mtape, .int 8, .int 0, .int 0, .int 0, .int 0, .long 0, .int 0, .int 0, .int 0, .int (-1), .ref mlines, .ref mhas, .ref mtold, .ref mlaw, .ref msuit, .ref mapart, .ref mact, .ref misKept, .ref mseen, .ref mhung, .int 0, .ref mgoal, .ref mleaps, .ref mqueue, .ref mrow, .int 0, .ref mwanted, .ref mfirst, .ref moften, .int 0, .int 0, .int 0, .int 0, .int 0, .int 0, .ref mlots, .ref mthen, .long 0])), (mtape, .inl (cyB, 800, .inl g_3))]) [0, 1] rfl
  have hKc := hK.sub (tys' := [(cyI, .int), (cyB, .byte), (cyJ, .long), (cyZ, .boolean), (cyH, .object RX2), (cyN, .array .long)]) [0, 1, 2, 3, 4, 5] rfl
  have hDc := hD.sub (ws' := [(m0, .inr (11, [.int 0, .ref mwidth, .ref mmany, .ref mcells, .ref mmoved, .ref mtape, .int 8, .int 0, .int 0, .int 0, .int 0, .long 0, .int 0, .int 0, .int 0, .int (-1), .ref mlines, .ref mhas, .ref mtold, .ref mlaw, .ref msuit, .ref mapart, .ref mact, .ref misKept, .ref mseen, .ref mhung, .int 0, .ref mgoal, .ref mleaps, .ref mqueue, .ref mrow, .int 0, .ref mwanted, .ref mfirst, .ref moften, .int 0, .int 0, .int 0, .int 0, .int 0, .int 0, .ref mlots, .ref mthen, .long 0])), (mtape, .inl (cyB, 800, .inl g_3))]) [0, 1] (by decide) rfl
  have hFc := va_free (wc := [(m0, .inr (11, [.int 0, .ref mwidth, .ref mmany, .ref mcells, .ref mmoved, .ref mtape, .int 8, .int 0, .int 0, .int 0, .int 0, .long 0, .int 0, .int 0, .int 0, .int (-1), .ref mlines, .ref mhas, .ref mtold, .ref mlaw, .ref msuit, .ref mapart, .ref mact, .ref misKept, .ref mseen, .ref mhung, .int 0, .ref mgoal, .ref mleaps, .ref mqueue, .ref mrow, .int 0, .ref mwanted, .ref mfirst, .ref moften, .int 0, .int 0, .int 0, .int 0, .int 0, .int 0, .ref mlots, .ref mthen, .long 0])), (mtape, .inl (cyB, 800, .inl g_3))]) hD hS hA [0, 1] rfl
  refine va_callv (va_runV (As := [.int p2]) (rest := []) ⟨hx, hb, hml, hown, hts⟩ (m_four8 l dC dI cyI cyB cyJ cyZ cyH cyN H.size m0 mwidth mmany mcells mmoved mtape mlines mhas mtold mlaw msuit mapart mact misKept mseen mhung mgoal mleaps mqueue mrow mwanted mfirst moften mlots mthen g_3 p2) (cwV 1 hts (gdV wd_6_196 wd_6_198 wd_s3_7 wd_1_11 wd_6_199) rfl rfl rfl (by decide +kernel) ⟨Nat.le_of_ble_eq_true rfl, Nat.le_of_ble_eq_true rfl⟩) ⟨fun a U g mk q => by obtain ⟨q0, q1, qP, qK, qD⟩ := q; exact ⟨q0, q1, qP, va_K.moved (u := U) (U := U.calling g mk a) (Vm.Alike.refl U.vm) qK, qD⟩, va_recv hKc hPc (ci := 11) (q0 := 0) rfl rfl, fun U hU hW => ⟨rfl, by rw [hU], by rw [hU]; exact hPc, va_K.moved hW.alike hKc, hDc.weaken (fun _ _ _ _ => trivial)⟩⟩ rfl rfl hl.1 rfl (lv_room (Nat.le_of_ble_eq_true rfl)) dX12_feed_32 ⟨Nat.le_of_ble_eq_true rfl, Nat.le_of_ble_eq_true rfl⟩) hS (fun q _ h => hFc q h) hFc (fun  u t H1 locs ht hvm hw hB hz1 hk1 hS => ?_)
  obtain ⟨g_4, hP1, hD1⟩ := hB
  rw [ht] at hP1
  obtain ⟨hP, hD⟩ := va_join (wr := []) (w1 := [(m0, .inr (11, [.int 0, .ref mwidth, .ref mmany, .ref mcells, .ref mmoved, .ref mtape, .int 12, .int 0, .int 0, .int 0, .int 0, .long 0, .int 0, .int 0, .int 0, .int (-1), .ref mlines, .ref mhas, .ref mtold, .ref mlaw, .ref msuit, .ref mapart, .ref mact, .ref misKept, .ref mseen, .ref mhung, .int 0, .ref mgoal, .ref mleaps, .ref mqueue, .ref mrow, .int 0, .ref mwanted, .ref mfirst, .ref moften, .int 0, .int 0, .int 0, .int 0, .int 0, .int 0, .ref mlots, .ref mthen, .long 0])), (mtape, .inl (cyB, 800, .inl g_4))]) hP hD [0, 1] [] rfl rfl (by decide) (by decide) hk1 hFc hP1 hD1
  generalize H1 = H at hP hS ⊢
  have hP : va_P (dC, dI) vwCl [(m0, .inr (11, [.int 0, .ref mwidth, .ref mmany, .ref mcells, .ref mmoved, .ref mtape, .int 12, .int 0, .int 0, .int 0, .int 0, .long 0, .int 0, .int 0, .int 0, .int (-1), .ref mlines, .ref mhas, .ref mtold, .ref mlaw, .ref msuit, .ref mapart, .ref mact, .ref misKept, .ref mseen, .ref mhung, .int 0, .ref mgoal, .ref mleaps, .ref mqueue, .ref mrow, .int 0, .ref mwanted, .ref mfirst, .ref moften, .int 0, .int 0, .int 0, .int 0, .int 0, .int 0, .ref mlots, .ref mthen, .long 0])), (mtape, .inl (cyB, 800, .inl g_4))] H := hP
  have hD : va_D A [(m0, .inr (11, [.int 0, .ref mwidth, .ref mmany, .ref mcells, .ref mmoved, .ref mtape, .int 12, .int 0, .int 0, .int 0, .int 0, .long 0, .int 0, .int 0, .int 0, .int (-1), .ref mlines, .ref mhas, .ref mtold, .ref mlaw, .ref msuit, .ref mapart, .ref mact, .ref misKept, .ref mseen, .ref mhung, .int 0, .ref mgoal, .ref mleaps, .ref mqueue, .ref mrow, .int 0, .ref mwanted, .ref mfirst, .ref moften, .int 0, .int 0, .int 0, .int 0, .int 0, .int 0, .ref mlots, .ref mthen, .long 0])), (mtape, .inl (cyB, 800, .inl g_4))] := hD
  refine lv_aload_n hx hb dX12_feed_35 rfl (lv_at hl 0 rfl) ?_
  refine lv_iload hx hb dX12_feed_36 (lv_at hl 4 rfl) ?_
  have hPc := hP.sub (ws' := [(m0, .inr (11, [.int 0, .ref mwidth, .ref mmany, .ref mcells, .ref mmoved, .ref mtape, .int 12, .int 0, .int 0, .int 0, .int 0, .long 0, .int 0, .int 0, .int 0, .int (-1), .ref mlines, .ref mhas, .ref mtold, .ref mlaw, .ref msuit, .ref mapart, .ref mact, .ref misKept, .ref mseen, .ref mhung, .int 0, .ref mgoal, .ref mleaps, .ref mqueue, .ref mrow, .int 0, .ref mwanted, .ref mfirst, .ref moften, .int 0, .int 0, .int 0, .int 0, .int 0, .int 0, .ref mlots, .ref mthen, .long 0])), (mtape, .inl (cyB, 800, .inl g_4))]) [0, 1] rfl
  have hKc := hK.sub (tys' := [(cyI, .int), (cyB, .byte), (cyJ, .long), (cyZ, .boolean), (cyH, .object RX2), (cyN, .array .long)]) [0, 1, 2, 3, 4, 5] rfl
  have hDc := hD.sub (ws' := [(m0, .inr (11, [.int 0, .ref mwidth, .ref mmany, .ref mcells, .ref mmoved, .ref mtape, .int 12, .int 0, .int 0, .int 0, .int 0, .long 0, .int 0, .int 0, .int 0, .int (-1), .ref mlines, .ref mhas, .ref mtold, .ref mlaw, .ref msuit, .ref mapart, .ref mact, .ref misKept, .ref mseen, .ref mhung, .int 0, .ref mgoal, .ref mleaps, .ref mqueue, .ref mrow, .int 0, .ref mwanted, .ref mfirst, .ref moften, .int 0, .int 0, .int 0, .int 0, .int 0, .int 0, .ref mlots, .ref mthen, .long 0])), (mtape, .inl (cyB, 800, .inl g_4))]) [0, 1] (by decide) rfl
  have hFc := va_free (wc := [(m0, .inr (11, [.int 0, .ref mwidth, .ref mmany, .ref mcells, .ref mmoved, .ref mtape, .int 12, .int 0, .int 0, .int 0, .int 0, .long 0, .int 0, .int 0, .int 0, .int (-1), .ref mlines, .ref mhas, .ref mtold, .ref mlaw, .ref msuit, .ref mapart, .ref mact, .ref misKept, .ref mseen, .ref mhung, .int 0, .ref mgoal, .ref mleaps, .ref mqueue, .ref mrow, .int 0, .ref mwanted, .ref mfirst, .ref moften, .int 0, .int 0, .int 0, .int 0, .int 0, .int 0, .ref mlots, .ref mthen, .long 0])), (mtape, .inl (cyB, 800, .inl g_4))]) hD hS hA [0, 1] rfl
  refine va_callv (va_runV (As := [.int p3]) (rest := []) ⟨hx, hb, hml, hown, hts⟩ (m_four12 l dC dI cyI cyB cyJ cyZ cyH cyN H.size m0 mwidth mmany mcells mmoved mtape mlines mhas mtold mlaw msuit mapart mact misKept mseen mhung mgoal mleaps mqueue mrow mwanted mfirst moften mlots mthen g_4 p3) (cwV 1 hts (gdV wd_6_196 wd_6_198 wd_s3_7 wd_1_11 wd_6_199) rfl rfl rfl (by decide +kernel) ⟨Nat.le_of_ble_eq_true rfl, Nat.le_of_ble_eq_true rfl⟩) ⟨fun a U g mk q => by obtain ⟨q0, q1, qP, qK, qD⟩ := q; exact ⟨q0, q1, qP, va_K.moved (u := U) (U := U.calling g mk a) (Vm.Alike.refl U.vm) qK, qD⟩, va_recv hKc hPc (ci := 11) (q0 := 0) rfl rfl, fun U hU hW => ⟨rfl, by rw [hU], by rw [hU]; exact hPc, va_K.moved hW.alike hKc, hDc.weaken (fun _ _ _ _ => trivial)⟩⟩ rfl rfl hl.1 rfl (lv_room (Nat.le_of_ble_eq_true rfl)) dX12_feed_38 ⟨Nat.le_of_ble_eq_true rfl, Nat.le_of_ble_eq_true rfl⟩) hS (fun q _ h => hFc q h) hFc (fun  u t H1 locs ht hvm hw hB hz1 hk1 hS => ?_)
  obtain ⟨g_5, hP1, hD1⟩ := hB
  rw [ht] at hP1
  obtain ⟨hP, hD⟩ := va_join (wr := []) (w1 := [(m0, .inr (11, [.int 0, .ref mwidth, .ref mmany, .ref mcells, .ref mmoved, .ref mtape, .int 16, .int 0, .int 0, .int 0, .int 0, .long 0, .int 0, .int 0, .int 0, .int (-1), .ref mlines, .ref mhas, .ref mtold, .ref mlaw, .ref msuit, .ref mapart, .ref mact, .ref misKept, .ref mseen, .ref mhung, .int 0, .ref mgoal, .ref mleaps, .ref mqueue, .ref mrow, .int 0, .ref mwanted, .ref mfirst, .ref moften, .int 0, .int 0, .int 0, .int 0, .int 0, .int 0, .ref mlots, .ref mthen, .long 0])), (mtape, .inl (cyB, 800, .inl g_5))]) hP hD [0, 1] [] rfl rfl (by decide) (by decide) hk1 hFc hP1 hD1
  generalize H1 = H at hP hS ⊢
  have hP : va_P (dC, dI) vwCl [(m0, .inr (11, [.int 0, .ref mwidth, .ref mmany, .ref mcells, .ref mmoved, .ref mtape, .int 16, .int 0, .int 0, .int 0, .int 0, .long 0, .int 0, .int 0, .int 0, .int (-1), .ref mlines, .ref mhas, .ref mtold, .ref mlaw, .ref msuit, .ref mapart, .ref mact, .ref misKept, .ref mseen, .ref mhung, .int 0, .ref mgoal, .ref mleaps, .ref mqueue, .ref mrow, .int 0, .ref mwanted, .ref mfirst, .ref moften, .int 0, .int 0, .int 0, .int 0, .int 0, .int 0, .ref mlots, .ref mthen, .long 0])), (mtape, .inl (cyB, 800, .inl g_5))] H := hP
  have hD : va_D A [(m0, .inr (11, [.int 0, .ref mwidth, .ref mmany, .ref mcells, .ref mmoved, .ref mtape, .int 16, .int 0, .int 0, .int 0, .int 0, .long 0, .int 0, .int 0, .int 0, .int (-1), .ref mlines, .ref mhas, .ref mtold, .ref mlaw, .ref msuit, .ref mapart, .ref mact, .ref misKept, .ref mseen, .ref mhung, .int 0, .ref mgoal, .ref mleaps, .ref mqueue, .ref mrow, .int 0, .ref mwanted, .ref mfirst, .ref moften, .int 0, .int 0, .int 0, .int 0, .int 0, .int 0, .ref mlots, .ref mthen, .long 0])), (mtape, .inl (cyB, 800, .inl g_5))] := hD
  refine lv_aload_n hx hb dX12_feed_41 rfl (lv_at hl 0 rfl) ?_
  refine lv_iload hx hb dX12_feed_42 (lv_at hl 5 rfl) ?_
  have hPc := hP.sub (ws' := [(m0, .inr (11, [.int 0, .ref mwidth, .ref mmany, .ref mcells, .ref mmoved, .ref mtape, .int 16, .int 0, .int 0, .int 0, .int 0, .long 0, .int 0, .int 0, .int 0, .int (-1), .ref mlines, .ref mhas, .ref mtold, .ref mlaw, .ref msuit, .ref mapart, .ref mact, .ref misKept, .ref mseen, .ref mhung, .int 0, .ref mgoal, .ref mleaps, .ref mqueue, .ref mrow, .int 0, .ref mwanted, .ref mfirst, .ref moften, .int 0, .int 0, .int 0, .int 0, .int 0, .int 0, .ref mlots, .ref mthen, .long 0])), (mtape, .inl (cyB, 800, .inl g_5))]) [0, 1] rfl
  have hKc := hK.sub (tys' := [(cyI, .int), (cyB, .byte), (cyJ, .long), (cyZ, .boolean), (cyH, .object RX2), (cyN, .array .long)]) [0, 1, 2, 3, 4, 5] rfl
  have hDc := hD.sub (ws' := [(m0, .inr (11, [.int 0, .ref mwidth, .ref mmany, .ref mcells, .ref mmoved, .ref mtape, .int 16, .int 0, .int 0, .int 0, .int 0, .long 0, .int 0, .int 0, .int 0, .int (-1), .ref mlines, .ref mhas, .ref mtold, .ref mlaw, .ref msuit, .ref mapart, .ref mact, .ref misKept, .ref mseen, .ref mhung, .int 0, .ref mgoal, .ref mleaps, .ref mqueue, .ref mrow, .int 0, .ref mwanted, .ref mfirst, .ref moften, .int 0, .int 0, .int 0, .int 0, .int 0, .int 0, .ref mlots, .ref mthen, .long 0])), (mtape, .inl (cyB, 800, .inl g_5))]) [0, 1] (by decide) rfl
  have hFc := va_free (wc := [(m0, .inr (11, [.int 0, .ref mwidth, .ref mmany, .ref mcells, .ref mmoved, .ref mtape, .int 16, .int 0, .int 0, .int 0, .int 0, .long 0, .int 0, .int 0, .int 0, .int (-1), .ref mlines, .ref mhas, .ref mtold, .ref mlaw, .ref msuit, .ref mapart, .ref mact, .ref misKept, .ref mseen, .ref mhung, .int 0, .ref mgoal, .ref mleaps, .ref mqueue, .ref mrow, .int 0, .ref mwanted, .ref mfirst, .ref moften, .int 0, .int 0, .int 0, .int 0, .int 0, .int 0, .ref mlots, .ref mthen, .long 0])), (mtape, .inl (cyB, 800, .inl g_5))]) hD hS hA [0, 1] rfl
  refine va_callv (va_runV (As := [.int p4]) (rest := []) ⟨hx, hb, hml, hown, hts⟩ (m_four16 l dC dI cyI cyB cyJ cyZ cyH cyN H.size m0 mwidth mmany mcells mmoved mtape mlines mhas mtold mlaw msuit mapart mact misKept mseen mhung mgoal mleaps mqueue mrow mwanted mfirst moften mlots mthen g_5 p4) (cwV 1 hts (gdV wd_6_196 wd_6_198 wd_s3_7 wd_1_11 wd_6_199) rfl rfl rfl (by decide +kernel) ⟨Nat.le_of_ble_eq_true rfl, Nat.le_of_ble_eq_true rfl⟩) ⟨fun a U g mk q => by obtain ⟨q0, q1, qP, qK, qD⟩ := q; exact ⟨q0, q1, qP, va_K.moved (u := U) (U := U.calling g mk a) (Vm.Alike.refl U.vm) qK, qD⟩, va_recv hKc hPc (ci := 11) (q0 := 0) rfl rfl, fun U hU hW => ⟨rfl, by rw [hU], by rw [hU]; exact hPc, va_K.moved hW.alike hKc, hDc.weaken (fun _ _ _ _ => trivial)⟩⟩ rfl rfl hl.1 rfl (lv_room (Nat.le_of_ble_eq_true rfl)) dX12_feed_44 ⟨Nat.le_of_ble_eq_true rfl, Nat.le_of_ble_eq_true rfl⟩) hS (fun q _ h => hFc q h) hFc (fun  u t H1 locs ht hvm hw hB hz1 hk1 hS => ?_)
  obtain ⟨g_6, hP1, hD1⟩ := hB
  rw [ht] at hP1
  obtain ⟨hP, hD⟩ := va_join (wr := []) (w1 := [(m0, .inr (11, [.int 0, .ref mwidth, .ref mmany, .ref mcells, .ref mmoved, .ref mtape, .int 20, .int 0, .int 0, .int 0, .int 0, .long 0, .int 0, .int 0, .int 0, .int (-1), .ref mlines, .ref mhas, .ref mtold, .ref mlaw, .ref msuit, .ref mapart, .ref mact, .ref misKept, .ref mseen, .ref mhung, .int 0, .ref mgoal, .ref mleaps, .ref mqueue, .ref mrow, .int 0, .ref mwanted, .ref mfirst, .ref moften, .int 0, .int 0, .int 0, .int 0, .int 0, .int 0, .ref mlots, .ref mthen, .long 0])), (mtape, .inl (cyB, 800, .inl g_6))]) hP hD [0, 1] [] rfl rfl (by decide) (by decide) hk1 hFc hP1 hD1
  generalize H1 = H at hP hS ⊢
  have hP : va_P (dC, dI) vwCl [(m0, .inr (11, [.int 0, .ref mwidth, .ref mmany, .ref mcells, .ref mmoved, .ref mtape, .int 20, .int 0, .int 0, .int 0, .int 0, .long 0, .int 0, .int 0, .int 0, .int (-1), .ref mlines, .ref mhas, .ref mtold, .ref mlaw, .ref msuit, .ref mapart, .ref mact, .ref misKept, .ref mseen, .ref mhung, .int 0, .ref mgoal, .ref mleaps, .ref mqueue, .ref mrow, .int 0, .ref mwanted, .ref mfirst, .ref moften, .int 0, .int 0, .int 0, .int 0, .int 0, .int 0, .ref mlots, .ref mthen, .long 0])), (mtape, .inl (cyB, 800, .inl g_6))] H := hP
  have hD : va_D A [(m0, .inr (11, [.int 0, .ref mwidth, .ref mmany, .ref mcells, .ref mmoved, .ref mtape, .int 20, .int 0, .int 0, .int 0, .int 0, .long 0, .int 0, .int 0, .int 0, .int (-1), .ref mlines, .ref mhas, .ref mtold, .ref mlaw, .ref msuit, .ref mapart, .ref mact, .ref misKept, .ref mseen, .ref mhung, .int 0, .ref mgoal, .ref mleaps, .ref mqueue, .ref mrow, .int 0, .ref mwanted, .ref mfirst, .ref moften, .int 0, .int 0, .int 0, .int 0, .int 0, .int 0, .ref mlots, .ref mthen, .long 0])), (mtape, .inl (cyB, 800, .inl g_6))] := hD
  refine lv_aload_n hx hb dX12_feed_47 rfl (lv_at hl 0 rfl) ?_
  refine va_get (D := (dC, dI)) (ci := 11) (v := .int 20) (C := RX12) (T := TX12) (N := 44) hx hb hts uinX12 hown hK hP 0 rfl rfl 6 (by decide) (hts _ wd_6_43) (fun _ h9 => h9) rfl dX12_feed_48 ?_
  exact W.iret (v := 20) hx hb hr (fun t ht hW => ⟨⟨20, (), rfl, rfl, trivial⟩, hS.F ht⟩) hS.2.2 dX12_feed_51

/- X12_end -/
set_option maxHeartbeats 4000000 in
set_option maxRecDepth 100000 in
theorem m_end (l : Launch) (dC : Nat → ClassId) (dI : Nat → Nat → Nat) (cyI cyB cyJ cyZ cyH cyN : ClassId) (sz : Nat) (m0 mwidth mmany mcells mmoved mtape mlines mhas mtold mlaw msuit mapart mact misKept mseen mhung mgoal mleaps mqueue mrow mwanted mfirst moften mlots mthen : Nat) (p0 : Int32) : Met l yX12_end (wk yX12_end cX12_end 2 (some .int)) ({ frames := 2, cells := 0, slots := 0, locals := 85 }) (va_Pc [.ref m0, .int p0] (fun U => U.heap.size = sz ∧ va_P (dC, dI) vwCl [(m0, .inr (11, [.int 0, .ref mwidth, .ref mmany, .ref mcells, .ref mmoved, .ref mtape, .int 0, .int 0, .int 0, .int 0, .int 0, .long 0, .int 0, .int 0, .int 0, .int (-1), .ref mlines, .ref mhas, .ref mtold, .ref mlaw, .ref msuit, .ref mapart, .ref mact, .ref misKept, .ref mseen, .ref mhung, .int 0, .ref mgoal, .ref mleaps, .ref mqueue, .ref mrow, .int 0, .ref mwanted, .ref mfirst, .ref moften, .int 0, .int 0, .int 0, .int 0, .int 0, .int 0, .ref mlots, .ref mthen, .long 0]))] U.heap ∧ va_K (dC, dI) vwCl [(cyI, .int), (cyB, .byte), (cyJ, .long), (cyZ, .boolean), (cyH, .object RX2), (cyN, .array .long)] U ∧ va_D (fun _ => True) [(m0, .inr (11, [.int 0, .ref mwidth, .ref mmany, .ref mcells, .ref mmoved, .ref mtape, .int 0, .int 0, .int 0, .int 0, .int 0, .long 0, .int 0, .int 0, .int 0, .int (-1), .ref mlines, .ref mhas, .ref mtold, .ref mlaw, .ref msuit, .ref mapart, .ref mact, .ref misKept, .ref mseen, .ref mhung, .int 0, .ref mgoal, .ref mleaps, .ref mqueue, .ref mrow, .int 0, .ref mwanted, .ref mfirst, .ref moften, .int 0, .int 0, .int 0, .int 0, .int 0, .int 0, .ref mlots, .ref mthen, .long 0]))])) (va_Qi (fun (r : Int32) (_ : Unit) => r = (if p0.toInt = 0 then p0 else (-1))) (fun (_ : Unit) (_ : State) => True) (va_A [(m0, .inr (11, [.int 0, .ref mwidth, .ref mmany, .ref mcells, .ref mmoved, .ref mtape, .int 0, .int 0, .int 0, .int 0, .int 0, .long 0, .int 0, .int 0, .int 0, .int (-1), .ref mlines, .ref mhas, .ref mtold, .ref mlaw, .ref msuit, .ref mapart, .ref mact, .ref misKept, .ref mseen, .ref mhung, .int 0, .ref mgoal, .ref mleaps, .ref mqueue, .ref mrow, .int 0, .ref mwanted, .ref mfirst, .ref moften, .int 0, .int 0, .int 0, .int 0, .int 0, .int 0, .ref mlots, .ref mthen, .long 0]))] sz)) 0 0 (va_A [(m0, .inr (11, [.int 0, .ref mwidth, .ref mmany, .ref mcells, .ref mmoved, .ref mtape, .int 0, .int 0, .int 0, .int 0, .int 0, .long 0, .int 0, .int 0, .int 0, .int (-1), .ref mlines, .ref mhas, .ref mtold, .ref mlaw, .ref msuit, .ref mapart, .ref mact, .ref misKept, .ref mseen, .ref mhung, .int 0, .ref mgoal, .ref mleaps, .ref mqueue, .ref mrow, .int 0, .ref mwanted, .ref mfirst, .ref moften, .int 0, .int 0, .int 0, .int 0, .int 0, .int 0, .ref mlots, .ref mthen, .long 0]))] sz) := by
  refine Met.ofW (cc := cX12_end) (maxL := 2) (ret := (some .int)) (by decide) rfl ?_
  intro p e s m args below meth c s₁ B hml hv
  obtain ⟨rfl, hsz, hP, hK, hD0⟩ := hv
  have hx := B.exec
  have hb := B.bytes
  have hr := B.returns
  have hts : ∀ w ∈ uU, w.before ([.ref m0, .int p0] : List Value).toArray s = true := fun w h => atoms_spec (ws := wk yX12_end cX12_end 2 (some .int)) B.pre w (List.mem_cons_of_mem _ h)
  have hown : s.vm.findClass RX12 = some m.cls := findClass_of_methodNamed B.named
  have hlocks := B.notSynchronized
  subst hsz
  have hD := hD0.self (sz := s.heap.size)
  generalize hAe : va_A [(m0, .inr (11, [.int 0, .ref mwidth, .ref mmany, .ref mcells, .ref mmoved, .ref mtape, .int 0, .int 0, .int 0, .int 0, .int 0, .long 0, .int 0, .int 0, .int 0, .int (-1), .ref mlines, .ref mhas, .ref mtold, .ref mlaw, .ref msuit, .ref mapart, .ref mact, .ref misKept, .ref mseen, .ref mhung, .int 0, .ref mgoal, .ref mleaps, .ref mqueue, .ref mrow, .int 0, .ref mwanted, .ref mfirst, .ref moften, .int 0, .int 0, .int 0, .int 0, .int 0, .int 0, .ref mlots, .ref mthen, .long 0]))] s.heap.size = A at hD ⊢
  have hA : ∀ q : Nat, s.heap.size ≤ q → A q := fun q h => by rw [← hAe]; exact Or.inr h
  have hS : va_S A s.heap s.heap [] := va_S.rf
  have hP : va_P (dC, dI) vwCl [(m0, .inr (11, [.int 0, .ref mwidth, .ref mmany, .ref mcells, .ref mmoved, .ref mtape, .int 0, .int 0, .int 0, .int 0, .int 0, .long 0, .int 0, .int 0, .int 0, .int (-1), .ref mlines, .ref mhas, .ref mtold, .ref mlaw, .ref msuit, .ref mapart, .ref mact, .ref misKept, .ref mseen, .ref mhung, .int 0, .ref mgoal, .ref mleaps, .ref mqueue, .ref mrow, .int 0, .ref mwanted, .ref mfirst, .ref moften, .int 0, .int 0, .int 0, .int 0, .int 0, .int 0, .ref mlots, .ref mthen, .long 0]))] s.heap := hP
  have hl := lv_entry ([.ref m0, .int p0]) (n := 2) (Nat.le_of_ble_eq_true rfl)
  rw [lg_entry_eq]
  generalize (lg_sl ([.ref m0, .int p0]) ++ List.replicate (2 - (lg_sl ([.ref m0, .int p0])).length) Slot.unset).toArray = ls at hl ⊢
  have hl : lv_has ls 2 [(0, .ref m0), (1, .int p0)] := hl
  obtain ⟨H, hHe⟩ : ∃ H, H = s.heap := ⟨_, rfl⟩
  have hP : va_P (dC, dI) vwCl [(m0, .inr (11, [.int 0, .ref mwidth, .ref mmany, .ref mcells, .ref mmoved, .ref mtape, .int 0, .int 0, .int 0, .int 0, .int 0, .long 0, .int 0, .int 0, .int 0, .int (-1), .ref mlines, .ref mhas, .ref mtold, .ref mlaw, .ref msuit, .ref mapart, .ref mact, .ref misKept, .ref mseen, .ref mhung, .int 0, .ref mgoal, .ref mleaps, .ref mqueue, .ref mrow, .int 0, .ref mwanted, .ref mfirst, .ref moften, .int 0, .int 0, .int 0, .int 0, .int 0, .int 0, .ref mlots, .ref mthen, .long 0]))] H := by rw [hHe]; exact hP
  have hS : va_S A s.heap H [] := by rw [hHe]; exact hS
  refine cv_heap hHe ?_
  refine lv_aload_n hx hb dX12_end_0 rfl (lv_at hl 0 rfl) ?_
  refine lv_iconst (v := 0) hx hb dX12_end_1 (by decide) ?_
  refine va_put (D := (dC, dI)) (ci := 11) (v := .int 0) (ty := .int) (C := RX12) (T := TX12) (N := 44) hx hb hts uinX12 tyX12 tyX12_ok nmX12 hown hK hP hD hS 0 rfl rfl 0 (by decide) (hts _ wd_6_37) (fun _ h9 => h9) rfl (by decide +kernel) rfl rfl (Nat.le_of_ble_eq_true rfl) dX12_end_2 (fun H locs hP hD hS => ?_)
  have hP : va_P (dC, dI) vwCl [(m0, .inr (11, [.int 0, .ref mwidth, .ref mmany, .ref mcells, .ref mmoved, .ref mtape, .int 0, .int 0, .int 0, .int 0, .int 0, .long 0, .int 0, .int 0, .int 0, .int (-1), .ref mlines, .ref mhas, .ref mtold, .ref mlaw, .ref msuit, .ref mapart, .ref mact, .ref misKept, .ref mseen, .ref mhung, .int 0, .ref mgoal, .ref mleaps, .ref mqueue, .ref mrow, .int 0, .ref mwanted, .ref mfirst, .ref moften, .int 0, .int 0, .int 0, .int 0, .int 0, .int 0, .ref mlots, .ref mthen, .long 0]))] H := hP
  have hD : va_D A [(m0, .inr (11, [.int 0, .ref mwidth, .ref mmany, .ref mcells, .ref mmoved, .ref mtape, .int 0, .int 0, .int 0, .int 0, .int 0, .long 0, .int 0, .int 0, .int 0, .int (-1), .ref mlines, .ref mhas, .ref mtold, .ref mlaw, .ref msuit, .ref mapart, .ref mact, .ref misKept, .ref mseen, .ref mhung, .int 0, .ref mgoal, .ref mleaps, .ref mqueue, .ref mrow, .int 0, .ref mwanted, .ref mfirst, .ref moften, .int 0, .int 0, .int 0, .int 0, .int 0, .int 0, .ref mlots, .ref mthen, .long 0]))] := hD
  refine lv_iload_n hx hb dX12_end_5 rfl (lv_at hl 1 rfl) ?_
  obtain ⟨y_1, ey_1⟩ : ∃ z : Int64, z = p0.toInt64 := ⟨_, rfl⟩
  have fy_1 : y_1.toInt = p0.toInt := by rw [ey_1]; exact Int32.toInt_toInt64 _
  refine lv_i2l (v := y_1) hx hb dX12_end_6 ey_1.symm ?_
  refine lv_lconst (v := 0) hx hb dX12_end_7 (by decide) ?_
  refine lv_aload_n hx hb dX12_end_8 rfl (lv_at hl 0 rfl) ?_
  refine va_get (D := (dC, dI)) (ci := 11) (v := .int 0) (C := RX12) (T := TX12) (N := 44) hx hb hts uinX12 hown hK hP 0 rfl rfl 6 (by decide) (hts _ wd_6_43) (fun _ h9 => h9) rfl dX12_end_9 ?_
  refine lv_i2l (v := 0) hx hb dX12_end_12 (by decide) ?_
  refine vp_callSi (va_Run.run (va_runS (As := [.long y_1, .long 0, .long 0]) (rest := []) ⟨hx, hb, hml, hown, hts⟩ (m_in l dC dI cyI cyB cyJ cyZ cyH cyN y_1 0 0) (va_cwS 3 hts (gdS wd_6_178 wd_6_179 wd_1_11 wd_6_180) rfl rfl rfl (by decide +kernel) ⟨Nat.le_of_ble_eq_true rfl, Nat.le_of_ble_eq_true rfl⟩) ⟨fun a U g mk q => q, fun U hU hW => ⟨rfl, trivial⟩⟩ rfl rfl hl.1 rfl (lv_room (Nat.le_of_ble_eq_true rfl)) dX12_end_13 ⟨Nat.le_of_ble_eq_true rfl, Nat.le_of_ble_eq_true rfl⟩)) (fun r_2 hw => ?_)
  by_cases c_3 : ((0 : Int64).toInt ≤ y_1.toInt ∧ y_1.toInt ≤ (0 : Int64).toInt)
  · rw [if_pos c_3] at hw; subst hw; have c_3 : (0 ≤ y_1.toInt ∧ y_1.toInt ≤ 0) := c_3
    refine lv_if_ne (tgt := 21) hx hb dX12_end_16 (by decide) (fun _ => ?_) (fun c_4 => absurd c_4 (by decide))
    refine lv_aload_n hx hb dX12_end_21 rfl (lv_at hl 0 rfl) ?_
    refine lv_iload_n hx hb dX12_end_22 rfl (lv_at hl 1 rfl) ?_
    refine va_put (D := (dC, dI)) (ci := 11) (v := .int p0) (ty := .int) (C := RX12) (T := TX12) (N := 44) hx hb hts uinX12 tyX12 tyX12_ok nmX12 hown hK hP hD hS 0 rfl rfl 6 (by decide) (hts _ wd_6_43) (fun _ h9 => h9) rfl (by decide +kernel) rfl rfl (Nat.le_of_ble_eq_true rfl) dX12_end_23 (fun H locs hP hD hS => ?_)
    have hP : va_P (dC, dI) vwCl [(m0, .inr (11, [.int 0, .ref mwidth, .ref mmany, .ref mcells, .ref mmoved, .ref mtape, .int p0, .int 0, .int 0, .int 0, .int 0, .long 0, .int 0, .int 0, .int 0, .int (-1), .ref mlines, .ref mhas, .ref mtold, .ref mlaw, .ref msuit, .ref mapart, .ref mact, .ref misKept, .ref mseen, .ref mhung, .int 0, .ref mgoal, .ref mleaps, .ref mqueue, .ref mrow, .int 0, .ref mwanted, .ref mfirst, .ref moften, .int 0, .int 0, .int 0, .int 0, .int 0, .int 0, .ref mlots, .ref mthen, .long 0]))] H := hP
    have hD : va_D A [(m0, .inr (11, [.int 0, .ref mwidth, .ref mmany, .ref mcells, .ref mmoved, .ref mtape, .int p0, .int 0, .int 0, .int 0, .int 0, .long 0, .int 0, .int 0, .int 0, .int (-1), .ref mlines, .ref mhas, .ref mtold, .ref mlaw, .ref msuit, .ref mapart, .ref mact, .ref misKept, .ref mseen, .ref mhung, .int 0, .ref mgoal, .ref mleaps, .ref mqueue, .ref mrow, .int 0, .ref mwanted, .ref mfirst, .ref moften, .int 0, .int 0, .int 0, .int 0, .int 0, .int 0, .ref mlots, .ref mthen, .long 0]))] := hD
    refine lv_iload_n hx hb dX12_end_26 rfl (lv_at hl 1 rfl) ?_
    exact W.iret (v := p0) hx hb hr (fun t ht hW => ⟨⟨p0, (), rfl, (by first | (rw [if_pos (by omega)]; done) | (rw [if_neg (by omega)]; done) | (rw [if_neg (by omega), if_pos (by omega)]; done) | (rw [if_neg (by omega), if_neg (by omega)]; done)), trivial⟩, hS.F ht⟩) hS.2.2 dX12_end_27
  · rw [if_neg c_3] at hw; subst hw; have c_3 : ¬ (0 ≤ y_1.toInt ∧ y_1.toInt ≤ 0) := c_3
    refine lv_if_ne (tgt := 21) hx hb dX12_end_16 (by decide) (fun c_5 => absurd c_5 (by decide)) (fun _ => ?_)
    refine lv_iconst (v := (-1)) hx hb dX12_end_19 (by decide) ?_
    exact W.iret (v := (-1)) hx hb hr (fun t ht hW => ⟨⟨(-1), (), rfl, (by first | (rw [if_pos (by omega)]; done) | (rw [if_neg (by omega)]; done) | (rw [if_neg (by omega), if_pos (by omega)]; done) | (rw [if_neg (by omega), if_neg (by omega)]; done)), trivial⟩, hS.F ht⟩) hS.2.2 dX12_end_20

/- X12_isByte -/
set_option maxHeartbeats 4000000 in
set_option maxRecDepth 100000 in
theorem m_isByte (l : Launch) (dC : Nat → ClassId) (dI : Nat → Nat → Nat) (cyI cyB cyJ cyZ cyH cyN : ClassId) (m0 mwidth mmany mcells mmoved mtape mlines mhas mtold mlaw msuit mapart mact misKept mseen mhung mgoal mleaps mqueue mrow mwanted mfirst moften mlots mthen : Nat) (bp p1 p2 : Int32) : Met l yX12_isByte (wk yX12_isByte cX12_isByte 4 (some .boolean)) ({ frames := 1, cells := 0, slots := 0, locals := 60 }) (va_Pc [.ref m0, .int 0, .int p1, .int p2] (fun U => va_P (dC, dI) vwCl [(m0, .inr (11, [.int 0, .ref mwidth, .ref mmany, .ref mcells, .ref mmoved, .ref mtape, .int 0, .int 0, .int 0, .int 0, .int 0, .long 0, .int 0, .int bp, .int 0, .int (-1), .ref mlines, .ref mhas, .ref mtold, .ref mlaw, .ref msuit, .ref mapart, .ref mact, .ref misKept, .ref mseen, .ref mhung, .int 0, .ref mgoal, .ref mleaps, .ref mqueue, .ref mrow, .int 0, .ref mwanted, .ref mfirst, .ref moften, .int 0, .int 0, .int 0, .int 0, .int 0, .int 0, .ref mlots, .ref mthen, .long 0]))] U.heap ∧ va_K (dC, dI) vwCl [(cyI, .int), (cyB, .byte), (cyJ, .long), (cyZ, .boolean), (cyH, .object RX2), (cyN, .array .long)] U)) (vp_Si (fun r : Int32 => r = 0)) 0 0 (fun _ => False) := by
  refine Met.ofW (cc := cX12_isByte) (maxL := 4) (ret := (some .boolean)) (by decide) rfl ?_
  intro p e s m args below meth c s₁ B hml hv
  obtain ⟨rfl, hP, hK⟩ := hv
  have hx := B.exec
  have hb := B.bytes
  have hr := B.returns
  have hts : ∀ w ∈ uU, w.before ([.ref m0, .int 0, .int p1, .int p2] : List Value).toArray s = true := fun w h => atoms_spec (ws := wk yX12_isByte cX12_isByte 4 (some .boolean)) B.pre w (List.mem_cons_of_mem _ h)
  have hown : s.vm.findClass RX12 = some m.cls := findClass_of_methodNamed B.named
  have hlocks := B.notSynchronized
  have hl := lv_entry ([.ref m0, .int 0, .int p1, .int p2]) (n := 4) (Nat.le_of_ble_eq_true rfl)
  rw [lg_entry_eq]
  generalize (lg_sl ([.ref m0, .int 0, .int p1, .int p2]) ++ List.replicate (4 - (lg_sl ([.ref m0, .int 0, .int p1, .int p2])).length) Slot.unset).toArray = ls at hl ⊢
  have hl : lv_has ls 4 [(0, .ref m0), (1, .int 0), (2, .int p1), (3, .int p2)] := hl
  refine lv_iload_n hx hb dX12_isByte_0 rfl (lv_at hl 1 rfl) ?_
  refine lv_aload_n hx hb dX12_isByte_1 rfl (lv_at hl 0 rfl) ?_
  refine va_get (D := (dC, dI)) (ci := 11) (v := .int 0) (C := RX12) (T := TX12) (N := 44) hx hb hts uinX12 hown hK hP 0 rfl rfl 6 (by decide) (hts _ wd_6_43) (fun _ h9 => h9) rfl dX12_isByte_2 ?_
  refine lv_icmp_ge (tgt := 32) hx hb dX12_isByte_5 (by decide) (fun _ => ?_) (fun c_1 => absurd c_1 (by decide))
  refine lv_iconst (v := 0) hx hb dX12_isByte_32 (by decide) ?_
  exact W.zret (v := 0) (ty := .boolean) hx hb hr rfl (fun t ht hW => ⟨0, rfl, rfl, ht⟩) (fun q h => by cases h) dX12_isByte_33

/- X12_next -/
set_option maxHeartbeats 4000000 in
set_option maxRecDepth 100000 in
theorem m_next (l : Launch) (dC : Nat → ClassId) (dI : Nat → Nat → Nat) (cyI cyB cyJ cyZ cyH cyN : ClassId) (sz : Nat) (m0 mwidth mmany mcells mmoved mtape mlines mhas mtold mlaw msuit mapart mact misKept mseen mhung mgoal mleaps mqueue mrow mwanted mfirst moften mlots mthen : Nat) (bp : Int32) : Met l yX12_next (wk yX12_next cX12_next 2 none) ({ frames := 2, cells := 0, slots := 0, locals := 83 }) (va_Pc [.ref m0] (fun U => U.heap.size = sz ∧ va_P (dC, dI) vwCl [(m0, .inr (11, [.int 0, .ref mwidth, .ref mmany, .ref mcells, .ref mmoved, .ref mtape, .int 0, .int 0, .int 0, .int 0, .int 0, .long 0, .int 0, .int bp, .int 0, .int (-1), .ref mlines, .ref mhas, .ref mtold, .ref mlaw, .ref msuit, .ref mapart, .ref mact, .ref misKept, .ref mseen, .ref mhung, .int 0, .ref mgoal, .ref mleaps, .ref mqueue, .ref mrow, .int 0, .ref mwanted, .ref mfirst, .ref moften, .int 0, .int 0, .int 0, .int 0, .int 0, .int 0, .ref mlots, .ref mthen, .long 0]))] U.heap ∧ va_K (dC, dI) vwCl [(cyI, .int), (cyB, .byte), (cyJ, .long), (cyZ, .boolean), (cyH, .object RX2), (cyN, .array .long)] U ∧ va_D (fun _ => True) [(m0, .inr (11, [.int 0, .ref mwidth, .ref mmany, .ref mcells, .ref mmoved, .ref mtape, .int 0, .int 0, .int 0, .int 0, .int 0, .long 0, .int 0, .int bp, .int 0, .int (-1), .ref mlines, .ref mhas, .ref mtold, .ref mlaw, .ref msuit, .ref mapart, .ref mact, .ref misKept, .ref mseen, .ref mhung, .int 0, .ref mgoal, .ref mleaps, .ref mqueue, .ref mrow, .int 0, .ref mwanted, .ref mfirst, .ref moften, .int 0, .int 0, .int 0, .int 0, .int 0, .int 0, .ref mlots, .ref mthen, .long 0]))])) (va_Qv (fun _ : Unit => True) (fun (_ : Unit) (t : State) => va_P (dC, dI) vwCl [(m0, .inr (11, [.int 0, .ref mwidth, .ref mmany, .ref mcells, .ref mmoved, .ref mtape, .int 0, .int 0, .int 0, .int 0, .int 0, .long 0, .int 0, .int bp, .int 0, .int (-1), .ref mlines, .ref mhas, .ref mtold, .ref mlaw, .ref msuit, .ref mapart, .ref mact, .ref misKept, .ref mseen, .ref mhung, .int 0, .ref mgoal, .ref mleaps, .ref mqueue, .ref mrow, .int 0, .ref mwanted, .ref mfirst, .ref moften, .int 0, .int 0, .int 0, .int 0, .int 0, .int 0, .ref mlots, .ref mthen, .long 0]))] t.heap ∧ va_D (va_A [(m0, .inr (11, [.int 0, .ref mwidth, .ref mmany, .ref mcells, .ref mmoved, .ref mtape, .int 0, .int 0, .int 0, .int 0, .int 0, .long 0, .int 0, .int bp, .int 0, .int (-1), .ref mlines, .ref mhas, .ref mtold, .ref mlaw, .ref msuit, .ref mapart, .ref mact, .ref misKept, .ref mseen, .ref mhung, .int 0, .ref mgoal, .ref mleaps, .ref mqueue, .ref mrow, .int 0, .ref mwanted, .ref mfirst, .ref moften, .int 0, .int 0, .int 0, .int 0, .int 0, .int 0, .ref mlots, .ref mthen, .long 0]))] sz) [(m0, .inr (11, [.int 0, .ref mwidth, .ref mmany, .ref mcells, .ref mmoved, .ref mtape, .int 0, .int 0, .int 0, .int 0, .int 0, .long 0, .int 0, .int bp, .int 0, .int (-1), .ref mlines, .ref mhas, .ref mtold, .ref mlaw, .ref msuit, .ref mapart, .ref mact, .ref misKept, .ref mseen, .ref mhung, .int 0, .ref mgoal, .ref mleaps, .ref mqueue, .ref mrow, .int 0, .ref mwanted, .ref mfirst, .ref moften, .int 0, .int 0, .int 0, .int 0, .int 0, .int 0, .ref mlots, .ref mthen, .long 0]))]) (va_A [(m0, .inr (11, [.int 0, .ref mwidth, .ref mmany, .ref mcells, .ref mmoved, .ref mtape, .int 0, .int 0, .int 0, .int 0, .int 0, .long 0, .int 0, .int bp, .int 0, .int (-1), .ref mlines, .ref mhas, .ref mtold, .ref mlaw, .ref msuit, .ref mapart, .ref mact, .ref misKept, .ref mseen, .ref mhung, .int 0, .ref mgoal, .ref mleaps, .ref mqueue, .ref mrow, .int 0, .ref mwanted, .ref mfirst, .ref moften, .int 0, .int 0, .int 0, .int 0, .int 0, .int 0, .ref mlots, .ref mthen, .long 0]))] sz)) 0 0 (va_A [(m0, .inr (11, [.int 0, .ref mwidth, .ref mmany, .ref mcells, .ref mmoved, .ref mtape, .int 0, .int 0, .int 0, .int 0, .int 0, .long 0, .int 0, .int bp, .int 0, .int (-1), .ref mlines, .ref mhas, .ref mtold, .ref mlaw, .ref msuit, .ref mapart, .ref mact, .ref misKept, .ref mseen, .ref mhung, .int 0, .ref mgoal, .ref mleaps, .ref mqueue, .ref mrow, .int 0, .ref mwanted, .ref mfirst, .ref moften, .int 0, .int 0, .int 0, .int 0, .int 0, .int 0, .ref mlots, .ref mthen, .long 0]))] sz) := by
  refine Met.ofW (cc := cX12_next) (maxL := 2) (ret := none) (by decide) rfl ?_
  intro p e s m args below meth c s₁ B hml hv
  obtain ⟨rfl, hsz, hP, hK, hD0⟩ := hv
  have hx := B.exec
  have hb := B.bytes
  have hr := B.returns
  have hts : ∀ w ∈ uU, w.before ([.ref m0] : List Value).toArray s = true := fun w h => atoms_spec (ws := wk yX12_next cX12_next 2 none) B.pre w (List.mem_cons_of_mem _ h)
  have hown : s.vm.findClass RX12 = some m.cls := findClass_of_methodNamed B.named
  have hlocks := B.notSynchronized
  subst hsz
  have hD := hD0.self (sz := s.heap.size)
  generalize hAe : va_A [(m0, .inr (11, [.int 0, .ref mwidth, .ref mmany, .ref mcells, .ref mmoved, .ref mtape, .int 0, .int 0, .int 0, .int 0, .int 0, .long 0, .int 0, .int bp, .int 0, .int (-1), .ref mlines, .ref mhas, .ref mtold, .ref mlaw, .ref msuit, .ref mapart, .ref mact, .ref misKept, .ref mseen, .ref mhung, .int 0, .ref mgoal, .ref mleaps, .ref mqueue, .ref mrow, .int 0, .ref mwanted, .ref mfirst, .ref moften, .int 0, .int 0, .int 0, .int 0, .int 0, .int 0, .ref mlots, .ref mthen, .long 0]))] s.heap.size = A at hD ⊢
  have hA : ∀ q : Nat, s.heap.size ≤ q → A q := fun q h => by rw [← hAe]; exact Or.inr h
  have hS : va_S A s.heap s.heap [] := va_S.rf
  have hP : va_P (dC, dI) vwCl [(m0, .inr (11, [.int 0, .ref mwidth, .ref mmany, .ref mcells, .ref mmoved, .ref mtape, .int 0, .int 0, .int 0, .int 0, .int 0, .long 0, .int 0, .int bp, .int 0, .int (-1), .ref mlines, .ref mhas, .ref mtold, .ref mlaw, .ref msuit, .ref mapart, .ref mact, .ref misKept, .ref mseen, .ref mhung, .int 0, .ref mgoal, .ref mleaps, .ref mqueue, .ref mrow, .int 0, .ref mwanted, .ref mfirst, .ref moften, .int 0, .int 0, .int 0, .int 0, .int 0, .int 0, .ref mlots, .ref mthen, .long 0]))] s.heap := hP
  have hl := lv_entry ([.ref m0]) (n := 2) (Nat.le_of_ble_eq_true rfl)
  rw [lg_entry_eq]
  generalize (lg_sl ([.ref m0]) ++ List.replicate (2 - (lg_sl ([.ref m0])).length) Slot.unset).toArray = ls at hl ⊢
  have hl : lv_has ls 2 [(0, .ref m0)] := hl
  obtain ⟨H, hHe⟩ : ∃ H, H = s.heap := ⟨_, rfl⟩
  have hP : va_P (dC, dI) vwCl [(m0, .inr (11, [.int 0, .ref mwidth, .ref mmany, .ref mcells, .ref mmoved, .ref mtape, .int 0, .int 0, .int 0, .int 0, .int 0, .long 0, .int 0, .int bp, .int 0, .int (-1), .ref mlines, .ref mhas, .ref mtold, .ref mlaw, .ref msuit, .ref mapart, .ref mact, .ref misKept, .ref mseen, .ref mhung, .int 0, .ref mgoal, .ref mleaps, .ref mqueue, .ref mrow, .int 0, .ref mwanted, .ref mfirst, .ref moften, .int 0, .int 0, .int 0, .int 0, .int 0, .int 0, .ref mlots, .ref mthen, .long 0]))] H := by rw [hHe]; exact hP
  have hS : va_S A s.heap H [] := by rw [hHe]; exact hS
  refine cv_heap hHe ?_
  refine lv_aload_n hx hb dX12_next_0 rfl (lv_at hl 0 rfl) ?_
  refine lv_aload_n hx hb dX12_next_1 rfl (lv_at hl 0 rfl) ?_
  refine va_get (D := (dC, dI)) (ci := 11) (v := .int 0) (C := RX12) (T := TX12) (N := 44) hx hb hts uinX12 hown hK hP 0 rfl rfl 7 (by decide) (hts _ wd_6_44) (fun _ h9 => h9) rfl dX12_next_2 ?_
  refine lv_bipush (v := 32) hx hb dX12_next_5 (by decide) ?_
  refine lv_bipush (v := 32) hx hb dX12_next_7 (by decide) ?_
  have hPc := hP.sub (ws' := [(m0, .inr (11, [.int 0, .ref mwidth, .ref mmany, .ref mcells, .ref mmoved, .ref mtape, .int 0, .int 0, .int 0, .int 0, .int 0, .long 0, .int 0, .int bp, .int 0, .int (-1), .ref mlines, .ref mhas, .ref mtold, .ref mlaw, .ref msuit, .ref mapart, .ref mact, .ref misKept, .ref mseen, .ref mhung, .int 0, .ref mgoal, .ref mleaps, .ref mqueue, .ref mrow, .int 0, .ref mwanted, .ref mfirst, .ref moften, .int 0, .int 0, .int 0, .int 0, .int 0, .int 0, .ref mlots, .ref mthen, .long 0]))]) [0] rfl
  have hKc := hK.sub (tys' := [(cyI, .int), (cyB, .byte), (cyJ, .long), (cyZ, .boolean), (cyH, .object RX2), (cyN, .array .long)]) [0, 1, 2, 3, 4, 5] rfl
  refine vp_callSi (va_Run.run (va_runV (As := [.int 0, .int 32, .int 32]) (rest := []) ⟨hx, hb, hml, hown, hts⟩ (m_isByte l dC dI cyI cyB cyJ cyZ cyH cyN m0 mwidth mmany mcells mmoved mtape mlines mhas mtold mlaw msuit mapart mact misKept mseen mhung mgoal mleaps mqueue mrow mwanted mfirst moften mlots mthen bp 32 32) (cwV 3 hts (gdV wd_6_228 wd_6_230 wd_s3_12 wd_1_11 wd_6_231) rfl rfl rfl (by decide +kernel) ⟨Nat.le_of_ble_eq_true rfl, Nat.le_of_ble_eq_true rfl⟩) ⟨fun a U g mk q => by obtain ⟨q0, qP, qK⟩ := q; exact ⟨q0, qP, va_K.moved (u := U) (U := U.calling g mk a) (Vm.Alike.refl U.vm) qK⟩, va_recv hKc hPc (ci := 11) (q0 := 0) rfl rfl, fun U hU hW => ⟨rfl, by rw [hU]; exact hPc, va_K.moved hW.alike hKc⟩⟩ rfl rfl hl.1 rfl (lv_room (Nat.le_of_ble_eq_true rfl)) dX12_next_9 ⟨Nat.le_of_ble_eq_true rfl, Nat.le_of_ble_eq_true rfl⟩)) (fun r_1 hw => ?_)
  subst hw
  refine lv_if_ne (tgt := 30) hx hb dX12_next_12 (by decide) (fun c_2 => absurd c_2 (by decide)) (fun _ => ?_)
  refine lv_aload_n hx hb dX12_next_15 rfl (lv_at hl 0 rfl) ?_
  refine lv_aload_n hx hb dX12_next_16 rfl (lv_at hl 0 rfl) ?_
  refine va_get (D := (dC, dI)) (ci := 11) (v := .int 0) (C := RX12) (T := TX12) (N := 44) hx hb hts uinX12 hown hK hP 0 rfl rfl 7 (by decide) (hts _ wd_6_44) (fun _ h9 => h9) rfl dX12_next_17 ?_
  refine lv_bipush (v := 10) hx hb dX12_next_20 (by decide) ?_
  refine lv_bipush (v := 10) hx hb dX12_next_22 (by decide) ?_
  have hPc := hP.sub (ws' := [(m0, .inr (11, [.int 0, .ref mwidth, .ref mmany, .ref mcells, .ref mmoved, .ref mtape, .int 0, .int 0, .int 0, .int 0, .int 0, .long 0, .int 0, .int bp, .int 0, .int (-1), .ref mlines, .ref mhas, .ref mtold, .ref mlaw, .ref msuit, .ref mapart, .ref mact, .ref misKept, .ref mseen, .ref mhung, .int 0, .ref mgoal, .ref mleaps, .ref mqueue, .ref mrow, .int 0, .ref mwanted, .ref mfirst, .ref moften, .int 0, .int 0, .int 0, .int 0, .int 0, .int 0, .ref mlots, .ref mthen, .long 0]))]) [0] rfl
  have hKc := hK.sub (tys' := [(cyI, .int), (cyB, .byte), (cyJ, .long), (cyZ, .boolean), (cyH, .object RX2), (cyN, .array .long)]) [0, 1, 2, 3, 4, 5] rfl
  refine vp_callSi (va_Run.run (va_runV (As := [.int 0, .int 10, .int 10]) (rest := []) ⟨hx, hb, hml, hown, hts⟩ (m_isByte l dC dI cyI cyB cyJ cyZ cyH cyN m0 mwidth mmany mcells mmoved mtape mlines mhas mtold mlaw msuit mapart mact misKept mseen mhung mgoal mleaps mqueue mrow mwanted mfirst moften mlots mthen bp 10 10) (cwV 3 hts (gdV wd_6_228 wd_6_230 wd_s3_12 wd_1_11 wd_6_231) rfl rfl rfl (by decide +kernel) ⟨Nat.le_of_ble_eq_true rfl, Nat.le_of_ble_eq_true rfl⟩) ⟨fun a U g mk q => by obtain ⟨q0, qP, qK⟩ := q; exact ⟨q0, qP, va_K.moved (u := U) (U := U.calling g mk a) (Vm.Alike.refl U.vm) qK⟩, va_recv hKc hPc (ci := 11) (q0 := 0) rfl rfl, fun U hU hW => ⟨rfl, by rw [hU]; exact hPc, va_K.moved hW.alike hKc⟩⟩ rfl rfl hl.1 rfl (lv_room (Nat.le_of_ble_eq_true rfl)) dX12_next_24 ⟨Nat.le_of_ble_eq_true rfl, Nat.le_of_ble_eq_true rfl⟩)) (fun r_3 hw => ?_)
  subst hw
  refine lv_if_eq (tgt := 43) hx hb dX12_next_27 (by decide) (fun _ => ?_) (fun c_4 => absurd c_4 (by decide))
  refine lv_aload_n hx hb dX12_next_43 rfl (lv_at hl 0 rfl) ?_
  refine lv_aload_n hx hb dX12_next_44 rfl (lv_at hl 0 rfl) ?_
  refine va_get (D := (dC, dI)) (ci := 11) (v := .int 0) (C := RX12) (T := TX12) (N := 44) hx hb hts uinX12 hown hK hP 0 rfl rfl 7 (by decide) (hts _ wd_6_44) (fun _ h9 => h9) rfl dX12_next_45 ?_
  refine va_put (D := (dC, dI)) (ci := 11) (v := .int 0) (ty := .int) (C := RX12) (T := TX12) (N := 44) hx hb hts uinX12 tyX12 tyX12_ok nmX12 hown hK hP hD hS 0 rfl rfl 9 (by decide) (hts _ wd_6_46) (fun _ h9 => h9) rfl (by decide +kernel) rfl rfl (Nat.le_of_ble_eq_true rfl) dX12_next_48 (fun H locs hP hD hS => ?_)
  have hP : va_P (dC, dI) vwCl [(m0, .inr (11, [.int 0, .ref mwidth, .ref mmany, .ref mcells, .ref mmoved, .ref mtape, .int 0, .int 0, .int 0, .int 0, .int 0, .long 0, .int 0, .int bp, .int 0, .int (-1), .ref mlines, .ref mhas, .ref mtold, .ref mlaw, .ref msuit, .ref mapart, .ref mact, .ref misKept, .ref mseen, .ref mhung, .int 0, .ref mgoal, .ref mleaps, .ref mqueue, .ref mrow, .int 0, .ref mwanted, .ref mfirst, .ref moften, .int 0, .int 0, .int 0, .int 0, .int 0, .int 0, .ref mlots, .ref mthen, .long 0]))] H := hP
  have hD : va_D A [(m0, .inr (11, [.int 0, .ref mwidth, .ref mmany, .ref mcells, .ref mmoved, .ref mtape, .int 0, .int 0, .int 0, .int 0, .int 0, .long 0, .int 0, .int bp, .int 0, .int (-1), .ref mlines, .ref mhas, .ref mtold, .ref mlaw, .ref msuit, .ref mapart, .ref mact, .ref misKept, .ref mseen, .ref mhung, .int 0, .ref mgoal, .ref mleaps, .ref mqueue, .ref mrow, .int 0, .ref mwanted, .ref mfirst, .ref moften, .int 0, .int 0, .int 0, .int 0, .int 0, .int 0, .ref mlots, .ref mthen, .long 0]))] := hD
  refine lv_aload_n hx hb dX12_next_51 rfl (lv_at hl 0 rfl) ?_
  refine lv_iconst (v := 0) hx hb dX12_next_52 (by decide) ?_
  refine va_put (D := (dC, dI)) (ci := 11) (v := .int 0) (ty := .int) (C := RX12) (T := TX12) (N := 44) hx hb hts uinX12 tyX12 tyX12_ok nmX12 hown hK hP hD hS 0 rfl rfl 10 (by decide) (hts _ wd_6_47) (fun _ h9 => h9) rfl (by decide +kernel) rfl rfl (Nat.le_of_ble_eq_true rfl) dX12_next_53 (fun H locs hP hD hS => ?_)
  have hP : va_P (dC, dI) vwCl [(m0, .inr (11, [.int 0, .ref mwidth, .ref mmany, .ref mcells, .ref mmoved, .ref mtape, .int 0, .int 0, .int 0, .int 0, .int 0, .long 0, .int 0, .int bp, .int 0, .int (-1), .ref mlines, .ref mhas, .ref mtold, .ref mlaw, .ref msuit, .ref mapart, .ref mact, .ref misKept, .ref mseen, .ref mhung, .int 0, .ref mgoal, .ref mleaps, .ref mqueue, .ref mrow, .int 0, .ref mwanted, .ref mfirst, .ref moften, .int 0, .int 0, .int 0, .int 0, .int 0, .int 0, .ref mlots, .ref mthen, .long 0]))] H := hP
  have hD : va_D A [(m0, .inr (11, [.int 0, .ref mwidth, .ref mmany, .ref mcells, .ref mmoved, .ref mtape, .int 0, .int 0, .int 0, .int 0, .int 0, .long 0, .int 0, .int bp, .int 0, .int (-1), .ref mlines, .ref mhas, .ref mtold, .ref mlaw, .ref msuit, .ref mapart, .ref mact, .ref misKept, .ref mseen, .ref mhung, .int 0, .ref mgoal, .ref mleaps, .ref mqueue, .ref mrow, .int 0, .ref mwanted, .ref mfirst, .ref moften, .int 0, .int 0, .int 0, .int 0, .int 0, .int 0, .ref mlots, .ref mthen, .long 0]))] := hD
  refine lv_aload_n hx hb dX12_next_56 rfl (lv_at hl 0 rfl) ?_
  refine lv_lconst (v := 0) hx hb dX12_next_57 (by decide) ?_
  refine va_put (D := (dC, dI)) (ci := 11) (v := .long 0) (ty := .long) (C := RX12) (T := TX12) (N := 44) hx hb hts uinX12 tyX12 tyX12_ok nmX12 hown hK hP hD hS 0 rfl rfl 11 (by decide) (hts _ wd_6_48) (fun _ h9 => h9) rfl (by decide +kernel) rfl rfl (Nat.le_of_ble_eq_true rfl) dX12_next_58 (fun H locs hP hD hS => ?_)
  have hP : va_P (dC, dI) vwCl [(m0, .inr (11, [.int 0, .ref mwidth, .ref mmany, .ref mcells, .ref mmoved, .ref mtape, .int 0, .int 0, .int 0, .int 0, .int 0, .long 0, .int 0, .int bp, .int 0, .int (-1), .ref mlines, .ref mhas, .ref mtold, .ref mlaw, .ref msuit, .ref mapart, .ref mact, .ref misKept, .ref mseen, .ref mhung, .int 0, .ref mgoal, .ref mleaps, .ref mqueue, .ref mrow, .int 0, .ref mwanted, .ref mfirst, .ref moften, .int 0, .int 0, .int 0, .int 0, .int 0, .int 0, .ref mlots, .ref mthen, .long 0]))] H := hP
  have hD : va_D A [(m0, .inr (11, [.int 0, .ref mwidth, .ref mmany, .ref mcells, .ref mmoved, .ref mtape, .int 0, .int 0, .int 0, .int 0, .int 0, .long 0, .int 0, .int bp, .int 0, .int (-1), .ref mlines, .ref mhas, .ref mtold, .ref mlaw, .ref msuit, .ref mapart, .ref mact, .ref misKept, .ref mseen, .ref mhung, .int 0, .ref mgoal, .ref mleaps, .ref mqueue, .ref mrow, .int 0, .ref mwanted, .ref mfirst, .ref moften, .int 0, .int 0, .int 0, .int 0, .int 0, .int 0, .ref mlots, .ref mthen, .long 0]))] := hD
  refine lv_aload_n hx hb dX12_next_61 rfl (lv_at hl 0 rfl) ?_
  refine va_get (D := (dC, dI)) (ci := 11) (v := .int 0) (C := RX12) (T := TX12) (N := 44) hx hb hts uinX12 hown hK hP 0 rfl rfl 7 (by decide) (hts _ wd_6_44) (fun _ h9 => h9) rfl dX12_next_62 ?_
  refine lv_aload_n hx hb dX12_next_65 rfl (lv_at hl 0 rfl) ?_
  refine va_get (D := (dC, dI)) (ci := 11) (v := .int 0) (C := RX12) (T := TX12) (N := 44) hx hb hts uinX12 hown hK hP 0 rfl rfl 6 (by decide) (hts _ wd_6_43) (fun _ h9 => h9) rfl dX12_next_66 ?_
  refine lv_icmp_ne (tgt := 80) hx hb dX12_next_69 (by decide) (fun c_5 => absurd c_5 (by decide)) (fun _ => ?_)
  refine lv_aload_n hx hb dX12_next_72 rfl (lv_at hl 0 rfl) ?_
  refine lv_iconst (v := 0) hx hb dX12_next_73 (by decide) ?_
  refine va_put (D := (dC, dI)) (ci := 11) (v := .int 0) (ty := .int) (C := RX12) (T := TX12) (N := 44) hx hb hts uinX12 tyX12 tyX12_ok nmX12 hown hK hP hD hS 0 rfl rfl 8 (by decide) (hts _ wd_6_45) (fun _ h9 => h9) rfl (by decide +kernel) rfl rfl (Nat.le_of_ble_eq_true rfl) dX12_next_74 (fun H locs hP hD hS => ?_)
  have hP : va_P (dC, dI) vwCl [(m0, .inr (11, [.int 0, .ref mwidth, .ref mmany, .ref mcells, .ref mmoved, .ref mtape, .int 0, .int 0, .int 0, .int 0, .int 0, .long 0, .int 0, .int bp, .int 0, .int (-1), .ref mlines, .ref mhas, .ref mtold, .ref mlaw, .ref msuit, .ref mapart, .ref mact, .ref misKept, .ref mseen, .ref mhung, .int 0, .ref mgoal, .ref mleaps, .ref mqueue, .ref mrow, .int 0, .ref mwanted, .ref mfirst, .ref moften, .int 0, .int 0, .int 0, .int 0, .int 0, .int 0, .ref mlots, .ref mthen, .long 0]))] H := hP
  have hD : va_D A [(m0, .inr (11, [.int 0, .ref mwidth, .ref mmany, .ref mcells, .ref mmoved, .ref mtape, .int 0, .int 0, .int 0, .int 0, .int 0, .long 0, .int 0, .int bp, .int 0, .int (-1), .ref mlines, .ref mhas, .ref mtold, .ref mlaw, .ref msuit, .ref mapart, .ref mact, .ref misKept, .ref mseen, .ref mhung, .int 0, .ref mgoal, .ref mleaps, .ref mqueue, .ref mrow, .int 0, .ref mwanted, .ref mfirst, .ref moften, .int 0, .int 0, .int 0, .int 0, .int 0, .int 0, .ref mlots, .ref mthen, .long 0]))] := hD
  refine lv_goto (tgt := 307) hx hb dX12_next_77 (by decide) ?_
  have hP9 := hP.sub (ws' := [(m0, .inr (11, [.int 0, .ref mwidth, .ref mmany, .ref mcells, .ref mmoved, .ref mtape, .int 0, .int 0, .int 0, .int 0, .int 0, .long 0, .int 0, .int bp, .int 0, .int (-1), .ref mlines, .ref mhas, .ref mtold, .ref mlaw, .ref msuit, .ref mapart, .ref mact, .ref misKept, .ref mseen, .ref mhung, .int 0, .ref mgoal, .ref mleaps, .ref mqueue, .ref mrow, .int 0, .ref mwanted, .ref mfirst, .ref moften, .int 0, .int 0, .int 0, .int 0, .int 0, .int 0, .ref mlots, .ref mthen, .long 0]))]) [0] rfl
  have hD9 := hD.sub (ws' := [(m0, .inr (11, [.int 0, .ref mwidth, .ref mmany, .ref mcells, .ref mmoved, .ref mtape, .int 0, .int 0, .int 0, .int 0, .int 0, .long 0, .int 0, .int bp, .int 0, .int (-1), .ref mlines, .ref mhas, .ref mtold, .ref mlaw, .ref msuit, .ref mapart, .ref mact, .ref misKept, .ref mseen, .ref mhung, .int 0, .ref mgoal, .ref mleaps, .ref mqueue, .ref mrow, .int 0, .ref mwanted, .ref mfirst, .ref moften, .int 0, .int 0, .int 0, .int 0, .int 0, .int 0, .ref mlots, .ref mthen, .long 0]))]) [0] (by decide) rfl
  exact W.vret hx hb hr (fun t ht hW => ⟨⟨(), rfl, trivial, ⟨by rw [ht]; exact hP9, hD9⟩⟩, hS.F ht⟩) hS.2.2 dX12_next_307

/- X12_begins -/
set_option maxHeartbeats 4000000 in
set_option maxRecDepth 100000 in
theorem m_begins (l : Launch) (dC : Nat → ClassId) (dI : Nat → Nat → Nat) (cyI cyB cyJ cyZ cyH cyN : ClassId) (sz : Nat) (m0 mwidth mmany mcells mmoved mtape mlines mhas mtold mlaw msuit mapart mact misKept mseen mhung mgoal mleaps mqueue mrow mwanted mfirst moften mlots mthen : Nat) (bp : Int32) : Met l yX12_begins (wk yX12_begins cX12_begins 1 none) ({ frames := 3, cells := 0, slots := 0, locals := 104 }) (va_Pc [.ref m0] (fun U => U.heap.size = sz ∧ va_P (dC, dI) vwCl [(m0, .inr (11, [.int 0, .ref mwidth, .ref mmany, .ref mcells, .ref mmoved, .ref mtape, .int 0, .int 0, .int 0, .int 0, .int 0, .long 0, .int 0, .int bp, .int 0, .int (-1), .ref mlines, .ref mhas, .ref mtold, .ref mlaw, .ref msuit, .ref mapart, .ref mact, .ref misKept, .ref mseen, .ref mhung, .int 0, .ref mgoal, .ref mleaps, .ref mqueue, .ref mrow, .int 0, .ref mwanted, .ref mfirst, .ref moften, .int 0, .int 0, .int 0, .int 0, .int 0, .int 0, .ref mlots, .ref mthen, .long 0]))] U.heap ∧ va_K (dC, dI) vwCl [(cyI, .int), (cyB, .byte), (cyJ, .long), (cyZ, .boolean), (cyH, .object RX2), (cyN, .array .long)] U ∧ va_D (fun _ => True) [(m0, .inr (11, [.int 0, .ref mwidth, .ref mmany, .ref mcells, .ref mmoved, .ref mtape, .int 0, .int 0, .int 0, .int 0, .int 0, .long 0, .int 0, .int bp, .int 0, .int (-1), .ref mlines, .ref mhas, .ref mtold, .ref mlaw, .ref msuit, .ref mapart, .ref mact, .ref misKept, .ref mseen, .ref mhung, .int 0, .ref mgoal, .ref mleaps, .ref mqueue, .ref mrow, .int 0, .ref mwanted, .ref mfirst, .ref moften, .int 0, .int 0, .int 0, .int 0, .int 0, .int 0, .ref mlots, .ref mthen, .long 0]))])) (va_Qv (fun _ : Unit => True) (fun (_ : Unit) (t : State) => va_P (dC, dI) vwCl [(m0, .inr (11, [.int 0, .ref mwidth, .ref mmany, .ref mcells, .ref mmoved, .ref mtape, .int 0, .int 0, .int 0, .int 0, .int 0, .long 0, .int 0, .int (-1), .int 0, .int (-1), .ref mlines, .ref mhas, .ref mtold, .ref mlaw, .ref msuit, .ref mapart, .ref mact, .ref misKept, .ref mseen, .ref mhung, .int 0, .ref mgoal, .ref mleaps, .ref mqueue, .ref mrow, .int 0, .ref mwanted, .ref mfirst, .ref moften, .int 0, .int 0, .int 0, .int 0, .int 0, .int 0, .ref mlots, .ref mthen, .long 0]))] t.heap ∧ va_D (va_A [(m0, .inr (11, [.int 0, .ref mwidth, .ref mmany, .ref mcells, .ref mmoved, .ref mtape, .int 0, .int 0, .int 0, .int 0, .int 0, .long 0, .int 0, .int bp, .int 0, .int (-1), .ref mlines, .ref mhas, .ref mtold, .ref mlaw, .ref msuit, .ref mapart, .ref mact, .ref misKept, .ref mseen, .ref mhung, .int 0, .ref mgoal, .ref mleaps, .ref mqueue, .ref mrow, .int 0, .ref mwanted, .ref mfirst, .ref moften, .int 0, .int 0, .int 0, .int 0, .int 0, .int 0, .ref mlots, .ref mthen, .long 0]))] sz) [(m0, .inr (11, [.int 0, .ref mwidth, .ref mmany, .ref mcells, .ref mmoved, .ref mtape, .int 0, .int 0, .int 0, .int 0, .int 0, .long 0, .int 0, .int (-1), .int 0, .int (-1), .ref mlines, .ref mhas, .ref mtold, .ref mlaw, .ref msuit, .ref mapart, .ref mact, .ref misKept, .ref mseen, .ref mhung, .int 0, .ref mgoal, .ref mleaps, .ref mqueue, .ref mrow, .int 0, .ref mwanted, .ref mfirst, .ref moften, .int 0, .int 0, .int 0, .int 0, .int 0, .int 0, .ref mlots, .ref mthen, .long 0]))]) (va_A [(m0, .inr (11, [.int 0, .ref mwidth, .ref mmany, .ref mcells, .ref mmoved, .ref mtape, .int 0, .int 0, .int 0, .int 0, .int 0, .long 0, .int 0, .int bp, .int 0, .int (-1), .ref mlines, .ref mhas, .ref mtold, .ref mlaw, .ref msuit, .ref mapart, .ref mact, .ref misKept, .ref mseen, .ref mhung, .int 0, .ref mgoal, .ref mleaps, .ref mqueue, .ref mrow, .int 0, .ref mwanted, .ref mfirst, .ref moften, .int 0, .int 0, .int 0, .int 0, .int 0, .int 0, .ref mlots, .ref mthen, .long 0]))] sz)) 0 0 (va_A [(m0, .inr (11, [.int 0, .ref mwidth, .ref mmany, .ref mcells, .ref mmoved, .ref mtape, .int 0, .int 0, .int 0, .int 0, .int 0, .long 0, .int 0, .int bp, .int 0, .int (-1), .ref mlines, .ref mhas, .ref mtold, .ref mlaw, .ref msuit, .ref mapart, .ref mact, .ref misKept, .ref mseen, .ref mhung, .int 0, .ref mgoal, .ref mleaps, .ref mqueue, .ref mrow, .int 0, .ref mwanted, .ref mfirst, .ref moften, .int 0, .int 0, .int 0, .int 0, .int 0, .int 0, .ref mlots, .ref mthen, .long 0]))] sz) := by
  refine Met.ofW (cc := cX12_begins) (maxL := 1) (ret := none) (by decide) rfl ?_
  intro p e s m args below meth c s₁ B hml hv
  obtain ⟨rfl, hsz, hP, hK, hD0⟩ := hv
  have hx := B.exec
  have hb := B.bytes
  have hr := B.returns
  have hts : ∀ w ∈ uU, w.before ([.ref m0] : List Value).toArray s = true := fun w h => atoms_spec (ws := wk yX12_begins cX12_begins 1 none) B.pre w (List.mem_cons_of_mem _ h)
  have hown : s.vm.findClass RX12 = some m.cls := findClass_of_methodNamed B.named
  have hlocks := B.notSynchronized
  subst hsz
  have hD := hD0.self (sz := s.heap.size)
  generalize hAe : va_A [(m0, .inr (11, [.int 0, .ref mwidth, .ref mmany, .ref mcells, .ref mmoved, .ref mtape, .int 0, .int 0, .int 0, .int 0, .int 0, .long 0, .int 0, .int bp, .int 0, .int (-1), .ref mlines, .ref mhas, .ref mtold, .ref mlaw, .ref msuit, .ref mapart, .ref mact, .ref misKept, .ref mseen, .ref mhung, .int 0, .ref mgoal, .ref mleaps, .ref mqueue, .ref mrow, .int 0, .ref mwanted, .ref mfirst, .ref moften, .int 0, .int 0, .int 0, .int 0, .int 0, .int 0, .ref mlots, .ref mthen, .long 0]))] s.heap.size = A at hD ⊢
  have hA : ∀ q : Nat, s.heap.size ≤ q → A q := fun q h => by rw [← hAe]; exact Or.inr h
  have hS : va_S A s.heap s.heap [] := va_S.rf
  have hP : va_P (dC, dI) vwCl [(m0, .inr (11, [.int 0, .ref mwidth, .ref mmany, .ref mcells, .ref mmoved, .ref mtape, .int 0, .int 0, .int 0, .int 0, .int 0, .long 0, .int 0, .int bp, .int 0, .int (-1), .ref mlines, .ref mhas, .ref mtold, .ref mlaw, .ref msuit, .ref mapart, .ref mact, .ref misKept, .ref mseen, .ref mhung, .int 0, .ref mgoal, .ref mleaps, .ref mqueue, .ref mrow, .int 0, .ref mwanted, .ref mfirst, .ref moften, .int 0, .int 0, .int 0, .int 0, .int 0, .int 0, .ref mlots, .ref mthen, .long 0]))] s.heap := hP
  have hl := lv_entry ([.ref m0]) (n := 1) (Nat.le_of_ble_eq_true rfl)
  rw [lg_entry_eq]
  generalize (lg_sl ([.ref m0]) ++ List.replicate (1 - (lg_sl ([.ref m0])).length) Slot.unset).toArray = ls at hl ⊢
  have hl : lv_has ls 1 [(0, .ref m0)] := hl
  obtain ⟨H, hHe⟩ : ∃ H, H = s.heap := ⟨_, rfl⟩
  have hP : va_P (dC, dI) vwCl [(m0, .inr (11, [.int 0, .ref mwidth, .ref mmany, .ref mcells, .ref mmoved, .ref mtape, .int 0, .int 0, .int 0, .int 0, .int 0, .long 0, .int 0, .int bp, .int 0, .int (-1), .ref mlines, .ref mhas, .ref mtold, .ref mlaw, .ref msuit, .ref mapart, .ref mact, .ref misKept, .ref mseen, .ref mhung, .int 0, .ref mgoal, .ref mleaps, .ref mqueue, .ref mrow, .int 0, .ref mwanted, .ref mfirst, .ref moften, .int 0, .int 0, .int 0, .int 0, .int 0, .int 0, .ref mlots, .ref mthen, .long 0]))] H := by rw [hHe]; exact hP
  have hS : va_S A s.heap H [] := by rw [hHe]; exact hS
  refine cv_heap hHe ?_
  refine lv_aload_n hx hb dX12_begins_0 rfl (lv_at hl 0 rfl) ?_
  refine lv_iconst (v := 0) hx hb dX12_begins_1 (by decide) ?_
  refine va_put (D := (dC, dI)) (ci := 11) (v := .int 0) (ty := .int) (C := RX12) (T := TX12) (N := 44) hx hb hts uinX12 tyX12 tyX12_ok nmX12 hown hK hP hD hS 0 rfl rfl 12 (by decide) (hts _ wd_6_49) (fun _ h9 => h9) rfl (by decide +kernel) rfl rfl (Nat.le_of_ble_eq_true rfl) dX12_begins_2 (fun H locs hP hD hS => ?_)
  have hP : va_P (dC, dI) vwCl [(m0, .inr (11, [.int 0, .ref mwidth, .ref mmany, .ref mcells, .ref mmoved, .ref mtape, .int 0, .int 0, .int 0, .int 0, .int 0, .long 0, .int 0, .int bp, .int 0, .int (-1), .ref mlines, .ref mhas, .ref mtold, .ref mlaw, .ref msuit, .ref mapart, .ref mact, .ref misKept, .ref mseen, .ref mhung, .int 0, .ref mgoal, .ref mleaps, .ref mqueue, .ref mrow, .int 0, .ref mwanted, .ref mfirst, .ref moften, .int 0, .int 0, .int 0, .int 0, .int 0, .int 0, .ref mlots, .ref mthen, .long 0]))] H := hP
  have hD : va_D A [(m0, .inr (11, [.int 0, .ref mwidth, .ref mmany, .ref mcells, .ref mmoved, .ref mtape, .int 0, .int 0, .int 0, .int 0, .int 0, .long 0, .int 0, .int bp, .int 0, .int (-1), .ref mlines, .ref mhas, .ref mtold, .ref mlaw, .ref msuit, .ref mapart, .ref mact, .ref misKept, .ref mseen, .ref mhung, .int 0, .ref mgoal, .ref mleaps, .ref mqueue, .ref mrow, .int 0, .ref mwanted, .ref mfirst, .ref moften, .int 0, .int 0, .int 0, .int 0, .int 0, .int 0, .ref mlots, .ref mthen, .long 0]))] := hD
  refine lv_aload_n hx hb dX12_begins_5 rfl (lv_at hl 0 rfl) ?_
  refine lv_iconst (v := (-1)) hx hb dX12_begins_6 (by decide) ?_
  refine va_put (D := (dC, dI)) (ci := 11) (v := .int (-1)) (ty := .int) (C := RX12) (T := TX12) (N := 44) hx hb hts uinX12 tyX12 tyX12_ok nmX12 hown hK hP hD hS 0 rfl rfl 13 (by decide) (hts _ wd_6_50) (fun _ h9 => h9) rfl (by decide +kernel) rfl rfl (Nat.le_of_ble_eq_true rfl) dX12_begins_7 (fun H locs hP hD hS => ?_)
  have hP : va_P (dC, dI) vwCl [(m0, .inr (11, [.int 0, .ref mwidth, .ref mmany, .ref mcells, .ref mmoved, .ref mtape, .int 0, .int 0, .int 0, .int 0, .int 0, .long 0, .int 0, .int (-1), .int 0, .int (-1), .ref mlines, .ref mhas, .ref mtold, .ref mlaw, .ref msuit, .ref mapart, .ref mact, .ref misKept, .ref mseen, .ref mhung, .int 0, .ref mgoal, .ref mleaps, .ref mqueue, .ref mrow, .int 0, .ref mwanted, .ref mfirst, .ref moften, .int 0, .int 0, .int 0, .int 0, .int 0, .int 0, .ref mlots, .ref mthen, .long 0]))] H := hP
  have hD : va_D A [(m0, .inr (11, [.int 0, .ref mwidth, .ref mmany, .ref mcells, .ref mmoved, .ref mtape, .int 0, .int 0, .int 0, .int 0, .int 0, .long 0, .int 0, .int (-1), .int 0, .int (-1), .ref mlines, .ref mhas, .ref mtold, .ref mlaw, .ref msuit, .ref mapart, .ref mact, .ref misKept, .ref mseen, .ref mhung, .int 0, .ref mgoal, .ref mleaps, .ref mqueue, .ref mrow, .int 0, .ref mwanted, .ref mfirst, .ref moften, .int 0, .int 0, .int 0, .int 0, .int 0, .int 0, .ref mlots, .ref mthen, .long 0]))] := hD
  refine lv_aload_n hx hb dX12_begins_10 rfl (lv_at hl 0 rfl) ?_
  refine lv_iconst (v := 0) hx hb dX12_begins_11 (by decide) ?_
  refine va_put (D := (dC, dI)) (ci := 11) (v := .int 0) (ty := .int) (C := RX12) (T := TX12) (N := 44) hx hb hts uinX12 tyX12 tyX12_ok nmX12 hown hK hP hD hS 0 rfl rfl 7 (by decide) (hts _ wd_6_44) (fun _ h9 => h9) rfl (by decide +kernel) rfl rfl (Nat.le_of_ble_eq_true rfl) dX12_begins_12 (fun H locs hP hD hS => ?_)
  have hP : va_P (dC, dI) vwCl [(m0, .inr (11, [.int 0, .ref mwidth, .ref mmany, .ref mcells, .ref mmoved, .ref mtape, .int 0, .int 0, .int 0, .int 0, .int 0, .long 0, .int 0, .int (-1), .int 0, .int (-1), .ref mlines, .ref mhas, .ref mtold, .ref mlaw, .ref msuit, .ref mapart, .ref mact, .ref misKept, .ref mseen, .ref mhung, .int 0, .ref mgoal, .ref mleaps, .ref mqueue, .ref mrow, .int 0, .ref mwanted, .ref mfirst, .ref moften, .int 0, .int 0, .int 0, .int 0, .int 0, .int 0, .ref mlots, .ref mthen, .long 0]))] H := hP
  have hD : va_D A [(m0, .inr (11, [.int 0, .ref mwidth, .ref mmany, .ref mcells, .ref mmoved, .ref mtape, .int 0, .int 0, .int 0, .int 0, .int 0, .long 0, .int 0, .int (-1), .int 0, .int (-1), .ref mlines, .ref mhas, .ref mtold, .ref mlaw, .ref msuit, .ref mapart, .ref mact, .ref misKept, .ref mseen, .ref mhung, .int 0, .ref mgoal, .ref mleaps, .ref mqueue, .ref mrow, .int 0, .ref mwanted, .ref mfirst, .ref moften, .int 0, .int 0, .int 0, .int 0, .int 0, .int 0, .ref mlots, .ref mthen, .long 0]))] := hD
  refine lv_aload_n hx hb dX12_begins_15 rfl (lv_at hl 0 rfl) ?_
  have hPc := hP.sub (ws' := [(m0, .inr (11, [.int 0, .ref mwidth, .ref mmany, .ref mcells, .ref mmoved, .ref mtape, .int 0, .int 0, .int 0, .int 0, .int 0, .long 0, .int 0, .int (-1), .int 0, .int (-1), .ref mlines, .ref mhas, .ref mtold, .ref mlaw, .ref msuit, .ref mapart, .ref mact, .ref misKept, .ref mseen, .ref mhung, .int 0, .ref mgoal, .ref mleaps, .ref mqueue, .ref mrow, .int 0, .ref mwanted, .ref mfirst, .ref moften, .int 0, .int 0, .int 0, .int 0, .int 0, .int 0, .ref mlots, .ref mthen, .long 0]))]) [0] rfl
  have hKc := hK.sub (tys' := [(cyI, .int), (cyB, .byte), (cyJ, .long), (cyZ, .boolean), (cyH, .object RX2), (cyN, .array .long)]) [0, 1, 2, 3, 4, 5] rfl
  have hDc := hD.sub (ws' := [(m0, .inr (11, [.int 0, .ref mwidth, .ref mmany, .ref mcells, .ref mmoved, .ref mtape, .int 0, .int 0, .int 0, .int 0, .int 0, .long 0, .int 0, .int (-1), .int 0, .int (-1), .ref mlines, .ref mhas, .ref mtold, .ref mlaw, .ref msuit, .ref mapart, .ref mact, .ref misKept, .ref mseen, .ref mhung, .int 0, .ref mgoal, .ref mleaps, .ref mqueue, .ref mrow, .int 0, .ref mwanted, .ref mfirst, .ref moften, .int 0, .int 0, .int 0, .int 0, .int 0, .int 0, .ref mlots, .ref mthen, .long 0]))]) [0] (by decide) rfl
  have hFc := va_free (wc := [(m0, .inr (11, [.int 0, .ref mwidth, .ref mmany, .ref mcells, .ref mmoved, .ref mtape, .int 0, .int 0, .int 0, .int 0, .int 0, .long 0, .int 0, .int (-1), .int 0, .int (-1), .ref mlines, .ref mhas, .ref mtold, .ref mlaw, .ref msuit, .ref mapart, .ref mact, .ref misKept, .ref mseen, .ref mhung, .int 0, .ref mgoal, .ref mleaps, .ref mqueue, .ref mrow, .int 0, .ref mwanted, .ref mfirst, .ref moften, .int 0, .int 0, .int 0, .int 0, .int 0, .int 0, .ref mlots, .ref mthen, .long 0]))]) hD hS hA [0] rfl
  refine va_callv (va_runV (As := []) (rest := []) ⟨hx, hb, hml, hown, hts⟩ (m_next l dC dI cyI cyB cyJ cyZ cyH cyN H.size m0 mwidth mmany mcells mmoved mtape mlines mhas mtold mlaw msuit mapart mact misKept mseen mhung mgoal mleaps mqueue mrow mwanted mfirst moften mlots mthen (-1)) (cwV 0 hts (gdV wd_6_224 wd_6_226 wd_s3_11 wd_1_11 wd_6_227) rfl rfl rfl (by decide +kernel) ⟨Nat.le_of_ble_eq_true rfl, Nat.le_of_ble_eq_true rfl⟩) ⟨fun a U g mk q => by obtain ⟨q0, q1, qP, qK, qD⟩ := q; exact ⟨q0, q1, qP, va_K.moved (u := U) (U := U.calling g mk a) (Vm.Alike.refl U.vm) qK, qD⟩, va_recv hKc hPc (ci := 11) (q0 := 0) rfl rfl, fun U hU hW => ⟨rfl, by rw [hU], by rw [hU]; exact hPc, va_K.moved hW.alike hKc, hDc.weaken (fun _ _ _ _ => trivial)⟩⟩ rfl rfl hl.1 rfl (lv_room (Nat.le_of_ble_eq_true rfl)) dX12_begins_16 ⟨Nat.le_of_ble_eq_true rfl, Nat.le_of_ble_eq_true rfl⟩) hS (fun q _ h => hFc q h) hFc (fun  u t H1 locs ht hvm hw hB hz1 hk1 hS => ?_)
  obtain ⟨hP1, hD1⟩ := hB
  rw [ht] at hP1
  obtain ⟨hP, hD⟩ := va_join (wr := []) (w1 := [(m0, .inr (11, [.int 0, .ref mwidth, .ref mmany, .ref mcells, .ref mmoved, .ref mtape, .int 0, .int 0, .int 0, .int 0, .int 0, .long 0, .int 0, .int (-1), .int 0, .int (-1), .ref mlines, .ref mhas, .ref mtold, .ref mlaw, .ref msuit, .ref mapart, .ref mact, .ref misKept, .ref mseen, .ref mhung, .int 0, .ref mgoal, .ref mleaps, .ref mqueue, .ref mrow, .int 0, .ref mwanted, .ref mfirst, .ref moften, .int 0, .int 0, .int 0, .int 0, .int 0, .int 0, .ref mlots, .ref mthen, .long 0]))]) hP hD [0] [] rfl rfl (by decide) (by decide) hk1 hFc hP1 hD1
  generalize H1 = H at hP hS ⊢
  have hP : va_P (dC, dI) vwCl [(m0, .inr (11, [.int 0, .ref mwidth, .ref mmany, .ref mcells, .ref mmoved, .ref mtape, .int 0, .int 0, .int 0, .int 0, .int 0, .long 0, .int 0, .int (-1), .int 0, .int (-1), .ref mlines, .ref mhas, .ref mtold, .ref mlaw, .ref msuit, .ref mapart, .ref mact, .ref misKept, .ref mseen, .ref mhung, .int 0, .ref mgoal, .ref mleaps, .ref mqueue, .ref mrow, .int 0, .ref mwanted, .ref mfirst, .ref moften, .int 0, .int 0, .int 0, .int 0, .int 0, .int 0, .ref mlots, .ref mthen, .long 0]))] H := hP
  have hD : va_D A [(m0, .inr (11, [.int 0, .ref mwidth, .ref mmany, .ref mcells, .ref mmoved, .ref mtape, .int 0, .int 0, .int 0, .int 0, .int 0, .long 0, .int 0, .int (-1), .int 0, .int (-1), .ref mlines, .ref mhas, .ref mtold, .ref mlaw, .ref msuit, .ref mapart, .ref mact, .ref misKept, .ref mseen, .ref mhung, .int 0, .ref mgoal, .ref mleaps, .ref mqueue, .ref mrow, .int 0, .ref mwanted, .ref mfirst, .ref moften, .int 0, .int 0, .int 0, .int 0, .int 0, .int 0, .ref mlots, .ref mthen, .long 0]))] := hD
  have hP9 := hP.sub (ws' := [(m0, .inr (11, [.int 0, .ref mwidth, .ref mmany, .ref mcells, .ref mmoved, .ref mtape, .int 0, .int 0, .int 0, .int 0, .int 0, .long 0, .int 0, .int (-1), .int 0, .int (-1), .ref mlines, .ref mhas, .ref mtold, .ref mlaw, .ref msuit, .ref mapart, .ref mact, .ref misKept, .ref mseen, .ref mhung, .int 0, .ref mgoal, .ref mleaps, .ref mqueue, .ref mrow, .int 0, .ref mwanted, .ref mfirst, .ref moften, .int 0, .int 0, .int 0, .int 0, .int 0, .int 0, .ref mlots, .ref mthen, .long 0]))]) [0] rfl
  have hD9 := hD.sub (ws' := [(m0, .inr (11, [.int 0, .ref mwidth, .ref mmany, .ref mcells, .ref mmoved, .ref mtape, .int 0, .int 0, .int 0, .int 0, .int 0, .long 0, .int 0, .int (-1), .int 0, .int (-1), .ref mlines, .ref mhas, .ref mtold, .ref mlaw, .ref msuit, .ref mapart, .ref mact, .ref misKept, .ref mseen, .ref mhung, .int 0, .ref mgoal, .ref mleaps, .ref mqueue, .ref mrow, .int 0, .ref mwanted, .ref mfirst, .ref moften, .int 0, .int 0, .int 0, .int 0, .int 0, .int 0, .ref mlots, .ref mthen, .long 0]))]) [0] (by decide) rfl
  exact W.vret hx hb hr (fun t ht hW => ⟨⟨(), rfl, trivial, ⟨by rw [ht]; exact hP9, hD9⟩⟩, hS.F ht⟩) hS.2.2 dX12_begins_19

/- X12_isOver -/
set_option maxHeartbeats 4000000 in
set_option maxRecDepth 100000 in
theorem m_isOver (l : Launch) (dC : Nat → ClassId) (dI : Nat → Nat → Nat) (cyI cyB cyJ cyZ cyH cyN : ClassId) (sz : Nat) (m0 mwidth mmany mcells mmoved mtape mlines mhas mtold mlaw msuit mapart mact misKept mseen mhung mgoal mleaps mqueue mrow mwanted mfirst moften mlots mthen : Nat) : Met l yX12_isOver (wk yX12_isOver cX12_isOver 1 none) ({ frames := 1, cells := 0, slots := 0, locals := 60 }) (va_Pc [.ref m0] (fun U => U.heap.size = sz ∧ va_P (dC, dI) vwCl [(m0, .inr (11, [.int 0, .ref mwidth, .ref mmany, .ref mcells, .ref mmoved, .ref mtape, .int 0, .int 0, .int 0, .int 0, .int 0, .long 0, .int 0, .int (-1), .int 0, .int (-1), .ref mlines, .ref mhas, .ref mtold, .ref mlaw, .ref msuit, .ref mapart, .ref mact, .ref misKept, .ref mseen, .ref mhung, .int 0, .ref mgoal, .ref mleaps, .ref mqueue, .ref mrow, .int 0, .ref mwanted, .ref mfirst, .ref moften, .int 0, .int 0, .int 0, .int 0, .int 0, .int 0, .ref mlots, .ref mthen, .long 0]))] U.heap ∧ va_K (dC, dI) vwCl [(cyI, .int), (cyB, .byte), (cyJ, .long), (cyZ, .boolean), (cyH, .object RX2), (cyN, .array .long)] U ∧ va_D (fun _ => True) [(m0, .inr (11, [.int 0, .ref mwidth, .ref mmany, .ref mcells, .ref mmoved, .ref mtape, .int 0, .int 0, .int 0, .int 0, .int 0, .long 0, .int 0, .int (-1), .int 0, .int (-1), .ref mlines, .ref mhas, .ref mtold, .ref mlaw, .ref msuit, .ref mapart, .ref mact, .ref misKept, .ref mseen, .ref mhung, .int 0, .ref mgoal, .ref mleaps, .ref mqueue, .ref mrow, .int 0, .ref mwanted, .ref mfirst, .ref moften, .int 0, .int 0, .int 0, .int 0, .int 0, .int 0, .ref mlots, .ref mthen, .long 0]))])) (va_Qv (fun _ : Unit => True) (fun (_ : Unit) (t : State) => va_P (dC, dI) vwCl [(m0, .inr (11, [.int 0, .ref mwidth, .ref mmany, .ref mcells, .ref mmoved, .ref mtape, .int 0, .int 0, .int 0, .int 0, .int 0, .long 0, .int 0, .int (-1), .int 0, .int (-1), .ref mlines, .ref mhas, .ref mtold, .ref mlaw, .ref msuit, .ref mapart, .ref mact, .ref misKept, .ref mseen, .ref mhung, .int 0, .ref mgoal, .ref mleaps, .ref mqueue, .ref mrow, .int 0, .ref mwanted, .ref mfirst, .ref moften, .int 0, .int 0, .int 0, .int 0, .int 0, .int 0, .ref mlots, .ref mthen, .long 0]))] t.heap ∧ va_D (va_A [(m0, .inr (11, [.int 0, .ref mwidth, .ref mmany, .ref mcells, .ref mmoved, .ref mtape, .int 0, .int 0, .int 0, .int 0, .int 0, .long 0, .int 0, .int (-1), .int 0, .int (-1), .ref mlines, .ref mhas, .ref mtold, .ref mlaw, .ref msuit, .ref mapart, .ref mact, .ref misKept, .ref mseen, .ref mhung, .int 0, .ref mgoal, .ref mleaps, .ref mqueue, .ref mrow, .int 0, .ref mwanted, .ref mfirst, .ref moften, .int 0, .int 0, .int 0, .int 0, .int 0, .int 0, .ref mlots, .ref mthen, .long 0]))] sz) [(m0, .inr (11, [.int 0, .ref mwidth, .ref mmany, .ref mcells, .ref mmoved, .ref mtape, .int 0, .int 0, .int 0, .int 0, .int 0, .long 0, .int 0, .int (-1), .int 0, .int (-1), .ref mlines, .ref mhas, .ref mtold, .ref mlaw, .ref msuit, .ref mapart, .ref mact, .ref misKept, .ref mseen, .ref mhung, .int 0, .ref mgoal, .ref mleaps, .ref mqueue, .ref mrow, .int 0, .ref mwanted, .ref mfirst, .ref moften, .int 0, .int 0, .int 0, .int 0, .int 0, .int 0, .ref mlots, .ref mthen, .long 0]))]) (va_A [(m0, .inr (11, [.int 0, .ref mwidth, .ref mmany, .ref mcells, .ref mmoved, .ref mtape, .int 0, .int 0, .int 0, .int 0, .int 0, .long 0, .int 0, .int (-1), .int 0, .int (-1), .ref mlines, .ref mhas, .ref mtold, .ref mlaw, .ref msuit, .ref mapart, .ref mact, .ref misKept, .ref mseen, .ref mhung, .int 0, .ref mgoal, .ref mleaps, .ref mqueue, .ref mrow, .int 0, .ref mwanted, .ref mfirst, .ref moften, .int 0, .int 0, .int 0, .int 0, .int 0, .int 0, .ref mlots, .ref mthen, .long 0]))] sz)) 0 0 (va_A [(m0, .inr (11, [.int 0, .ref mwidth, .ref mmany, .ref mcells, .ref mmoved, .ref mtape, .int 0, .int 0, .int 0, .int 0, .int 0, .long 0, .int 0, .int (-1), .int 0, .int (-1), .ref mlines, .ref mhas, .ref mtold, .ref mlaw, .ref msuit, .ref mapart, .ref mact, .ref misKept, .ref mseen, .ref mhung, .int 0, .ref mgoal, .ref mleaps, .ref mqueue, .ref mrow, .int 0, .ref mwanted, .ref mfirst, .ref moften, .int 0, .int 0, .int 0, .int 0, .int 0, .int 0, .ref mlots, .ref mthen, .long 0]))] sz) := by
  refine Met.ofW (cc := cX12_isOver) (maxL := 1) (ret := none) (by decide) rfl ?_
  intro p e s m args below meth c s₁ B hml hv
  obtain ⟨rfl, hsz, hP, hK, hD0⟩ := hv
  have hx := B.exec
  have hb := B.bytes
  have hr := B.returns
  have hts : ∀ w ∈ uU, w.before ([.ref m0] : List Value).toArray s = true := fun w h => atoms_spec (ws := wk yX12_isOver cX12_isOver 1 none) B.pre w (List.mem_cons_of_mem _ h)
  have hown : s.vm.findClass RX12 = some m.cls := findClass_of_methodNamed B.named
  have hlocks := B.notSynchronized
  subst hsz
  have hD := hD0.self (sz := s.heap.size)
  generalize hAe : va_A [(m0, .inr (11, [.int 0, .ref mwidth, .ref mmany, .ref mcells, .ref mmoved, .ref mtape, .int 0, .int 0, .int 0, .int 0, .int 0, .long 0, .int 0, .int (-1), .int 0, .int (-1), .ref mlines, .ref mhas, .ref mtold, .ref mlaw, .ref msuit, .ref mapart, .ref mact, .ref misKept, .ref mseen, .ref mhung, .int 0, .ref mgoal, .ref mleaps, .ref mqueue, .ref mrow, .int 0, .ref mwanted, .ref mfirst, .ref moften, .int 0, .int 0, .int 0, .int 0, .int 0, .int 0, .ref mlots, .ref mthen, .long 0]))] s.heap.size = A at hD ⊢
  have hA : ∀ q : Nat, s.heap.size ≤ q → A q := fun q h => by rw [← hAe]; exact Or.inr h
  have hS : va_S A s.heap s.heap [] := va_S.rf
  have hP : va_P (dC, dI) vwCl [(m0, .inr (11, [.int 0, .ref mwidth, .ref mmany, .ref mcells, .ref mmoved, .ref mtape, .int 0, .int 0, .int 0, .int 0, .int 0, .long 0, .int 0, .int (-1), .int 0, .int (-1), .ref mlines, .ref mhas, .ref mtold, .ref mlaw, .ref msuit, .ref mapart, .ref mact, .ref misKept, .ref mseen, .ref mhung, .int 0, .ref mgoal, .ref mleaps, .ref mqueue, .ref mrow, .int 0, .ref mwanted, .ref mfirst, .ref moften, .int 0, .int 0, .int 0, .int 0, .int 0, .int 0, .ref mlots, .ref mthen, .long 0]))] s.heap := hP
  have hl := lv_entry ([.ref m0]) (n := 1) (Nat.le_of_ble_eq_true rfl)
  rw [lg_entry_eq]
  generalize (lg_sl ([.ref m0]) ++ List.replicate (1 - (lg_sl ([.ref m0])).length) Slot.unset).toArray = ls at hl ⊢
  have hl : lv_has ls 1 [(0, .ref m0)] := hl
  obtain ⟨H, hHe⟩ : ∃ H, H = s.heap := ⟨_, rfl⟩
  have hP : va_P (dC, dI) vwCl [(m0, .inr (11, [.int 0, .ref mwidth, .ref mmany, .ref mcells, .ref mmoved, .ref mtape, .int 0, .int 0, .int 0, .int 0, .int 0, .long 0, .int 0, .int (-1), .int 0, .int (-1), .ref mlines, .ref mhas, .ref mtold, .ref mlaw, .ref msuit, .ref mapart, .ref mact, .ref misKept, .ref mseen, .ref mhung, .int 0, .ref mgoal, .ref mleaps, .ref mqueue, .ref mrow, .int 0, .ref mwanted, .ref mfirst, .ref moften, .int 0, .int 0, .int 0, .int 0, .int 0, .int 0, .ref mlots, .ref mthen, .long 0]))] H := by rw [hHe]; exact hP
  have hS : va_S A s.heap H [] := by rw [hHe]; exact hS
  refine cv_heap hHe ?_
  refine lv_aload_n hx hb dX12_isOver_0 rfl (lv_at hl 0 rfl) ?_
  refine lv_iconst (v := 0) hx hb dX12_isOver_1 (by decide) ?_
  refine va_put (D := (dC, dI)) (ci := 11) (v := .int 0) (ty := .int) (C := RX12) (T := TX12) (N := 44) hx hb hts uinX12 tyX12 tyX12_ok nmX12 hown hK hP hD hS 0 rfl rfl 6 (by decide) (hts _ wd_6_43) (fun _ h9 => h9) rfl (by decide +kernel) rfl rfl (Nat.le_of_ble_eq_true rfl) dX12_isOver_2 (fun H locs hP hD hS => ?_)
  have hP : va_P (dC, dI) vwCl [(m0, .inr (11, [.int 0, .ref mwidth, .ref mmany, .ref mcells, .ref mmoved, .ref mtape, .int 0, .int 0, .int 0, .int 0, .int 0, .long 0, .int 0, .int (-1), .int 0, .int (-1), .ref mlines, .ref mhas, .ref mtold, .ref mlaw, .ref msuit, .ref mapart, .ref mact, .ref misKept, .ref mseen, .ref mhung, .int 0, .ref mgoal, .ref mleaps, .ref mqueue, .ref mrow, .int 0, .ref mwanted, .ref mfirst, .ref moften, .int 0, .int 0, .int 0, .int 0, .int 0, .int 0, .ref mlots, .ref mthen, .long 0]))] H := hP
  have hD : va_D A [(m0, .inr (11, [.int 0, .ref mwidth, .ref mmany, .ref mcells, .ref mmoved, .ref mtape, .int 0, .int 0, .int 0, .int 0, .int 0, .long 0, .int 0, .int (-1), .int 0, .int (-1), .ref mlines, .ref mhas, .ref mtold, .ref mlaw, .ref msuit, .ref mapart, .ref mact, .ref misKept, .ref mseen, .ref mhung, .int 0, .ref mgoal, .ref mleaps, .ref mqueue, .ref mrow, .int 0, .ref mwanted, .ref mfirst, .ref moften, .int 0, .int 0, .int 0, .int 0, .int 0, .int 0, .ref mlots, .ref mthen, .long 0]))] := hD
  refine lv_aload_n hx hb dX12_isOver_5 rfl (lv_at hl 0 rfl) ?_
  refine lv_aload_n hx hb dX12_isOver_6 rfl (lv_at hl 0 rfl) ?_
  refine va_get (D := (dC, dI)) (ci := 11) (v := .int 0) (C := RX12) (T := TX12) (N := 44) hx hb hts uinX12 hown hK hP 0 rfl rfl 12 (by decide) (hts _ wd_6_49) (fun _ h9 => h9) rfl dX12_isOver_7 ?_
  refine va_put (D := (dC, dI)) (ci := 11) (v := .int 0) (ty := .int) (C := RX12) (T := TX12) (N := 44) hx hb hts uinX12 tyX12 tyX12_ok nmX12 hown hK hP hD hS 0 rfl rfl 14 (by decide) (hts _ wd_6_51) (fun _ h9 => h9) rfl (by decide +kernel) rfl rfl (Nat.le_of_ble_eq_true rfl) dX12_isOver_10 (fun H locs hP hD hS => ?_)
  have hP : va_P (dC, dI) vwCl [(m0, .inr (11, [.int 0, .ref mwidth, .ref mmany, .ref mcells, .ref mmoved, .ref mtape, .int 0, .int 0, .int 0, .int 0, .int 0, .long 0, .int 0, .int (-1), .int 0, .int (-1), .ref mlines, .ref mhas, .ref mtold, .ref mlaw, .ref msuit, .ref mapart, .ref mact, .ref misKept, .ref mseen, .ref mhung, .int 0, .ref mgoal, .ref mleaps, .ref mqueue, .ref mrow, .int 0, .ref mwanted, .ref mfirst, .ref moften, .int 0, .int 0, .int 0, .int 0, .int 0, .int 0, .ref mlots, .ref mthen, .long 0]))] H := hP
  have hD : va_D A [(m0, .inr (11, [.int 0, .ref mwidth, .ref mmany, .ref mcells, .ref mmoved, .ref mtape, .int 0, .int 0, .int 0, .int 0, .int 0, .long 0, .int 0, .int (-1), .int 0, .int (-1), .ref mlines, .ref mhas, .ref mtold, .ref mlaw, .ref msuit, .ref mapart, .ref mact, .ref misKept, .ref mseen, .ref mhung, .int 0, .ref mgoal, .ref mleaps, .ref mqueue, .ref mrow, .int 0, .ref mwanted, .ref mfirst, .ref moften, .int 0, .int 0, .int 0, .int 0, .int 0, .int 0, .ref mlots, .ref mthen, .long 0]))] := hD
  refine lv_aload_n hx hb dX12_isOver_13 rfl (lv_at hl 0 rfl) ?_
  refine lv_aload_n hx hb dX12_isOver_14 rfl (lv_at hl 0 rfl) ?_
  refine va_get (D := (dC, dI)) (ci := 11) (v := .int 0) (C := RX12) (T := TX12) (N := 44) hx hb hts uinX12 hown hK hP 0 rfl rfl 12 (by decide) (hts _ wd_6_49) (fun _ h9 => h9) rfl dX12_isOver_15 ?_
  refine lv_if_ne (tgt := 25) hx hb dX12_isOver_18 (by decide) (fun c_1 => absurd c_1 (by decide)) (fun _ => ?_)
  refine lv_iconst (v := (-1)) hx hb dX12_isOver_21 (by decide) ?_
  refine lv_goto (tgt := 29) hx hb dX12_isOver_22 (by decide) ?_
  refine va_put (D := (dC, dI)) (ci := 11) (v := .int (-1)) (ty := .int) (C := RX12) (T := TX12) (N := 44) hx hb hts uinX12 tyX12 tyX12_ok nmX12 hown hK hP hD hS 0 rfl rfl 15 (by decide) (hts _ wd_6_52) (fun _ h9 => h9) rfl (by decide +kernel) rfl rfl (Nat.le_of_ble_eq_true rfl) dX12_isOver_29 (fun H locs hP hD hS => ?_)
  have hP : va_P (dC, dI) vwCl [(m0, .inr (11, [.int 0, .ref mwidth, .ref mmany, .ref mcells, .ref mmoved, .ref mtape, .int 0, .int 0, .int 0, .int 0, .int 0, .long 0, .int 0, .int (-1), .int 0, .int (-1), .ref mlines, .ref mhas, .ref mtold, .ref mlaw, .ref msuit, .ref mapart, .ref mact, .ref misKept, .ref mseen, .ref mhung, .int 0, .ref mgoal, .ref mleaps, .ref mqueue, .ref mrow, .int 0, .ref mwanted, .ref mfirst, .ref moften, .int 0, .int 0, .int 0, .int 0, .int 0, .int 0, .ref mlots, .ref mthen, .long 0]))] H := hP
  have hD : va_D A [(m0, .inr (11, [.int 0, .ref mwidth, .ref mmany, .ref mcells, .ref mmoved, .ref mtape, .int 0, .int 0, .int 0, .int 0, .int 0, .long 0, .int 0, .int (-1), .int 0, .int (-1), .ref mlines, .ref mhas, .ref mtold, .ref mlaw, .ref msuit, .ref mapart, .ref mact, .ref misKept, .ref mseen, .ref mhung, .int 0, .ref mgoal, .ref mleaps, .ref mqueue, .ref mrow, .int 0, .ref mwanted, .ref mfirst, .ref moften, .int 0, .int 0, .int 0, .int 0, .int 0, .int 0, .ref mlots, .ref mthen, .long 0]))] := hD
  have hP9 := hP.sub (ws' := [(m0, .inr (11, [.int 0, .ref mwidth, .ref mmany, .ref mcells, .ref mmoved, .ref mtape, .int 0, .int 0, .int 0, .int 0, .int 0, .long 0, .int 0, .int (-1), .int 0, .int (-1), .ref mlines, .ref mhas, .ref mtold, .ref mlaw, .ref msuit, .ref mapart, .ref mact, .ref misKept, .ref mseen, .ref mhung, .int 0, .ref mgoal, .ref mleaps, .ref mqueue, .ref mrow, .int 0, .ref mwanted, .ref mfirst, .ref moften, .int 0, .int 0, .int 0, .int 0, .int 0, .int 0, .ref mlots, .ref mthen, .long 0]))]) [0] rfl
  have hD9 := hD.sub (ws' := [(m0, .inr (11, [.int 0, .ref mwidth, .ref mmany, .ref mcells, .ref mmoved, .ref mtape, .int 0, .int 0, .int 0, .int 0, .int 0, .long 0, .int 0, .int (-1), .int 0, .int (-1), .ref mlines, .ref mhas, .ref mtold, .ref mlaw, .ref msuit, .ref mapart, .ref mact, .ref misKept, .ref mseen, .ref mhung, .int 0, .ref mgoal, .ref mleaps, .ref mqueue, .ref mrow, .int 0, .ref mwanted, .ref mfirst, .ref moften, .int 0, .int 0, .int 0, .int 0, .int 0, .int 0, .ref mlots, .ref mthen, .long 0]))]) [0] (by decide) rfl
  exact W.vret hx hb hr (fun t ht hW => ⟨⟨(), rfl, trivial, ⟨by rw [ht]; exact hP9, hD9⟩⟩, hS.F ht⟩) hS.2.2 dX12_isOver_32

/- X12_hasRead -/
set_option maxHeartbeats 4000000 in
set_option maxRecDepth 100000 in
theorem m_hasReadb (l : Launch) (dC : Nat → ClassId) (dI : Nat → Nat → Nat) (cyI cyB cyJ cyZ cyH cyN : ClassId) (m0 mwidth mmany mcells mmoved mtape mlines mhas mtold mlaw msuit mapart mact misKept mseen mhung mgoal mleaps mqueue mrow mwanted mfirst moften mlots mthen : Nat) (bp : Int32) : Met l yX12_hasRead (wk yX12_hasRead cX12_hasRead 2 (some .int)) ({ frames := 1, cells := 0, slots := 0, locals := 60 }) (va_Pc [.ref m0, .int 2] (fun U => va_P (dC, dI) vwCl [(m0, .inr (11, [.int 0, .ref mwidth, .ref mmany, .ref mcells, .ref mmoved, .ref mtape, .int 0, .int 0, .int 0, .int 0, .int 0, .long 0, .int 0, .int bp, .int 0, .int (-1), .ref mlines, .ref mhas, .ref mtold, .ref mlaw, .ref msuit, .ref mapart, .ref mact, .ref misKept, .ref mseen, .ref mhung, .int 0, .ref mgoal, .ref mleaps, .ref mqueue, .ref mrow, .int 0, .ref mwanted, .ref mfirst, .ref moften, .int 0, .int 0, .int 0, .int 0, .int 0, .int 0, .ref mlots, .ref mthen, .long 0])), (mhas, .inl (cyI, 20, .inl (fun _ => 0)))] U.heap ∧ va_K (dC, dI) vwCl [(cyI, .int), (cyB, .byte), (cyJ, .long), (cyZ, .boolean), (cyH, .object RX2), (cyN, .array .long)] U)) (vp_Si (fun r : Int32 => r = 0)) 0 0 (fun _ => False) := by
  refine Met.ofW (cc := cX12_hasRead) (maxL := 2) (ret := (some .int)) (by decide) rfl ?_
  intro p e s m args below meth c s₁ B hml hv
  obtain ⟨rfl, hP, hK⟩ := hv
  have hx := B.exec
  have hb := B.bytes
  have hr := B.returns
  have hts : ∀ w ∈ uU, w.before ([.ref m0, .int 2] : List Value).toArray s = true := fun w h => atoms_spec (ws := wk yX12_hasRead cX12_hasRead 2 (some .int)) B.pre w (List.mem_cons_of_mem _ h)
  have hown : s.vm.findClass RX12 = some m.cls := findClass_of_methodNamed B.named
  have hlocks := B.notSynchronized
  have hl := lv_entry ([.ref m0, .int 2]) (n := 2) (Nat.le_of_ble_eq_true rfl)
  rw [lg_entry_eq]
  generalize (lg_sl ([.ref m0, .int 2]) ++ List.replicate (2 - (lg_sl ([.ref m0, .int 2])).length) Slot.unset).toArray = ls at hl ⊢
  have hl : lv_has ls 2 [(0, .ref m0), (1, .int 2)] := hl
  refine lv_aload_n hx hb dX12_hasRead_0 rfl (lv_at hl 0 rfl) ?_
  refine va_get (D := (dC, dI)) (ci := 11) (v := .ref mhas) (C := RX12) (T := TX12) (N := 44) hx hb hts uinX12 hown hK hP 0 rfl rfl 17 (by decide) (hts _ wd_6_54) (fun _ h9 => h9) rfl dX12_hasRead_1 ?_
  refine lv_bipush (v := 16) hx hb dX12_hasRead_4 (by decide) ?_
  refine lv_iload_n hx hb dX12_hasRead_6 rfl (lv_at hl 1 rfl) ?_
  refine lv_iadd hx hb dX12_hasRead_7 ?_
  refine cv_topi (b := 18) (by decide) ?_
  refine va_iald hx hb hK hP 1 0 rfl rfl (vp_in_iff.mpr (by decide)) dX12_hasRead_8 ?_
  refine cv_topi (b := 0) (rfl) ?_
  exact W.iret (v := 0) hx hb hr (fun t ht hW => ⟨0, rfl, rfl, ht⟩) (fun q h => by cases h) dX12_hasRead_9

/- X12_tells -/
set_option maxHeartbeats 4000000 in
set_option maxRecDepth 100000 in
theorem m_tells0 (l : Launch) (dC : Nat → ClassId) (dI : Nat → Nat → Nat) (cyI cyB cyJ cyZ cyH cyN : ClassId) (sz : Nat) (m0 mwidth mmany mcells mmoved mtape mlines mhas mtold mlaw msuit mapart mact misKept mseen mhung mgoal mleaps mqueue mrow mwanted mfirst moften mlots mthen : Nat) (bp p0 : Int32) (g0 : 0 ≤ p0.toInt ∧ p0.toInt < 4) : Met l yX12_tells (wk yX12_tells cX12_tells 3 none) ({ frames := 1, cells := 0, slots := 0, locals := 60 }) (va_Pc [.ref m0, .int p0, .int 0] (fun U => U.heap.size = sz ∧ va_P (dC, dI) vwCl [(m0, .inr (11, [.int 0, .ref mwidth, .ref mmany, .ref mcells, .ref mmoved, .ref mtape, .int 0, .int 0, .int 0, .int 0, .int 0, .long 0, .int 0, .int bp, .int 0, .int (-1), .ref mlines, .ref mhas, .ref mtold, .ref mlaw, .ref msuit, .ref mapart, .ref mact, .ref misKept, .ref mseen, .ref mhung, .int 0, .ref mgoal, .ref mleaps, .ref mqueue, .ref mrow, .int 0, .ref mwanted, .ref mfirst, .ref moften, .int 0, .int 0, .int 0, .int 0, .int 0, .int 0, .ref mlots, .ref mthen, .long 0])), (mhas, .inl (cyI, 20, .inl (fun _ => 0)))] U.heap ∧ va_K (dC, dI) vwCl [(cyI, .int), (cyB, .byte), (cyJ, .long), (cyZ, .boolean), (cyH, .object RX2), (cyN, .array .long)] U ∧ va_D (fun _ => True) [(m0, .inr (11, [.int 0, .ref mwidth, .ref mmany, .ref mcells, .ref mmoved, .ref mtape, .int 0, .int 0, .int 0, .int 0, .int 0, .long 0, .int 0, .int bp, .int 0, .int (-1), .ref mlines, .ref mhas, .ref mtold, .ref mlaw, .ref msuit, .ref mapart, .ref mact, .ref misKept, .ref mseen, .ref mhung, .int 0, .ref mgoal, .ref mleaps, .ref mqueue, .ref mrow, .int 0, .ref mwanted, .ref mfirst, .ref moften, .int 0, .int 0, .int 0, .int 0, .int 0, .int 0, .ref mlots, .ref mthen, .long 0])), (mhas, .inl (cyI, 20, .inl (fun _ => 0)))])) (va_Qv (fun _ : Unit => True) (fun (_ : Unit) (t : State) => va_P (dC, dI) vwCl [(m0, .inr (11, [.int 0, .ref mwidth, .ref mmany, .ref mcells, .ref mmoved, .ref mtape, .int 0, .int 0, .int 0, .int 0, .int 0, .long 0, .int 0, .int bp, .int 0, .int (-1), .ref mlines, .ref mhas, .ref mtold, .ref mlaw, .ref msuit, .ref mapart, .ref mact, .ref misKept, .ref mseen, .ref mhung, .int 0, .ref mgoal, .ref mleaps, .ref mqueue, .ref mrow, .int 0, .ref mwanted, .ref mfirst, .ref moften, .int 0, .int 0, .int 0, .int 0, .int 0, .int 0, .ref mlots, .ref mthen, .long 0])), (mhas, .inl (cyI, 20, .inl (fun _ => 0)))] t.heap ∧ va_D (va_A [(m0, .inr (11, [.int 0, .ref mwidth, .ref mmany, .ref mcells, .ref mmoved, .ref mtape, .int 0, .int 0, .int 0, .int 0, .int 0, .long 0, .int 0, .int bp, .int 0, .int (-1), .ref mlines, .ref mhas, .ref mtold, .ref mlaw, .ref msuit, .ref mapart, .ref mact, .ref misKept, .ref mseen, .ref mhung, .int 0, .ref mgoal, .ref mleaps, .ref mqueue, .ref mrow, .int 0, .ref mwanted, .ref mfirst, .ref moften, .int 0, .int 0, .int 0, .int 0, .int 0, .int 0, .ref mlots, .ref mthen, .long 0])), (mhas, .inl (cyI, 20, .inl (fun _ => 0)))] sz) [(m0, .inr (11, [.int 0, .ref mwidth, .ref mmany, .ref mcells, .ref mmoved, .ref mtape, .int 0, .int 0, .int 0, .int 0, .int 0, .long 0, .int 0, .int bp, .int 0, .int (-1), .ref mlines, .ref mhas, .ref mtold, .ref mlaw, .ref msuit, .ref mapart, .ref mact, .ref misKept, .ref mseen, .ref mhung, .int 0, .ref mgoal, .ref mleaps, .ref mqueue, .ref mrow, .int 0, .ref mwanted, .ref mfirst, .ref moften, .int 0, .int 0, .int 0, .int 0, .int 0, .int 0, .ref mlots, .ref mthen, .long 0])), (mhas, .inl (cyI, 20, .inl (fun _ => 0)))]) (va_A [(m0, .inr (11, [.int 0, .ref mwidth, .ref mmany, .ref mcells, .ref mmoved, .ref mtape, .int 0, .int 0, .int 0, .int 0, .int 0, .long 0, .int 0, .int bp, .int 0, .int (-1), .ref mlines, .ref mhas, .ref mtold, .ref mlaw, .ref msuit, .ref mapart, .ref mact, .ref misKept, .ref mseen, .ref mhung, .int 0, .ref mgoal, .ref mleaps, .ref mqueue, .ref mrow, .int 0, .ref mwanted, .ref mfirst, .ref moften, .int 0, .int 0, .int 0, .int 0, .int 0, .int 0, .ref mlots, .ref mthen, .long 0])), (mhas, .inl (cyI, 20, .inl (fun _ => 0)))] sz)) 0 0 (va_A [(m0, .inr (11, [.int 0, .ref mwidth, .ref mmany, .ref mcells, .ref mmoved, .ref mtape, .int 0, .int 0, .int 0, .int 0, .int 0, .long 0, .int 0, .int bp, .int 0, .int (-1), .ref mlines, .ref mhas, .ref mtold, .ref mlaw, .ref msuit, .ref mapart, .ref mact, .ref misKept, .ref mseen, .ref mhung, .int 0, .ref mgoal, .ref mleaps, .ref mqueue, .ref mrow, .int 0, .ref mwanted, .ref mfirst, .ref moften, .int 0, .int 0, .int 0, .int 0, .int 0, .int 0, .ref mlots, .ref mthen, .long 0])), (mhas, .inl (cyI, 20, .inl (fun _ => 0)))] sz) := by
  refine Met.ofW (cc := cX12_tells) (maxL := 3) (ret := none) (by decide) rfl ?_
  intro p e s m args below meth c s₁ B hml hv
  obtain ⟨rfl, hsz, hP, hK, hD0⟩ := hv
  have hx := B.exec
  have hb := B.bytes
  have hr := B.returns
  have hts : ∀ w ∈ uU, w.before ([.ref m0, .int p0, .int 0] : List Value).toArray s = true := fun w h => atoms_spec (ws := wk yX12_tells cX12_tells 3 none) B.pre w (List.mem_cons_of_mem _ h)
  have hown : s.vm.findClass RX12 = some m.cls := findClass_of_methodNamed B.named
  have hlocks := B.notSynchronized
  subst hsz
  have hD := hD0.self (sz := s.heap.size)
  generalize hAe : va_A [(m0, .inr (11, [.int 0, .ref mwidth, .ref mmany, .ref mcells, .ref mmoved, .ref mtape, .int 0, .int 0, .int 0, .int 0, .int 0, .long 0, .int 0, .int bp, .int 0, .int (-1), .ref mlines, .ref mhas, .ref mtold, .ref mlaw, .ref msuit, .ref mapart, .ref mact, .ref misKept, .ref mseen, .ref mhung, .int 0, .ref mgoal, .ref mleaps, .ref mqueue, .ref mrow, .int 0, .ref mwanted, .ref mfirst, .ref moften, .int 0, .int 0, .int 0, .int 0, .int 0, .int 0, .ref mlots, .ref mthen, .long 0])), (mhas, .inl (cyI, 20, .inl (fun _ => 0)))] s.heap.size = A at hD ⊢
  have hA : ∀ q : Nat, s.heap.size ≤ q → A q := fun q h => by rw [← hAe]; exact Or.inr h
  have hS : va_S A s.heap s.heap [] := va_S.rf
  have hP : va_P (dC, dI) vwCl [(m0, .inr (11, [.int 0, .ref mwidth, .ref mmany, .ref mcells, .ref mmoved, .ref mtape, .int 0, .int 0, .int 0, .int 0, .int 0, .long 0, .int 0, .int bp, .int 0, .int (-1), .ref mlines, .ref mhas, .ref mtold, .ref mlaw, .ref msuit, .ref mapart, .ref mact, .ref misKept, .ref mseen, .ref mhung, .int 0, .ref mgoal, .ref mleaps, .ref mqueue, .ref mrow, .int 0, .ref mwanted, .ref mfirst, .ref moften, .int 0, .int 0, .int 0, .int 0, .int 0, .int 0, .ref mlots, .ref mthen, .long 0])), (mhas, .inl (cyI, 20, .inl (fun _ => 0)))] s.heap := hP
  have hl := lv_entry ([.ref m0, .int p0, .int 0]) (n := 3) (Nat.le_of_ble_eq_true rfl)
  rw [lg_entry_eq]
  generalize (lg_sl ([.ref m0, .int p0, .int 0]) ++ List.replicate (3 - (lg_sl ([.ref m0, .int p0, .int 0])).length) Slot.unset).toArray = ls at hl ⊢
  have hl : lv_has ls 3 [(0, .ref m0), (1, .int p0), (2, .int 0)] := hl
  obtain ⟨H, hHe⟩ : ∃ H, H = s.heap := ⟨_, rfl⟩
  have hP : va_P (dC, dI) vwCl [(m0, .inr (11, [.int 0, .ref mwidth, .ref mmany, .ref mcells, .ref mmoved, .ref mtape, .int 0, .int 0, .int 0, .int 0, .int 0, .long 0, .int 0, .int bp, .int 0, .int (-1), .ref mlines, .ref mhas, .ref mtold, .ref mlaw, .ref msuit, .ref mapart, .ref mact, .ref misKept, .ref mseen, .ref mhung, .int 0, .ref mgoal, .ref mleaps, .ref mqueue, .ref mrow, .int 0, .ref mwanted, .ref mfirst, .ref moften, .int 0, .int 0, .int 0, .int 0, .int 0, .int 0, .ref mlots, .ref mthen, .long 0])), (mhas, .inl (cyI, 20, .inl (fun _ => 0)))] H := by rw [hHe]; exact hP
  have hS : va_S A s.heap H [] := by rw [hHe]; exact hS
  refine cv_heap hHe ?_
  refine lv_aload_n hx hb dX12_tells_0 rfl (lv_at hl 0 rfl) ?_
  refine va_get (D := (dC, dI)) (ci := 11) (v := .ref mhas) (C := RX12) (T := TX12) (N := 44) hx hb hts uinX12 hown hK hP 0 rfl rfl 17 (by decide) (hts _ wd_6_54) (fun _ h9 => h9) rfl dX12_tells_1 ?_
  refine lv_bipush (v := 16) hx hb dX12_tells_4 (by decide) ?_
  refine lv_iload_n hx hb dX12_tells_6 rfl (lv_at hl 1 rfl) ?_
  refine lv_iadd hx hb dX12_tells_7 ?_
  refine lv_topi (fun x_1 ex_1 => ?_)
  have fx_1 : x_1.toInt = 16 + p0.toInt := by rw [ex_1]; exact cv_addI (by have : (16 : Int32).toInt = 16 := rfl; omega) (by have : (16 : Int32).toInt = 16 := rfl; omega)
  refine lv_iload_n hx hb dX12_tells_8 rfl (lv_at hl 2 rfl) ?_
  refine va_iast hx hb hK hP hD hS 1 0 rfl rfl (vp_in_iff.mpr (by omega)) dX12_tells_9 (fun H locs hP hD hS => ?_)
  rw [cv_upd0] at hP hD
  have hP : va_P (dC, dI) vwCl [(m0, .inr (11, [.int 0, .ref mwidth, .ref mmany, .ref mcells, .ref mmoved, .ref mtape, .int 0, .int 0, .int 0, .int 0, .int 0, .long 0, .int 0, .int bp, .int 0, .int (-1), .ref mlines, .ref mhas, .ref mtold, .ref mlaw, .ref msuit, .ref mapart, .ref mact, .ref misKept, .ref mseen, .ref mhung, .int 0, .ref mgoal, .ref mleaps, .ref mqueue, .ref mrow, .int 0, .ref mwanted, .ref mfirst, .ref moften, .int 0, .int 0, .int 0, .int 0, .int 0, .int 0, .ref mlots, .ref mthen, .long 0])), (mhas, .inl (cyI, 20, .inl (fun _ => 0)))] H := hP
  have hD : va_D A [(m0, .inr (11, [.int 0, .ref mwidth, .ref mmany, .ref mcells, .ref mmoved, .ref mtape, .int 0, .int 0, .int 0, .int 0, .int 0, .long 0, .int 0, .int bp, .int 0, .int (-1), .ref mlines, .ref mhas, .ref mtold, .ref mlaw, .ref msuit, .ref mapart, .ref mact, .ref misKept, .ref mseen, .ref mhung, .int 0, .ref mgoal, .ref mleaps, .ref mqueue, .ref mrow, .int 0, .ref mwanted, .ref mfirst, .ref moften, .int 0, .int 0, .int 0, .int 0, .int 0, .int 0, .ref mlots, .ref mthen, .long 0])), (mhas, .inl (cyI, 20, .inl (fun _ => 0)))] := hD
  have hP9 := hP.sub (ws' := [(m0, .inr (11, [.int 0, .ref mwidth, .ref mmany, .ref mcells, .ref mmoved, .ref mtape, .int 0, .int 0, .int 0, .int 0, .int 0, .long 0, .int 0, .int bp, .int 0, .int (-1), .ref mlines, .ref mhas, .ref mtold, .ref mlaw, .ref msuit, .ref mapart, .ref mact, .ref misKept, .ref mseen, .ref mhung, .int 0, .ref mgoal, .ref mleaps, .ref mqueue, .ref mrow, .int 0, .ref mwanted, .ref mfirst, .ref moften, .int 0, .int 0, .int 0, .int 0, .int 0, .int 0, .ref mlots, .ref mthen, .long 0])), (mhas, .inl (cyI, 20, .inl (fun _ => 0)))]) [0, 1] rfl
  have hD9 := hD.sub (ws' := [(m0, .inr (11, [.int 0, .ref mwidth, .ref mmany, .ref mcells, .ref mmoved, .ref mtape, .int 0, .int 0, .int 0, .int 0, .int 0, .long 0, .int 0, .int bp, .int 0, .int (-1), .ref mlines, .ref mhas, .ref mtold, .ref mlaw, .ref msuit, .ref mapart, .ref mact, .ref misKept, .ref mseen, .ref mhung, .int 0, .ref mgoal, .ref mleaps, .ref mqueue, .ref mrow, .int 0, .ref mwanted, .ref mfirst, .ref moften, .int 0, .int 0, .int 0, .int 0, .int 0, .int 0, .ref mlots, .ref mthen, .long 0])), (mhas, .inl (cyI, 20, .inl (fun _ => 0)))]) [0, 1] (by decide) rfl
  exact W.vret hx hb hr (fun t ht hW => ⟨⟨(), rfl, trivial, ⟨by rw [ht]; exact hP9, hD9⟩⟩, hS.F ht⟩) hS.2.2 dX12_tells_10

/- X12_tells -/
set_option maxHeartbeats 4000000 in
set_option maxRecDepth 100000 in
theorem m_tells2 (l : Launch) (dC : Nat → ClassId) (dI : Nat → Nat → Nat) (cyI cyB cyJ cyZ cyH cyN : ClassId) (sz : Nat) (m0 mwidth mmany mcells mmoved mtape mlines mhas mtold mlaw msuit mapart mact misKept mseen mhung mgoal mleaps mqueue mrow mwanted mfirst moften mlots mthen : Nat) (bp : Int32) : Met l yX12_tells (wk yX12_tells cX12_tells 3 none) ({ frames := 1, cells := 0, slots := 0, locals := 60 }) (va_Pc [.ref m0, .int 2, .int 2] (fun U => U.heap.size = sz ∧ va_P (dC, dI) vwCl [(m0, .inr (11, [.int 0, .ref mwidth, .ref mmany, .ref mcells, .ref mmoved, .ref mtape, .int 0, .int 0, .int 0, .int 0, .int 0, .long 0, .int 0, .int bp, .int 0, .int (-1), .ref mlines, .ref mhas, .ref mtold, .ref mlaw, .ref msuit, .ref mapart, .ref mact, .ref misKept, .ref mseen, .ref mhung, .int 0, .ref mgoal, .ref mleaps, .ref mqueue, .ref mrow, .int 0, .ref mwanted, .ref mfirst, .ref moften, .int 0, .int 0, .int 0, .int 0, .int 0, .int 0, .ref mlots, .ref mthen, .long 0])), (mhas, .inl (cyI, 20, .inl (fun _ => 0)))] U.heap ∧ va_K (dC, dI) vwCl [(cyI, .int), (cyB, .byte), (cyJ, .long), (cyZ, .boolean), (cyH, .object RX2), (cyN, .array .long)] U ∧ va_D (fun _ => True) [(m0, .inr (11, [.int 0, .ref mwidth, .ref mmany, .ref mcells, .ref mmoved, .ref mtape, .int 0, .int 0, .int 0, .int 0, .int 0, .long 0, .int 0, .int bp, .int 0, .int (-1), .ref mlines, .ref mhas, .ref mtold, .ref mlaw, .ref msuit, .ref mapart, .ref mact, .ref misKept, .ref mseen, .ref mhung, .int 0, .ref mgoal, .ref mleaps, .ref mqueue, .ref mrow, .int 0, .ref mwanted, .ref mfirst, .ref moften, .int 0, .int 0, .int 0, .int 0, .int 0, .int 0, .ref mlots, .ref mthen, .long 0])), (mhas, .inl (cyI, 20, .inl (fun _ => 0)))])) (va_Qv (fun _ : Unit => True) (fun (_ : Unit) (t : State) => ∃ g : Nat → Int32, va_P (dC, dI) vwCl [(m0, .inr (11, [.int 0, .ref mwidth, .ref mmany, .ref mcells, .ref mmoved, .ref mtape, .int 0, .int 0, .int 0, .int 0, .int 0, .long 0, .int 0, .int bp, .int 0, .int (-1), .ref mlines, .ref mhas, .ref mtold, .ref mlaw, .ref msuit, .ref mapart, .ref mact, .ref misKept, .ref mseen, .ref mhung, .int 0, .ref mgoal, .ref mleaps, .ref mqueue, .ref mrow, .int 0, .ref mwanted, .ref mfirst, .ref moften, .int 0, .int 0, .int 0, .int 0, .int 0, .int 0, .ref mlots, .ref mthen, .long 0])), (mhas, .inl (cyI, 20, .inl g))] t.heap ∧ va_D (va_A [(m0, .inr (11, [.int 0, .ref mwidth, .ref mmany, .ref mcells, .ref mmoved, .ref mtape, .int 0, .int 0, .int 0, .int 0, .int 0, .long 0, .int 0, .int bp, .int 0, .int (-1), .ref mlines, .ref mhas, .ref mtold, .ref mlaw, .ref msuit, .ref mapart, .ref mact, .ref misKept, .ref mseen, .ref mhung, .int 0, .ref mgoal, .ref mleaps, .ref mqueue, .ref mrow, .int 0, .ref mwanted, .ref mfirst, .ref moften, .int 0, .int 0, .int 0, .int 0, .int 0, .int 0, .ref mlots, .ref mthen, .long 0])), (mhas, .inl (cyI, 20, .inl (fun _ => 0)))] sz) [(m0, .inr (11, [.int 0, .ref mwidth, .ref mmany, .ref mcells, .ref mmoved, .ref mtape, .int 0, .int 0, .int 0, .int 0, .int 0, .long 0, .int 0, .int bp, .int 0, .int (-1), .ref mlines, .ref mhas, .ref mtold, .ref mlaw, .ref msuit, .ref mapart, .ref mact, .ref misKept, .ref mseen, .ref mhung, .int 0, .ref mgoal, .ref mleaps, .ref mqueue, .ref mrow, .int 0, .ref mwanted, .ref mfirst, .ref moften, .int 0, .int 0, .int 0, .int 0, .int 0, .int 0, .ref mlots, .ref mthen, .long 0])), (mhas, .inl (cyI, 20, .inl g))]) (va_A [(m0, .inr (11, [.int 0, .ref mwidth, .ref mmany, .ref mcells, .ref mmoved, .ref mtape, .int 0, .int 0, .int 0, .int 0, .int 0, .long 0, .int 0, .int bp, .int 0, .int (-1), .ref mlines, .ref mhas, .ref mtold, .ref mlaw, .ref msuit, .ref mapart, .ref mact, .ref misKept, .ref mseen, .ref mhung, .int 0, .ref mgoal, .ref mleaps, .ref mqueue, .ref mrow, .int 0, .ref mwanted, .ref mfirst, .ref moften, .int 0, .int 0, .int 0, .int 0, .int 0, .int 0, .ref mlots, .ref mthen, .long 0])), (mhas, .inl (cyI, 20, .inl (fun _ => 0)))] sz)) 0 0 (va_A [(m0, .inr (11, [.int 0, .ref mwidth, .ref mmany, .ref mcells, .ref mmoved, .ref mtape, .int 0, .int 0, .int 0, .int 0, .int 0, .long 0, .int 0, .int bp, .int 0, .int (-1), .ref mlines, .ref mhas, .ref mtold, .ref mlaw, .ref msuit, .ref mapart, .ref mact, .ref misKept, .ref mseen, .ref mhung, .int 0, .ref mgoal, .ref mleaps, .ref mqueue, .ref mrow, .int 0, .ref mwanted, .ref mfirst, .ref moften, .int 0, .int 0, .int 0, .int 0, .int 0, .int 0, .ref mlots, .ref mthen, .long 0])), (mhas, .inl (cyI, 20, .inl (fun _ => 0)))] sz) := by
  refine Met.ofW (cc := cX12_tells) (maxL := 3) (ret := none) (by decide) rfl ?_
  intro p e s m args below meth c s₁ B hml hv
  obtain ⟨rfl, hsz, hP, hK, hD0⟩ := hv
  have hx := B.exec
  have hb := B.bytes
  have hr := B.returns
  have hts : ∀ w ∈ uU, w.before ([.ref m0, .int 2, .int 2] : List Value).toArray s = true := fun w h => atoms_spec (ws := wk yX12_tells cX12_tells 3 none) B.pre w (List.mem_cons_of_mem _ h)
  have hown : s.vm.findClass RX12 = some m.cls := findClass_of_methodNamed B.named
  have hlocks := B.notSynchronized
  subst hsz
  have hD := hD0.self (sz := s.heap.size)
  generalize hAe : va_A [(m0, .inr (11, [.int 0, .ref mwidth, .ref mmany, .ref mcells, .ref mmoved, .ref mtape, .int 0, .int 0, .int 0, .int 0, .int 0, .long 0, .int 0, .int bp, .int 0, .int (-1), .ref mlines, .ref mhas, .ref mtold, .ref mlaw, .ref msuit, .ref mapart, .ref mact, .ref misKept, .ref mseen, .ref mhung, .int 0, .ref mgoal, .ref mleaps, .ref mqueue, .ref mrow, .int 0, .ref mwanted, .ref mfirst, .ref moften, .int 0, .int 0, .int 0, .int 0, .int 0, .int 0, .ref mlots, .ref mthen, .long 0])), (mhas, .inl (cyI, 20, .inl (fun _ => 0)))] s.heap.size = A at hD ⊢
  have hA : ∀ q : Nat, s.heap.size ≤ q → A q := fun q h => by rw [← hAe]; exact Or.inr h
  have hS : va_S A s.heap s.heap [] := va_S.rf
  have hP : va_P (dC, dI) vwCl [(m0, .inr (11, [.int 0, .ref mwidth, .ref mmany, .ref mcells, .ref mmoved, .ref mtape, .int 0, .int 0, .int 0, .int 0, .int 0, .long 0, .int 0, .int bp, .int 0, .int (-1), .ref mlines, .ref mhas, .ref mtold, .ref mlaw, .ref msuit, .ref mapart, .ref mact, .ref misKept, .ref mseen, .ref mhung, .int 0, .ref mgoal, .ref mleaps, .ref mqueue, .ref mrow, .int 0, .ref mwanted, .ref mfirst, .ref moften, .int 0, .int 0, .int 0, .int 0, .int 0, .int 0, .ref mlots, .ref mthen, .long 0])), (mhas, .inl (cyI, 20, .inl (fun _ => 0)))] s.heap := hP
  have hl := lv_entry ([.ref m0, .int 2, .int 2]) (n := 3) (Nat.le_of_ble_eq_true rfl)
  rw [lg_entry_eq]
  generalize (lg_sl ([.ref m0, .int 2, .int 2]) ++ List.replicate (3 - (lg_sl ([.ref m0, .int 2, .int 2])).length) Slot.unset).toArray = ls at hl ⊢
  have hl : lv_has ls 3 [(0, .ref m0), (1, .int 2), (2, .int 2)] := hl
  obtain ⟨H, hHe⟩ : ∃ H, H = s.heap := ⟨_, rfl⟩
  have hP : va_P (dC, dI) vwCl [(m0, .inr (11, [.int 0, .ref mwidth, .ref mmany, .ref mcells, .ref mmoved, .ref mtape, .int 0, .int 0, .int 0, .int 0, .int 0, .long 0, .int 0, .int bp, .int 0, .int (-1), .ref mlines, .ref mhas, .ref mtold, .ref mlaw, .ref msuit, .ref mapart, .ref mact, .ref misKept, .ref mseen, .ref mhung, .int 0, .ref mgoal, .ref mleaps, .ref mqueue, .ref mrow, .int 0, .ref mwanted, .ref mfirst, .ref moften, .int 0, .int 0, .int 0, .int 0, .int 0, .int 0, .ref mlots, .ref mthen, .long 0])), (mhas, .inl (cyI, 20, .inl (fun _ => 0)))] H := by rw [hHe]; exact hP
  have hS : va_S A s.heap H [] := by rw [hHe]; exact hS
  refine cv_heap hHe ?_
  refine lv_aload_n hx hb dX12_tells_0 rfl (lv_at hl 0 rfl) ?_
  refine va_get (D := (dC, dI)) (ci := 11) (v := .ref mhas) (C := RX12) (T := TX12) (N := 44) hx hb hts uinX12 hown hK hP 0 rfl rfl 17 (by decide) (hts _ wd_6_54) (fun _ h9 => h9) rfl dX12_tells_1 ?_
  refine lv_bipush (v := 16) hx hb dX12_tells_4 (by decide) ?_
  refine lv_iload_n hx hb dX12_tells_6 rfl (lv_at hl 1 rfl) ?_
  refine lv_iadd hx hb dX12_tells_7 ?_
  refine cv_topi (b := 18) (by decide) ?_
  refine lv_iload_n hx hb dX12_tells_8 rfl (lv_at hl 2 rfl) ?_
  refine va_iast hx hb hK hP hD hS 1 0 rfl rfl (vp_in_iff.mpr (by decide)) dX12_tells_9 (fun H locs hP hD hS => ?_)
  obtain ⟨f_1, ef_1⟩ : ∃ z9 : Nat → Int32, z9 = upd (fun _ => 0) (18 : Int32).toNatClampNeg 2 := ⟨_, rfl⟩
  rw [← ef_1] at hP hD
  have hP : va_P (dC, dI) vwCl [(m0, .inr (11, [.int 0, .ref mwidth, .ref mmany, .ref mcells, .ref mmoved, .ref mtape, .int 0, .int 0, .int 0, .int 0, .int 0, .long 0, .int 0, .int bp, .int 0, .int (-1), .ref mlines, .ref mhas, .ref mtold, .ref mlaw, .ref msuit, .ref mapart, .ref mact, .ref misKept, .ref mseen, .ref mhung, .int 0, .ref mgoal, .ref mleaps, .ref mqueue, .ref mrow, .int 0, .ref mwanted, .ref mfirst, .ref moften, .int 0, .int 0, .int 0, .int 0, .int 0, .int 0, .ref mlots, .ref mthen, .long 0])), (mhas, .inl (cyI, 20, .inl f_1))] H := hP
  have hD : va_D A [(m0, .inr (11, [.int 0, .ref mwidth, .ref mmany, .ref mcells, .ref mmoved, .ref mtape, .int 0, .int 0, .int 0, .int 0, .int 0, .long 0, .int 0, .int bp, .int 0, .int (-1), .ref mlines, .ref mhas, .ref mtold, .ref mlaw, .ref msuit, .ref mapart, .ref mact, .ref misKept, .ref mseen, .ref mhung, .int 0, .ref mgoal, .ref mleaps, .ref mqueue, .ref mrow, .int 0, .ref mwanted, .ref mfirst, .ref moften, .int 0, .int 0, .int 0, .int 0, .int 0, .int 0, .ref mlots, .ref mthen, .long 0])), (mhas, .inl (cyI, 20, .inl f_1))] := hD
  have hP9 := hP.sub (ws' := [(m0, .inr (11, [.int 0, .ref mwidth, .ref mmany, .ref mcells, .ref mmoved, .ref mtape, .int 0, .int 0, .int 0, .int 0, .int 0, .long 0, .int 0, .int bp, .int 0, .int (-1), .ref mlines, .ref mhas, .ref mtold, .ref mlaw, .ref msuit, .ref mapart, .ref mact, .ref misKept, .ref mseen, .ref mhung, .int 0, .ref mgoal, .ref mleaps, .ref mqueue, .ref mrow, .int 0, .ref mwanted, .ref mfirst, .ref moften, .int 0, .int 0, .int 0, .int 0, .int 0, .int 0, .ref mlots, .ref mthen, .long 0])), (mhas, .inl (cyI, 20, .inl f_1))]) [0, 1] rfl
  have hD9 := hD.sub (ws' := [(m0, .inr (11, [.int 0, .ref mwidth, .ref mmany, .ref mcells, .ref mmoved, .ref mtape, .int 0, .int 0, .int 0, .int 0, .int 0, .long 0, .int 0, .int bp, .int 0, .int (-1), .ref mlines, .ref mhas, .ref mtold, .ref mlaw, .ref msuit, .ref mapart, .ref mact, .ref misKept, .ref mseen, .ref mhung, .int 0, .ref mgoal, .ref mleaps, .ref mqueue, .ref mrow, .int 0, .ref mwanted, .ref mfirst, .ref moften, .int 0, .int 0, .int 0, .int 0, .int 0, .int 0, .ref mlots, .ref mthen, .long 0])), (mhas, .inl (cyI, 20, .inl f_1))]) [0, 1] (by decide) rfl
  exact W.vret hx hb hr (fun t ht hW => ⟨⟨(), rfl, trivial, ⟨f_1, by rw [ht]; exact hP9, hD9⟩⟩, hS.F ht⟩) hS.2.2 dX12_tells_10

/- X12_clears -/
set_option maxHeartbeats 4000000 in
set_option maxRecDepth 100000 in
theorem m_clears (l : Launch) (dC : Nat → ClassId) (dI : Nat → Nat → Nat) (cyI cyB cyJ cyZ cyH cyN : ClassId) (sz : Nat) (m0 mwidth mmany mcells mmoved mtape mlines mhas mtold mlaw msuit mapart mact misKept mseen mhung mgoal mleaps mqueue mrow mwanted mfirst moften mlots mthen : Nat) : Met l yX12_clears (wk yX12_clears cX12_clears 2 none) ({ frames := 2, cells := 0, slots := 0, locals := 82 }) (va_Pc [.ref m0] (fun U => U.heap.size = sz ∧ va_P (dC, dI) vwCl [(m0, .inr (11, [.int 0, .ref mwidth, .ref mmany, .ref mcells, .ref mmoved, .ref mtape, .int 0, .int 0, .int 0, .int 0, .int 0, .long 0, .int 0, .int 0, .int 0, .int (-1), .ref mlines, .ref mhas, .ref mtold, .ref mlaw, .ref msuit, .ref mapart, .ref mact, .ref misKept, .ref mseen, .ref mhung, .int 0, .ref mgoal, .ref mleaps, .ref mqueue, .ref mrow, .int 0, .ref mwanted, .ref mfirst, .ref moften, .int 0, .int 0, .int 0, .int 0, .int 0, .int 0, .ref mlots, .ref mthen, .long 0])), (mlines, .inl (cyI, 5, .inl (fun _ => 0))), (mhas, .inl (cyI, 20, .inl (fun _ => 0))), (msuit, .inl (cyI, 245, .inl (fun _ => 0))), (mtold, .inl (cyI, 35, .inl (fun _ => 0))), (mapart, .inl (cyI, 35, .inl (fun _ => 0)))] U.heap ∧ va_K (dC, dI) vwCl [(cyI, .int), (cyB, .byte), (cyJ, .long), (cyZ, .boolean), (cyH, .object RX2), (cyN, .array .long)] U ∧ va_D (fun _ => True) [(m0, .inr (11, [.int 0, .ref mwidth, .ref mmany, .ref mcells, .ref mmoved, .ref mtape, .int 0, .int 0, .int 0, .int 0, .int 0, .long 0, .int 0, .int 0, .int 0, .int (-1), .ref mlines, .ref mhas, .ref mtold, .ref mlaw, .ref msuit, .ref mapart, .ref mact, .ref misKept, .ref mseen, .ref mhung, .int 0, .ref mgoal, .ref mleaps, .ref mqueue, .ref mrow, .int 0, .ref mwanted, .ref mfirst, .ref moften, .int 0, .int 0, .int 0, .int 0, .int 0, .int 0, .ref mlots, .ref mthen, .long 0])), (mlines, .inl (cyI, 5, .inl (fun _ => 0))), (mhas, .inl (cyI, 20, .inl (fun _ => 0))), (msuit, .inl (cyI, 245, .inl (fun _ => 0))), (mtold, .inl (cyI, 35, .inl (fun _ => 0))), (mapart, .inl (cyI, 35, .inl (fun _ => 0)))])) (va_Qv (fun _ : Unit => True) (fun (_ : Unit) (t : State) => ∃ g0 : Nat → Int32, ∃ g1 : Nat → Int32, ∃ g2 : Nat → Int32, va_P (dC, dI) vwCl [(m0, .inr (11, [.int 0, .ref mwidth, .ref mmany, .ref mcells, .ref mmoved, .ref mtape, .int 0, .int 0, .int 0, .int 0, .int 0, .long 0, .int 0, .int 0, .int 0, .int (-1), .ref mlines, .ref mhas, .ref mtold, .ref mlaw, .ref msuit, .ref mapart, .ref mact, .ref misKept, .ref mseen, .ref mhung, .int 0, .ref mgoal, .ref mleaps, .ref mqueue, .ref mrow, .int 0, .ref mwanted, .ref mfirst, .ref moften, .int 0, .int 0, .int 0, .int 0, .int 0, .int 0, .ref mlots, .ref mthen, .long 0])), (mlines, .inl (cyI, 5, .inl (fun _ => 0))), (mhas, .inl (cyI, 20, .inl (fun _ => 0))), (msuit, .inl (cyI, 245, .inl g0)), (mtold, .inl (cyI, 35, .inl g1)), (mapart, .inl (cyI, 35, .inl g2))] t.heap ∧ va_D (va_A [(m0, .inr (11, [.int 0, .ref mwidth, .ref mmany, .ref mcells, .ref mmoved, .ref mtape, .int 0, .int 0, .int 0, .int 0, .int 0, .long 0, .int 0, .int 0, .int 0, .int (-1), .ref mlines, .ref mhas, .ref mtold, .ref mlaw, .ref msuit, .ref mapart, .ref mact, .ref misKept, .ref mseen, .ref mhung, .int 0, .ref mgoal, .ref mleaps, .ref mqueue, .ref mrow, .int 0, .ref mwanted, .ref mfirst, .ref moften, .int 0, .int 0, .int 0, .int 0, .int 0, .int 0, .ref mlots, .ref mthen, .long 0])), (mlines, .inl (cyI, 5, .inl (fun _ => 0))), (mhas, .inl (cyI, 20, .inl (fun _ => 0))), (msuit, .inl (cyI, 245, .inl (fun _ => 0))), (mtold, .inl (cyI, 35, .inl (fun _ => 0))), (mapart, .inl (cyI, 35, .inl (fun _ => 0)))] sz) [(m0, .inr (11, [.int 0, .ref mwidth, .ref mmany, .ref mcells, .ref mmoved, .ref mtape, .int 0, .int 0, .int 0, .int 0, .int 0, .long 0, .int 0, .int 0, .int 0, .int (-1), .ref mlines, .ref mhas, .ref mtold, .ref mlaw, .ref msuit, .ref mapart, .ref mact, .ref misKept, .ref mseen, .ref mhung, .int 0, .ref mgoal, .ref mleaps, .ref mqueue, .ref mrow, .int 0, .ref mwanted, .ref mfirst, .ref moften, .int 0, .int 0, .int 0, .int 0, .int 0, .int 0, .ref mlots, .ref mthen, .long 0])), (mlines, .inl (cyI, 5, .inl (fun _ => 0))), (mhas, .inl (cyI, 20, .inl (fun _ => 0))), (msuit, .inl (cyI, 245, .inl g0)), (mtold, .inl (cyI, 35, .inl g1)), (mapart, .inl (cyI, 35, .inl g2))]) (va_A [(m0, .inr (11, [.int 0, .ref mwidth, .ref mmany, .ref mcells, .ref mmoved, .ref mtape, .int 0, .int 0, .int 0, .int 0, .int 0, .long 0, .int 0, .int 0, .int 0, .int (-1), .ref mlines, .ref mhas, .ref mtold, .ref mlaw, .ref msuit, .ref mapart, .ref mact, .ref misKept, .ref mseen, .ref mhung, .int 0, .ref mgoal, .ref mleaps, .ref mqueue, .ref mrow, .int 0, .ref mwanted, .ref mfirst, .ref moften, .int 0, .int 0, .int 0, .int 0, .int 0, .int 0, .ref mlots, .ref mthen, .long 0])), (mlines, .inl (cyI, 5, .inl (fun _ => 0))), (mhas, .inl (cyI, 20, .inl (fun _ => 0))), (msuit, .inl (cyI, 245, .inl (fun _ => 0))), (mtold, .inl (cyI, 35, .inl (fun _ => 0))), (mapart, .inl (cyI, 35, .inl (fun _ => 0)))] sz)) 0 0 (va_A [(m0, .inr (11, [.int 0, .ref mwidth, .ref mmany, .ref mcells, .ref mmoved, .ref mtape, .int 0, .int 0, .int 0, .int 0, .int 0, .long 0, .int 0, .int 0, .int 0, .int (-1), .ref mlines, .ref mhas, .ref mtold, .ref mlaw, .ref msuit, .ref mapart, .ref mact, .ref misKept, .ref mseen, .ref mhung, .int 0, .ref mgoal, .ref mleaps, .ref mqueue, .ref mrow, .int 0, .ref mwanted, .ref mfirst, .ref moften, .int 0, .int 0, .int 0, .int 0, .int 0, .int 0, .ref mlots, .ref mthen, .long 0])), (mlines, .inl (cyI, 5, .inl (fun _ => 0))), (mhas, .inl (cyI, 20, .inl (fun _ => 0))), (msuit, .inl (cyI, 245, .inl (fun _ => 0))), (mtold, .inl (cyI, 35, .inl (fun _ => 0))), (mapart, .inl (cyI, 35, .inl (fun _ => 0)))] sz) := by
  refine Met.ofW (cc := cX12_clears) (maxL := 2) (ret := none) (by decide) rfl ?_
  intro p e s m args below meth c s₁ B hml hv
  obtain ⟨rfl, hsz, hP, hK, hD0⟩ := hv
  have hx := B.exec
  have hb := B.bytes
  have hr := B.returns
  have hts : ∀ w ∈ uU, w.before ([.ref m0] : List Value).toArray s = true := fun w h => atoms_spec (ws := wk yX12_clears cX12_clears 2 none) B.pre w (List.mem_cons_of_mem _ h)
  have hown : s.vm.findClass RX12 = some m.cls := findClass_of_methodNamed B.named
  have hlocks := B.notSynchronized
  subst hsz
  have hD := hD0.self (sz := s.heap.size)
  generalize hAe : va_A [(m0, .inr (11, [.int 0, .ref mwidth, .ref mmany, .ref mcells, .ref mmoved, .ref mtape, .int 0, .int 0, .int 0, .int 0, .int 0, .long 0, .int 0, .int 0, .int 0, .int (-1), .ref mlines, .ref mhas, .ref mtold, .ref mlaw, .ref msuit, .ref mapart, .ref mact, .ref misKept, .ref mseen, .ref mhung, .int 0, .ref mgoal, .ref mleaps, .ref mqueue, .ref mrow, .int 0, .ref mwanted, .ref mfirst, .ref moften, .int 0, .int 0, .int 0, .int 0, .int 0, .int 0, .ref mlots, .ref mthen, .long 0])), (mlines, .inl (cyI, 5, .inl (fun _ => 0))), (mhas, .inl (cyI, 20, .inl (fun _ => 0))), (msuit, .inl (cyI, 245, .inl (fun _ => 0))), (mtold, .inl (cyI, 35, .inl (fun _ => 0))), (mapart, .inl (cyI, 35, .inl (fun _ => 0)))] s.heap.size = A at hD ⊢
  have hA : ∀ q : Nat, s.heap.size ≤ q → A q := fun q h => by rw [← hAe]; exact Or.inr h
  have hS : va_S A s.heap s.heap [] := va_S.rf
  have hP : va_P (dC, dI) vwCl [(m0, .inr (11, [.int 0, .ref mwidth, .ref mmany, .ref mcells, .ref mmoved, .ref mtape, .int 0, .int 0, .int 0, .int 0, .int 0, .long 0, .int 0, .int 0, .int 0, .int (-1), .ref mlines, .ref mhas, .ref mtold, .ref mlaw, .ref msuit, .ref mapart, .ref mact, .ref misKept, .ref mseen, .ref mhung, .int 0, .ref mgoal, .ref mleaps, .ref mqueue, .ref mrow, .int 0, .ref mwanted, .ref mfirst, .ref moften, .int 0, .int 0, .int 0, .int 0, .int 0, .int 0, .ref mlots, .ref mthen, .long 0])), (mlines, .inl (cyI, 5, .inl (fun _ => 0))), (mhas, .inl (cyI, 20, .inl (fun _ => 0))), (msuit, .inl (cyI, 245, .inl (fun _ => 0))), (mtold, .inl (cyI, 35, .inl (fun _ => 0))), (mapart, .inl (cyI, 35, .inl (fun _ => 0)))] s.heap := hP
  have hl := lv_entry ([.ref m0]) (n := 2) (Nat.le_of_ble_eq_true rfl)
  rw [lg_entry_eq]
  generalize (lg_sl ([.ref m0]) ++ List.replicate (2 - (lg_sl ([.ref m0])).length) Slot.unset).toArray = ls at hl ⊢
  have hl : lv_has ls 2 [(0, .ref m0)] := hl
  obtain ⟨H, hHe⟩ : ∃ H, H = s.heap := ⟨_, rfl⟩
  have hP : va_P (dC, dI) vwCl [(m0, .inr (11, [.int 0, .ref mwidth, .ref mmany, .ref mcells, .ref mmoved, .ref mtape, .int 0, .int 0, .int 0, .int 0, .int 0, .long 0, .int 0, .int 0, .int 0, .int (-1), .ref mlines, .ref mhas, .ref mtold, .ref mlaw, .ref msuit, .ref mapart, .ref mact, .ref misKept, .ref mseen, .ref mhung, .int 0, .ref mgoal, .ref mleaps, .ref mqueue, .ref mrow, .int 0, .ref mwanted, .ref mfirst, .ref moften, .int 0, .int 0, .int 0, .int 0, .int 0, .int 0, .ref mlots, .ref mthen, .long 0])), (mlines, .inl (cyI, 5, .inl (fun _ => 0))), (mhas, .inl (cyI, 20, .inl (fun _ => 0))), (msuit, .inl (cyI, 245, .inl (fun _ => 0))), (mtold, .inl (cyI, 35, .inl (fun _ => 0))), (mapart, .inl (cyI, 35, .inl (fun _ => 0)))] H := by rw [hHe]; exact hP
  have hS : va_S A s.heap H [] := by rw [hHe]; exact hS
  refine cv_heap hHe ?_
  refine lv_aload_n hx hb dX12_clears_0 rfl (lv_at hl 0 rfl) ?_
  refine va_get (D := (dC, dI)) (ci := 11) (v := .ref mlines) (C := RX12) (T := TX12) (N := 44) hx hb hts uinX12 hown hK hP 0 rfl rfl 16 (by decide) (hts _ wd_6_53) (fun _ h9 => h9) rfl dX12_clears_1 ?_
  refine lv_iconst (v := 4) hx hb dX12_clears_4 (by decide) ?_
  refine lv_iconst (v := 0) hx hb dX12_clears_5 (by decide) ?_
  refine va_iast hx hb hK hP hD hS 1 0 rfl rfl (vp_in_iff.mpr (by decide)) dX12_clears_6 (fun H locs hP hD hS => ?_)
  rw [cv_upd0] at hP hD
  have hP : va_P (dC, dI) vwCl [(m0, .inr (11, [.int 0, .ref mwidth, .ref mmany, .ref mcells, .ref mmoved, .ref mtape, .int 0, .int 0, .int 0, .int 0, .int 0, .long 0, .int 0, .int 0, .int 0, .int (-1), .ref mlines, .ref mhas, .ref mtold, .ref mlaw, .ref msuit, .ref mapart, .ref mact, .ref misKept, .ref mseen, .ref mhung, .int 0, .ref mgoal, .ref mleaps, .ref mqueue, .ref mrow, .int 0, .ref mwanted, .ref mfirst, .ref moften, .int 0, .int 0, .int 0, .int 0, .int 0, .int 0, .ref mlots, .ref mthen, .long 0])), (mlines, .inl (cyI, 5, .inl (fun _ => 0))), (mhas, .inl (cyI, 20, .inl (fun _ => 0))), (msuit, .inl (cyI, 245, .inl (fun _ => 0))), (mtold, .inl (cyI, 35, .inl (fun _ => 0))), (mapart, .inl (cyI, 35, .inl (fun _ => 0)))] H := hP
  have hD : va_D A [(m0, .inr (11, [.int 0, .ref mwidth, .ref mmany, .ref mcells, .ref mmoved, .ref mtape, .int 0, .int 0, .int 0, .int 0, .int 0, .long 0, .int 0, .int 0, .int 0, .int (-1), .ref mlines, .ref mhas, .ref mtold, .ref mlaw, .ref msuit, .ref mapart, .ref mact, .ref misKept, .ref mseen, .ref mhung, .int 0, .ref mgoal, .ref mleaps, .ref mqueue, .ref mrow, .int 0, .ref mwanted, .ref mfirst, .ref moften, .int 0, .int 0, .int 0, .int 0, .int 0, .int 0, .ref mlots, .ref mthen, .long 0])), (mlines, .inl (cyI, 5, .inl (fun _ => 0))), (mhas, .inl (cyI, 20, .inl (fun _ => 0))), (msuit, .inl (cyI, 245, .inl (fun _ => 0))), (mtold, .inl (cyI, 35, .inl (fun _ => 0))), (mapart, .inl (cyI, 35, .inl (fun _ => 0)))] := hD
  refine lv_iconst (v := 0) hx hb dX12_clears_7 (by decide) ?_
  refine lv_istore_n (lv' := [(1, .int 0), (0, .ref m0)]) hx hb dX12_clears_8 rfl hl (by decide) rfl (fun ls hl => ?_)
  refine lv_iload_n hx hb dX12_clears_9 rfl (lv_at hl 0 rfl) ?_
  refine lv_iconst (v := 4) hx hb dX12_clears_10 (by decide) ?_
  refine lv_icmp_ge (tgt := 26) hx hb dX12_clears_11 (by decide) (fun c_1 => absurd c_1 (by decide)) (fun _ => ?_)
  refine lv_aload_n hx hb dX12_clears_14 rfl (lv_at hl 1 rfl) ?_
  refine lv_iload_n hx hb dX12_clears_15 rfl (lv_at hl 0 rfl) ?_
  refine lv_iconst (v := 0) hx hb dX12_clears_16 (by decide) ?_
  have hPc := hP.sub (ws' := [(m0, .inr (11, [.int 0, .ref mwidth, .ref mmany, .ref mcells, .ref mmoved, .ref mtape, .int 0, .int 0, .int 0, .int 0, .int 0, .long 0, .int 0, .int 0, .int 0, .int (-1), .ref mlines, .ref mhas, .ref mtold, .ref mlaw, .ref msuit, .ref mapart, .ref mact, .ref misKept, .ref mseen, .ref mhung, .int 0, .ref mgoal, .ref mleaps, .ref mqueue, .ref mrow, .int 0, .ref mwanted, .ref mfirst, .ref moften, .int 0, .int 0, .int 0, .int 0, .int 0, .int 0, .ref mlots, .ref mthen, .long 0])), (mhas, .inl (cyI, 20, .inl (fun _ => 0)))]) [0, 2] rfl
  have hKc := hK.sub (tys' := [(cyI, .int), (cyB, .byte), (cyJ, .long), (cyZ, .boolean), (cyH, .object RX2), (cyN, .array .long)]) [0, 1, 2, 3, 4, 5] rfl
  have hDc := hD.sub (ws' := [(m0, .inr (11, [.int 0, .ref mwidth, .ref mmany, .ref mcells, .ref mmoved, .ref mtape, .int 0, .int 0, .int 0, .int 0, .int 0, .long 0, .int 0, .int 0, .int 0, .int (-1), .ref mlines, .ref mhas, .ref mtold, .ref mlaw, .ref msuit, .ref mapart, .ref mact, .ref misKept, .ref mseen, .ref mhung, .int 0, .ref mgoal, .ref mleaps, .ref mqueue, .ref mrow, .int 0, .ref mwanted, .ref mfirst, .ref moften, .int 0, .int 0, .int 0, .int 0, .int 0, .int 0, .ref mlots, .ref mthen, .long 0])), (mhas, .inl (cyI, 20, .inl (fun _ => 0)))]) [0, 2] (by decide) rfl
  have hFc := va_free (wc := [(m0, .inr (11, [.int 0, .ref mwidth, .ref mmany, .ref mcells, .ref mmoved, .ref mtape, .int 0, .int 0, .int 0, .int 0, .int 0, .long 0, .int 0, .int 0, .int 0, .int (-1), .ref mlines, .ref mhas, .ref mtold, .ref mlaw, .ref msuit, .ref mapart, .ref mact, .ref misKept, .ref mseen, .ref mhung, .int 0, .ref mgoal, .ref mleaps, .ref mqueue, .ref mrow, .int 0, .ref mwanted, .ref mfirst, .ref moften, .int 0, .int 0, .int 0, .int 0, .int 0, .int 0, .ref mlots, .ref mthen, .long 0])), (mhas, .inl (cyI, 20, .inl (fun _ => 0)))]) hD hS hA [0, 2] rfl
  refine va_callv (va_runV (As := [.int 0, .int 0]) (rest := []) ⟨hx, hb, hml, hown, hts⟩ (m_tells0 l dC dI cyI cyB cyJ cyZ cyH cyN H.size m0 mwidth mmany mcells mmoved mtape mlines mhas mtold mlaw msuit mapart mact misKept mseen mhung mgoal mleaps mqueue mrow mwanted mfirst moften mlots mthen 0 0 (by decide)) (cwV 2 hts (gdV wd_6_216 wd_6_218 wd_s3_9 wd_1_11 wd_6_219) rfl rfl rfl (by decide +kernel) ⟨Nat.le_of_ble_eq_true rfl, Nat.le_of_ble_eq_true rfl⟩) ⟨fun a U g mk q => by obtain ⟨q0, q1, qP, qK, qD⟩ := q; exact ⟨q0, q1, qP, va_K.moved (u := U) (U := U.calling g mk a) (Vm.Alike.refl U.vm) qK, qD⟩, va_recv hKc hPc (ci := 11) (q0 := 0) rfl rfl, fun U hU hW => ⟨rfl, by rw [hU], by rw [hU]; exact hPc, va_K.moved hW.alike hKc, hDc.weaken (fun _ _ _ _ => trivial)⟩⟩ rfl rfl hl.1 rfl (lv_room (Nat.le_of_ble_eq_true rfl)) dX12_clears_17 ⟨Nat.le_of_ble_eq_true rfl, Nat.le_of_ble_eq_true rfl⟩) hS (fun q _ h => hFc q h) hFc (fun  u t H1 locs ht hvm hw hB hz1 hk1 hS => ?_)
  obtain ⟨hP1, hD1⟩ := hB
  rw [ht] at hP1
  obtain ⟨hP, hD⟩ := va_join (wr := [(mlines, .inl (cyI, 5, .inl (fun _ => 0))), (msuit, .inl (cyI, 245, .inl (fun _ => 0))), (mtold, .inl (cyI, 35, .inl (fun _ => 0))), (mapart, .inl (cyI, 35, .inl (fun _ => 0)))]) (w1 := [(m0, .inr (11, [.int 0, .ref mwidth, .ref mmany, .ref mcells, .ref mmoved, .ref mtape, .int 0, .int 0, .int 0, .int 0, .int 0, .long 0, .int 0, .int 0, .int 0, .int (-1), .ref mlines, .ref mhas, .ref mtold, .ref mlaw, .ref msuit, .ref mapart, .ref mact, .ref misKept, .ref mseen, .ref mhung, .int 0, .ref mgoal, .ref mleaps, .ref mqueue, .ref mrow, .int 0, .ref mwanted, .ref mfirst, .ref moften, .int 0, .int 0, .int 0, .int 0, .int 0, .int 0, .ref mlots, .ref mthen, .long 0])), (mhas, .inl (cyI, 20, .inl (fun _ => 0)))]) hP hD [0, 2] [1, 3, 4, 5] rfl rfl (by decide) (by decide) hk1 hFc hP1 hD1
  generalize H1 = H at hP hS ⊢
  have hP : va_P (dC, dI) vwCl [(mlines, .inl (cyI, 5, .inl (fun _ => 0))), (msuit, .inl (cyI, 245, .inl (fun _ => 0))), (mtold, .inl (cyI, 35, .inl (fun _ => 0))), (mapart, .inl (cyI, 35, .inl (fun _ => 0))), (m0, .inr (11, [.int 0, .ref mwidth, .ref mmany, .ref mcells, .ref mmoved, .ref mtape, .int 0, .int 0, .int 0, .int 0, .int 0, .long 0, .int 0, .int 0, .int 0, .int (-1), .ref mlines, .ref mhas, .ref mtold, .ref mlaw, .ref msuit, .ref mapart, .ref mact, .ref misKept, .ref mseen, .ref mhung, .int 0, .ref mgoal, .ref mleaps, .ref mqueue, .ref mrow, .int 0, .ref mwanted, .ref mfirst, .ref moften, .int 0, .int 0, .int 0, .int 0, .int 0, .int 0, .ref mlots, .ref mthen, .long 0])), (mhas, .inl (cyI, 20, .inl (fun _ => 0)))] H := hP
  have hD : va_D A [(mlines, .inl (cyI, 5, .inl (fun _ => 0))), (msuit, .inl (cyI, 245, .inl (fun _ => 0))), (mtold, .inl (cyI, 35, .inl (fun _ => 0))), (mapart, .inl (cyI, 35, .inl (fun _ => 0))), (m0, .inr (11, [.int 0, .ref mwidth, .ref mmany, .ref mcells, .ref mmoved, .ref mtape, .int 0, .int 0, .int 0, .int 0, .int 0, .long 0, .int 0, .int 0, .int 0, .int (-1), .ref mlines, .ref mhas, .ref mtold, .ref mlaw, .ref msuit, .ref mapart, .ref mact, .ref misKept, .ref mseen, .ref mhung, .int 0, .ref mgoal, .ref mleaps, .ref mqueue, .ref mrow, .int 0, .ref mwanted, .ref mfirst, .ref moften, .int 0, .int 0, .int 0, .int 0, .int 0, .int 0, .ref mlots, .ref mthen, .long 0])), (mhas, .inl (cyI, 20, .inl (fun _ => 0)))] := hD
  refine lv_iinc (v := 1) (lv' := [(1, .int 1), (0, .ref m0)]) hx hb dX12_clears_20 hl (k := 0) rfl (by decide) (by decide) rfl (fun ls hl => ?_)
  refine lv_goto (tgt := 9) hx hb dX12_clears_23 (by decide) ?_
  refine lv_iload_n hx hb dX12_clears_9 rfl (lv_at hl 0 rfl) ?_
  refine lv_iconst (v := 4) hx hb dX12_clears_10 (by decide) ?_
  refine lv_icmp_ge (tgt := 26) hx hb dX12_clears_11 (by decide) (fun c_2 => absurd c_2 (by decide)) (fun _ => ?_)
  refine lv_aload_n hx hb dX12_clears_14 rfl (lv_at hl 1 rfl) ?_
  refine lv_iload_n hx hb dX12_clears_15 rfl (lv_at hl 0 rfl) ?_
  refine lv_iconst (v := 0) hx hb dX12_clears_16 (by decide) ?_
  have hPc := hP.sub (ws' := [(m0, .inr (11, [.int 0, .ref mwidth, .ref mmany, .ref mcells, .ref mmoved, .ref mtape, .int 0, .int 0, .int 0, .int 0, .int 0, .long 0, .int 0, .int 0, .int 0, .int (-1), .ref mlines, .ref mhas, .ref mtold, .ref mlaw, .ref msuit, .ref mapart, .ref mact, .ref misKept, .ref mseen, .ref mhung, .int 0, .ref mgoal, .ref mleaps, .ref mqueue, .ref mrow, .int 0, .ref mwanted, .ref mfirst, .ref moften, .int 0, .int 0, .int 0, .int 0, .int 0, .int 0, .ref mlots, .ref mthen, .long 0])), (mhas, .inl (cyI, 20, .inl (fun _ => 0)))]) [4, 5] rfl
  have hKc := hK.sub (tys' := [(cyI, .int), (cyB, .byte), (cyJ, .long), (cyZ, .boolean), (cyH, .object RX2), (cyN, .array .long)]) [0, 1, 2, 3, 4, 5] rfl
  have hDc := hD.sub (ws' := [(m0, .inr (11, [.int 0, .ref mwidth, .ref mmany, .ref mcells, .ref mmoved, .ref mtape, .int 0, .int 0, .int 0, .int 0, .int 0, .long 0, .int 0, .int 0, .int 0, .int (-1), .ref mlines, .ref mhas, .ref mtold, .ref mlaw, .ref msuit, .ref mapart, .ref mact, .ref misKept, .ref mseen, .ref mhung, .int 0, .ref mgoal, .ref mleaps, .ref mqueue, .ref mrow, .int 0, .ref mwanted, .ref mfirst, .ref moften, .int 0, .int 0, .int 0, .int 0, .int 0, .int 0, .ref mlots, .ref mthen, .long 0])), (mhas, .inl (cyI, 20, .inl (fun _ => 0)))]) [4, 5] (by decide) rfl
  have hFc := va_free (wc := [(m0, .inr (11, [.int 0, .ref mwidth, .ref mmany, .ref mcells, .ref mmoved, .ref mtape, .int 0, .int 0, .int 0, .int 0, .int 0, .long 0, .int 0, .int 0, .int 0, .int (-1), .ref mlines, .ref mhas, .ref mtold, .ref mlaw, .ref msuit, .ref mapart, .ref mact, .ref misKept, .ref mseen, .ref mhung, .int 0, .ref mgoal, .ref mleaps, .ref mqueue, .ref mrow, .int 0, .ref mwanted, .ref mfirst, .ref moften, .int 0, .int 0, .int 0, .int 0, .int 0, .int 0, .ref mlots, .ref mthen, .long 0])), (mhas, .inl (cyI, 20, .inl (fun _ => 0)))]) hD hS hA [4, 5] rfl
  refine va_callv (va_runV (As := [.int 1, .int 0]) (rest := []) ⟨hx, hb, hml, hown, hts⟩ (m_tells0 l dC dI cyI cyB cyJ cyZ cyH cyN H.size m0 mwidth mmany mcells mmoved mtape mlines mhas mtold mlaw msuit mapart mact misKept mseen mhung mgoal mleaps mqueue mrow mwanted mfirst moften mlots mthen 0 1 (by decide)) (cwV 2 hts (gdV wd_6_216 wd_6_218 wd_s3_9 wd_1_11 wd_6_219) rfl rfl rfl (by decide +kernel) ⟨Nat.le_of_ble_eq_true rfl, Nat.le_of_ble_eq_true rfl⟩) ⟨fun a U g mk q => by obtain ⟨q0, q1, qP, qK, qD⟩ := q; exact ⟨q0, q1, qP, va_K.moved (u := U) (U := U.calling g mk a) (Vm.Alike.refl U.vm) qK, qD⟩, va_recv hKc hPc (ci := 11) (q0 := 0) rfl rfl, fun U hU hW => ⟨rfl, by rw [hU], by rw [hU]; exact hPc, va_K.moved hW.alike hKc, hDc.weaken (fun _ _ _ _ => trivial)⟩⟩ rfl rfl hl.1 rfl (lv_room (Nat.le_of_ble_eq_true rfl)) dX12_clears_17 ⟨Nat.le_of_ble_eq_true rfl, Nat.le_of_ble_eq_true rfl⟩) hS (fun q _ h => hFc q h) hFc (fun  u t H1 locs ht hvm hw hB hz1 hk1 hS => ?_)
  obtain ⟨hP1, hD1⟩ := hB
  rw [ht] at hP1
  obtain ⟨hP, hD⟩ := va_join (wr := [(mlines, .inl (cyI, 5, .inl (fun _ => 0))), (msuit, .inl (cyI, 245, .inl (fun _ => 0))), (mtold, .inl (cyI, 35, .inl (fun _ => 0))), (mapart, .inl (cyI, 35, .inl (fun _ => 0)))]) (w1 := [(m0, .inr (11, [.int 0, .ref mwidth, .ref mmany, .ref mcells, .ref mmoved, .ref mtape, .int 0, .int 0, .int 0, .int 0, .int 0, .long 0, .int 0, .int 0, .int 0, .int (-1), .ref mlines, .ref mhas, .ref mtold, .ref mlaw, .ref msuit, .ref mapart, .ref mact, .ref misKept, .ref mseen, .ref mhung, .int 0, .ref mgoal, .ref mleaps, .ref mqueue, .ref mrow, .int 0, .ref mwanted, .ref mfirst, .ref moften, .int 0, .int 0, .int 0, .int 0, .int 0, .int 0, .ref mlots, .ref mthen, .long 0])), (mhas, .inl (cyI, 20, .inl (fun _ => 0)))]) hP hD [4, 5] [0, 1, 2, 3] rfl rfl (by decide) (by decide) hk1 hFc hP1 hD1
  generalize H1 = H at hP hS ⊢
  have hP : va_P (dC, dI) vwCl [(mlines, .inl (cyI, 5, .inl (fun _ => 0))), (msuit, .inl (cyI, 245, .inl (fun _ => 0))), (mtold, .inl (cyI, 35, .inl (fun _ => 0))), (mapart, .inl (cyI, 35, .inl (fun _ => 0))), (m0, .inr (11, [.int 0, .ref mwidth, .ref mmany, .ref mcells, .ref mmoved, .ref mtape, .int 0, .int 0, .int 0, .int 0, .int 0, .long 0, .int 0, .int 0, .int 0, .int (-1), .ref mlines, .ref mhas, .ref mtold, .ref mlaw, .ref msuit, .ref mapart, .ref mact, .ref misKept, .ref mseen, .ref mhung, .int 0, .ref mgoal, .ref mleaps, .ref mqueue, .ref mrow, .int 0, .ref mwanted, .ref mfirst, .ref moften, .int 0, .int 0, .int 0, .int 0, .int 0, .int 0, .ref mlots, .ref mthen, .long 0])), (mhas, .inl (cyI, 20, .inl (fun _ => 0)))] H := hP
  have hD : va_D A [(mlines, .inl (cyI, 5, .inl (fun _ => 0))), (msuit, .inl (cyI, 245, .inl (fun _ => 0))), (mtold, .inl (cyI, 35, .inl (fun _ => 0))), (mapart, .inl (cyI, 35, .inl (fun _ => 0))), (m0, .inr (11, [.int 0, .ref mwidth, .ref mmany, .ref mcells, .ref mmoved, .ref mtape, .int 0, .int 0, .int 0, .int 0, .int 0, .long 0, .int 0, .int 0, .int 0, .int (-1), .ref mlines, .ref mhas, .ref mtold, .ref mlaw, .ref msuit, .ref mapart, .ref mact, .ref misKept, .ref mseen, .ref mhung, .int 0, .ref mgoal, .ref mleaps, .ref mqueue, .ref mrow, .int 0, .ref mwanted, .ref mfirst, .ref moften, .int 0, .int 0, .int 0, .int 0, .int 0, .int 0, .ref mlots, .ref mthen, .long 0])), (mhas, .inl (cyI, 20, .inl (fun _ => 0)))] := hD
  refine lv_iinc (v := 2) (lv' := [(1, .int 2), (0, .ref m0)]) hx hb dX12_clears_20 hl (k := 0) rfl (by decide) (by decide) rfl (fun ls hl => ?_)
  refine lv_goto (tgt := 9) hx hb dX12_clears_23 (by decide) ?_
  refine lv_iload_n hx hb dX12_clears_9 rfl (lv_at hl 0 rfl) ?_
  refine lv_iconst (v := 4) hx hb dX12_clears_10 (by decide) ?_
  refine lv_icmp_ge (tgt := 26) hx hb dX12_clears_11 (by decide) (fun c_3 => absurd c_3 (by decide)) (fun _ => ?_)
  refine lv_aload_n hx hb dX12_clears_14 rfl (lv_at hl 1 rfl) ?_
  refine lv_iload_n hx hb dX12_clears_15 rfl (lv_at hl 0 rfl) ?_
  refine lv_iconst (v := 0) hx hb dX12_clears_16 (by decide) ?_
  have hPc := hP.sub (ws' := [(m0, .inr (11, [.int 0, .ref mwidth, .ref mmany, .ref mcells, .ref mmoved, .ref mtape, .int 0, .int 0, .int 0, .int 0, .int 0, .long 0, .int 0, .int 0, .int 0, .int (-1), .ref mlines, .ref mhas, .ref mtold, .ref mlaw, .ref msuit, .ref mapart, .ref mact, .ref misKept, .ref mseen, .ref mhung, .int 0, .ref mgoal, .ref mleaps, .ref mqueue, .ref mrow, .int 0, .ref mwanted, .ref mfirst, .ref moften, .int 0, .int 0, .int 0, .int 0, .int 0, .int 0, .ref mlots, .ref mthen, .long 0])), (mhas, .inl (cyI, 20, .inl (fun _ => 0)))]) [4, 5] rfl
  have hKc := hK.sub (tys' := [(cyI, .int), (cyB, .byte), (cyJ, .long), (cyZ, .boolean), (cyH, .object RX2), (cyN, .array .long)]) [0, 1, 2, 3, 4, 5] rfl
  have hDc := hD.sub (ws' := [(m0, .inr (11, [.int 0, .ref mwidth, .ref mmany, .ref mcells, .ref mmoved, .ref mtape, .int 0, .int 0, .int 0, .int 0, .int 0, .long 0, .int 0, .int 0, .int 0, .int (-1), .ref mlines, .ref mhas, .ref mtold, .ref mlaw, .ref msuit, .ref mapart, .ref mact, .ref misKept, .ref mseen, .ref mhung, .int 0, .ref mgoal, .ref mleaps, .ref mqueue, .ref mrow, .int 0, .ref mwanted, .ref mfirst, .ref moften, .int 0, .int 0, .int 0, .int 0, .int 0, .int 0, .ref mlots, .ref mthen, .long 0])), (mhas, .inl (cyI, 20, .inl (fun _ => 0)))]) [4, 5] (by decide) rfl
  have hFc := va_free (wc := [(m0, .inr (11, [.int 0, .ref mwidth, .ref mmany, .ref mcells, .ref mmoved, .ref mtape, .int 0, .int 0, .int 0, .int 0, .int 0, .long 0, .int 0, .int 0, .int 0, .int (-1), .ref mlines, .ref mhas, .ref mtold, .ref mlaw, .ref msuit, .ref mapart, .ref mact, .ref misKept, .ref mseen, .ref mhung, .int 0, .ref mgoal, .ref mleaps, .ref mqueue, .ref mrow, .int 0, .ref mwanted, .ref mfirst, .ref moften, .int 0, .int 0, .int 0, .int 0, .int 0, .int 0, .ref mlots, .ref mthen, .long 0])), (mhas, .inl (cyI, 20, .inl (fun _ => 0)))]) hD hS hA [4, 5] rfl
  refine va_callv (va_runV (As := [.int 2, .int 0]) (rest := []) ⟨hx, hb, hml, hown, hts⟩ (m_tells0 l dC dI cyI cyB cyJ cyZ cyH cyN H.size m0 mwidth mmany mcells mmoved mtape mlines mhas mtold mlaw msuit mapart mact misKept mseen mhung mgoal mleaps mqueue mrow mwanted mfirst moften mlots mthen 0 2 (by decide)) (cwV 2 hts (gdV wd_6_216 wd_6_218 wd_s3_9 wd_1_11 wd_6_219) rfl rfl rfl (by decide +kernel) ⟨Nat.le_of_ble_eq_true rfl, Nat.le_of_ble_eq_true rfl⟩) ⟨fun a U g mk q => by obtain ⟨q0, q1, qP, qK, qD⟩ := q; exact ⟨q0, q1, qP, va_K.moved (u := U) (U := U.calling g mk a) (Vm.Alike.refl U.vm) qK, qD⟩, va_recv hKc hPc (ci := 11) (q0 := 0) rfl rfl, fun U hU hW => ⟨rfl, by rw [hU], by rw [hU]; exact hPc, va_K.moved hW.alike hKc, hDc.weaken (fun _ _ _ _ => trivial)⟩⟩ rfl rfl hl.1 rfl (lv_room (Nat.le_of_ble_eq_true rfl)) dX12_clears_17 ⟨Nat.le_of_ble_eq_true rfl, Nat.le_of_ble_eq_true rfl⟩) hS (fun q _ h => hFc q h) hFc (fun  u t H1 locs ht hvm hw hB hz1 hk1 hS => ?_)
  obtain ⟨hP1, hD1⟩ := hB
  rw [ht] at hP1
  obtain ⟨hP, hD⟩ := va_join (wr := [(mlines, .inl (cyI, 5, .inl (fun _ => 0))), (msuit, .inl (cyI, 245, .inl (fun _ => 0))), (mtold, .inl (cyI, 35, .inl (fun _ => 0))), (mapart, .inl (cyI, 35, .inl (fun _ => 0)))]) (w1 := [(m0, .inr (11, [.int 0, .ref mwidth, .ref mmany, .ref mcells, .ref mmoved, .ref mtape, .int 0, .int 0, .int 0, .int 0, .int 0, .long 0, .int 0, .int 0, .int 0, .int (-1), .ref mlines, .ref mhas, .ref mtold, .ref mlaw, .ref msuit, .ref mapart, .ref mact, .ref misKept, .ref mseen, .ref mhung, .int 0, .ref mgoal, .ref mleaps, .ref mqueue, .ref mrow, .int 0, .ref mwanted, .ref mfirst, .ref moften, .int 0, .int 0, .int 0, .int 0, .int 0, .int 0, .ref mlots, .ref mthen, .long 0])), (mhas, .inl (cyI, 20, .inl (fun _ => 0)))]) hP hD [4, 5] [0, 1, 2, 3] rfl rfl (by decide) (by decide) hk1 hFc hP1 hD1
  generalize H1 = H at hP hS ⊢
  have hP : va_P (dC, dI) vwCl [(mlines, .inl (cyI, 5, .inl (fun _ => 0))), (msuit, .inl (cyI, 245, .inl (fun _ => 0))), (mtold, .inl (cyI, 35, .inl (fun _ => 0))), (mapart, .inl (cyI, 35, .inl (fun _ => 0))), (m0, .inr (11, [.int 0, .ref mwidth, .ref mmany, .ref mcells, .ref mmoved, .ref mtape, .int 0, .int 0, .int 0, .int 0, .int 0, .long 0, .int 0, .int 0, .int 0, .int (-1), .ref mlines, .ref mhas, .ref mtold, .ref mlaw, .ref msuit, .ref mapart, .ref mact, .ref misKept, .ref mseen, .ref mhung, .int 0, .ref mgoal, .ref mleaps, .ref mqueue, .ref mrow, .int 0, .ref mwanted, .ref mfirst, .ref moften, .int 0, .int 0, .int 0, .int 0, .int 0, .int 0, .ref mlots, .ref mthen, .long 0])), (mhas, .inl (cyI, 20, .inl (fun _ => 0)))] H := hP
  have hD : va_D A [(mlines, .inl (cyI, 5, .inl (fun _ => 0))), (msuit, .inl (cyI, 245, .inl (fun _ => 0))), (mtold, .inl (cyI, 35, .inl (fun _ => 0))), (mapart, .inl (cyI, 35, .inl (fun _ => 0))), (m0, .inr (11, [.int 0, .ref mwidth, .ref mmany, .ref mcells, .ref mmoved, .ref mtape, .int 0, .int 0, .int 0, .int 0, .int 0, .long 0, .int 0, .int 0, .int 0, .int (-1), .ref mlines, .ref mhas, .ref mtold, .ref mlaw, .ref msuit, .ref mapart, .ref mact, .ref misKept, .ref mseen, .ref mhung, .int 0, .ref mgoal, .ref mleaps, .ref mqueue, .ref mrow, .int 0, .ref mwanted, .ref mfirst, .ref moften, .int 0, .int 0, .int 0, .int 0, .int 0, .int 0, .ref mlots, .ref mthen, .long 0])), (mhas, .inl (cyI, 20, .inl (fun _ => 0)))] := hD
  refine lv_iinc (v := 3) (lv' := [(1, .int 3), (0, .ref m0)]) hx hb dX12_clears_20 hl (k := 0) rfl (by decide) (by decide) rfl (fun ls hl => ?_)
  refine lv_goto (tgt := 9) hx hb dX12_clears_23 (by decide) ?_
  refine lv_iload_n hx hb dX12_clears_9 rfl (lv_at hl 0 rfl) ?_
  refine lv_iconst (v := 4) hx hb dX12_clears_10 (by decide) ?_
  refine lv_icmp_ge (tgt := 26) hx hb dX12_clears_11 (by decide) (fun c_4 => absurd c_4 (by decide)) (fun _ => ?_)
  refine lv_aload_n hx hb dX12_clears_14 rfl (lv_at hl 1 rfl) ?_
  refine lv_iload_n hx hb dX12_clears_15 rfl (lv_at hl 0 rfl) ?_
  refine lv_iconst (v := 0) hx hb dX12_clears_16 (by decide) ?_
  have hPc := hP.sub (ws' := [(m0, .inr (11, [.int 0, .ref mwidth, .ref mmany, .ref mcells, .ref mmoved, .ref mtape, .int 0, .int 0, .int 0, .int 0, .int 0, .long 0, .int 0, .int 0, .int 0, .int (-1), .ref mlines, .ref mhas, .ref mtold, .ref mlaw, .ref msuit, .ref mapart, .ref mact, .ref misKept, .ref mseen, .ref mhung, .int 0, .ref mgoal, .ref mleaps, .ref mqueue, .ref mrow, .int 0, .ref mwanted, .ref mfirst, .ref moften, .int 0, .int 0, .int 0, .int 0, .int 0, .int 0, .ref mlots, .ref mthen, .long 0])), (mhas, .inl (cyI, 20, .inl (fun _ => 0)))]) [4, 5] rfl
  have hKc := hK.sub (tys' := [(cyI, .int), (cyB, .byte), (cyJ, .long), (cyZ, .boolean), (cyH, .object RX2), (cyN, .array .long)]) [0, 1, 2, 3, 4, 5] rfl
  have hDc := hD.sub (ws' := [(m0, .inr (11, [.int 0, .ref mwidth, .ref mmany, .ref mcells, .ref mmoved, .ref mtape, .int 0, .int 0, .int 0, .int 0, .int 0, .long 0, .int 0, .int 0, .int 0, .int (-1), .ref mlines, .ref mhas, .ref mtold, .ref mlaw, .ref msuit, .ref mapart, .ref mact, .ref misKept, .ref mseen, .ref mhung, .int 0, .ref mgoal, .ref mleaps, .ref mqueue, .ref mrow, .int 0, .ref mwanted, .ref mfirst, .ref moften, .int 0, .int 0, .int 0, .int 0, .int 0, .int 0, .ref mlots, .ref mthen, .long 0])), (mhas, .inl (cyI, 20, .inl (fun _ => 0)))]) [4, 5] (by decide) rfl
  have hFc := va_free (wc := [(m0, .inr (11, [.int 0, .ref mwidth, .ref mmany, .ref mcells, .ref mmoved, .ref mtape, .int 0, .int 0, .int 0, .int 0, .int 0, .long 0, .int 0, .int 0, .int 0, .int (-1), .ref mlines, .ref mhas, .ref mtold, .ref mlaw, .ref msuit, .ref mapart, .ref mact, .ref misKept, .ref mseen, .ref mhung, .int 0, .ref mgoal, .ref mleaps, .ref mqueue, .ref mrow, .int 0, .ref mwanted, .ref mfirst, .ref moften, .int 0, .int 0, .int 0, .int 0, .int 0, .int 0, .ref mlots, .ref mthen, .long 0])), (mhas, .inl (cyI, 20, .inl (fun _ => 0)))]) hD hS hA [4, 5] rfl
  refine va_callv (va_runV (As := [.int 3, .int 0]) (rest := []) ⟨hx, hb, hml, hown, hts⟩ (m_tells0 l dC dI cyI cyB cyJ cyZ cyH cyN H.size m0 mwidth mmany mcells mmoved mtape mlines mhas mtold mlaw msuit mapart mact misKept mseen mhung mgoal mleaps mqueue mrow mwanted mfirst moften mlots mthen 0 3 (by decide)) (cwV 2 hts (gdV wd_6_216 wd_6_218 wd_s3_9 wd_1_11 wd_6_219) rfl rfl rfl (by decide +kernel) ⟨Nat.le_of_ble_eq_true rfl, Nat.le_of_ble_eq_true rfl⟩) ⟨fun a U g mk q => by obtain ⟨q0, q1, qP, qK, qD⟩ := q; exact ⟨q0, q1, qP, va_K.moved (u := U) (U := U.calling g mk a) (Vm.Alike.refl U.vm) qK, qD⟩, va_recv hKc hPc (ci := 11) (q0 := 0) rfl rfl, fun U hU hW => ⟨rfl, by rw [hU], by rw [hU]; exact hPc, va_K.moved hW.alike hKc, hDc.weaken (fun _ _ _ _ => trivial)⟩⟩ rfl rfl hl.1 rfl (lv_room (Nat.le_of_ble_eq_true rfl)) dX12_clears_17 ⟨Nat.le_of_ble_eq_true rfl, Nat.le_of_ble_eq_true rfl⟩) hS (fun q _ h => hFc q h) hFc (fun  u t H1 locs ht hvm hw hB hz1 hk1 hS => ?_)
  obtain ⟨hP1, hD1⟩ := hB
  rw [ht] at hP1
  obtain ⟨hP, hD⟩ := va_join (wr := [(mlines, .inl (cyI, 5, .inl (fun _ => 0))), (msuit, .inl (cyI, 245, .inl (fun _ => 0))), (mtold, .inl (cyI, 35, .inl (fun _ => 0))), (mapart, .inl (cyI, 35, .inl (fun _ => 0)))]) (w1 := [(m0, .inr (11, [.int 0, .ref mwidth, .ref mmany, .ref mcells, .ref mmoved, .ref mtape, .int 0, .int 0, .int 0, .int 0, .int 0, .long 0, .int 0, .int 0, .int 0, .int (-1), .ref mlines, .ref mhas, .ref mtold, .ref mlaw, .ref msuit, .ref mapart, .ref mact, .ref misKept, .ref mseen, .ref mhung, .int 0, .ref mgoal, .ref mleaps, .ref mqueue, .ref mrow, .int 0, .ref mwanted, .ref mfirst, .ref moften, .int 0, .int 0, .int 0, .int 0, .int 0, .int 0, .ref mlots, .ref mthen, .long 0])), (mhas, .inl (cyI, 20, .inl (fun _ => 0)))]) hP hD [4, 5] [0, 1, 2, 3] rfl rfl (by decide) (by decide) hk1 hFc hP1 hD1
  generalize H1 = H at hP hS ⊢
  have hP : va_P (dC, dI) vwCl [(mlines, .inl (cyI, 5, .inl (fun _ => 0))), (msuit, .inl (cyI, 245, .inl (fun _ => 0))), (mtold, .inl (cyI, 35, .inl (fun _ => 0))), (mapart, .inl (cyI, 35, .inl (fun _ => 0))), (m0, .inr (11, [.int 0, .ref mwidth, .ref mmany, .ref mcells, .ref mmoved, .ref mtape, .int 0, .int 0, .int 0, .int 0, .int 0, .long 0, .int 0, .int 0, .int 0, .int (-1), .ref mlines, .ref mhas, .ref mtold, .ref mlaw, .ref msuit, .ref mapart, .ref mact, .ref misKept, .ref mseen, .ref mhung, .int 0, .ref mgoal, .ref mleaps, .ref mqueue, .ref mrow, .int 0, .ref mwanted, .ref mfirst, .ref moften, .int 0, .int 0, .int 0, .int 0, .int 0, .int 0, .ref mlots, .ref mthen, .long 0])), (mhas, .inl (cyI, 20, .inl (fun _ => 0)))] H := hP
  have hD : va_D A [(mlines, .inl (cyI, 5, .inl (fun _ => 0))), (msuit, .inl (cyI, 245, .inl (fun _ => 0))), (mtold, .inl (cyI, 35, .inl (fun _ => 0))), (mapart, .inl (cyI, 35, .inl (fun _ => 0))), (m0, .inr (11, [.int 0, .ref mwidth, .ref mmany, .ref mcells, .ref mmoved, .ref mtape, .int 0, .int 0, .int 0, .int 0, .int 0, .long 0, .int 0, .int 0, .int 0, .int (-1), .ref mlines, .ref mhas, .ref mtold, .ref mlaw, .ref msuit, .ref mapart, .ref mact, .ref misKept, .ref mseen, .ref mhung, .int 0, .ref mgoal, .ref mleaps, .ref mqueue, .ref mrow, .int 0, .ref mwanted, .ref mfirst, .ref moften, .int 0, .int 0, .int 0, .int 0, .int 0, .int 0, .ref mlots, .ref mthen, .long 0])), (mhas, .inl (cyI, 20, .inl (fun _ => 0)))] := hD
  refine lv_iinc (v := 4) (lv' := [(1, .int 4), (0, .ref m0)]) hx hb dX12_clears_20 hl (k := 0) rfl (by decide) (by decide) rfl (fun ls hl => ?_)
  refine lv_goto (tgt := 9) hx hb dX12_clears_23 (by decide) ?_
  refine lv_iload_n hx hb dX12_clears_9 rfl (lv_at hl 0 rfl) ?_
  refine lv_iconst (v := 4) hx hb dX12_clears_10 (by decide) ?_
  refine lv_icmp_ge (tgt := 26) hx hb dX12_clears_11 (by decide) (fun _ => ?_) (fun c_5 => absurd c_5 (by decide))
  refine lv_iconst (v := 0) hx hb dX12_clears_26 (by decide) ?_
  refine lv_istore_n (lv' := [(1, .int 0), (0, .ref m0)]) hx hb dX12_clears_27 rfl hl (by decide) rfl (fun ls hl => ?_)
  have key : ∀ (Q : State → Prop) (R : Room), (∀ (f_6 : Nat → Int32) (H : Heap) (locs : List Loc) (ls : Array Slot), va_P (dC, dI) vwCl [(mlines, .inl (cyI, 5, .inl (fun _ => 0))), (msuit, .inl (cyI, 245, .inl f_6)), (mtold, .inl (cyI, 35, .inl (fun _ => 0))), (mapart, .inl (cyI, 35, .inl (fun _ => 0))), (m0, .inr (11, [.int 0, .ref mwidth, .ref mmany, .ref mcells, .ref mmoved, .ref mtape, .int 0, .int 0, .int 0, .int 0, .int 0, .long 0, .int 0, .int 0, .int 0, .int (-1), .ref mlines, .ref mhas, .ref mtold, .ref mlaw, .ref msuit, .ref mapart, .ref mact, .ref misKept, .ref mseen, .ref mhung, .int 0, .ref mgoal, .ref mleaps, .ref mqueue, .ref mrow, .int 0, .ref mwanted, .ref mfirst, .ref moften, .int 0, .int 0, .int 0, .int 0, .int 0, .int 0, .ref mlots, .ref mthen, .long 0])), (mhas, .inl (cyI, 20, .inl (fun _ => 0)))] H → va_D A [(mlines, .inl (cyI, 5, .inl (fun _ => 0))), (msuit, .inl (cyI, 245, .inl f_6)), (mtold, .inl (cyI, 35, .inl (fun _ => 0))), (mapart, .inl (cyI, 35, .inl (fun _ => 0))), (m0, .inr (11, [.int 0, .ref mwidth, .ref mmany, .ref mcells, .ref mmoved, .ref mtape, .int 0, .int 0, .int 0, .int 0, .int 0, .long 0, .int 0, .int 0, .int 0, .int (-1), .ref mlines, .ref mhas, .ref mtold, .ref mlaw, .ref msuit, .ref mapart, .ref mact, .ref misKept, .ref mseen, .ref mhung, .int 0, .ref mgoal, .ref mleaps, .ref mqueue, .ref mrow, .int 0, .ref mwanted, .ref mfirst, .ref moften, .int 0, .int 0, .int 0, .int 0, .int 0, .int 0, .ref mlots, .ref mthen, .long 0])), (mhas, .inl (cyI, 20, .inl (fun _ => 0)))] → va_S A s.heap H locs → lv_has ls 2 [(1, .int 49), (0, .ref m0)] → W p l e R s m ([.ref m0] : List Value).toArray below meth c H locs 0 0 Q (F0 m 51 ls [])) → ∀ (n k : Nat) (f_6 : Nat → Int32) (H : Heap) (locs : List Loc) (ls : Array Slot), k + n = 49 → va_P (dC, dI) vwCl [(mlines, .inl (cyI, 5, .inl (fun _ => 0))), (msuit, .inl (cyI, 245, .inl f_6)), (mtold, .inl (cyI, 35, .inl (fun _ => 0))), (mapart, .inl (cyI, 35, .inl (fun _ => 0))), (m0, .inr (11, [.int 0, .ref mwidth, .ref mmany, .ref mcells, .ref mmoved, .ref mtape, .int 0, .int 0, .int 0, .int 0, .int 0, .long 0, .int 0, .int 0, .int 0, .int (-1), .ref mlines, .ref mhas, .ref mtold, .ref mlaw, .ref msuit, .ref mapart, .ref mact, .ref misKept, .ref mseen, .ref mhung, .int 0, .ref mgoal, .ref mleaps, .ref mqueue, .ref mrow, .int 0, .ref mwanted, .ref mfirst, .ref moften, .int 0, .int 0, .int 0, .int 0, .int 0, .int 0, .ref mlots, .ref mthen, .long 0])), (mhas, .inl (cyI, 20, .inl (fun _ => 0)))] H → va_D A [(mlines, .inl (cyI, 5, .inl (fun _ => 0))), (msuit, .inl (cyI, 245, .inl f_6)), (mtold, .inl (cyI, 35, .inl (fun _ => 0))), (mapart, .inl (cyI, 35, .inl (fun _ => 0))), (m0, .inr (11, [.int 0, .ref mwidth, .ref mmany, .ref mcells, .ref mmoved, .ref mtape, .int 0, .int 0, .int 0, .int 0, .int 0, .long 0, .int 0, .int 0, .int 0, .int (-1), .ref mlines, .ref mhas, .ref mtold, .ref mlaw, .ref msuit, .ref mapart, .ref mact, .ref misKept, .ref mseen, .ref mhung, .int 0, .ref mgoal, .ref mleaps, .ref mqueue, .ref mrow, .int 0, .ref mwanted, .ref mfirst, .ref moften, .int 0, .int 0, .int 0, .int 0, .int 0, .int 0, .ref mlots, .ref mthen, .long 0])), (mhas, .inl (cyI, 20, .inl (fun _ => 0)))] → va_S A s.heap H locs → lv_has ls 2 [(1, .int (nI k)), (0, .ref m0)] → W p l e R s m ([.ref m0] : List Value).toArray below meth c H locs 0 0 Q (F0 m 28 ls []) := by
    intro Q R kx n
    induction n with
    | zero =>
      intro k f_6 H locs ls hn hP hD hS hl
      have hkN : k = 49 := by omega
      have hl : lv_has ls 2 [(1, .int 49), (0, .ref m0)] := by rw [hkN] at hl; exact hl
      refine lv_iload_n hx hb dX12_clears_28 rfl (lv_at hl 0 rfl) ?_
      refine lv_bipush (v := 49) hx hb dX12_clears_29 (by decide) ?_
      refine lv_icmp_ge (tgt := 51) hx hb dX12_clears_31 (by decide) (fun _ => ?_) (fun c_7 => absurd c_7 (by decide))
      exact kx f_6 _ _ _ hP hD hS (lv_sub hl [0, 1] rfl)
    | succ n ih =>
      intro k f_6 H locs ls hn hP hD hS hl
      have hk9 : (nI k).toInt = (k : Int) := nI_toInt (by omega)
      refine lv_iload_n hx hb dX12_clears_28 rfl (lv_at hl 0 rfl) ?_
      refine lv_bipush (v := 49) hx hb dX12_clears_29 (by decide) ?_
      refine lv_icmp_ge (tgt := 51) hx hb dX12_clears_31 (by decide) (fun c_8 => absurd (show 49 ≤ (nI k).toInt from cv_le c_8) (by omega)) (fun _ => ?_)
      refine lv_aload_n hx hb dX12_clears_34 rfl (lv_at hl 1 rfl) ?_
      refine va_get (D := (dC, dI)) (ci := 11) (v := .ref msuit) (C := RX12) (T := TX12) (N := 44) hx hb hts uinX12 hown hK hP 4 rfl rfl 20 (by decide) (hts _ wd_6_57) (fun _ h9 => h9) rfl dX12_clears_35 ?_
      refine lv_sipush (v := 196) hx hb dX12_clears_38 (by decide) ?_
      refine lv_iload_n hx hb dX12_clears_41 rfl (lv_at hl 0 rfl) ?_
      refine lv_iadd hx hb dX12_clears_42 ?_
      refine lv_topi (fun x_9 ex_9 => ?_)
      have fx_9 : x_9.toInt = 196 + (nI k).toInt := by rw [ex_9]; exact cv_addI (by have : (196 : Int32).toInt = 196 := rfl; omega) (by have : (196 : Int32).toInt = 196 := rfl; omega)
      refine lv_iconst (v := 0) hx hb dX12_clears_43 (by decide) ?_
      refine va_iast hx hb hK hP hD hS 1 0 rfl rfl (vp_in_iff.mpr (by omega)) dX12_clears_44 (fun H locs hP hD hS => ?_)
      obtain ⟨f_10, ef_10⟩ : ∃ z9 : Nat → Int32, z9 = upd f_6 x_9.toNatClampNeg 0 := ⟨_, rfl⟩
      rw [← ef_10] at hP hD
      have hP : va_P (dC, dI) vwCl [(mlines, .inl (cyI, 5, .inl (fun _ => 0))), (msuit, .inl (cyI, 245, .inl f_10)), (mtold, .inl (cyI, 35, .inl (fun _ => 0))), (mapart, .inl (cyI, 35, .inl (fun _ => 0))), (m0, .inr (11, [.int 0, .ref mwidth, .ref mmany, .ref mcells, .ref mmoved, .ref mtape, .int 0, .int 0, .int 0, .int 0, .int 0, .long 0, .int 0, .int 0, .int 0, .int (-1), .ref mlines, .ref mhas, .ref mtold, .ref mlaw, .ref msuit, .ref mapart, .ref mact, .ref misKept, .ref mseen, .ref mhung, .int 0, .ref mgoal, .ref mleaps, .ref mqueue, .ref mrow, .int 0, .ref mwanted, .ref mfirst, .ref moften, .int 0, .int 0, .int 0, .int 0, .int 0, .int 0, .ref mlots, .ref mthen, .long 0])), (mhas, .inl (cyI, 20, .inl (fun _ => 0)))] H := hP
      have hD : va_D A [(mlines, .inl (cyI, 5, .inl (fun _ => 0))), (msuit, .inl (cyI, 245, .inl f_10)), (mtold, .inl (cyI, 35, .inl (fun _ => 0))), (mapart, .inl (cyI, 35, .inl (fun _ => 0))), (m0, .inr (11, [.int 0, .ref mwidth, .ref mmany, .ref mcells, .ref mmoved, .ref mtape, .int 0, .int 0, .int 0, .int 0, .int 0, .long 0, .int 0, .int 0, .int 0, .int (-1), .ref mlines, .ref mhas, .ref mtold, .ref mlaw, .ref msuit, .ref mapart, .ref mact, .ref misKept, .ref mseen, .ref mhung, .int 0, .ref mgoal, .ref mleaps, .ref mqueue, .ref mrow, .int 0, .ref mwanted, .ref mfirst, .ref moften, .int 0, .int 0, .int 0, .int 0, .int 0, .int 0, .ref mlots, .ref mthen, .long 0])), (mhas, .inl (cyI, 20, .inl (fun _ => 0)))] := hD
      obtain ⟨x_11, ex_11⟩ : ∃ y : Int32, y = (nI k) + 1 := ⟨_, rfl⟩
      refine lv_iinc (v := x_11) (lv' := [(1, .int x_11), (0, .ref m0)]) hx hb dX12_clears_45 hl (k := 0) rfl (by rw [ex_11]; rfl) (by decide) rfl (fun ls hl => ?_)
      refine lv_goto (tgt := 28) hx hb dX12_clears_48 (by decide) ?_
      have hl : lv_has ls 2 [(1, .int (nI (k + 1))), (0, .ref m0)] := by rw [← nI_1, ← ex_11]; exact hl
      exact ih (k + 1) f_10 _ _ _ (by omega) hP hD hS (lv_sub hl [0, 1] rfl)
  refine key _ _ (fun f_12 H locs ls hP hD hS hl => ?_) 49 0 (fun _ => 0) _ _ _ (by omega) hP hD hS hl
  refine lv_iconst (v := 0) hx hb dX12_clears_51 (by decide) ?_
  refine lv_istore_n (lv' := [(1, .int 0), (0, .ref m0)]) hx hb dX12_clears_52 rfl hl (by decide) rfl (fun ls hl => ?_)
  have key : ∀ (Q : State → Prop) (R : Room), (∀ (f_13 : Nat → Int32) (f_14 : Nat → Int32) (H : Heap) (locs : List Loc) (ls : Array Slot), va_P (dC, dI) vwCl [(mlines, .inl (cyI, 5, .inl (fun _ => 0))), (msuit, .inl (cyI, 245, .inl f_12)), (mtold, .inl (cyI, 35, .inl f_13)), (mapart, .inl (cyI, 35, .inl f_14)), (m0, .inr (11, [.int 0, .ref mwidth, .ref mmany, .ref mcells, .ref mmoved, .ref mtape, .int 0, .int 0, .int 0, .int 0, .int 0, .long 0, .int 0, .int 0, .int 0, .int (-1), .ref mlines, .ref mhas, .ref mtold, .ref mlaw, .ref msuit, .ref mapart, .ref mact, .ref misKept, .ref mseen, .ref mhung, .int 0, .ref mgoal, .ref mleaps, .ref mqueue, .ref mrow, .int 0, .ref mwanted, .ref mfirst, .ref moften, .int 0, .int 0, .int 0, .int 0, .int 0, .int 0, .ref mlots, .ref mthen, .long 0])), (mhas, .inl (cyI, 20, .inl (fun _ => 0)))] H → va_D A [(mlines, .inl (cyI, 5, .inl (fun _ => 0))), (msuit, .inl (cyI, 245, .inl f_12)), (mtold, .inl (cyI, 35, .inl f_13)), (mapart, .inl (cyI, 35, .inl f_14)), (m0, .inr (11, [.int 0, .ref mwidth, .ref mmany, .ref mcells, .ref mmoved, .ref mtape, .int 0, .int 0, .int 0, .int 0, .int 0, .long 0, .int 0, .int 0, .int 0, .int (-1), .ref mlines, .ref mhas, .ref mtold, .ref mlaw, .ref msuit, .ref mapart, .ref mact, .ref misKept, .ref mseen, .ref mhung, .int 0, .ref mgoal, .ref mleaps, .ref mqueue, .ref mrow, .int 0, .ref mwanted, .ref mfirst, .ref moften, .int 0, .int 0, .int 0, .int 0, .int 0, .int 0, .ref mlots, .ref mthen, .long 0])), (mhas, .inl (cyI, 20, .inl (fun _ => 0)))] → va_S A s.heap H locs → lv_has ls 2 [(1, .int 7), (0, .ref m0)] → W p l e R s m ([.ref m0] : List Value).toArray below meth c H locs 0 0 Q (F0 m 85 ls [])) → ∀ (n k : Nat) (f_13 : Nat → Int32) (f_14 : Nat → Int32) (H : Heap) (locs : List Loc) (ls : Array Slot), k + n = 7 → va_P (dC, dI) vwCl [(mlines, .inl (cyI, 5, .inl (fun _ => 0))), (msuit, .inl (cyI, 245, .inl f_12)), (mtold, .inl (cyI, 35, .inl f_13)), (mapart, .inl (cyI, 35, .inl f_14)), (m0, .inr (11, [.int 0, .ref mwidth, .ref mmany, .ref mcells, .ref mmoved, .ref mtape, .int 0, .int 0, .int 0, .int 0, .int 0, .long 0, .int 0, .int 0, .int 0, .int (-1), .ref mlines, .ref mhas, .ref mtold, .ref mlaw, .ref msuit, .ref mapart, .ref mact, .ref misKept, .ref mseen, .ref mhung, .int 0, .ref mgoal, .ref mleaps, .ref mqueue, .ref mrow, .int 0, .ref mwanted, .ref mfirst, .ref moften, .int 0, .int 0, .int 0, .int 0, .int 0, .int 0, .ref mlots, .ref mthen, .long 0])), (mhas, .inl (cyI, 20, .inl (fun _ => 0)))] H → va_D A [(mlines, .inl (cyI, 5, .inl (fun _ => 0))), (msuit, .inl (cyI, 245, .inl f_12)), (mtold, .inl (cyI, 35, .inl f_13)), (mapart, .inl (cyI, 35, .inl f_14)), (m0, .inr (11, [.int 0, .ref mwidth, .ref mmany, .ref mcells, .ref mmoved, .ref mtape, .int 0, .int 0, .int 0, .int 0, .int 0, .long 0, .int 0, .int 0, .int 0, .int (-1), .ref mlines, .ref mhas, .ref mtold, .ref mlaw, .ref msuit, .ref mapart, .ref mact, .ref misKept, .ref mseen, .ref mhung, .int 0, .ref mgoal, .ref mleaps, .ref mqueue, .ref mrow, .int 0, .ref mwanted, .ref mfirst, .ref moften, .int 0, .int 0, .int 0, .int 0, .int 0, .int 0, .ref mlots, .ref mthen, .long 0])), (mhas, .inl (cyI, 20, .inl (fun _ => 0)))] → va_S A s.heap H locs → lv_has ls 2 [(1, .int (nI k)), (0, .ref m0)] → W p l e R s m ([.ref m0] : List Value).toArray below meth c H locs 0 0 Q (F0 m 53 ls []) := by
    intro Q R kx n
    induction n with
    | zero =>
      intro k f_13 f_14 H locs ls hn hP hD hS hl
      have hkN : k = 7 := by omega
      have hl : lv_has ls 2 [(1, .int 7), (0, .ref m0)] := by rw [hkN] at hl; exact hl
      refine lv_iload_n hx hb dX12_clears_53 rfl (lv_at hl 0 rfl) ?_
      refine lv_bipush (v := 7) hx hb dX12_clears_54 (by decide) ?_
      refine lv_icmp_ge (tgt := 85) hx hb dX12_clears_56 (by decide) (fun _ => ?_) (fun c_15 => absurd c_15 (by decide))
      exact kx f_13 f_14 _ _ _ hP hD hS (lv_sub hl [0, 1] rfl)
    | succ n ih =>
      intro k f_13 f_14 H locs ls hn hP hD hS hl
      have hk9 : (nI k).toInt = (k : Int) := nI_toInt (by omega)
      refine lv_iload_n hx hb dX12_clears_53 rfl (lv_at hl 0 rfl) ?_
      refine lv_bipush (v := 7) hx hb dX12_clears_54 (by decide) ?_
      refine lv_icmp_ge (tgt := 85) hx hb dX12_clears_56 (by decide) (fun c_16 => absurd (show 7 ≤ (nI k).toInt from cv_le c_16) (by omega)) (fun _ => ?_)
      refine lv_aload_n hx hb dX12_clears_59 rfl (lv_at hl 1 rfl) ?_
      refine va_get (D := (dC, dI)) (ci := 11) (v := .ref mtold) (C := RX12) (T := TX12) (N := 44) hx hb hts uinX12 hown hK hP 4 rfl rfl 18 (by decide) (hts _ wd_6_55) (fun _ h9 => h9) rfl dX12_clears_60 ?_
      refine lv_bipush (v := 28) hx hb dX12_clears_63 (by decide) ?_
      refine lv_iload_n hx hb dX12_clears_65 rfl (lv_at hl 0 rfl) ?_
      refine lv_iadd hx hb dX12_clears_66 ?_
      refine lv_topi (fun x_17 ex_17 => ?_)
      have fx_17 : x_17.toInt = 28 + (nI k).toInt := by rw [ex_17]; exact cv_addI (by have : (28 : Int32).toInt = 28 := rfl; omega) (by have : (28 : Int32).toInt = 28 := rfl; omega)
      refine lv_iload_n hx hb dX12_clears_67 rfl (lv_at hl 0 rfl) ?_
      refine va_iast hx hb hK hP hD hS 2 0 rfl rfl (vp_in_iff.mpr (by omega)) dX12_clears_68 (fun H locs hP hD hS => ?_)
      obtain ⟨f_18, ef_18⟩ : ∃ z9 : Nat → Int32, z9 = upd f_13 x_17.toNatClampNeg (nI k) := ⟨_, rfl⟩
      rw [← ef_18] at hP hD
      have hP : va_P (dC, dI) vwCl [(mlines, .inl (cyI, 5, .inl (fun _ => 0))), (msuit, .inl (cyI, 245, .inl f_12)), (mtold, .inl (cyI, 35, .inl f_18)), (mapart, .inl (cyI, 35, .inl f_14)), (m0, .inr (11, [.int 0, .ref mwidth, .ref mmany, .ref mcells, .ref mmoved, .ref mtape, .int 0, .int 0, .int 0, .int 0, .int 0, .long 0, .int 0, .int 0, .int 0, .int (-1), .ref mlines, .ref mhas, .ref mtold, .ref mlaw, .ref msuit, .ref mapart, .ref mact, .ref misKept, .ref mseen, .ref mhung, .int 0, .ref mgoal, .ref mleaps, .ref mqueue, .ref mrow, .int 0, .ref mwanted, .ref mfirst, .ref moften, .int 0, .int 0, .int 0, .int 0, .int 0, .int 0, .ref mlots, .ref mthen, .long 0])), (mhas, .inl (cyI, 20, .inl (fun _ => 0)))] H := hP
      have hD : va_D A [(mlines, .inl (cyI, 5, .inl (fun _ => 0))), (msuit, .inl (cyI, 245, .inl f_12)), (mtold, .inl (cyI, 35, .inl f_18)), (mapart, .inl (cyI, 35, .inl f_14)), (m0, .inr (11, [.int 0, .ref mwidth, .ref mmany, .ref mcells, .ref mmoved, .ref mtape, .int 0, .int 0, .int 0, .int 0, .int 0, .long 0, .int 0, .int 0, .int 0, .int (-1), .ref mlines, .ref mhas, .ref mtold, .ref mlaw, .ref msuit, .ref mapart, .ref mact, .ref misKept, .ref mseen, .ref mhung, .int 0, .ref mgoal, .ref mleaps, .ref mqueue, .ref mrow, .int 0, .ref mwanted, .ref mfirst, .ref moften, .int 0, .int 0, .int 0, .int 0, .int 0, .int 0, .ref mlots, .ref mthen, .long 0])), (mhas, .inl (cyI, 20, .inl (fun _ => 0)))] := hD
      refine lv_aload_n hx hb dX12_clears_69 rfl (lv_at hl 1 rfl) ?_
      refine va_get (D := (dC, dI)) (ci := 11) (v := .ref mapart) (C := RX12) (T := TX12) (N := 44) hx hb hts uinX12 hown hK hP 4 rfl rfl 21 (by decide) (hts _ wd_6_58) (fun _ h9 => h9) rfl dX12_clears_70 ?_
      refine lv_bipush (v := 28) hx hb dX12_clears_73 (by decide) ?_
      refine lv_iload_n hx hb dX12_clears_75 rfl (lv_at hl 0 rfl) ?_
      refine lv_iadd hx hb dX12_clears_76 ?_
      refine lv_topi (fun x_19 ex_19 => ?_)
      have fx_19 : x_19.toInt = 28 + (nI k).toInt := by rw [ex_19]; exact cv_addI (by have : (28 : Int32).toInt = 28 := rfl; omega) (by have : (28 : Int32).toInt = 28 := rfl; omega)
      refine lv_iconst (v := 0) hx hb dX12_clears_77 (by decide) ?_
      refine va_iast hx hb hK hP hD hS 3 0 rfl rfl (vp_in_iff.mpr (by omega)) dX12_clears_78 (fun H locs hP hD hS => ?_)
      obtain ⟨f_20, ef_20⟩ : ∃ z9 : Nat → Int32, z9 = upd f_14 x_19.toNatClampNeg 0 := ⟨_, rfl⟩
      rw [← ef_20] at hP hD
      have hP : va_P (dC, dI) vwCl [(mlines, .inl (cyI, 5, .inl (fun _ => 0))), (msuit, .inl (cyI, 245, .inl f_12)), (mtold, .inl (cyI, 35, .inl f_18)), (mapart, .inl (cyI, 35, .inl f_20)), (m0, .inr (11, [.int 0, .ref mwidth, .ref mmany, .ref mcells, .ref mmoved, .ref mtape, .int 0, .int 0, .int 0, .int 0, .int 0, .long 0, .int 0, .int 0, .int 0, .int (-1), .ref mlines, .ref mhas, .ref mtold, .ref mlaw, .ref msuit, .ref mapart, .ref mact, .ref misKept, .ref mseen, .ref mhung, .int 0, .ref mgoal, .ref mleaps, .ref mqueue, .ref mrow, .int 0, .ref mwanted, .ref mfirst, .ref moften, .int 0, .int 0, .int 0, .int 0, .int 0, .int 0, .ref mlots, .ref mthen, .long 0])), (mhas, .inl (cyI, 20, .inl (fun _ => 0)))] H := hP
      have hD : va_D A [(mlines, .inl (cyI, 5, .inl (fun _ => 0))), (msuit, .inl (cyI, 245, .inl f_12)), (mtold, .inl (cyI, 35, .inl f_18)), (mapart, .inl (cyI, 35, .inl f_20)), (m0, .inr (11, [.int 0, .ref mwidth, .ref mmany, .ref mcells, .ref mmoved, .ref mtape, .int 0, .int 0, .int 0, .int 0, .int 0, .long 0, .int 0, .int 0, .int 0, .int (-1), .ref mlines, .ref mhas, .ref mtold, .ref mlaw, .ref msuit, .ref mapart, .ref mact, .ref misKept, .ref mseen, .ref mhung, .int 0, .ref mgoal, .ref mleaps, .ref mqueue, .ref mrow, .int 0, .ref mwanted, .ref mfirst, .ref moften, .int 0, .int 0, .int 0, .int 0, .int 0, .int 0, .ref mlots, .ref mthen, .long 0])), (mhas, .inl (cyI, 20, .inl (fun _ => 0)))] := hD
      obtain ⟨x_21, ex_21⟩ : ∃ y : Int32, y = (nI k) + 1 := ⟨_, rfl⟩
      refine lv_iinc (v := x_21) (lv' := [(1, .int x_21), (0, .ref m0)]) hx hb dX12_clears_79 hl (k := 0) rfl (by rw [ex_21]; rfl) (by decide) rfl (fun ls hl => ?_)
      refine lv_goto (tgt := 53) hx hb dX12_clears_82 (by decide) ?_
      have hl : lv_has ls 2 [(1, .int (nI (k + 1))), (0, .ref m0)] := by rw [← nI_1, ← ex_21]; exact hl
      exact ih (k + 1) f_18 f_20 _ _ _ (by omega) hP hD hS (lv_sub hl [0, 1] rfl)
  refine key _ _ (fun f_22 f_23 H locs ls hP hD hS hl => ?_) 7 0 (fun _ => 0) (fun _ => 0) _ _ _ (by omega) hP hD hS hl
  have hP9 := hP.sub (ws' := [(m0, .inr (11, [.int 0, .ref mwidth, .ref mmany, .ref mcells, .ref mmoved, .ref mtape, .int 0, .int 0, .int 0, .int 0, .int 0, .long 0, .int 0, .int 0, .int 0, .int (-1), .ref mlines, .ref mhas, .ref mtold, .ref mlaw, .ref msuit, .ref mapart, .ref mact, .ref misKept, .ref mseen, .ref mhung, .int 0, .ref mgoal, .ref mleaps, .ref mqueue, .ref mrow, .int 0, .ref mwanted, .ref mfirst, .ref moften, .int 0, .int 0, .int 0, .int 0, .int 0, .int 0, .ref mlots, .ref mthen, .long 0])), (mlines, .inl (cyI, 5, .inl (fun _ => 0))), (mhas, .inl (cyI, 20, .inl (fun _ => 0))), (msuit, .inl (cyI, 245, .inl f_12)), (mtold, .inl (cyI, 35, .inl f_22)), (mapart, .inl (cyI, 35, .inl f_23))]) [4, 0, 5, 1, 2, 3] rfl
  have hD9 := hD.sub (ws' := [(m0, .inr (11, [.int 0, .ref mwidth, .ref mmany, .ref mcells, .ref mmoved, .ref mtape, .int 0, .int 0, .int 0, .int 0, .int 0, .long 0, .int 0, .int 0, .int 0, .int (-1), .ref mlines, .ref mhas, .ref mtold, .ref mlaw, .ref msuit, .ref mapart, .ref mact, .ref misKept, .ref mseen, .ref mhung, .int 0, .ref mgoal, .ref mleaps, .ref mqueue, .ref mrow, .int 0, .ref mwanted, .ref mfirst, .ref moften, .int 0, .int 0, .int 0, .int 0, .int 0, .int 0, .ref mlots, .ref mthen, .long 0])), (mlines, .inl (cyI, 5, .inl (fun _ => 0))), (mhas, .inl (cyI, 20, .inl (fun _ => 0))), (msuit, .inl (cyI, 245, .inl f_12)), (mtold, .inl (cyI, 35, .inl f_22)), (mapart, .inl (cyI, 35, .inl f_23))]) [4, 0, 5, 1, 2, 3] (by decide) rfl
  exact W.vret hx hb hr (fun t ht hW => ⟨⟨(), rfl, trivial, ⟨f_12, f_22, f_23, by rw [ht]; exact hP9, hD9⟩⟩, hS.F ht⟩) hS.2.2 dX12_clears_85

/- X12_copyRow -/
set_option maxHeartbeats 4000000 in
set_option maxRecDepth 100000 in
theorem m_copyRow_lines_40 (l : Launch) (dC : Nat → ClassId) (dI : Nat → Nat → Nat) (cyI cyB cyJ cyZ cyH cyN : ClassId) (sz : Nat) (h0 : Nat) : Met l yX12_copyRow (wk yX12_copyRow cX12_copyRow 5 none) ({ frames := 1, cells := 0, slots := 0, locals := 60 }) (va_Pc [.ref h0, .int 1, .int 4, .int 0] (fun U => U.heap.size = sz ∧ va_P (dC, dI) vwCl [(h0, .inl (cyI, 5, .inl (fun _ => 0)))] U.heap ∧ va_K (dC, dI) vwCl [(cyI, .int), (cyB, .byte), (cyJ, .long), (cyZ, .boolean), (cyH, .object RX2), (cyN, .array .long)] U ∧ va_D (fun _ => True) [(h0, .inl (cyI, 5, .inl (fun _ => 0)))])) (va_Qv (fun _ : Unit => True) (fun (_ : Unit) (t : State) => va_P (dC, dI) vwCl [(h0, .inl (cyI, 5, .inl (fun _ => 0)))] t.heap ∧ va_D (va_A [(h0, .inl (cyI, 5, .inl (fun _ => 0)))] sz) [(h0, .inl (cyI, 5, .inl (fun _ => 0)))]) (va_A [(h0, .inl (cyI, 5, .inl (fun _ => 0)))] sz)) 0 0 (va_A [(h0, .inl (cyI, 5, .inl (fun _ => 0)))] sz) := by
  refine Met.ofW (cc := cX12_copyRow) (maxL := 5) (ret := none) (by decide) rfl ?_
  intro p e s m args below meth c s₁ B hml hv
  obtain ⟨rfl, hsz, hP, hK, hD0⟩ := hv
  have hx := B.exec
  have hb := B.bytes
  have hr := B.returns
  have hts : ∀ w ∈ uU, w.before ([.ref h0, .int 1, .int 4, .int 0] : List Value).toArray s = true := fun w h => atoms_spec (ws := wk yX12_copyRow cX12_copyRow 5 none) B.pre w (List.mem_cons_of_mem _ h)
  have hown : s.vm.findClass RX12 = some m.cls := findClass_of_methodNamed B.named
  have hlocks := B.notSynchronized
  subst hsz
  have hD := hD0.self (sz := s.heap.size)
  generalize hAe : va_A [(h0, .inl (cyI, 5, .inl (fun _ => 0)))] s.heap.size = A at hD ⊢
  have hA : ∀ q : Nat, s.heap.size ≤ q → A q := fun q h => by rw [← hAe]; exact Or.inr h
  have hS : va_S A s.heap s.heap [] := va_S.rf
  have hP : va_P (dC, dI) vwCl [(h0, .inl (cyI, 5, .inl (fun _ => 0)))] s.heap := hP
  have hl := lv_entry ([.ref h0, .int 1, .int 4, .int 0]) (n := 5) (Nat.le_of_ble_eq_true rfl)
  rw [lg_entry_eq]
  generalize (lg_sl ([.ref h0, .int 1, .int 4, .int 0]) ++ List.replicate (5 - (lg_sl ([.ref h0, .int 1, .int 4, .int 0])).length) Slot.unset).toArray = ls at hl ⊢
  have hl : lv_has ls 5 [(0, .ref h0), (1, .int 1), (2, .int 4), (3, .int 0)] := hl
  obtain ⟨H, hHe⟩ : ∃ H, H = s.heap := ⟨_, rfl⟩
  have hP : va_P (dC, dI) vwCl [(h0, .inl (cyI, 5, .inl (fun _ => 0)))] H := by rw [hHe]; exact hP
  have hS : va_S A s.heap H [] := by rw [hHe]; exact hS
  refine cv_heap hHe ?_
  refine lv_iconst (v := 0) hx hb dX12_copyRow_0 (by decide) ?_
  refine lv_istore (lv' := [(4, .int 0), (0, .ref h0), (1, .int 1), (2, .int 4), (3, .int 0)]) hx hb dX12_copyRow_1 hl (by decide) rfl (fun ls hl => ?_)
  refine lv_iload hx hb dX12_copyRow_3 (lv_at hl 0 rfl) ?_
  refine lv_iload_n hx hb dX12_copyRow_5 rfl (lv_at hl 2 rfl) ?_
  refine lv_icmp_ge (tgt := 31) hx hb dX12_copyRow_6 (by decide) (fun c_1 => absurd c_1 (by decide)) (fun _ => ?_)
  refine lv_aload_n hx hb dX12_copyRow_9 rfl (lv_at hl 1 rfl) ?_
  refine lv_iload_n hx hb dX12_copyRow_10 rfl (lv_at hl 2 rfl) ?_
  refine lv_iload_n hx hb dX12_copyRow_11 rfl (lv_at hl 4 rfl) ?_
  refine lv_imul hx hb dX12_copyRow_12 ?_
  refine cv_topi (b := 0) (by decide) ?_
  refine lv_iload hx hb dX12_copyRow_13 (lv_at hl 0 rfl) ?_
  refine lv_iadd hx hb dX12_copyRow_15 ?_
  refine cv_topi (b := 0) (by decide) ?_
  refine lv_aload_n hx hb dX12_copyRow_16 rfl (lv_at hl 1 rfl) ?_
  refine lv_iload_n hx hb dX12_copyRow_17 rfl (lv_at hl 2 rfl) ?_
  refine lv_iload_n hx hb dX12_copyRow_18 rfl (lv_at hl 3 rfl) ?_
  refine lv_imul hx hb dX12_copyRow_19 ?_
  refine cv_topi (b := 4) (by decide) ?_
  refine lv_iload hx hb dX12_copyRow_20 (lv_at hl 0 rfl) ?_
  refine lv_iadd hx hb dX12_copyRow_22 ?_
  refine cv_topi (b := 4) (by decide) ?_
  refine va_iald hx hb hK hP 0 0 rfl rfl (vp_in_iff.mpr (by decide)) dX12_copyRow_23 ?_
  refine cv_topi (b := 0) (rfl) ?_
  refine va_iast hx hb hK hP hD hS 0 0 rfl rfl (vp_in_iff.mpr (by decide)) dX12_copyRow_24 (fun H locs hP hD hS => ?_)
  rw [cv_upd0] at hP hD
  have hP : va_P (dC, dI) vwCl [(h0, .inl (cyI, 5, .inl (fun _ => 0)))] H := hP
  have hD : va_D A [(h0, .inl (cyI, 5, .inl (fun _ => 0)))] := hD
  refine lv_iinc (v := 1) (lv' := [(4, .int 1), (0, .ref h0), (1, .int 1), (2, .int 4), (3, .int 0)]) hx hb dX12_copyRow_25 hl (k := 0) rfl (by decide) (by decide) rfl (fun ls hl => ?_)
  refine lv_goto (tgt := 3) hx hb dX12_copyRow_28 (by decide) ?_
  refine lv_iload hx hb dX12_copyRow_3 (lv_at hl 0 rfl) ?_
  refine lv_iload_n hx hb dX12_copyRow_5 rfl (lv_at hl 2 rfl) ?_
  refine lv_icmp_ge (tgt := 31) hx hb dX12_copyRow_6 (by decide) (fun _ => ?_) (fun c_2 => absurd c_2 (by decide))
  have hP9 := hP.sub (ws' := [(h0, .inl (cyI, 5, .inl (fun _ => 0)))]) [0] rfl
  have hD9 := hD.sub (ws' := [(h0, .inl (cyI, 5, .inl (fun _ => 0)))]) [0] (by decide) rfl
  exact W.vret hx hb hr (fun t ht hW => ⟨⟨(), rfl, trivial, ⟨by rw [ht]; exact hP9, hD9⟩⟩, hS.F ht⟩) hS.2.2 dX12_copyRow_31

/- X12_copyRow -/
set_option maxHeartbeats 4000000 in
set_option maxRecDepth 100000 in
theorem m_copyRow_has_40 (l : Launch) (dC : Nat → ClassId) (dI : Nat → Nat → Nat) (cyI cyB cyJ cyZ cyH cyN : ClassId) (sz : Nat) (h0 : Nat) (f : Nat → Int32) : Met l yX12_copyRow (wk yX12_copyRow cX12_copyRow 5 none) ({ frames := 1, cells := 0, slots := 0, locals := 60 }) (va_Pc [.ref h0, .int 4, .int 4, .int 0] (fun U => U.heap.size = sz ∧ va_P (dC, dI) vwCl [(h0, .inl (cyI, 20, .inl f))] U.heap ∧ va_K (dC, dI) vwCl [(cyI, .int), (cyB, .byte), (cyJ, .long), (cyZ, .boolean), (cyH, .object RX2), (cyN, .array .long)] U ∧ va_D (fun _ => True) [(h0, .inl (cyI, 20, .inl f))])) (va_Qv (fun _ : Unit => True) (fun (_ : Unit) (t : State) => ∃ g : Nat → Int32, va_P (dC, dI) vwCl [(h0, .inl (cyI, 20, .inl g))] t.heap ∧ va_D (va_A [(h0, .inl (cyI, 20, .inl f))] sz) [(h0, .inl (cyI, 20, .inl g))]) (va_A [(h0, .inl (cyI, 20, .inl f))] sz)) 0 0 (va_A [(h0, .inl (cyI, 20, .inl f))] sz) := by
  refine Met.ofW (cc := cX12_copyRow) (maxL := 5) (ret := none) (by decide) rfl ?_
  intro p e s m args below meth c s₁ B hml hv
  obtain ⟨rfl, hsz, hP, hK, hD0⟩ := hv
  have hx := B.exec
  have hb := B.bytes
  have hr := B.returns
  have hts : ∀ w ∈ uU, w.before ([.ref h0, .int 4, .int 4, .int 0] : List Value).toArray s = true := fun w h => atoms_spec (ws := wk yX12_copyRow cX12_copyRow 5 none) B.pre w (List.mem_cons_of_mem _ h)
  have hown : s.vm.findClass RX12 = some m.cls := findClass_of_methodNamed B.named
  have hlocks := B.notSynchronized
  subst hsz
  have hD := hD0.self (sz := s.heap.size)
  generalize hAe : va_A [(h0, .inl (cyI, 20, .inl f))] s.heap.size = A at hD ⊢
  have hA : ∀ q : Nat, s.heap.size ≤ q → A q := fun q h => by rw [← hAe]; exact Or.inr h
  have hS : va_S A s.heap s.heap [] := va_S.rf
  have hP : va_P (dC, dI) vwCl [(h0, .inl (cyI, 20, .inl f))] s.heap := hP
  have hl := lv_entry ([.ref h0, .int 4, .int 4, .int 0]) (n := 5) (Nat.le_of_ble_eq_true rfl)
  rw [lg_entry_eq]
  generalize (lg_sl ([.ref h0, .int 4, .int 4, .int 0]) ++ List.replicate (5 - (lg_sl ([.ref h0, .int 4, .int 4, .int 0])).length) Slot.unset).toArray = ls at hl ⊢
  have hl : lv_has ls 5 [(0, .ref h0), (1, .int 4), (2, .int 4), (3, .int 0)] := hl
  obtain ⟨H, hHe⟩ : ∃ H, H = s.heap := ⟨_, rfl⟩
  have hP : va_P (dC, dI) vwCl [(h0, .inl (cyI, 20, .inl f))] H := by rw [hHe]; exact hP
  have hS : va_S A s.heap H [] := by rw [hHe]; exact hS
  refine cv_heap hHe ?_
  refine lv_iconst (v := 0) hx hb dX12_copyRow_0 (by decide) ?_
  refine lv_istore (lv' := [(4, .int 0), (0, .ref h0), (1, .int 4), (2, .int 4), (3, .int 0)]) hx hb dX12_copyRow_1 hl (by decide) rfl (fun ls hl => ?_)
  have key : ∀ (Q : State → Prop) (R : Room), (∀ (f_1 : Nat → Int32) (H : Heap) (locs : List Loc) (ls : Array Slot), va_P (dC, dI) vwCl [(h0, .inl (cyI, 20, .inl f_1))] H → va_D A [(h0, .inl (cyI, 20, .inl f_1))] → va_S A s.heap H locs → lv_has ls 5 [(4, .int 4), (0, .ref h0), (1, .int 4), (2, .int 4), (3, .int 0)] → W p l e R s m ([.ref h0, .int 4, .int 4, .int 0] : List Value).toArray below meth c H locs 0 0 Q (F0 m 31 ls [])) → ∀ (n k : Nat) (f_1 : Nat → Int32) (H : Heap) (locs : List Loc) (ls : Array Slot), k + n = 4 → va_P (dC, dI) vwCl [(h0, .inl (cyI, 20, .inl f_1))] H → va_D A [(h0, .inl (cyI, 20, .inl f_1))] → va_S A s.heap H locs → lv_has ls 5 [(4, .int (nI k)), (0, .ref h0), (1, .int 4), (2, .int 4), (3, .int 0)] → W p l e R s m ([.ref h0, .int 4, .int 4, .int 0] : List Value).toArray below meth c H locs 0 0 Q (F0 m 3 ls []) := by
    intro Q R kx n
    induction n with
    | zero =>
      intro k f_1 H locs ls hn hP hD hS hl
      have hkN : k = 4 := by omega
      have hl : lv_has ls 5 [(4, .int 4), (0, .ref h0), (1, .int 4), (2, .int 4), (3, .int 0)] := by rw [hkN] at hl; exact hl
      refine lv_iload hx hb dX12_copyRow_3 (lv_at hl 0 rfl) ?_
      refine lv_iload_n hx hb dX12_copyRow_5 rfl (lv_at hl 2 rfl) ?_
      refine lv_icmp_ge (tgt := 31) hx hb dX12_copyRow_6 (by decide) (fun _ => ?_) (fun c_2 => absurd c_2 (by decide))
      exact kx f_1 _ _ _ hP hD hS (lv_sub hl [0, 1, 2, 3, 4] rfl)
    | succ n ih =>
      intro k f_1 H locs ls hn hP hD hS hl
      have hk9 : (nI k).toInt = (k : Int) := nI_toInt (by omega)
      refine lv_iload hx hb dX12_copyRow_3 (lv_at hl 0 rfl) ?_
      refine lv_iload_n hx hb dX12_copyRow_5 rfl (lv_at hl 2 rfl) ?_
      refine lv_icmp_ge (tgt := 31) hx hb dX12_copyRow_6 (by decide) (fun c_3 => absurd (show 4 ≤ (nI k).toInt from cv_le c_3) (by omega)) (fun _ => ?_)
      refine lv_aload_n hx hb dX12_copyRow_9 rfl (lv_at hl 1 rfl) ?_
      refine lv_iload_n hx hb dX12_copyRow_10 rfl (lv_at hl 2 rfl) ?_
      refine lv_iload_n hx hb dX12_copyRow_11 rfl (lv_at hl 4 rfl) ?_
      refine lv_imul hx hb dX12_copyRow_12 ?_
      refine cv_topi (b := 0) (by decide) ?_
      refine lv_iload hx hb dX12_copyRow_13 (lv_at hl 0 rfl) ?_
      refine lv_iadd hx hb dX12_copyRow_15 ?_
      refine lv_topi (fun x_4 ex_4 => ?_)
      have fx_4 : x_4.toInt = 0 + (nI k).toInt := by rw [ex_4]; exact cv_addI (by have : (0 : Int32).toInt = 0 := rfl; omega) (by have : (0 : Int32).toInt = 0 := rfl; omega)
      refine lv_aload_n hx hb dX12_copyRow_16 rfl (lv_at hl 1 rfl) ?_
      refine lv_iload_n hx hb dX12_copyRow_17 rfl (lv_at hl 2 rfl) ?_
      refine lv_iload_n hx hb dX12_copyRow_18 rfl (lv_at hl 3 rfl) ?_
      refine lv_imul hx hb dX12_copyRow_19 ?_
      refine cv_topi (b := 16) (by decide) ?_
      refine lv_iload hx hb dX12_copyRow_20 (lv_at hl 0 rfl) ?_
      refine lv_iadd hx hb dX12_copyRow_22 ?_
      refine lv_topi (fun x_5 ex_5 => ?_)
      have fx_5 : x_5.toInt = 16 + (nI k).toInt := by rw [ex_5]; exact cv_addI (by have : (16 : Int32).toInt = 16 := rfl; omega) (by have : (16 : Int32).toInt = 16 := rfl; omega)
      refine va_iald hx hb hK hP 0 0 rfl rfl (vp_in_iff.mpr (by omega)) dX12_copyRow_23 ?_
      refine lv_topi (fun x_6 ex_6 => ?_)
      refine va_iast hx hb hK hP hD hS 0 0 rfl rfl (vp_in_iff.mpr (by omega)) dX12_copyRow_24 (fun H locs hP hD hS => ?_)
      obtain ⟨f_7, ef_7⟩ : ∃ z9 : Nat → Int32, z9 = upd f_1 x_4.toNatClampNeg x_6 := ⟨_, rfl⟩
      rw [← ef_7] at hP hD
      have hP : va_P (dC, dI) vwCl [(h0, .inl (cyI, 20, .inl f_7))] H := hP
      have hD : va_D A [(h0, .inl (cyI, 20, .inl f_7))] := hD
      obtain ⟨x_8, ex_8⟩ : ∃ y : Int32, y = (nI k) + 1 := ⟨_, rfl⟩
      refine lv_iinc (v := x_8) (lv' := [(4, .int x_8), (0, .ref h0), (1, .int 4), (2, .int 4), (3, .int 0)]) hx hb dX12_copyRow_25 hl (k := 0) rfl (by rw [ex_8]; rfl) (by decide) rfl (fun ls hl => ?_)
      refine lv_goto (tgt := 3) hx hb dX12_copyRow_28 (by decide) ?_
      have hl : lv_has ls 5 [(4, .int (nI (k + 1))), (0, .ref h0), (1, .int 4), (2, .int 4), (3, .int 0)] := by rw [← nI_1, ← ex_8]; exact hl
      exact ih (k + 1) f_7 _ _ _ (by omega) hP hD hS (lv_sub hl [0, 1, 2, 3, 4] rfl)
  refine key _ _ (fun f_9 H locs ls hP hD hS hl => ?_) 4 0 f _ _ _ (by omega) hP hD hS hl
  have hP9 := hP.sub (ws' := [(h0, .inl (cyI, 20, .inl f_9))]) [0] rfl
  have hD9 := hD.sub (ws' := [(h0, .inl (cyI, 20, .inl f_9))]) [0] (by decide) rfl
  exact W.vret hx hb hr (fun t ht hW => ⟨⟨(), rfl, trivial, ⟨f_9, by rw [ht]; exact hP9, hD9⟩⟩, hS.F ht⟩) hS.2.2 dX12_copyRow_31

/- X12_copyRow -/
set_option maxHeartbeats 4000000 in
set_option maxRecDepth 100000 in
theorem m_copyRow_told_40 (l : Launch) (dC : Nat → ClassId) (dI : Nat → Nat → Nat) (cyI cyB cyJ cyZ cyH cyN : ClassId) (sz : Nat) (h0 : Nat) (f : Nat → Int32) : Met l yX12_copyRow (wk yX12_copyRow cX12_copyRow 5 none) ({ frames := 1, cells := 0, slots := 0, locals := 60 }) (va_Pc [.ref h0, .int 7, .int 4, .int 0] (fun U => U.heap.size = sz ∧ va_P (dC, dI) vwCl [(h0, .inl (cyI, 35, .inl f))] U.heap ∧ va_K (dC, dI) vwCl [(cyI, .int), (cyB, .byte), (cyJ, .long), (cyZ, .boolean), (cyH, .object RX2), (cyN, .array .long)] U ∧ va_D (fun _ => True) [(h0, .inl (cyI, 35, .inl f))])) (va_Qv (fun _ : Unit => True) (fun (_ : Unit) (t : State) => ∃ g : Nat → Int32, va_P (dC, dI) vwCl [(h0, .inl (cyI, 35, .inl g))] t.heap ∧ va_D (va_A [(h0, .inl (cyI, 35, .inl f))] sz) [(h0, .inl (cyI, 35, .inl g))]) (va_A [(h0, .inl (cyI, 35, .inl f))] sz)) 0 0 (va_A [(h0, .inl (cyI, 35, .inl f))] sz) := by
  refine Met.ofW (cc := cX12_copyRow) (maxL := 5) (ret := none) (by decide) rfl ?_
  intro p e s m args below meth c s₁ B hml hv
  obtain ⟨rfl, hsz, hP, hK, hD0⟩ := hv
  have hx := B.exec
  have hb := B.bytes
  have hr := B.returns
  have hts : ∀ w ∈ uU, w.before ([.ref h0, .int 7, .int 4, .int 0] : List Value).toArray s = true := fun w h => atoms_spec (ws := wk yX12_copyRow cX12_copyRow 5 none) B.pre w (List.mem_cons_of_mem _ h)
  have hown : s.vm.findClass RX12 = some m.cls := findClass_of_methodNamed B.named
  have hlocks := B.notSynchronized
  subst hsz
  have hD := hD0.self (sz := s.heap.size)
  generalize hAe : va_A [(h0, .inl (cyI, 35, .inl f))] s.heap.size = A at hD ⊢
  have hA : ∀ q : Nat, s.heap.size ≤ q → A q := fun q h => by rw [← hAe]; exact Or.inr h
  have hS : va_S A s.heap s.heap [] := va_S.rf
  have hP : va_P (dC, dI) vwCl [(h0, .inl (cyI, 35, .inl f))] s.heap := hP
  have hl := lv_entry ([.ref h0, .int 7, .int 4, .int 0]) (n := 5) (Nat.le_of_ble_eq_true rfl)
  rw [lg_entry_eq]
  generalize (lg_sl ([.ref h0, .int 7, .int 4, .int 0]) ++ List.replicate (5 - (lg_sl ([.ref h0, .int 7, .int 4, .int 0])).length) Slot.unset).toArray = ls at hl ⊢
  have hl : lv_has ls 5 [(0, .ref h0), (1, .int 7), (2, .int 4), (3, .int 0)] := hl
  obtain ⟨H, hHe⟩ : ∃ H, H = s.heap := ⟨_, rfl⟩
  have hP : va_P (dC, dI) vwCl [(h0, .inl (cyI, 35, .inl f))] H := by rw [hHe]; exact hP
  have hS : va_S A s.heap H [] := by rw [hHe]; exact hS
  refine cv_heap hHe ?_
  refine lv_iconst (v := 0) hx hb dX12_copyRow_0 (by decide) ?_
  refine lv_istore (lv' := [(4, .int 0), (0, .ref h0), (1, .int 7), (2, .int 4), (3, .int 0)]) hx hb dX12_copyRow_1 hl (by decide) rfl (fun ls hl => ?_)
  have key : ∀ (Q : State → Prop) (R : Room), (∀ (f_1 : Nat → Int32) (H : Heap) (locs : List Loc) (ls : Array Slot), va_P (dC, dI) vwCl [(h0, .inl (cyI, 35, .inl f_1))] H → va_D A [(h0, .inl (cyI, 35, .inl f_1))] → va_S A s.heap H locs → lv_has ls 5 [(4, .int 7), (0, .ref h0), (1, .int 7), (2, .int 4), (3, .int 0)] → W p l e R s m ([.ref h0, .int 7, .int 4, .int 0] : List Value).toArray below meth c H locs 0 0 Q (F0 m 31 ls [])) → ∀ (n k : Nat) (f_1 : Nat → Int32) (H : Heap) (locs : List Loc) (ls : Array Slot), k + n = 7 → va_P (dC, dI) vwCl [(h0, .inl (cyI, 35, .inl f_1))] H → va_D A [(h0, .inl (cyI, 35, .inl f_1))] → va_S A s.heap H locs → lv_has ls 5 [(4, .int (nI k)), (0, .ref h0), (1, .int 7), (2, .int 4), (3, .int 0)] → W p l e R s m ([.ref h0, .int 7, .int 4, .int 0] : List Value).toArray below meth c H locs 0 0 Q (F0 m 3 ls []) := by
    intro Q R kx n
    induction n with
    | zero =>
      intro k f_1 H locs ls hn hP hD hS hl
      have hkN : k = 7 := by omega
      have hl : lv_has ls 5 [(4, .int 7), (0, .ref h0), (1, .int 7), (2, .int 4), (3, .int 0)] := by rw [hkN] at hl; exact hl
      refine lv_iload hx hb dX12_copyRow_3 (lv_at hl 0 rfl) ?_
      refine lv_iload_n hx hb dX12_copyRow_5 rfl (lv_at hl 2 rfl) ?_
      refine lv_icmp_ge (tgt := 31) hx hb dX12_copyRow_6 (by decide) (fun _ => ?_) (fun c_2 => absurd c_2 (by decide))
      exact kx f_1 _ _ _ hP hD hS (lv_sub hl [0, 1, 2, 3, 4] rfl)
    | succ n ih =>
      intro k f_1 H locs ls hn hP hD hS hl
      have hk9 : (nI k).toInt = (k : Int) := nI_toInt (by omega)
      refine lv_iload hx hb dX12_copyRow_3 (lv_at hl 0 rfl) ?_
      refine lv_iload_n hx hb dX12_copyRow_5 rfl (lv_at hl 2 rfl) ?_
      refine lv_icmp_ge (tgt := 31) hx hb dX12_copyRow_6 (by decide) (fun c_3 => absurd (show 7 ≤ (nI k).toInt from cv_le c_3) (by omega)) (fun _ => ?_)
      refine lv_aload_n hx hb dX12_copyRow_9 rfl (lv_at hl 1 rfl) ?_
      refine lv_iload_n hx hb dX12_copyRow_10 rfl (lv_at hl 2 rfl) ?_
      refine lv_iload_n hx hb dX12_copyRow_11 rfl (lv_at hl 4 rfl) ?_
      refine lv_imul hx hb dX12_copyRow_12 ?_
      refine cv_topi (b := 0) (by decide) ?_
      refine lv_iload hx hb dX12_copyRow_13 (lv_at hl 0 rfl) ?_
      refine lv_iadd hx hb dX12_copyRow_15 ?_
      refine lv_topi (fun x_4 ex_4 => ?_)
      have fx_4 : x_4.toInt = 0 + (nI k).toInt := by rw [ex_4]; exact cv_addI (by have : (0 : Int32).toInt = 0 := rfl; omega) (by have : (0 : Int32).toInt = 0 := rfl; omega)
      refine lv_aload_n hx hb dX12_copyRow_16 rfl (lv_at hl 1 rfl) ?_
      refine lv_iload_n hx hb dX12_copyRow_17 rfl (lv_at hl 2 rfl) ?_
      refine lv_iload_n hx hb dX12_copyRow_18 rfl (lv_at hl 3 rfl) ?_
      refine lv_imul hx hb dX12_copyRow_19 ?_
      refine cv_topi (b := 28) (by decide) ?_
      refine lv_iload hx hb dX12_copyRow_20 (lv_at hl 0 rfl) ?_
      refine lv_iadd hx hb dX12_copyRow_22 ?_
      refine lv_topi (fun x_5 ex_5 => ?_)
      have fx_5 : x_5.toInt = 28 + (nI k).toInt := by rw [ex_5]; exact cv_addI (by have : (28 : Int32).toInt = 28 := rfl; omega) (by have : (28 : Int32).toInt = 28 := rfl; omega)
      refine va_iald hx hb hK hP 0 0 rfl rfl (vp_in_iff.mpr (by omega)) dX12_copyRow_23 ?_
      refine lv_topi (fun x_6 ex_6 => ?_)
      refine va_iast hx hb hK hP hD hS 0 0 rfl rfl (vp_in_iff.mpr (by omega)) dX12_copyRow_24 (fun H locs hP hD hS => ?_)
      obtain ⟨f_7, ef_7⟩ : ∃ z9 : Nat → Int32, z9 = upd f_1 x_4.toNatClampNeg x_6 := ⟨_, rfl⟩
      rw [← ef_7] at hP hD
      have hP : va_P (dC, dI) vwCl [(h0, .inl (cyI, 35, .inl f_7))] H := hP
      have hD : va_D A [(h0, .inl (cyI, 35, .inl f_7))] := hD
      obtain ⟨x_8, ex_8⟩ : ∃ y : Int32, y = (nI k) + 1 := ⟨_, rfl⟩
      refine lv_iinc (v := x_8) (lv' := [(4, .int x_8), (0, .ref h0), (1, .int 7), (2, .int 4), (3, .int 0)]) hx hb dX12_copyRow_25 hl (k := 0) rfl (by rw [ex_8]; rfl) (by decide) rfl (fun ls hl => ?_)
      refine lv_goto (tgt := 3) hx hb dX12_copyRow_28 (by decide) ?_
      have hl : lv_has ls 5 [(4, .int (nI (k + 1))), (0, .ref h0), (1, .int 7), (2, .int 4), (3, .int 0)] := by rw [← nI_1, ← ex_8]; exact hl
      exact ih (k + 1) f_7 _ _ _ (by omega) hP hD hS (lv_sub hl [0, 1, 2, 3, 4] rfl)
  refine key _ _ (fun f_9 H locs ls hP hD hS hl => ?_) 7 0 f _ _ _ (by omega) hP hD hS hl
  have hP9 := hP.sub (ws' := [(h0, .inl (cyI, 35, .inl f_9))]) [0] rfl
  have hD9 := hD.sub (ws' := [(h0, .inl (cyI, 35, .inl f_9))]) [0] (by decide) rfl
  exact W.vret hx hb hr (fun t ht hW => ⟨⟨(), rfl, trivial, ⟨f_9, by rw [ht]; exact hP9, hD9⟩⟩, hS.F ht⟩) hS.2.2 dX12_copyRow_31

/- X12_copyRow -/
set_option maxHeartbeats 4000000 in
set_option maxRecDepth 100000 in
theorem m_copyRow_law_40 (l : Launch) (dC : Nat → ClassId) (dI : Nat → Nat → Nat) (cyI cyB cyJ cyZ cyH cyN : ClassId) (sz : Nat) (h0 : Nat) (f : Nat → Int32) : Met l yX12_copyRow (wk yX12_copyRow cX12_copyRow 5 none) ({ frames := 1, cells := 0, slots := 0, locals := 60 }) (va_Pc [.ref h0, .int 24, .int 4, .int 0] (fun U => U.heap.size = sz ∧ va_P (dC, dI) vwCl [(h0, .inl (cyI, 120, .inl f))] U.heap ∧ va_K (dC, dI) vwCl [(cyI, .int), (cyB, .byte), (cyJ, .long), (cyZ, .boolean), (cyH, .object RX2), (cyN, .array .long)] U ∧ va_D (fun _ => True) [(h0, .inl (cyI, 120, .inl f))])) (va_Qv (fun _ : Unit => True) (fun (_ : Unit) (t : State) => ∃ g : Nat → Int32, va_P (dC, dI) vwCl [(h0, .inl (cyI, 120, .inl g))] t.heap ∧ va_D (va_A [(h0, .inl (cyI, 120, .inl f))] sz) [(h0, .inl (cyI, 120, .inl g))]) (va_A [(h0, .inl (cyI, 120, .inl f))] sz)) 0 0 (va_A [(h0, .inl (cyI, 120, .inl f))] sz) := by
  refine Met.ofW (cc := cX12_copyRow) (maxL := 5) (ret := none) (by decide) rfl ?_
  intro p e s m args below meth c s₁ B hml hv
  obtain ⟨rfl, hsz, hP, hK, hD0⟩ := hv
  have hx := B.exec
  have hb := B.bytes
  have hr := B.returns
  have hts : ∀ w ∈ uU, w.before ([.ref h0, .int 24, .int 4, .int 0] : List Value).toArray s = true := fun w h => atoms_spec (ws := wk yX12_copyRow cX12_copyRow 5 none) B.pre w (List.mem_cons_of_mem _ h)
  have hown : s.vm.findClass RX12 = some m.cls := findClass_of_methodNamed B.named
  have hlocks := B.notSynchronized
  subst hsz
  have hD := hD0.self (sz := s.heap.size)
  generalize hAe : va_A [(h0, .inl (cyI, 120, .inl f))] s.heap.size = A at hD ⊢
  have hA : ∀ q : Nat, s.heap.size ≤ q → A q := fun q h => by rw [← hAe]; exact Or.inr h
  have hS : va_S A s.heap s.heap [] := va_S.rf
  have hP : va_P (dC, dI) vwCl [(h0, .inl (cyI, 120, .inl f))] s.heap := hP
  have hl := lv_entry ([.ref h0, .int 24, .int 4, .int 0]) (n := 5) (Nat.le_of_ble_eq_true rfl)
  rw [lg_entry_eq]
  generalize (lg_sl ([.ref h0, .int 24, .int 4, .int 0]) ++ List.replicate (5 - (lg_sl ([.ref h0, .int 24, .int 4, .int 0])).length) Slot.unset).toArray = ls at hl ⊢
  have hl : lv_has ls 5 [(0, .ref h0), (1, .int 24), (2, .int 4), (3, .int 0)] := hl
  obtain ⟨H, hHe⟩ : ∃ H, H = s.heap := ⟨_, rfl⟩
  have hP : va_P (dC, dI) vwCl [(h0, .inl (cyI, 120, .inl f))] H := by rw [hHe]; exact hP
  have hS : va_S A s.heap H [] := by rw [hHe]; exact hS
  refine cv_heap hHe ?_
  refine lv_iconst (v := 0) hx hb dX12_copyRow_0 (by decide) ?_
  refine lv_istore (lv' := [(4, .int 0), (0, .ref h0), (1, .int 24), (2, .int 4), (3, .int 0)]) hx hb dX12_copyRow_1 hl (by decide) rfl (fun ls hl => ?_)
  have key : ∀ (Q : State → Prop) (R : Room), (∀ (f_1 : Nat → Int32) (H : Heap) (locs : List Loc) (ls : Array Slot), va_P (dC, dI) vwCl [(h0, .inl (cyI, 120, .inl f_1))] H → va_D A [(h0, .inl (cyI, 120, .inl f_1))] → va_S A s.heap H locs → lv_has ls 5 [(4, .int 24), (0, .ref h0), (1, .int 24), (2, .int 4), (3, .int 0)] → W p l e R s m ([.ref h0, .int 24, .int 4, .int 0] : List Value).toArray below meth c H locs 0 0 Q (F0 m 31 ls [])) → ∀ (n k : Nat) (f_1 : Nat → Int32) (H : Heap) (locs : List Loc) (ls : Array Slot), k + n = 24 → va_P (dC, dI) vwCl [(h0, .inl (cyI, 120, .inl f_1))] H → va_D A [(h0, .inl (cyI, 120, .inl f_1))] → va_S A s.heap H locs → lv_has ls 5 [(4, .int (nI k)), (0, .ref h0), (1, .int 24), (2, .int 4), (3, .int 0)] → W p l e R s m ([.ref h0, .int 24, .int 4, .int 0] : List Value).toArray below meth c H locs 0 0 Q (F0 m 3 ls []) := by
    intro Q R kx n
    induction n with
    | zero =>
      intro k f_1 H locs ls hn hP hD hS hl
      have hkN : k = 24 := by omega
      have hl : lv_has ls 5 [(4, .int 24), (0, .ref h0), (1, .int 24), (2, .int 4), (3, .int 0)] := by rw [hkN] at hl; exact hl
      refine lv_iload hx hb dX12_copyRow_3 (lv_at hl 0 rfl) ?_
      refine lv_iload_n hx hb dX12_copyRow_5 rfl (lv_at hl 2 rfl) ?_
      refine lv_icmp_ge (tgt := 31) hx hb dX12_copyRow_6 (by decide) (fun _ => ?_) (fun c_2 => absurd c_2 (by decide))
      exact kx f_1 _ _ _ hP hD hS (lv_sub hl [0, 1, 2, 3, 4] rfl)
    | succ n ih =>
      intro k f_1 H locs ls hn hP hD hS hl
      have hk9 : (nI k).toInt = (k : Int) := nI_toInt (by omega)
      refine lv_iload hx hb dX12_copyRow_3 (lv_at hl 0 rfl) ?_
      refine lv_iload_n hx hb dX12_copyRow_5 rfl (lv_at hl 2 rfl) ?_
      refine lv_icmp_ge (tgt := 31) hx hb dX12_copyRow_6 (by decide) (fun c_3 => absurd (show 24 ≤ (nI k).toInt from cv_le c_3) (by omega)) (fun _ => ?_)
      refine lv_aload_n hx hb dX12_copyRow_9 rfl (lv_at hl 1 rfl) ?_
      refine lv_iload_n hx hb dX12_copyRow_10 rfl (lv_at hl 2 rfl) ?_
      refine lv_iload_n hx hb dX12_copyRow_11 rfl (lv_at hl 4 rfl) ?_
      refine lv_imul hx hb dX12_copyRow_12 ?_
      refine cv_topi (b := 0) (by decide) ?_
      refine lv_iload hx hb dX12_copyRow_13 (lv_at hl 0 rfl) ?_
      refine lv_iadd hx hb dX12_copyRow_15 ?_
      refine lv_topi (fun x_4 ex_4 => ?_)
      have fx_4 : x_4.toInt = 0 + (nI k).toInt := by rw [ex_4]; exact cv_addI (by have : (0 : Int32).toInt = 0 := rfl; omega) (by have : (0 : Int32).toInt = 0 := rfl; omega)
      refine lv_aload_n hx hb dX12_copyRow_16 rfl (lv_at hl 1 rfl) ?_
      refine lv_iload_n hx hb dX12_copyRow_17 rfl (lv_at hl 2 rfl) ?_
      refine lv_iload_n hx hb dX12_copyRow_18 rfl (lv_at hl 3 rfl) ?_
      refine lv_imul hx hb dX12_copyRow_19 ?_
      refine cv_topi (b := 96) (by decide) ?_
      refine lv_iload hx hb dX12_copyRow_20 (lv_at hl 0 rfl) ?_
      refine lv_iadd hx hb dX12_copyRow_22 ?_
      refine lv_topi (fun x_5 ex_5 => ?_)
      have fx_5 : x_5.toInt = 96 + (nI k).toInt := by rw [ex_5]; exact cv_addI (by have : (96 : Int32).toInt = 96 := rfl; omega) (by have : (96 : Int32).toInt = 96 := rfl; omega)
      refine va_iald hx hb hK hP 0 0 rfl rfl (vp_in_iff.mpr (by omega)) dX12_copyRow_23 ?_
      refine lv_topi (fun x_6 ex_6 => ?_)
      refine va_iast hx hb hK hP hD hS 0 0 rfl rfl (vp_in_iff.mpr (by omega)) dX12_copyRow_24 (fun H locs hP hD hS => ?_)
      obtain ⟨f_7, ef_7⟩ : ∃ z9 : Nat → Int32, z9 = upd f_1 x_4.toNatClampNeg x_6 := ⟨_, rfl⟩
      rw [← ef_7] at hP hD
      have hP : va_P (dC, dI) vwCl [(h0, .inl (cyI, 120, .inl f_7))] H := hP
      have hD : va_D A [(h0, .inl (cyI, 120, .inl f_7))] := hD
      obtain ⟨x_8, ex_8⟩ : ∃ y : Int32, y = (nI k) + 1 := ⟨_, rfl⟩
      refine lv_iinc (v := x_8) (lv' := [(4, .int x_8), (0, .ref h0), (1, .int 24), (2, .int 4), (3, .int 0)]) hx hb dX12_copyRow_25 hl (k := 0) rfl (by rw [ex_8]; rfl) (by decide) rfl (fun ls hl => ?_)
      refine lv_goto (tgt := 3) hx hb dX12_copyRow_28 (by decide) ?_
      have hl : lv_has ls 5 [(4, .int (nI (k + 1))), (0, .ref h0), (1, .int 24), (2, .int 4), (3, .int 0)] := by rw [← nI_1, ← ex_8]; exact hl
      exact ih (k + 1) f_7 _ _ _ (by omega) hP hD hS (lv_sub hl [0, 1, 2, 3, 4] rfl)
  refine key _ _ (fun f_9 H locs ls hP hD hS hl => ?_) 24 0 f _ _ _ (by omega) hP hD hS hl
  have hP9 := hP.sub (ws' := [(h0, .inl (cyI, 120, .inl f_9))]) [0] rfl
  have hD9 := hD.sub (ws' := [(h0, .inl (cyI, 120, .inl f_9))]) [0] (by decide) rfl
  exact W.vret hx hb hr (fun t ht hW => ⟨⟨(), rfl, trivial, ⟨f_9, by rw [ht]; exact hP9, hD9⟩⟩, hS.F ht⟩) hS.2.2 dX12_copyRow_31

/- X12_copyRow -/
set_option maxHeartbeats 4000000 in
set_option maxRecDepth 100000 in
theorem m_copyRow_suit_40 (l : Launch) (dC : Nat → ClassId) (dI : Nat → Nat → Nat) (cyI cyB cyJ cyZ cyH cyN : ClassId) (sz : Nat) (h0 : Nat) (f : Nat → Int32) : Met l yX12_copyRow (wk yX12_copyRow cX12_copyRow 5 none) ({ frames := 1, cells := 0, slots := 0, locals := 60 }) (va_Pc [.ref h0, .int 49, .int 4, .int 0] (fun U => U.heap.size = sz ∧ va_P (dC, dI) vwCl [(h0, .inl (cyI, 245, .inl f))] U.heap ∧ va_K (dC, dI) vwCl [(cyI, .int), (cyB, .byte), (cyJ, .long), (cyZ, .boolean), (cyH, .object RX2), (cyN, .array .long)] U ∧ va_D (fun _ => True) [(h0, .inl (cyI, 245, .inl f))])) (va_Qv (fun _ : Unit => True) (fun (_ : Unit) (t : State) => ∃ g : Nat → Int32, va_P (dC, dI) vwCl [(h0, .inl (cyI, 245, .inl g))] t.heap ∧ va_D (va_A [(h0, .inl (cyI, 245, .inl f))] sz) [(h0, .inl (cyI, 245, .inl g))]) (va_A [(h0, .inl (cyI, 245, .inl f))] sz)) 0 0 (va_A [(h0, .inl (cyI, 245, .inl f))] sz) := by
  refine Met.ofW (cc := cX12_copyRow) (maxL := 5) (ret := none) (by decide) rfl ?_
  intro p e s m args below meth c s₁ B hml hv
  obtain ⟨rfl, hsz, hP, hK, hD0⟩ := hv
  have hx := B.exec
  have hb := B.bytes
  have hr := B.returns
  have hts : ∀ w ∈ uU, w.before ([.ref h0, .int 49, .int 4, .int 0] : List Value).toArray s = true := fun w h => atoms_spec (ws := wk yX12_copyRow cX12_copyRow 5 none) B.pre w (List.mem_cons_of_mem _ h)
  have hown : s.vm.findClass RX12 = some m.cls := findClass_of_methodNamed B.named
  have hlocks := B.notSynchronized
  subst hsz
  have hD := hD0.self (sz := s.heap.size)
  generalize hAe : va_A [(h0, .inl (cyI, 245, .inl f))] s.heap.size = A at hD ⊢
  have hA : ∀ q : Nat, s.heap.size ≤ q → A q := fun q h => by rw [← hAe]; exact Or.inr h
  have hS : va_S A s.heap s.heap [] := va_S.rf
  have hP : va_P (dC, dI) vwCl [(h0, .inl (cyI, 245, .inl f))] s.heap := hP
  have hl := lv_entry ([.ref h0, .int 49, .int 4, .int 0]) (n := 5) (Nat.le_of_ble_eq_true rfl)
  rw [lg_entry_eq]
  generalize (lg_sl ([.ref h0, .int 49, .int 4, .int 0]) ++ List.replicate (5 - (lg_sl ([.ref h0, .int 49, .int 4, .int 0])).length) Slot.unset).toArray = ls at hl ⊢
  have hl : lv_has ls 5 [(0, .ref h0), (1, .int 49), (2, .int 4), (3, .int 0)] := hl
  obtain ⟨H, hHe⟩ : ∃ H, H = s.heap := ⟨_, rfl⟩
  have hP : va_P (dC, dI) vwCl [(h0, .inl (cyI, 245, .inl f))] H := by rw [hHe]; exact hP
  have hS : va_S A s.heap H [] := by rw [hHe]; exact hS
  refine cv_heap hHe ?_
  refine lv_iconst (v := 0) hx hb dX12_copyRow_0 (by decide) ?_
  refine lv_istore (lv' := [(4, .int 0), (0, .ref h0), (1, .int 49), (2, .int 4), (3, .int 0)]) hx hb dX12_copyRow_1 hl (by decide) rfl (fun ls hl => ?_)
  have key : ∀ (Q : State → Prop) (R : Room), (∀ (f_1 : Nat → Int32) (H : Heap) (locs : List Loc) (ls : Array Slot), va_P (dC, dI) vwCl [(h0, .inl (cyI, 245, .inl f_1))] H → va_D A [(h0, .inl (cyI, 245, .inl f_1))] → va_S A s.heap H locs → lv_has ls 5 [(4, .int 49), (0, .ref h0), (1, .int 49), (2, .int 4), (3, .int 0)] → W p l e R s m ([.ref h0, .int 49, .int 4, .int 0] : List Value).toArray below meth c H locs 0 0 Q (F0 m 31 ls [])) → ∀ (n k : Nat) (f_1 : Nat → Int32) (H : Heap) (locs : List Loc) (ls : Array Slot), k + n = 49 → va_P (dC, dI) vwCl [(h0, .inl (cyI, 245, .inl f_1))] H → va_D A [(h0, .inl (cyI, 245, .inl f_1))] → va_S A s.heap H locs → lv_has ls 5 [(4, .int (nI k)), (0, .ref h0), (1, .int 49), (2, .int 4), (3, .int 0)] → W p l e R s m ([.ref h0, .int 49, .int 4, .int 0] : List Value).toArray below meth c H locs 0 0 Q (F0 m 3 ls []) := by
    intro Q R kx n
    induction n with
    | zero =>
      intro k f_1 H locs ls hn hP hD hS hl
      have hkN : k = 49 := by omega
      have hl : lv_has ls 5 [(4, .int 49), (0, .ref h0), (1, .int 49), (2, .int 4), (3, .int 0)] := by rw [hkN] at hl; exact hl
      refine lv_iload hx hb dX12_copyRow_3 (lv_at hl 0 rfl) ?_
      refine lv_iload_n hx hb dX12_copyRow_5 rfl (lv_at hl 2 rfl) ?_
      refine lv_icmp_ge (tgt := 31) hx hb dX12_copyRow_6 (by decide) (fun _ => ?_) (fun c_2 => absurd c_2 (by decide))
      exact kx f_1 _ _ _ hP hD hS (lv_sub hl [0, 1, 2, 3, 4] rfl)
    | succ n ih =>
      intro k f_1 H locs ls hn hP hD hS hl
      have hk9 : (nI k).toInt = (k : Int) := nI_toInt (by omega)
      refine lv_iload hx hb dX12_copyRow_3 (lv_at hl 0 rfl) ?_
      refine lv_iload_n hx hb dX12_copyRow_5 rfl (lv_at hl 2 rfl) ?_
      refine lv_icmp_ge (tgt := 31) hx hb dX12_copyRow_6 (by decide) (fun c_3 => absurd (show 49 ≤ (nI k).toInt from cv_le c_3) (by omega)) (fun _ => ?_)
      refine lv_aload_n hx hb dX12_copyRow_9 rfl (lv_at hl 1 rfl) ?_
      refine lv_iload_n hx hb dX12_copyRow_10 rfl (lv_at hl 2 rfl) ?_
      refine lv_iload_n hx hb dX12_copyRow_11 rfl (lv_at hl 4 rfl) ?_
      refine lv_imul hx hb dX12_copyRow_12 ?_
      refine cv_topi (b := 0) (by decide) ?_
      refine lv_iload hx hb dX12_copyRow_13 (lv_at hl 0 rfl) ?_
      refine lv_iadd hx hb dX12_copyRow_15 ?_
      refine lv_topi (fun x_4 ex_4 => ?_)
      have fx_4 : x_4.toInt = 0 + (nI k).toInt := by rw [ex_4]; exact cv_addI (by have : (0 : Int32).toInt = 0 := rfl; omega) (by have : (0 : Int32).toInt = 0 := rfl; omega)
      refine lv_aload_n hx hb dX12_copyRow_16 rfl (lv_at hl 1 rfl) ?_
      refine lv_iload_n hx hb dX12_copyRow_17 rfl (lv_at hl 2 rfl) ?_
      refine lv_iload_n hx hb dX12_copyRow_18 rfl (lv_at hl 3 rfl) ?_
      refine lv_imul hx hb dX12_copyRow_19 ?_
      refine cv_topi (b := 196) (by decide) ?_
      refine lv_iload hx hb dX12_copyRow_20 (lv_at hl 0 rfl) ?_
      refine lv_iadd hx hb dX12_copyRow_22 ?_
      refine lv_topi (fun x_5 ex_5 => ?_)
      have fx_5 : x_5.toInt = 196 + (nI k).toInt := by rw [ex_5]; exact cv_addI (by have : (196 : Int32).toInt = 196 := rfl; omega) (by have : (196 : Int32).toInt = 196 := rfl; omega)
      refine va_iald hx hb hK hP 0 0 rfl rfl (vp_in_iff.mpr (by omega)) dX12_copyRow_23 ?_
      refine lv_topi (fun x_6 ex_6 => ?_)
      refine va_iast hx hb hK hP hD hS 0 0 rfl rfl (vp_in_iff.mpr (by omega)) dX12_copyRow_24 (fun H locs hP hD hS => ?_)
      obtain ⟨f_7, ef_7⟩ : ∃ z9 : Nat → Int32, z9 = upd f_1 x_4.toNatClampNeg x_6 := ⟨_, rfl⟩
      rw [← ef_7] at hP hD
      have hP : va_P (dC, dI) vwCl [(h0, .inl (cyI, 245, .inl f_7))] H := hP
      have hD : va_D A [(h0, .inl (cyI, 245, .inl f_7))] := hD
      obtain ⟨x_8, ex_8⟩ : ∃ y : Int32, y = (nI k) + 1 := ⟨_, rfl⟩
      refine lv_iinc (v := x_8) (lv' := [(4, .int x_8), (0, .ref h0), (1, .int 49), (2, .int 4), (3, .int 0)]) hx hb dX12_copyRow_25 hl (k := 0) rfl (by rw [ex_8]; rfl) (by decide) rfl (fun ls hl => ?_)
      refine lv_goto (tgt := 3) hx hb dX12_copyRow_28 (by decide) ?_
      have hl : lv_has ls 5 [(4, .int (nI (k + 1))), (0, .ref h0), (1, .int 49), (2, .int 4), (3, .int 0)] := by rw [← nI_1, ← ex_8]; exact hl
      exact ih (k + 1) f_7 _ _ _ (by omega) hP hD hS (lv_sub hl [0, 1, 2, 3, 4] rfl)
  refine key _ _ (fun f_9 H locs ls hP hD hS hl => ?_) 49 0 f _ _ _ (by omega) hP hD hS hl
  have hP9 := hP.sub (ws' := [(h0, .inl (cyI, 245, .inl f_9))]) [0] rfl
  have hD9 := hD.sub (ws' := [(h0, .inl (cyI, 245, .inl f_9))]) [0] (by decide) rfl
  exact W.vret hx hb hr (fun t ht hW => ⟨⟨(), rfl, trivial, ⟨f_9, by rw [ht]; exact hP9, hD9⟩⟩, hS.F ht⟩) hS.2.2 dX12_copyRow_31

/- X12_copyRow -/
set_option maxHeartbeats 4000000 in
set_option maxRecDepth 100000 in
theorem m_copyRow_act_40 (l : Launch) (dC : Nat → ClassId) (dI : Nat → Nat → Nat) (cyI cyB cyJ cyZ cyH cyN : ClassId) (sz : Nat) (h0 : Nat) (f : Nat → Int32) : Met l yX12_copyRow (wk yX12_copyRow cX12_copyRow 5 none) ({ frames := 1, cells := 0, slots := 0, locals := 60 }) (va_Pc [.ref h0, .int 80, .int 4, .int 0] (fun U => U.heap.size = sz ∧ va_P (dC, dI) vwCl [(h0, .inl (cyI, 400, .inl f))] U.heap ∧ va_K (dC, dI) vwCl [(cyI, .int), (cyB, .byte), (cyJ, .long), (cyZ, .boolean), (cyH, .object RX2), (cyN, .array .long)] U ∧ va_D (fun _ => True) [(h0, .inl (cyI, 400, .inl f))])) (va_Qv (fun _ : Unit => True) (fun (_ : Unit) (t : State) => ∃ g : Nat → Int32, va_P (dC, dI) vwCl [(h0, .inl (cyI, 400, .inl g))] t.heap ∧ va_D (va_A [(h0, .inl (cyI, 400, .inl f))] sz) [(h0, .inl (cyI, 400, .inl g))]) (va_A [(h0, .inl (cyI, 400, .inl f))] sz)) 0 0 (va_A [(h0, .inl (cyI, 400, .inl f))] sz) := by
  refine Met.ofW (cc := cX12_copyRow) (maxL := 5) (ret := none) (by decide) rfl ?_
  intro p e s m args below meth c s₁ B hml hv
  obtain ⟨rfl, hsz, hP, hK, hD0⟩ := hv
  have hx := B.exec
  have hb := B.bytes
  have hr := B.returns
  have hts : ∀ w ∈ uU, w.before ([.ref h0, .int 80, .int 4, .int 0] : List Value).toArray s = true := fun w h => atoms_spec (ws := wk yX12_copyRow cX12_copyRow 5 none) B.pre w (List.mem_cons_of_mem _ h)
  have hown : s.vm.findClass RX12 = some m.cls := findClass_of_methodNamed B.named
  have hlocks := B.notSynchronized
  subst hsz
  have hD := hD0.self (sz := s.heap.size)
  generalize hAe : va_A [(h0, .inl (cyI, 400, .inl f))] s.heap.size = A at hD ⊢
  have hA : ∀ q : Nat, s.heap.size ≤ q → A q := fun q h => by rw [← hAe]; exact Or.inr h
  have hS : va_S A s.heap s.heap [] := va_S.rf
  have hP : va_P (dC, dI) vwCl [(h0, .inl (cyI, 400, .inl f))] s.heap := hP
  have hl := lv_entry ([.ref h0, .int 80, .int 4, .int 0]) (n := 5) (Nat.le_of_ble_eq_true rfl)
  rw [lg_entry_eq]
  generalize (lg_sl ([.ref h0, .int 80, .int 4, .int 0]) ++ List.replicate (5 - (lg_sl ([.ref h0, .int 80, .int 4, .int 0])).length) Slot.unset).toArray = ls at hl ⊢
  have hl : lv_has ls 5 [(0, .ref h0), (1, .int 80), (2, .int 4), (3, .int 0)] := hl
  obtain ⟨H, hHe⟩ : ∃ H, H = s.heap := ⟨_, rfl⟩
  have hP : va_P (dC, dI) vwCl [(h0, .inl (cyI, 400, .inl f))] H := by rw [hHe]; exact hP
  have hS : va_S A s.heap H [] := by rw [hHe]; exact hS
  refine cv_heap hHe ?_
  refine lv_iconst (v := 0) hx hb dX12_copyRow_0 (by decide) ?_
  refine lv_istore (lv' := [(4, .int 0), (0, .ref h0), (1, .int 80), (2, .int 4), (3, .int 0)]) hx hb dX12_copyRow_1 hl (by decide) rfl (fun ls hl => ?_)
  have key : ∀ (Q : State → Prop) (R : Room), (∀ (f_1 : Nat → Int32) (H : Heap) (locs : List Loc) (ls : Array Slot), va_P (dC, dI) vwCl [(h0, .inl (cyI, 400, .inl f_1))] H → va_D A [(h0, .inl (cyI, 400, .inl f_1))] → va_S A s.heap H locs → lv_has ls 5 [(4, .int 80), (0, .ref h0), (1, .int 80), (2, .int 4), (3, .int 0)] → W p l e R s m ([.ref h0, .int 80, .int 4, .int 0] : List Value).toArray below meth c H locs 0 0 Q (F0 m 31 ls [])) → ∀ (n k : Nat) (f_1 : Nat → Int32) (H : Heap) (locs : List Loc) (ls : Array Slot), k + n = 80 → va_P (dC, dI) vwCl [(h0, .inl (cyI, 400, .inl f_1))] H → va_D A [(h0, .inl (cyI, 400, .inl f_1))] → va_S A s.heap H locs → lv_has ls 5 [(4, .int (nI k)), (0, .ref h0), (1, .int 80), (2, .int 4), (3, .int 0)] → W p l e R s m ([.ref h0, .int 80, .int 4, .int 0] : List Value).toArray below meth c H locs 0 0 Q (F0 m 3 ls []) := by
    intro Q R kx n
    induction n with
    | zero =>
      intro k f_1 H locs ls hn hP hD hS hl
      have hkN : k = 80 := by omega
      have hl : lv_has ls 5 [(4, .int 80), (0, .ref h0), (1, .int 80), (2, .int 4), (3, .int 0)] := by rw [hkN] at hl; exact hl
      refine lv_iload hx hb dX12_copyRow_3 (lv_at hl 0 rfl) ?_
      refine lv_iload_n hx hb dX12_copyRow_5 rfl (lv_at hl 2 rfl) ?_
      refine lv_icmp_ge (tgt := 31) hx hb dX12_copyRow_6 (by decide) (fun _ => ?_) (fun c_2 => absurd c_2 (by decide))
      exact kx f_1 _ _ _ hP hD hS (lv_sub hl [0, 1, 2, 3, 4] rfl)
    | succ n ih =>
      intro k f_1 H locs ls hn hP hD hS hl
      have hk9 : (nI k).toInt = (k : Int) := nI_toInt (by omega)
      refine lv_iload hx hb dX12_copyRow_3 (lv_at hl 0 rfl) ?_
      refine lv_iload_n hx hb dX12_copyRow_5 rfl (lv_at hl 2 rfl) ?_
      refine lv_icmp_ge (tgt := 31) hx hb dX12_copyRow_6 (by decide) (fun c_3 => absurd (show 80 ≤ (nI k).toInt from cv_le c_3) (by omega)) (fun _ => ?_)
      refine lv_aload_n hx hb dX12_copyRow_9 rfl (lv_at hl 1 rfl) ?_
      refine lv_iload_n hx hb dX12_copyRow_10 rfl (lv_at hl 2 rfl) ?_
      refine lv_iload_n hx hb dX12_copyRow_11 rfl (lv_at hl 4 rfl) ?_
      refine lv_imul hx hb dX12_copyRow_12 ?_
      refine cv_topi (b := 0) (by decide) ?_
      refine lv_iload hx hb dX12_copyRow_13 (lv_at hl 0 rfl) ?_
      refine lv_iadd hx hb dX12_copyRow_15 ?_
      refine lv_topi (fun x_4 ex_4 => ?_)
      have fx_4 : x_4.toInt = 0 + (nI k).toInt := by rw [ex_4]; exact cv_addI (by have : (0 : Int32).toInt = 0 := rfl; omega) (by have : (0 : Int32).toInt = 0 := rfl; omega)
      refine lv_aload_n hx hb dX12_copyRow_16 rfl (lv_at hl 1 rfl) ?_
      refine lv_iload_n hx hb dX12_copyRow_17 rfl (lv_at hl 2 rfl) ?_
      refine lv_iload_n hx hb dX12_copyRow_18 rfl (lv_at hl 3 rfl) ?_
      refine lv_imul hx hb dX12_copyRow_19 ?_
      refine cv_topi (b := 320) (by decide) ?_
      refine lv_iload hx hb dX12_copyRow_20 (lv_at hl 0 rfl) ?_
      refine lv_iadd hx hb dX12_copyRow_22 ?_
      refine lv_topi (fun x_5 ex_5 => ?_)
      have fx_5 : x_5.toInt = 320 + (nI k).toInt := by rw [ex_5]; exact cv_addI (by have : (320 : Int32).toInt = 320 := rfl; omega) (by have : (320 : Int32).toInt = 320 := rfl; omega)
      refine va_iald hx hb hK hP 0 0 rfl rfl (vp_in_iff.mpr (by omega)) dX12_copyRow_23 ?_
      refine lv_topi (fun x_6 ex_6 => ?_)
      refine va_iast hx hb hK hP hD hS 0 0 rfl rfl (vp_in_iff.mpr (by omega)) dX12_copyRow_24 (fun H locs hP hD hS => ?_)
      obtain ⟨f_7, ef_7⟩ : ∃ z9 : Nat → Int32, z9 = upd f_1 x_4.toNatClampNeg x_6 := ⟨_, rfl⟩
      rw [← ef_7] at hP hD
      have hP : va_P (dC, dI) vwCl [(h0, .inl (cyI, 400, .inl f_7))] H := hP
      have hD : va_D A [(h0, .inl (cyI, 400, .inl f_7))] := hD
      obtain ⟨x_8, ex_8⟩ : ∃ y : Int32, y = (nI k) + 1 := ⟨_, rfl⟩
      refine lv_iinc (v := x_8) (lv' := [(4, .int x_8), (0, .ref h0), (1, .int 80), (2, .int 4), (3, .int 0)]) hx hb dX12_copyRow_25 hl (k := 0) rfl (by rw [ex_8]; rfl) (by decide) rfl (fun ls hl => ?_)
      refine lv_goto (tgt := 3) hx hb dX12_copyRow_28 (by decide) ?_
      have hl : lv_has ls 5 [(4, .int (nI (k + 1))), (0, .ref h0), (1, .int 80), (2, .int 4), (3, .int 0)] := by rw [← nI_1, ← ex_8]; exact hl
      exact ih (k + 1) f_7 _ _ _ (by omega) hP hD hS (lv_sub hl [0, 1, 2, 3, 4] rfl)
  refine key _ _ (fun f_9 H locs ls hP hD hS hl => ?_) 80 0 f _ _ _ (by omega) hP hD hS hl
  have hP9 := hP.sub (ws' := [(h0, .inl (cyI, 400, .inl f_9))]) [0] rfl
  have hD9 := hD.sub (ws' := [(h0, .inl (cyI, 400, .inl f_9))]) [0] (by decide) rfl
  exact W.vret hx hb hr (fun t ht hW => ⟨⟨(), rfl, trivial, ⟨f_9, by rw [ht]; exact hP9, hD9⟩⟩, hS.F ht⟩) hS.2.2 dX12_copyRow_31

/- X12_copyHall -/
set_option maxHeartbeats 4000000 in
set_option maxRecDepth 100000 in
theorem m_copyHall_40 (l : Launch) (dC : Nat → ClassId) (dI : Nat → Nat → Nat) (cyI cyB cyJ cyZ cyH cyN : ClassId) (sz : Nat) (m0 mwidth mmany mcells mmoved mtape mlines mhas mtold mlaw msuit mapart mact misKept mseen mhung mgoal mleaps mqueue mrow mwanted mfirst moften mlots mthen : Nat) (bp : Int32) (f0 f1 f2 f3 f4 f5 : Nat → Int32) : Met l yX12_copyHall (wk yX12_copyHall cX12_copyHall 3 none) ({ frames := 2, cells := 0, slots := 0, locals := 84 }) (va_Pc [.ref m0, .int 4, .int 0] (fun U => U.heap.size = sz ∧ va_P (dC, dI) vwCl [(m0, .inr (11, [.int 0, .ref mwidth, .ref mmany, .ref mcells, .ref mmoved, .ref mtape, .int 0, .int 0, .int 0, .int 0, .int 0, .long 0, .int 0, .int bp, .int 0, .int (-1), .ref mlines, .ref mhas, .ref mtold, .ref mlaw, .ref msuit, .ref mapart, .ref mact, .ref misKept, .ref mseen, .ref mhung, .int 0, .ref mgoal, .ref mleaps, .ref mqueue, .ref mrow, .int 0, .ref mwanted, .ref mfirst, .ref moften, .int 0, .int 0, .int 0, .int 0, .int 0, .int 0, .ref mlots, .ref mthen, .long 0])), (mlines, .inl (cyI, 5, .inl (fun _ => 0))), (mhas, .inl (cyI, 20, .inl f0)), (mtold, .inl (cyI, 35, .inl f1)), (mlaw, .inl (cyI, 120, .inl f2)), (msuit, .inl (cyI, 245, .inl f3)), (mapart, .inl (cyI, 35, .inl f4)), (mact, .inl (cyI, 400, .inl f5))] U.heap ∧ va_K (dC, dI) vwCl [(cyI, .int), (cyB, .byte), (cyJ, .long), (cyZ, .boolean), (cyH, .object RX2), (cyN, .array .long)] U ∧ va_D (fun _ => True) [(m0, .inr (11, [.int 0, .ref mwidth, .ref mmany, .ref mcells, .ref mmoved, .ref mtape, .int 0, .int 0, .int 0, .int 0, .int 0, .long 0, .int 0, .int bp, .int 0, .int (-1), .ref mlines, .ref mhas, .ref mtold, .ref mlaw, .ref msuit, .ref mapart, .ref mact, .ref misKept, .ref mseen, .ref mhung, .int 0, .ref mgoal, .ref mleaps, .ref mqueue, .ref mrow, .int 0, .ref mwanted, .ref mfirst, .ref moften, .int 0, .int 0, .int 0, .int 0, .int 0, .int 0, .ref mlots, .ref mthen, .long 0])), (mlines, .inl (cyI, 5, .inl (fun _ => 0))), (mhas, .inl (cyI, 20, .inl f0)), (mtold, .inl (cyI, 35, .inl f1)), (mlaw, .inl (cyI, 120, .inl f2)), (msuit, .inl (cyI, 245, .inl f3)), (mapart, .inl (cyI, 35, .inl f4)), (mact, .inl (cyI, 400, .inl f5))])) (va_Qv (fun _ : Unit => True) (fun (_ : Unit) (t : State) => va_P (dC, dI) vwCl [(m0, .inr (11, [.int 0, .ref mwidth, .ref mmany, .ref mcells, .ref mmoved, .ref mtape, .int 0, .int 0, .int 0, .int 0, .int 0, .long 0, .int 0, .int bp, .int 0, .int (-1), .ref mlines, .ref mhas, .ref mtold, .ref mlaw, .ref msuit, .ref mapart, .ref mact, .ref misKept, .ref mseen, .ref mhung, .int 0, .ref mgoal, .ref mleaps, .ref mqueue, .ref mrow, .int 0, .ref mwanted, .ref mfirst, .ref moften, .int 0, .int 0, .int 0, .int 0, .int 0, .int 0, .ref mlots, .ref mthen, .long 0])), (mlines, .inl (cyI, 5, .inl (fun _ => 0)))] t.heap ∧ va_D (va_A [(m0, .inr (11, [.int 0, .ref mwidth, .ref mmany, .ref mcells, .ref mmoved, .ref mtape, .int 0, .int 0, .int 0, .int 0, .int 0, .long 0, .int 0, .int bp, .int 0, .int (-1), .ref mlines, .ref mhas, .ref mtold, .ref mlaw, .ref msuit, .ref mapart, .ref mact, .ref misKept, .ref mseen, .ref mhung, .int 0, .ref mgoal, .ref mleaps, .ref mqueue, .ref mrow, .int 0, .ref mwanted, .ref mfirst, .ref moften, .int 0, .int 0, .int 0, .int 0, .int 0, .int 0, .ref mlots, .ref mthen, .long 0])), (mlines, .inl (cyI, 5, .inl (fun _ => 0))), (mhas, .inl (cyI, 20, .inl f0)), (mtold, .inl (cyI, 35, .inl f1)), (mlaw, .inl (cyI, 120, .inl f2)), (msuit, .inl (cyI, 245, .inl f3)), (mapart, .inl (cyI, 35, .inl f4)), (mact, .inl (cyI, 400, .inl f5))] sz) [(m0, .inr (11, [.int 0, .ref mwidth, .ref mmany, .ref mcells, .ref mmoved, .ref mtape, .int 0, .int 0, .int 0, .int 0, .int 0, .long 0, .int 0, .int bp, .int 0, .int (-1), .ref mlines, .ref mhas, .ref mtold, .ref mlaw, .ref msuit, .ref mapart, .ref mact, .ref misKept, .ref mseen, .ref mhung, .int 0, .ref mgoal, .ref mleaps, .ref mqueue, .ref mrow, .int 0, .ref mwanted, .ref mfirst, .ref moften, .int 0, .int 0, .int 0, .int 0, .int 0, .int 0, .ref mlots, .ref mthen, .long 0])), (mlines, .inl (cyI, 5, .inl (fun _ => 0)))]) (va_A [(m0, .inr (11, [.int 0, .ref mwidth, .ref mmany, .ref mcells, .ref mmoved, .ref mtape, .int 0, .int 0, .int 0, .int 0, .int 0, .long 0, .int 0, .int bp, .int 0, .int (-1), .ref mlines, .ref mhas, .ref mtold, .ref mlaw, .ref msuit, .ref mapart, .ref mact, .ref misKept, .ref mseen, .ref mhung, .int 0, .ref mgoal, .ref mleaps, .ref mqueue, .ref mrow, .int 0, .ref mwanted, .ref mfirst, .ref moften, .int 0, .int 0, .int 0, .int 0, .int 0, .int 0, .ref mlots, .ref mthen, .long 0])), (mlines, .inl (cyI, 5, .inl (fun _ => 0))), (mhas, .inl (cyI, 20, .inl f0)), (mtold, .inl (cyI, 35, .inl f1)), (mlaw, .inl (cyI, 120, .inl f2)), (msuit, .inl (cyI, 245, .inl f3)), (mapart, .inl (cyI, 35, .inl f4)), (mact, .inl (cyI, 400, .inl f5))] sz)) 0 0 (va_A [(m0, .inr (11, [.int 0, .ref mwidth, .ref mmany, .ref mcells, .ref mmoved, .ref mtape, .int 0, .int 0, .int 0, .int 0, .int 0, .long 0, .int 0, .int bp, .int 0, .int (-1), .ref mlines, .ref mhas, .ref mtold, .ref mlaw, .ref msuit, .ref mapart, .ref mact, .ref misKept, .ref mseen, .ref mhung, .int 0, .ref mgoal, .ref mleaps, .ref mqueue, .ref mrow, .int 0, .ref mwanted, .ref mfirst, .ref moften, .int 0, .int 0, .int 0, .int 0, .int 0, .int 0, .ref mlots, .ref mthen, .long 0])), (mlines, .inl (cyI, 5, .inl (fun _ => 0))), (mhas, .inl (cyI, 20, .inl f0)), (mtold, .inl (cyI, 35, .inl f1)), (mlaw, .inl (cyI, 120, .inl f2)), (msuit, .inl (cyI, 245, .inl f3)), (mapart, .inl (cyI, 35, .inl f4)), (mact, .inl (cyI, 400, .inl f5))] sz) := by
  refine Met.ofW (cc := cX12_copyHall) (maxL := 3) (ret := none) (by decide) rfl ?_
  intro p e s m args below meth c s₁ B hml hv
  obtain ⟨rfl, hsz, hP, hK, hD0⟩ := hv
  have hx := B.exec
  have hb := B.bytes
  have hr := B.returns
  have hts : ∀ w ∈ uU, w.before ([.ref m0, .int 4, .int 0] : List Value).toArray s = true := fun w h => atoms_spec (ws := wk yX12_copyHall cX12_copyHall 3 none) B.pre w (List.mem_cons_of_mem _ h)
  have hown : s.vm.findClass RX12 = some m.cls := findClass_of_methodNamed B.named
  have hlocks := B.notSynchronized
  subst hsz
  have hD := hD0.self (sz := s.heap.size)
  generalize hAe : va_A [(m0, .inr (11, [.int 0, .ref mwidth, .ref mmany, .ref mcells, .ref mmoved, .ref mtape, .int 0, .int 0, .int 0, .int 0, .int 0, .long 0, .int 0, .int bp, .int 0, .int (-1), .ref mlines, .ref mhas, .ref mtold, .ref mlaw, .ref msuit, .ref mapart, .ref mact, .ref misKept, .ref mseen, .ref mhung, .int 0, .ref mgoal, .ref mleaps, .ref mqueue, .ref mrow, .int 0, .ref mwanted, .ref mfirst, .ref moften, .int 0, .int 0, .int 0, .int 0, .int 0, .int 0, .ref mlots, .ref mthen, .long 0])), (mlines, .inl (cyI, 5, .inl (fun _ => 0))), (mhas, .inl (cyI, 20, .inl f0)), (mtold, .inl (cyI, 35, .inl f1)), (mlaw, .inl (cyI, 120, .inl f2)), (msuit, .inl (cyI, 245, .inl f3)), (mapart, .inl (cyI, 35, .inl f4)), (mact, .inl (cyI, 400, .inl f5))] s.heap.size = A at hD ⊢
  have hA : ∀ q : Nat, s.heap.size ≤ q → A q := fun q h => by rw [← hAe]; exact Or.inr h
  have hS : va_S A s.heap s.heap [] := va_S.rf
  have hP : va_P (dC, dI) vwCl [(m0, .inr (11, [.int 0, .ref mwidth, .ref mmany, .ref mcells, .ref mmoved, .ref mtape, .int 0, .int 0, .int 0, .int 0, .int 0, .long 0, .int 0, .int bp, .int 0, .int (-1), .ref mlines, .ref mhas, .ref mtold, .ref mlaw, .ref msuit, .ref mapart, .ref mact, .ref misKept, .ref mseen, .ref mhung, .int 0, .ref mgoal, .ref mleaps, .ref mqueue, .ref mrow, .int 0, .ref mwanted, .ref mfirst, .ref moften, .int 0, .int 0, .int 0, .int 0, .int 0, .int 0, .ref mlots, .ref mthen, .long 0])), (mlines, .inl (cyI, 5, .inl (fun _ => 0))), (mhas, .inl (cyI, 20, .inl f0)), (mtold, .inl (cyI, 35, .inl f1)), (mlaw, .inl (cyI, 120, .inl f2)), (msuit, .inl (cyI, 245, .inl f3)), (mapart, .inl (cyI, 35, .inl f4)), (mact, .inl (cyI, 400, .inl f5))] s.heap := hP
  have hl := lv_entry ([.ref m0, .int 4, .int 0]) (n := 3) (Nat.le_of_ble_eq_true rfl)
  rw [lg_entry_eq]
  generalize (lg_sl ([.ref m0, .int 4, .int 0]) ++ List.replicate (3 - (lg_sl ([.ref m0, .int 4, .int 0])).length) Slot.unset).toArray = ls at hl ⊢
  have hl : lv_has ls 3 [(0, .ref m0), (1, .int 4), (2, .int 0)] := hl
  obtain ⟨H, hHe⟩ : ∃ H, H = s.heap := ⟨_, rfl⟩
  have hP : va_P (dC, dI) vwCl [(m0, .inr (11, [.int 0, .ref mwidth, .ref mmany, .ref mcells, .ref mmoved, .ref mtape, .int 0, .int 0, .int 0, .int 0, .int 0, .long 0, .int 0, .int bp, .int 0, .int (-1), .ref mlines, .ref mhas, .ref mtold, .ref mlaw, .ref msuit, .ref mapart, .ref mact, .ref misKept, .ref mseen, .ref mhung, .int 0, .ref mgoal, .ref mleaps, .ref mqueue, .ref mrow, .int 0, .ref mwanted, .ref mfirst, .ref moften, .int 0, .int 0, .int 0, .int 0, .int 0, .int 0, .ref mlots, .ref mthen, .long 0])), (mlines, .inl (cyI, 5, .inl (fun _ => 0))), (mhas, .inl (cyI, 20, .inl f0)), (mtold, .inl (cyI, 35, .inl f1)), (mlaw, .inl (cyI, 120, .inl f2)), (msuit, .inl (cyI, 245, .inl f3)), (mapart, .inl (cyI, 35, .inl f4)), (mact, .inl (cyI, 400, .inl f5))] H := by rw [hHe]; exact hP
  have hS : va_S A s.heap H [] := by rw [hHe]; exact hS
  refine cv_heap hHe ?_
  refine lv_aload_n hx hb dX12_copyHall_0 rfl (lv_at hl 0 rfl) ?_
  refine va_get (D := (dC, dI)) (ci := 11) (v := .ref mlines) (C := RX12) (T := TX12) (N := 44) hx hb hts uinX12 hown hK hP 0 rfl rfl 16 (by decide) (hts _ wd_6_53) (fun _ h9 => h9) rfl dX12_copyHall_1 ?_
  refine lv_iconst (v := 1) hx hb dX12_copyHall_4 (by decide) ?_
  refine lv_iload_n hx hb dX12_copyHall_5 rfl (lv_at hl 1 rfl) ?_
  refine lv_iload_n hx hb dX12_copyHall_6 rfl (lv_at hl 2 rfl) ?_
  have hPc := hP.sub (ws' := [(mlines, .inl (cyI, 5, .inl (fun _ => 0)))]) [1] rfl
  have hKc := hK.sub (tys' := [(cyI, .int), (cyB, .byte), (cyJ, .long), (cyZ, .boolean), (cyH, .object RX2), (cyN, .array .long)]) [0, 1, 2, 3, 4, 5] rfl
  have hDc := hD.sub (ws' := [(mlines, .inl (cyI, 5, .inl (fun _ => 0)))]) [1] (by decide) rfl
  have hFc := va_free (wc := [(mlines, .inl (cyI, 5, .inl (fun _ => 0)))]) hD hS hA [1] rfl
  refine va_callv (va_runS (As := [.ref mlines, .int 1, .int 4, .int 0]) (rest := []) ⟨hx, hb, hml, hown, hts⟩ (m_copyRow_lines_40 l dC dI cyI cyB cyJ cyZ cyH cyN H.size mlines) (va_cwS 4 hts (gdS wd_7_71 wd_7_72 wd_1_11 wd_7_73) rfl rfl rfl (by decide +kernel) ⟨Nat.le_of_ble_eq_true rfl, Nat.le_of_ble_eq_true rfl⟩) ⟨fun a U g mk q => by obtain ⟨q0, q1, qP, qK, qD⟩ := q; exact ⟨q0, q1, qP, va_K.moved (u := U) (U := U.calling g mk a) (Vm.Alike.refl U.vm) qK, qD⟩, fun U hU hW => ⟨rfl, by rw [hU], by rw [hU]; exact hPc, va_K.moved hW.alike hKc, hDc.weaken (fun _ _ _ _ => trivial)⟩⟩ rfl rfl hl.1 rfl (lv_room (Nat.le_of_ble_eq_true rfl)) dX12_copyHall_7 ⟨Nat.le_of_ble_eq_true rfl, Nat.le_of_ble_eq_true rfl⟩) hS (fun q _ h => hFc q h) hFc (fun  u t H1 locs ht hvm hw hB hz1 hk1 hS => ?_)
  obtain ⟨hP1, hD1⟩ := hB
  rw [ht] at hP1
  obtain ⟨hP, hD⟩ := va_join (wr := [(m0, .inr (11, [.int 0, .ref mwidth, .ref mmany, .ref mcells, .ref mmoved, .ref mtape, .int 0, .int 0, .int 0, .int 0, .int 0, .long 0, .int 0, .int bp, .int 0, .int (-1), .ref mlines, .ref mhas, .ref mtold, .ref mlaw, .ref msuit, .ref mapart, .ref mact, .ref misKept, .ref mseen, .ref mhung, .int 0, .ref mgoal, .ref mleaps, .ref mqueue, .ref mrow, .int 0, .ref mwanted, .ref mfirst, .ref moften, .int 0, .int 0, .int 0, .int 0, .int 0, .int 0, .ref mlots, .ref mthen, .long 0])), (mhas, .inl (cyI, 20, .inl f0)), (mtold, .inl (cyI, 35, .inl f1)), (mlaw, .inl (cyI, 120, .inl f2)), (msuit, .inl (cyI, 245, .inl f3)), (mapart, .inl (cyI, 35, .inl f4)), (mact, .inl (cyI, 400, .inl f5))]) (w1 := [(mlines, .inl (cyI, 5, .inl (fun _ => 0)))]) hP hD [1] [0, 2, 3, 4, 5, 6, 7] rfl rfl (by decide) (by decide) hk1 hFc hP1 hD1
  generalize H1 = H at hP hS ⊢
  have hP : va_P (dC, dI) vwCl [(m0, .inr (11, [.int 0, .ref mwidth, .ref mmany, .ref mcells, .ref mmoved, .ref mtape, .int 0, .int 0, .int 0, .int 0, .int 0, .long 0, .int 0, .int bp, .int 0, .int (-1), .ref mlines, .ref mhas, .ref mtold, .ref mlaw, .ref msuit, .ref mapart, .ref mact, .ref misKept, .ref mseen, .ref mhung, .int 0, .ref mgoal, .ref mleaps, .ref mqueue, .ref mrow, .int 0, .ref mwanted, .ref mfirst, .ref moften, .int 0, .int 0, .int 0, .int 0, .int 0, .int 0, .ref mlots, .ref mthen, .long 0])), (mhas, .inl (cyI, 20, .inl f0)), (mtold, .inl (cyI, 35, .inl f1)), (mlaw, .inl (cyI, 120, .inl f2)), (msuit, .inl (cyI, 245, .inl f3)), (mapart, .inl (cyI, 35, .inl f4)), (mact, .inl (cyI, 400, .inl f5)), (mlines, .inl (cyI, 5, .inl (fun _ => 0)))] H := hP
  have hD : va_D A [(m0, .inr (11, [.int 0, .ref mwidth, .ref mmany, .ref mcells, .ref mmoved, .ref mtape, .int 0, .int 0, .int 0, .int 0, .int 0, .long 0, .int 0, .int bp, .int 0, .int (-1), .ref mlines, .ref mhas, .ref mtold, .ref mlaw, .ref msuit, .ref mapart, .ref mact, .ref misKept, .ref mseen, .ref mhung, .int 0, .ref mgoal, .ref mleaps, .ref mqueue, .ref mrow, .int 0, .ref mwanted, .ref mfirst, .ref moften, .int 0, .int 0, .int 0, .int 0, .int 0, .int 0, .ref mlots, .ref mthen, .long 0])), (mhas, .inl (cyI, 20, .inl f0)), (mtold, .inl (cyI, 35, .inl f1)), (mlaw, .inl (cyI, 120, .inl f2)), (msuit, .inl (cyI, 245, .inl f3)), (mapart, .inl (cyI, 35, .inl f4)), (mact, .inl (cyI, 400, .inl f5)), (mlines, .inl (cyI, 5, .inl (fun _ => 0)))] := hD
  refine lv_aload_n hx hb dX12_copyHall_10 rfl (lv_at hl 0 rfl) ?_
  refine va_get (D := (dC, dI)) (ci := 11) (v := .ref mhas) (C := RX12) (T := TX12) (N := 44) hx hb hts uinX12 hown hK hP 0 rfl rfl 17 (by decide) (hts _ wd_6_54) (fun _ h9 => h9) rfl dX12_copyHall_11 ?_
  refine lv_iconst (v := 4) hx hb dX12_copyHall_14 (by decide) ?_
  refine lv_iload_n hx hb dX12_copyHall_15 rfl (lv_at hl 1 rfl) ?_
  refine lv_iload_n hx hb dX12_copyHall_16 rfl (lv_at hl 2 rfl) ?_
  have hPc := hP.sub (ws' := [(mhas, .inl (cyI, 20, .inl f0))]) [1] rfl
  have hKc := hK.sub (tys' := [(cyI, .int), (cyB, .byte), (cyJ, .long), (cyZ, .boolean), (cyH, .object RX2), (cyN, .array .long)]) [0, 1, 2, 3, 4, 5] rfl
  have hDc := hD.sub (ws' := [(mhas, .inl (cyI, 20, .inl f0))]) [1] (by decide) rfl
  have hFc := va_free (wc := [(mhas, .inl (cyI, 20, .inl f0))]) hD hS hA [1] rfl
  refine va_callv (va_runS (As := [.ref mhas, .int 4, .int 4, .int 0]) (rest := []) ⟨hx, hb, hml, hown, hts⟩ (m_copyRow_has_40 l dC dI cyI cyB cyJ cyZ cyH cyN H.size mhas f0) (va_cwS 4 hts (gdS wd_7_71 wd_7_72 wd_1_11 wd_7_73) rfl rfl rfl (by decide +kernel) ⟨Nat.le_of_ble_eq_true rfl, Nat.le_of_ble_eq_true rfl⟩) ⟨fun a U g mk q => by obtain ⟨q0, q1, qP, qK, qD⟩ := q; exact ⟨q0, q1, qP, va_K.moved (u := U) (U := U.calling g mk a) (Vm.Alike.refl U.vm) qK, qD⟩, fun U hU hW => ⟨rfl, by rw [hU], by rw [hU]; exact hPc, va_K.moved hW.alike hKc, hDc.weaken (fun _ _ _ _ => trivial)⟩⟩ rfl rfl hl.1 rfl (lv_room (Nat.le_of_ble_eq_true rfl)) dX12_copyHall_17 ⟨Nat.le_of_ble_eq_true rfl, Nat.le_of_ble_eq_true rfl⟩) hS (fun q _ h => hFc q h) hFc (fun  u t H1 locs ht hvm hw hB hz1 hk1 hS => ?_)
  obtain ⟨g_1, hP1, hD1⟩ := hB
  rw [ht] at hP1
  obtain ⟨hP, hD⟩ := va_join (wr := [(m0, .inr (11, [.int 0, .ref mwidth, .ref mmany, .ref mcells, .ref mmoved, .ref mtape, .int 0, .int 0, .int 0, .int 0, .int 0, .long 0, .int 0, .int bp, .int 0, .int (-1), .ref mlines, .ref mhas, .ref mtold, .ref mlaw, .ref msuit, .ref mapart, .ref mact, .ref misKept, .ref mseen, .ref mhung, .int 0, .ref mgoal, .ref mleaps, .ref mqueue, .ref mrow, .int 0, .ref mwanted, .ref mfirst, .ref moften, .int 0, .int 0, .int 0, .int 0, .int 0, .int 0, .ref mlots, .ref mthen, .long 0])), (mtold, .inl (cyI, 35, .inl f1)), (mlaw, .inl (cyI, 120, .inl f2)), (msuit, .inl (cyI, 245, .inl f3)), (mapart, .inl (cyI, 35, .inl f4)), (mact, .inl (cyI, 400, .inl f5)), (mlines, .inl (cyI, 5, .inl (fun _ => 0)))]) (w1 := [(mhas, .inl (cyI, 20, .inl g_1))]) hP hD [1] [0, 2, 3, 4, 5, 6, 7] rfl rfl (by decide) (by decide) hk1 hFc hP1 hD1
  generalize H1 = H at hP hS ⊢
  have hP : va_P (dC, dI) vwCl [(m0, .inr (11, [.int 0, .ref mwidth, .ref mmany, .ref mcells, .ref mmoved, .ref mtape, .int 0, .int 0, .int 0, .int 0, .int 0, .long 0, .int 0, .int bp, .int 0, .int (-1), .ref mlines, .ref mhas, .ref mtold, .ref mlaw, .ref msuit, .ref mapart, .ref mact, .ref misKept, .ref mseen, .ref mhung, .int 0, .ref mgoal, .ref mleaps, .ref mqueue, .ref mrow, .int 0, .ref mwanted, .ref mfirst, .ref moften, .int 0, .int 0, .int 0, .int 0, .int 0, .int 0, .ref mlots, .ref mthen, .long 0])), (mtold, .inl (cyI, 35, .inl f1)), (mlaw, .inl (cyI, 120, .inl f2)), (msuit, .inl (cyI, 245, .inl f3)), (mapart, .inl (cyI, 35, .inl f4)), (mact, .inl (cyI, 400, .inl f5)), (mlines, .inl (cyI, 5, .inl (fun _ => 0))), (mhas, .inl (cyI, 20, .inl g_1))] H := hP
  have hD : va_D A [(m0, .inr (11, [.int 0, .ref mwidth, .ref mmany, .ref mcells, .ref mmoved, .ref mtape, .int 0, .int 0, .int 0, .int 0, .int 0, .long 0, .int 0, .int bp, .int 0, .int (-1), .ref mlines, .ref mhas, .ref mtold, .ref mlaw, .ref msuit, .ref mapart, .ref mact, .ref misKept, .ref mseen, .ref mhung, .int 0, .ref mgoal, .ref mleaps, .ref mqueue, .ref mrow, .int 0, .ref mwanted, .ref mfirst, .ref moften, .int 0, .int 0, .int 0, .int 0, .int 0, .int 0, .ref mlots, .ref mthen, .long 0])), (mtold, .inl (cyI, 35, .inl f1)), (mlaw, .inl (cyI, 120, .inl f2)), (msuit, .inl (cyI, 245, .inl f3)), (mapart, .inl (cyI, 35, .inl f4)), (mact, .inl (cyI, 400, .inl f5)), (mlines, .inl (cyI, 5, .inl (fun _ => 0))), (mhas, .inl (cyI, 20, .inl g_1))] := hD
  refine lv_aload_n hx hb dX12_copyHall_20 rfl (lv_at hl 0 rfl) ?_
  refine va_get (D := (dC, dI)) (ci := 11) (v := .ref mtold) (C := RX12) (T := TX12) (N := 44) hx hb hts uinX12 hown hK hP 0 rfl rfl 18 (by decide) (hts _ wd_6_55) (fun _ h9 => h9) rfl dX12_copyHall_21 ?_
  refine lv_bipush (v := 7) hx hb dX12_copyHall_24 (by decide) ?_
  refine lv_iload_n hx hb dX12_copyHall_26 rfl (lv_at hl 1 rfl) ?_
  refine lv_iload_n hx hb dX12_copyHall_27 rfl (lv_at hl 2 rfl) ?_
  have hPc := hP.sub (ws' := [(mtold, .inl (cyI, 35, .inl f1))]) [1] rfl
  have hKc := hK.sub (tys' := [(cyI, .int), (cyB, .byte), (cyJ, .long), (cyZ, .boolean), (cyH, .object RX2), (cyN, .array .long)]) [0, 1, 2, 3, 4, 5] rfl
  have hDc := hD.sub (ws' := [(mtold, .inl (cyI, 35, .inl f1))]) [1] (by decide) rfl
  have hFc := va_free (wc := [(mtold, .inl (cyI, 35, .inl f1))]) hD hS hA [1] rfl
  refine va_callv (va_runS (As := [.ref mtold, .int 7, .int 4, .int 0]) (rest := []) ⟨hx, hb, hml, hown, hts⟩ (m_copyRow_told_40 l dC dI cyI cyB cyJ cyZ cyH cyN H.size mtold f1) (va_cwS 4 hts (gdS wd_7_71 wd_7_72 wd_1_11 wd_7_73) rfl rfl rfl (by decide +kernel) ⟨Nat.le_of_ble_eq_true rfl, Nat.le_of_ble_eq_true rfl⟩) ⟨fun a U g mk q => by obtain ⟨q0, q1, qP, qK, qD⟩ := q; exact ⟨q0, q1, qP, va_K.moved (u := U) (U := U.calling g mk a) (Vm.Alike.refl U.vm) qK, qD⟩, fun U hU hW => ⟨rfl, by rw [hU], by rw [hU]; exact hPc, va_K.moved hW.alike hKc, hDc.weaken (fun _ _ _ _ => trivial)⟩⟩ rfl rfl hl.1 rfl (lv_room (Nat.le_of_ble_eq_true rfl)) dX12_copyHall_28 ⟨Nat.le_of_ble_eq_true rfl, Nat.le_of_ble_eq_true rfl⟩) hS (fun q _ h => hFc q h) hFc (fun  u t H1 locs ht hvm hw hB hz1 hk1 hS => ?_)
  obtain ⟨g_2, hP1, hD1⟩ := hB
  rw [ht] at hP1
  obtain ⟨hP, hD⟩ := va_join (wr := [(m0, .inr (11, [.int 0, .ref mwidth, .ref mmany, .ref mcells, .ref mmoved, .ref mtape, .int 0, .int 0, .int 0, .int 0, .int 0, .long 0, .int 0, .int bp, .int 0, .int (-1), .ref mlines, .ref mhas, .ref mtold, .ref mlaw, .ref msuit, .ref mapart, .ref mact, .ref misKept, .ref mseen, .ref mhung, .int 0, .ref mgoal, .ref mleaps, .ref mqueue, .ref mrow, .int 0, .ref mwanted, .ref mfirst, .ref moften, .int 0, .int 0, .int 0, .int 0, .int 0, .int 0, .ref mlots, .ref mthen, .long 0])), (mlaw, .inl (cyI, 120, .inl f2)), (msuit, .inl (cyI, 245, .inl f3)), (mapart, .inl (cyI, 35, .inl f4)), (mact, .inl (cyI, 400, .inl f5)), (mlines, .inl (cyI, 5, .inl (fun _ => 0))), (mhas, .inl (cyI, 20, .inl g_1))]) (w1 := [(mtold, .inl (cyI, 35, .inl g_2))]) hP hD [1] [0, 2, 3, 4, 5, 6, 7] rfl rfl (by decide) (by decide) hk1 hFc hP1 hD1
  generalize H1 = H at hP hS ⊢
  have hP : va_P (dC, dI) vwCl [(m0, .inr (11, [.int 0, .ref mwidth, .ref mmany, .ref mcells, .ref mmoved, .ref mtape, .int 0, .int 0, .int 0, .int 0, .int 0, .long 0, .int 0, .int bp, .int 0, .int (-1), .ref mlines, .ref mhas, .ref mtold, .ref mlaw, .ref msuit, .ref mapart, .ref mact, .ref misKept, .ref mseen, .ref mhung, .int 0, .ref mgoal, .ref mleaps, .ref mqueue, .ref mrow, .int 0, .ref mwanted, .ref mfirst, .ref moften, .int 0, .int 0, .int 0, .int 0, .int 0, .int 0, .ref mlots, .ref mthen, .long 0])), (mlaw, .inl (cyI, 120, .inl f2)), (msuit, .inl (cyI, 245, .inl f3)), (mapart, .inl (cyI, 35, .inl f4)), (mact, .inl (cyI, 400, .inl f5)), (mlines, .inl (cyI, 5, .inl (fun _ => 0))), (mhas, .inl (cyI, 20, .inl g_1)), (mtold, .inl (cyI, 35, .inl g_2))] H := hP
  have hD : va_D A [(m0, .inr (11, [.int 0, .ref mwidth, .ref mmany, .ref mcells, .ref mmoved, .ref mtape, .int 0, .int 0, .int 0, .int 0, .int 0, .long 0, .int 0, .int bp, .int 0, .int (-1), .ref mlines, .ref mhas, .ref mtold, .ref mlaw, .ref msuit, .ref mapart, .ref mact, .ref misKept, .ref mseen, .ref mhung, .int 0, .ref mgoal, .ref mleaps, .ref mqueue, .ref mrow, .int 0, .ref mwanted, .ref mfirst, .ref moften, .int 0, .int 0, .int 0, .int 0, .int 0, .int 0, .ref mlots, .ref mthen, .long 0])), (mlaw, .inl (cyI, 120, .inl f2)), (msuit, .inl (cyI, 245, .inl f3)), (mapart, .inl (cyI, 35, .inl f4)), (mact, .inl (cyI, 400, .inl f5)), (mlines, .inl (cyI, 5, .inl (fun _ => 0))), (mhas, .inl (cyI, 20, .inl g_1)), (mtold, .inl (cyI, 35, .inl g_2))] := hD
  refine lv_aload_n hx hb dX12_copyHall_31 rfl (lv_at hl 0 rfl) ?_
  refine va_get (D := (dC, dI)) (ci := 11) (v := .ref mlaw) (C := RX12) (T := TX12) (N := 44) hx hb hts uinX12 hown hK hP 0 rfl rfl 19 (by decide) (hts _ wd_6_56) (fun _ h9 => h9) rfl dX12_copyHall_32 ?_
  refine lv_bipush (v := 24) hx hb dX12_copyHall_35 (by decide) ?_
  refine lv_iload_n hx hb dX12_copyHall_37 rfl (lv_at hl 1 rfl) ?_
  refine lv_iload_n hx hb dX12_copyHall_38 rfl (lv_at hl 2 rfl) ?_
  have hPc := hP.sub (ws' := [(mlaw, .inl (cyI, 120, .inl f2))]) [1] rfl
  have hKc := hK.sub (tys' := [(cyI, .int), (cyB, .byte), (cyJ, .long), (cyZ, .boolean), (cyH, .object RX2), (cyN, .array .long)]) [0, 1, 2, 3, 4, 5] rfl
  have hDc := hD.sub (ws' := [(mlaw, .inl (cyI, 120, .inl f2))]) [1] (by decide) rfl
  have hFc := va_free (wc := [(mlaw, .inl (cyI, 120, .inl f2))]) hD hS hA [1] rfl
  refine va_callv (va_runS (As := [.ref mlaw, .int 24, .int 4, .int 0]) (rest := []) ⟨hx, hb, hml, hown, hts⟩ (m_copyRow_law_40 l dC dI cyI cyB cyJ cyZ cyH cyN H.size mlaw f2) (va_cwS 4 hts (gdS wd_7_71 wd_7_72 wd_1_11 wd_7_73) rfl rfl rfl (by decide +kernel) ⟨Nat.le_of_ble_eq_true rfl, Nat.le_of_ble_eq_true rfl⟩) ⟨fun a U g mk q => by obtain ⟨q0, q1, qP, qK, qD⟩ := q; exact ⟨q0, q1, qP, va_K.moved (u := U) (U := U.calling g mk a) (Vm.Alike.refl U.vm) qK, qD⟩, fun U hU hW => ⟨rfl, by rw [hU], by rw [hU]; exact hPc, va_K.moved hW.alike hKc, hDc.weaken (fun _ _ _ _ => trivial)⟩⟩ rfl rfl hl.1 rfl (lv_room (Nat.le_of_ble_eq_true rfl)) dX12_copyHall_39 ⟨Nat.le_of_ble_eq_true rfl, Nat.le_of_ble_eq_true rfl⟩) hS (fun q _ h => hFc q h) hFc (fun  u t H1 locs ht hvm hw hB hz1 hk1 hS => ?_)
  obtain ⟨g_3, hP1, hD1⟩ := hB
  rw [ht] at hP1
  obtain ⟨hP, hD⟩ := va_join (wr := [(m0, .inr (11, [.int 0, .ref mwidth, .ref mmany, .ref mcells, .ref mmoved, .ref mtape, .int 0, .int 0, .int 0, .int 0, .int 0, .long 0, .int 0, .int bp, .int 0, .int (-1), .ref mlines, .ref mhas, .ref mtold, .ref mlaw, .ref msuit, .ref mapart, .ref mact, .ref misKept, .ref mseen, .ref mhung, .int 0, .ref mgoal, .ref mleaps, .ref mqueue, .ref mrow, .int 0, .ref mwanted, .ref mfirst, .ref moften, .int 0, .int 0, .int 0, .int 0, .int 0, .int 0, .ref mlots, .ref mthen, .long 0])), (msuit, .inl (cyI, 245, .inl f3)), (mapart, .inl (cyI, 35, .inl f4)), (mact, .inl (cyI, 400, .inl f5)), (mlines, .inl (cyI, 5, .inl (fun _ => 0))), (mhas, .inl (cyI, 20, .inl g_1)), (mtold, .inl (cyI, 35, .inl g_2))]) (w1 := [(mlaw, .inl (cyI, 120, .inl g_3))]) hP hD [1] [0, 2, 3, 4, 5, 6, 7] rfl rfl (by decide) (by decide) hk1 hFc hP1 hD1
  generalize H1 = H at hP hS ⊢
  have hP : va_P (dC, dI) vwCl [(m0, .inr (11, [.int 0, .ref mwidth, .ref mmany, .ref mcells, .ref mmoved, .ref mtape, .int 0, .int 0, .int 0, .int 0, .int 0, .long 0, .int 0, .int bp, .int 0, .int (-1), .ref mlines, .ref mhas, .ref mtold, .ref mlaw, .ref msuit, .ref mapart, .ref mact, .ref misKept, .ref mseen, .ref mhung, .int 0, .ref mgoal, .ref mleaps, .ref mqueue, .ref mrow, .int 0, .ref mwanted, .ref mfirst, .ref moften, .int 0, .int 0, .int 0, .int 0, .int 0, .int 0, .ref mlots, .ref mthen, .long 0])), (msuit, .inl (cyI, 245, .inl f3)), (mapart, .inl (cyI, 35, .inl f4)), (mact, .inl (cyI, 400, .inl f5)), (mlines, .inl (cyI, 5, .inl (fun _ => 0))), (mhas, .inl (cyI, 20, .inl g_1)), (mtold, .inl (cyI, 35, .inl g_2)), (mlaw, .inl (cyI, 120, .inl g_3))] H := hP
  have hD : va_D A [(m0, .inr (11, [.int 0, .ref mwidth, .ref mmany, .ref mcells, .ref mmoved, .ref mtape, .int 0, .int 0, .int 0, .int 0, .int 0, .long 0, .int 0, .int bp, .int 0, .int (-1), .ref mlines, .ref mhas, .ref mtold, .ref mlaw, .ref msuit, .ref mapart, .ref mact, .ref misKept, .ref mseen, .ref mhung, .int 0, .ref mgoal, .ref mleaps, .ref mqueue, .ref mrow, .int 0, .ref mwanted, .ref mfirst, .ref moften, .int 0, .int 0, .int 0, .int 0, .int 0, .int 0, .ref mlots, .ref mthen, .long 0])), (msuit, .inl (cyI, 245, .inl f3)), (mapart, .inl (cyI, 35, .inl f4)), (mact, .inl (cyI, 400, .inl f5)), (mlines, .inl (cyI, 5, .inl (fun _ => 0))), (mhas, .inl (cyI, 20, .inl g_1)), (mtold, .inl (cyI, 35, .inl g_2)), (mlaw, .inl (cyI, 120, .inl g_3))] := hD
  refine lv_aload_n hx hb dX12_copyHall_42 rfl (lv_at hl 0 rfl) ?_
  refine va_get (D := (dC, dI)) (ci := 11) (v := .ref msuit) (C := RX12) (T := TX12) (N := 44) hx hb hts uinX12 hown hK hP 0 rfl rfl 20 (by decide) (hts _ wd_6_57) (fun _ h9 => h9) rfl dX12_copyHall_43 ?_
  refine lv_bipush (v := 49) hx hb dX12_copyHall_46 (by decide) ?_
  refine lv_iload_n hx hb dX12_copyHall_48 rfl (lv_at hl 1 rfl) ?_
  refine lv_iload_n hx hb dX12_copyHall_49 rfl (lv_at hl 2 rfl) ?_
  have hPc := hP.sub (ws' := [(msuit, .inl (cyI, 245, .inl f3))]) [1] rfl
  have hKc := hK.sub (tys' := [(cyI, .int), (cyB, .byte), (cyJ, .long), (cyZ, .boolean), (cyH, .object RX2), (cyN, .array .long)]) [0, 1, 2, 3, 4, 5] rfl
  have hDc := hD.sub (ws' := [(msuit, .inl (cyI, 245, .inl f3))]) [1] (by decide) rfl
  have hFc := va_free (wc := [(msuit, .inl (cyI, 245, .inl f3))]) hD hS hA [1] rfl
  refine va_callv (va_runS (As := [.ref msuit, .int 49, .int 4, .int 0]) (rest := []) ⟨hx, hb, hml, hown, hts⟩ (m_copyRow_suit_40 l dC dI cyI cyB cyJ cyZ cyH cyN H.size msuit f3) (va_cwS 4 hts (gdS wd_7_71 wd_7_72 wd_1_11 wd_7_73) rfl rfl rfl (by decide +kernel) ⟨Nat.le_of_ble_eq_true rfl, Nat.le_of_ble_eq_true rfl⟩) ⟨fun a U g mk q => by obtain ⟨q0, q1, qP, qK, qD⟩ := q; exact ⟨q0, q1, qP, va_K.moved (u := U) (U := U.calling g mk a) (Vm.Alike.refl U.vm) qK, qD⟩, fun U hU hW => ⟨rfl, by rw [hU], by rw [hU]; exact hPc, va_K.moved hW.alike hKc, hDc.weaken (fun _ _ _ _ => trivial)⟩⟩ rfl rfl hl.1 rfl (lv_room (Nat.le_of_ble_eq_true rfl)) dX12_copyHall_50 ⟨Nat.le_of_ble_eq_true rfl, Nat.le_of_ble_eq_true rfl⟩) hS (fun q _ h => hFc q h) hFc (fun  u t H1 locs ht hvm hw hB hz1 hk1 hS => ?_)
  obtain ⟨g_4, hP1, hD1⟩ := hB
  rw [ht] at hP1
  obtain ⟨hP, hD⟩ := va_join (wr := [(m0, .inr (11, [.int 0, .ref mwidth, .ref mmany, .ref mcells, .ref mmoved, .ref mtape, .int 0, .int 0, .int 0, .int 0, .int 0, .long 0, .int 0, .int bp, .int 0, .int (-1), .ref mlines, .ref mhas, .ref mtold, .ref mlaw, .ref msuit, .ref mapart, .ref mact, .ref misKept, .ref mseen, .ref mhung, .int 0, .ref mgoal, .ref mleaps, .ref mqueue, .ref mrow, .int 0, .ref mwanted, .ref mfirst, .ref moften, .int 0, .int 0, .int 0, .int 0, .int 0, .int 0, .ref mlots, .ref mthen, .long 0])), (mapart, .inl (cyI, 35, .inl f4)), (mact, .inl (cyI, 400, .inl f5)), (mlines, .inl (cyI, 5, .inl (fun _ => 0))), (mhas, .inl (cyI, 20, .inl g_1)), (mtold, .inl (cyI, 35, .inl g_2)), (mlaw, .inl (cyI, 120, .inl g_3))]) (w1 := [(msuit, .inl (cyI, 245, .inl g_4))]) hP hD [1] [0, 2, 3, 4, 5, 6, 7] rfl rfl (by decide) (by decide) hk1 hFc hP1 hD1
  generalize H1 = H at hP hS ⊢
  have hP : va_P (dC, dI) vwCl [(m0, .inr (11, [.int 0, .ref mwidth, .ref mmany, .ref mcells, .ref mmoved, .ref mtape, .int 0, .int 0, .int 0, .int 0, .int 0, .long 0, .int 0, .int bp, .int 0, .int (-1), .ref mlines, .ref mhas, .ref mtold, .ref mlaw, .ref msuit, .ref mapart, .ref mact, .ref misKept, .ref mseen, .ref mhung, .int 0, .ref mgoal, .ref mleaps, .ref mqueue, .ref mrow, .int 0, .ref mwanted, .ref mfirst, .ref moften, .int 0, .int 0, .int 0, .int 0, .int 0, .int 0, .ref mlots, .ref mthen, .long 0])), (mapart, .inl (cyI, 35, .inl f4)), (mact, .inl (cyI, 400, .inl f5)), (mlines, .inl (cyI, 5, .inl (fun _ => 0))), (mhas, .inl (cyI, 20, .inl g_1)), (mtold, .inl (cyI, 35, .inl g_2)), (mlaw, .inl (cyI, 120, .inl g_3)), (msuit, .inl (cyI, 245, .inl g_4))] H := hP
  have hD : va_D A [(m0, .inr (11, [.int 0, .ref mwidth, .ref mmany, .ref mcells, .ref mmoved, .ref mtape, .int 0, .int 0, .int 0, .int 0, .int 0, .long 0, .int 0, .int bp, .int 0, .int (-1), .ref mlines, .ref mhas, .ref mtold, .ref mlaw, .ref msuit, .ref mapart, .ref mact, .ref misKept, .ref mseen, .ref mhung, .int 0, .ref mgoal, .ref mleaps, .ref mqueue, .ref mrow, .int 0, .ref mwanted, .ref mfirst, .ref moften, .int 0, .int 0, .int 0, .int 0, .int 0, .int 0, .ref mlots, .ref mthen, .long 0])), (mapart, .inl (cyI, 35, .inl f4)), (mact, .inl (cyI, 400, .inl f5)), (mlines, .inl (cyI, 5, .inl (fun _ => 0))), (mhas, .inl (cyI, 20, .inl g_1)), (mtold, .inl (cyI, 35, .inl g_2)), (mlaw, .inl (cyI, 120, .inl g_3)), (msuit, .inl (cyI, 245, .inl g_4))] := hD
  refine lv_aload_n hx hb dX12_copyHall_53 rfl (lv_at hl 0 rfl) ?_
  refine va_get (D := (dC, dI)) (ci := 11) (v := .ref mapart) (C := RX12) (T := TX12) (N := 44) hx hb hts uinX12 hown hK hP 0 rfl rfl 21 (by decide) (hts _ wd_6_58) (fun _ h9 => h9) rfl dX12_copyHall_54 ?_
  refine lv_bipush (v := 7) hx hb dX12_copyHall_57 (by decide) ?_
  refine lv_iload_n hx hb dX12_copyHall_59 rfl (lv_at hl 1 rfl) ?_
  refine lv_iload_n hx hb dX12_copyHall_60 rfl (lv_at hl 2 rfl) ?_
  have hPc := hP.sub (ws' := [(mapart, .inl (cyI, 35, .inl f4))]) [1] rfl
  have hKc := hK.sub (tys' := [(cyI, .int), (cyB, .byte), (cyJ, .long), (cyZ, .boolean), (cyH, .object RX2), (cyN, .array .long)]) [0, 1, 2, 3, 4, 5] rfl
  have hDc := hD.sub (ws' := [(mapart, .inl (cyI, 35, .inl f4))]) [1] (by decide) rfl
  have hFc := va_free (wc := [(mapart, .inl (cyI, 35, .inl f4))]) hD hS hA [1] rfl
  refine va_callv (va_runS (As := [.ref mapart, .int 7, .int 4, .int 0]) (rest := []) ⟨hx, hb, hml, hown, hts⟩ (m_copyRow_told_40 l dC dI cyI cyB cyJ cyZ cyH cyN H.size mapart f4) (va_cwS 4 hts (gdS wd_7_71 wd_7_72 wd_1_11 wd_7_73) rfl rfl rfl (by decide +kernel) ⟨Nat.le_of_ble_eq_true rfl, Nat.le_of_ble_eq_true rfl⟩) ⟨fun a U g mk q => by obtain ⟨q0, q1, qP, qK, qD⟩ := q; exact ⟨q0, q1, qP, va_K.moved (u := U) (U := U.calling g mk a) (Vm.Alike.refl U.vm) qK, qD⟩, fun U hU hW => ⟨rfl, by rw [hU], by rw [hU]; exact hPc, va_K.moved hW.alike hKc, hDc.weaken (fun _ _ _ _ => trivial)⟩⟩ rfl rfl hl.1 rfl (lv_room (Nat.le_of_ble_eq_true rfl)) dX12_copyHall_61 ⟨Nat.le_of_ble_eq_true rfl, Nat.le_of_ble_eq_true rfl⟩) hS (fun q _ h => hFc q h) hFc (fun  u t H1 locs ht hvm hw hB hz1 hk1 hS => ?_)
  obtain ⟨g_5, hP1, hD1⟩ := hB
  rw [ht] at hP1
  obtain ⟨hP, hD⟩ := va_join (wr := [(m0, .inr (11, [.int 0, .ref mwidth, .ref mmany, .ref mcells, .ref mmoved, .ref mtape, .int 0, .int 0, .int 0, .int 0, .int 0, .long 0, .int 0, .int bp, .int 0, .int (-1), .ref mlines, .ref mhas, .ref mtold, .ref mlaw, .ref msuit, .ref mapart, .ref mact, .ref misKept, .ref mseen, .ref mhung, .int 0, .ref mgoal, .ref mleaps, .ref mqueue, .ref mrow, .int 0, .ref mwanted, .ref mfirst, .ref moften, .int 0, .int 0, .int 0, .int 0, .int 0, .int 0, .ref mlots, .ref mthen, .long 0])), (mact, .inl (cyI, 400, .inl f5)), (mlines, .inl (cyI, 5, .inl (fun _ => 0))), (mhas, .inl (cyI, 20, .inl g_1)), (mtold, .inl (cyI, 35, .inl g_2)), (mlaw, .inl (cyI, 120, .inl g_3)), (msuit, .inl (cyI, 245, .inl g_4))]) (w1 := [(mapart, .inl (cyI, 35, .inl g_5))]) hP hD [1] [0, 2, 3, 4, 5, 6, 7] rfl rfl (by decide) (by decide) hk1 hFc hP1 hD1
  generalize H1 = H at hP hS ⊢
  have hP : va_P (dC, dI) vwCl [(m0, .inr (11, [.int 0, .ref mwidth, .ref mmany, .ref mcells, .ref mmoved, .ref mtape, .int 0, .int 0, .int 0, .int 0, .int 0, .long 0, .int 0, .int bp, .int 0, .int (-1), .ref mlines, .ref mhas, .ref mtold, .ref mlaw, .ref msuit, .ref mapart, .ref mact, .ref misKept, .ref mseen, .ref mhung, .int 0, .ref mgoal, .ref mleaps, .ref mqueue, .ref mrow, .int 0, .ref mwanted, .ref mfirst, .ref moften, .int 0, .int 0, .int 0, .int 0, .int 0, .int 0, .ref mlots, .ref mthen, .long 0])), (mact, .inl (cyI, 400, .inl f5)), (mlines, .inl (cyI, 5, .inl (fun _ => 0))), (mhas, .inl (cyI, 20, .inl g_1)), (mtold, .inl (cyI, 35, .inl g_2)), (mlaw, .inl (cyI, 120, .inl g_3)), (msuit, .inl (cyI, 245, .inl g_4)), (mapart, .inl (cyI, 35, .inl g_5))] H := hP
  have hD : va_D A [(m0, .inr (11, [.int 0, .ref mwidth, .ref mmany, .ref mcells, .ref mmoved, .ref mtape, .int 0, .int 0, .int 0, .int 0, .int 0, .long 0, .int 0, .int bp, .int 0, .int (-1), .ref mlines, .ref mhas, .ref mtold, .ref mlaw, .ref msuit, .ref mapart, .ref mact, .ref misKept, .ref mseen, .ref mhung, .int 0, .ref mgoal, .ref mleaps, .ref mqueue, .ref mrow, .int 0, .ref mwanted, .ref mfirst, .ref moften, .int 0, .int 0, .int 0, .int 0, .int 0, .int 0, .ref mlots, .ref mthen, .long 0])), (mact, .inl (cyI, 400, .inl f5)), (mlines, .inl (cyI, 5, .inl (fun _ => 0))), (mhas, .inl (cyI, 20, .inl g_1)), (mtold, .inl (cyI, 35, .inl g_2)), (mlaw, .inl (cyI, 120, .inl g_3)), (msuit, .inl (cyI, 245, .inl g_4)), (mapart, .inl (cyI, 35, .inl g_5))] := hD
  refine lv_aload_n hx hb dX12_copyHall_64 rfl (lv_at hl 0 rfl) ?_
  refine va_get (D := (dC, dI)) (ci := 11) (v := .ref mact) (C := RX12) (T := TX12) (N := 44) hx hb hts uinX12 hown hK hP 0 rfl rfl 22 (by decide) (hts _ wd_6_59) (fun _ h9 => h9) rfl dX12_copyHall_65 ?_
  refine lv_bipush (v := 80) hx hb dX12_copyHall_68 (by decide) ?_
  refine lv_iload_n hx hb dX12_copyHall_70 rfl (lv_at hl 1 rfl) ?_
  refine lv_iload_n hx hb dX12_copyHall_71 rfl (lv_at hl 2 rfl) ?_
  have hPc := hP.sub (ws' := [(mact, .inl (cyI, 400, .inl f5))]) [1] rfl
  have hKc := hK.sub (tys' := [(cyI, .int), (cyB, .byte), (cyJ, .long), (cyZ, .boolean), (cyH, .object RX2), (cyN, .array .long)]) [0, 1, 2, 3, 4, 5] rfl
  have hDc := hD.sub (ws' := [(mact, .inl (cyI, 400, .inl f5))]) [1] (by decide) rfl
  have hFc := va_free (wc := [(mact, .inl (cyI, 400, .inl f5))]) hD hS hA [1] rfl
  refine va_callv (va_runS (As := [.ref mact, .int 80, .int 4, .int 0]) (rest := []) ⟨hx, hb, hml, hown, hts⟩ (m_copyRow_act_40 l dC dI cyI cyB cyJ cyZ cyH cyN H.size mact f5) (va_cwS 4 hts (gdS wd_7_71 wd_7_72 wd_1_11 wd_7_73) rfl rfl rfl (by decide +kernel) ⟨Nat.le_of_ble_eq_true rfl, Nat.le_of_ble_eq_true rfl⟩) ⟨fun a U g mk q => by obtain ⟨q0, q1, qP, qK, qD⟩ := q; exact ⟨q0, q1, qP, va_K.moved (u := U) (U := U.calling g mk a) (Vm.Alike.refl U.vm) qK, qD⟩, fun U hU hW => ⟨rfl, by rw [hU], by rw [hU]; exact hPc, va_K.moved hW.alike hKc, hDc.weaken (fun _ _ _ _ => trivial)⟩⟩ rfl rfl hl.1 rfl (lv_room (Nat.le_of_ble_eq_true rfl)) dX12_copyHall_72 ⟨Nat.le_of_ble_eq_true rfl, Nat.le_of_ble_eq_true rfl⟩) hS (fun q _ h => hFc q h) hFc (fun  u t H1 locs ht hvm hw hB hz1 hk1 hS => ?_)
  obtain ⟨g_6, hP1, hD1⟩ := hB
  rw [ht] at hP1
  obtain ⟨hP, hD⟩ := va_join (wr := [(m0, .inr (11, [.int 0, .ref mwidth, .ref mmany, .ref mcells, .ref mmoved, .ref mtape, .int 0, .int 0, .int 0, .int 0, .int 0, .long 0, .int 0, .int bp, .int 0, .int (-1), .ref mlines, .ref mhas, .ref mtold, .ref mlaw, .ref msuit, .ref mapart, .ref mact, .ref misKept, .ref mseen, .ref mhung, .int 0, .ref mgoal, .ref mleaps, .ref mqueue, .ref mrow, .int 0, .ref mwanted, .ref mfirst, .ref moften, .int 0, .int 0, .int 0, .int 0, .int 0, .int 0, .ref mlots, .ref mthen, .long 0])), (mlines, .inl (cyI, 5, .inl (fun _ => 0))), (mhas, .inl (cyI, 20, .inl g_1)), (mtold, .inl (cyI, 35, .inl g_2)), (mlaw, .inl (cyI, 120, .inl g_3)), (msuit, .inl (cyI, 245, .inl g_4)), (mapart, .inl (cyI, 35, .inl g_5))]) (w1 := [(mact, .inl (cyI, 400, .inl g_6))]) hP hD [1] [0, 2, 3, 4, 5, 6, 7] rfl rfl (by decide) (by decide) hk1 hFc hP1 hD1
  generalize H1 = H at hP hS ⊢
  have hP : va_P (dC, dI) vwCl [(m0, .inr (11, [.int 0, .ref mwidth, .ref mmany, .ref mcells, .ref mmoved, .ref mtape, .int 0, .int 0, .int 0, .int 0, .int 0, .long 0, .int 0, .int bp, .int 0, .int (-1), .ref mlines, .ref mhas, .ref mtold, .ref mlaw, .ref msuit, .ref mapart, .ref mact, .ref misKept, .ref mseen, .ref mhung, .int 0, .ref mgoal, .ref mleaps, .ref mqueue, .ref mrow, .int 0, .ref mwanted, .ref mfirst, .ref moften, .int 0, .int 0, .int 0, .int 0, .int 0, .int 0, .ref mlots, .ref mthen, .long 0])), (mlines, .inl (cyI, 5, .inl (fun _ => 0))), (mhas, .inl (cyI, 20, .inl g_1)), (mtold, .inl (cyI, 35, .inl g_2)), (mlaw, .inl (cyI, 120, .inl g_3)), (msuit, .inl (cyI, 245, .inl g_4)), (mapart, .inl (cyI, 35, .inl g_5)), (mact, .inl (cyI, 400, .inl g_6))] H := hP
  have hD : va_D A [(m0, .inr (11, [.int 0, .ref mwidth, .ref mmany, .ref mcells, .ref mmoved, .ref mtape, .int 0, .int 0, .int 0, .int 0, .int 0, .long 0, .int 0, .int bp, .int 0, .int (-1), .ref mlines, .ref mhas, .ref mtold, .ref mlaw, .ref msuit, .ref mapart, .ref mact, .ref misKept, .ref mseen, .ref mhung, .int 0, .ref mgoal, .ref mleaps, .ref mqueue, .ref mrow, .int 0, .ref mwanted, .ref mfirst, .ref moften, .int 0, .int 0, .int 0, .int 0, .int 0, .int 0, .ref mlots, .ref mthen, .long 0])), (mlines, .inl (cyI, 5, .inl (fun _ => 0))), (mhas, .inl (cyI, 20, .inl g_1)), (mtold, .inl (cyI, 35, .inl g_2)), (mlaw, .inl (cyI, 120, .inl g_3)), (msuit, .inl (cyI, 245, .inl g_4)), (mapart, .inl (cyI, 35, .inl g_5)), (mact, .inl (cyI, 400, .inl g_6))] := hD
  have hP9 := hP.sub (ws' := [(m0, .inr (11, [.int 0, .ref mwidth, .ref mmany, .ref mcells, .ref mmoved, .ref mtape, .int 0, .int 0, .int 0, .int 0, .int 0, .long 0, .int 0, .int bp, .int 0, .int (-1), .ref mlines, .ref mhas, .ref mtold, .ref mlaw, .ref msuit, .ref mapart, .ref mact, .ref misKept, .ref mseen, .ref mhung, .int 0, .ref mgoal, .ref mleaps, .ref mqueue, .ref mrow, .int 0, .ref mwanted, .ref mfirst, .ref moften, .int 0, .int 0, .int 0, .int 0, .int 0, .int 0, .ref mlots, .ref mthen, .long 0])), (mlines, .inl (cyI, 5, .inl (fun _ => 0)))]) [0, 1] rfl
  have hD9 := hD.sub (ws' := [(m0, .inr (11, [.int 0, .ref mwidth, .ref mmany, .ref mcells, .ref mmoved, .ref mtape, .int 0, .int 0, .int 0, .int 0, .int 0, .long 0, .int 0, .int bp, .int 0, .int (-1), .ref mlines, .ref mhas, .ref mtold, .ref mlaw, .ref msuit, .ref mapart, .ref mact, .ref misKept, .ref mseen, .ref mhung, .int 0, .ref mgoal, .ref mleaps, .ref mqueue, .ref mrow, .int 0, .ref mwanted, .ref mfirst, .ref moften, .int 0, .int 0, .int 0, .int 0, .int 0, .int 0, .ref mlots, .ref mthen, .long 0])), (mlines, .inl (cyI, 5, .inl (fun _ => 0)))]) [0, 1] (by decide) rfl
  exact W.vret hx hb hr (fun t ht hW => ⟨⟨(), rfl, trivial, ⟨by rw [ht]; exact hP9, hD9⟩⟩, hS.F ht⟩) hS.2.2 dX12_copyHall_75

/- X12_copyRow -/
set_option maxHeartbeats 4000000 in
set_option maxRecDepth 100000 in
theorem m_copyRow_lines_01 (l : Launch) (dC : Nat → ClassId) (dI : Nat → Nat → Nat) (cyI cyB cyJ cyZ cyH cyN : ClassId) (sz : Nat) (h0 : Nat) : Met l yX12_copyRow (wk yX12_copyRow cX12_copyRow 5 none) ({ frames := 1, cells := 0, slots := 0, locals := 60 }) (va_Pc [.ref h0, .int 1, .int 0, .int 1] (fun U => U.heap.size = sz ∧ va_P (dC, dI) vwCl [(h0, .inl (cyI, 5, .inl (fun _ => 0)))] U.heap ∧ va_K (dC, dI) vwCl [(cyI, .int), (cyB, .byte), (cyJ, .long), (cyZ, .boolean), (cyH, .object RX2), (cyN, .array .long)] U ∧ va_D (fun _ => True) [(h0, .inl (cyI, 5, .inl (fun _ => 0)))])) (va_Qv (fun _ : Unit => True) (fun (_ : Unit) (t : State) => va_P (dC, dI) vwCl [(h0, .inl (cyI, 5, .inl (fun _ => 0)))] t.heap ∧ va_D (va_A [(h0, .inl (cyI, 5, .inl (fun _ => 0)))] sz) [(h0, .inl (cyI, 5, .inl (fun _ => 0)))]) (va_A [(h0, .inl (cyI, 5, .inl (fun _ => 0)))] sz)) 0 0 (va_A [(h0, .inl (cyI, 5, .inl (fun _ => 0)))] sz) := by
  refine Met.ofW (cc := cX12_copyRow) (maxL := 5) (ret := none) (by decide) rfl ?_
  intro p e s m args below meth c s₁ B hml hv
  obtain ⟨rfl, hsz, hP, hK, hD0⟩ := hv
  have hx := B.exec
  have hb := B.bytes
  have hr := B.returns
  have hts : ∀ w ∈ uU, w.before ([.ref h0, .int 1, .int 0, .int 1] : List Value).toArray s = true := fun w h => atoms_spec (ws := wk yX12_copyRow cX12_copyRow 5 none) B.pre w (List.mem_cons_of_mem _ h)
  have hown : s.vm.findClass RX12 = some m.cls := findClass_of_methodNamed B.named
  have hlocks := B.notSynchronized
  subst hsz
  have hD := hD0.self (sz := s.heap.size)
  generalize hAe : va_A [(h0, .inl (cyI, 5, .inl (fun _ => 0)))] s.heap.size = A at hD ⊢
  have hA : ∀ q : Nat, s.heap.size ≤ q → A q := fun q h => by rw [← hAe]; exact Or.inr h
  have hS : va_S A s.heap s.heap [] := va_S.rf
  have hP : va_P (dC, dI) vwCl [(h0, .inl (cyI, 5, .inl (fun _ => 0)))] s.heap := hP
  have hl := lv_entry ([.ref h0, .int 1, .int 0, .int 1]) (n := 5) (Nat.le_of_ble_eq_true rfl)
  rw [lg_entry_eq]
  generalize (lg_sl ([.ref h0, .int 1, .int 0, .int 1]) ++ List.replicate (5 - (lg_sl ([.ref h0, .int 1, .int 0, .int 1])).length) Slot.unset).toArray = ls at hl ⊢
  have hl : lv_has ls 5 [(0, .ref h0), (1, .int 1), (2, .int 0), (3, .int 1)] := hl
  obtain ⟨H, hHe⟩ : ∃ H, H = s.heap := ⟨_, rfl⟩
  have hP : va_P (dC, dI) vwCl [(h0, .inl (cyI, 5, .inl (fun _ => 0)))] H := by rw [hHe]; exact hP
  have hS : va_S A s.heap H [] := by rw [hHe]; exact hS
  refine cv_heap hHe ?_
  refine lv_iconst (v := 0) hx hb dX12_copyRow_0 (by decide) ?_
  refine lv_istore (lv' := [(4, .int 0), (0, .ref h0), (1, .int 1), (2, .int 0), (3, .int 1)]) hx hb dX12_copyRow_1 hl (by decide) rfl (fun ls hl => ?_)
  refine lv_iload hx hb dX12_copyRow_3 (lv_at hl 0 rfl) ?_
  refine lv_iload_n hx hb dX12_copyRow_5 rfl (lv_at hl 2 rfl) ?_
  refine lv_icmp_ge (tgt := 31) hx hb dX12_copyRow_6 (by decide) (fun c_1 => absurd c_1 (by decide)) (fun _ => ?_)
  refine lv_aload_n hx hb dX12_copyRow_9 rfl (lv_at hl 1 rfl) ?_
  refine lv_iload_n hx hb dX12_copyRow_10 rfl (lv_at hl 2 rfl) ?_
  refine lv_iload_n hx hb dX12_copyRow_11 rfl (lv_at hl 4 rfl) ?_
  refine lv_imul hx hb dX12_copyRow_12 ?_
  refine cv_topi (b := 1) (by decide) ?_
  refine lv_iload hx hb dX12_copyRow_13 (lv_at hl 0 rfl) ?_
  refine lv_iadd hx hb dX12_copyRow_15 ?_
  refine cv_topi (b := 1) (by decide) ?_
  refine lv_aload_n hx hb dX12_copyRow_16 rfl (lv_at hl 1 rfl) ?_
  refine lv_iload_n hx hb dX12_copyRow_17 rfl (lv_at hl 2 rfl) ?_
  refine lv_iload_n hx hb dX12_copyRow_18 rfl (lv_at hl 3 rfl) ?_
  refine lv_imul hx hb dX12_copyRow_19 ?_
  refine cv_topi (b := 0) (by decide) ?_
  refine lv_iload hx hb dX12_copyRow_20 (lv_at hl 0 rfl) ?_
  refine lv_iadd hx hb dX12_copyRow_22 ?_
  refine cv_topi (b := 0) (by decide) ?_
  refine va_iald hx hb hK hP 0 0 rfl rfl (vp_in_iff.mpr (by decide)) dX12_copyRow_23 ?_
  refine cv_topi (b := 0) (rfl) ?_
  refine va_iast hx hb hK hP hD hS 0 0 rfl rfl (vp_in_iff.mpr (by decide)) dX12_copyRow_24 (fun H locs hP hD hS => ?_)
  rw [cv_upd0] at hP hD
  have hP : va_P (dC, dI) vwCl [(h0, .inl (cyI, 5, .inl (fun _ => 0)))] H := hP
  have hD : va_D A [(h0, .inl (cyI, 5, .inl (fun _ => 0)))] := hD
  refine lv_iinc (v := 1) (lv' := [(4, .int 1), (0, .ref h0), (1, .int 1), (2, .int 0), (3, .int 1)]) hx hb dX12_copyRow_25 hl (k := 0) rfl (by decide) (by decide) rfl (fun ls hl => ?_)
  refine lv_goto (tgt := 3) hx hb dX12_copyRow_28 (by decide) ?_
  refine lv_iload hx hb dX12_copyRow_3 (lv_at hl 0 rfl) ?_
  refine lv_iload_n hx hb dX12_copyRow_5 rfl (lv_at hl 2 rfl) ?_
  refine lv_icmp_ge (tgt := 31) hx hb dX12_copyRow_6 (by decide) (fun _ => ?_) (fun c_2 => absurd c_2 (by decide))
  have hP9 := hP.sub (ws' := [(h0, .inl (cyI, 5, .inl (fun _ => 0)))]) [0] rfl
  have hD9 := hD.sub (ws' := [(h0, .inl (cyI, 5, .inl (fun _ => 0)))]) [0] (by decide) rfl
  exact W.vret hx hb hr (fun t ht hW => ⟨⟨(), rfl, trivial, ⟨by rw [ht]; exact hP9, hD9⟩⟩, hS.F ht⟩) hS.2.2 dX12_copyRow_31

/- X12_copyRow -/
set_option maxHeartbeats 4000000 in
set_option maxRecDepth 100000 in
theorem m_copyRow_has_01 (l : Launch) (dC : Nat → ClassId) (dI : Nat → Nat → Nat) (cyI cyB cyJ cyZ cyH cyN : ClassId) (sz : Nat) (h0 : Nat) (f : Nat → Int32) : Met l yX12_copyRow (wk yX12_copyRow cX12_copyRow 5 none) ({ frames := 1, cells := 0, slots := 0, locals := 60 }) (va_Pc [.ref h0, .int 4, .int 0, .int 1] (fun U => U.heap.size = sz ∧ va_P (dC, dI) vwCl [(h0, .inl (cyI, 20, .inl f))] U.heap ∧ va_K (dC, dI) vwCl [(cyI, .int), (cyB, .byte), (cyJ, .long), (cyZ, .boolean), (cyH, .object RX2), (cyN, .array .long)] U ∧ va_D (fun _ => True) [(h0, .inl (cyI, 20, .inl f))])) (va_Qv (fun _ : Unit => True) (fun (_ : Unit) (t : State) => ∃ g : Nat → Int32, va_P (dC, dI) vwCl [(h0, .inl (cyI, 20, .inl g))] t.heap ∧ va_D (va_A [(h0, .inl (cyI, 20, .inl f))] sz) [(h0, .inl (cyI, 20, .inl g))]) (va_A [(h0, .inl (cyI, 20, .inl f))] sz)) 0 0 (va_A [(h0, .inl (cyI, 20, .inl f))] sz) := by
  refine Met.ofW (cc := cX12_copyRow) (maxL := 5) (ret := none) (by decide) rfl ?_
  intro p e s m args below meth c s₁ B hml hv
  obtain ⟨rfl, hsz, hP, hK, hD0⟩ := hv
  have hx := B.exec
  have hb := B.bytes
  have hr := B.returns
  have hts : ∀ w ∈ uU, w.before ([.ref h0, .int 4, .int 0, .int 1] : List Value).toArray s = true := fun w h => atoms_spec (ws := wk yX12_copyRow cX12_copyRow 5 none) B.pre w (List.mem_cons_of_mem _ h)
  have hown : s.vm.findClass RX12 = some m.cls := findClass_of_methodNamed B.named
  have hlocks := B.notSynchronized
  subst hsz
  have hD := hD0.self (sz := s.heap.size)
  generalize hAe : va_A [(h0, .inl (cyI, 20, .inl f))] s.heap.size = A at hD ⊢
  have hA : ∀ q : Nat, s.heap.size ≤ q → A q := fun q h => by rw [← hAe]; exact Or.inr h
  have hS : va_S A s.heap s.heap [] := va_S.rf
  have hP : va_P (dC, dI) vwCl [(h0, .inl (cyI, 20, .inl f))] s.heap := hP
  have hl := lv_entry ([.ref h0, .int 4, .int 0, .int 1]) (n := 5) (Nat.le_of_ble_eq_true rfl)
  rw [lg_entry_eq]
  generalize (lg_sl ([.ref h0, .int 4, .int 0, .int 1]) ++ List.replicate (5 - (lg_sl ([.ref h0, .int 4, .int 0, .int 1])).length) Slot.unset).toArray = ls at hl ⊢
  have hl : lv_has ls 5 [(0, .ref h0), (1, .int 4), (2, .int 0), (3, .int 1)] := hl
  obtain ⟨H, hHe⟩ : ∃ H, H = s.heap := ⟨_, rfl⟩
  have hP : va_P (dC, dI) vwCl [(h0, .inl (cyI, 20, .inl f))] H := by rw [hHe]; exact hP
  have hS : va_S A s.heap H [] := by rw [hHe]; exact hS
  refine cv_heap hHe ?_
  refine lv_iconst (v := 0) hx hb dX12_copyRow_0 (by decide) ?_
  refine lv_istore (lv' := [(4, .int 0), (0, .ref h0), (1, .int 4), (2, .int 0), (3, .int 1)]) hx hb dX12_copyRow_1 hl (by decide) rfl (fun ls hl => ?_)
  have key : ∀ (Q : State → Prop) (R : Room), (∀ (f_1 : Nat → Int32) (H : Heap) (locs : List Loc) (ls : Array Slot), va_P (dC, dI) vwCl [(h0, .inl (cyI, 20, .inl f_1))] H → va_D A [(h0, .inl (cyI, 20, .inl f_1))] → va_S A s.heap H locs → lv_has ls 5 [(4, .int 4), (0, .ref h0), (1, .int 4), (2, .int 0), (3, .int 1)] → W p l e R s m ([.ref h0, .int 4, .int 0, .int 1] : List Value).toArray below meth c H locs 0 0 Q (F0 m 31 ls [])) → ∀ (n k : Nat) (f_1 : Nat → Int32) (H : Heap) (locs : List Loc) (ls : Array Slot), k + n = 4 → va_P (dC, dI) vwCl [(h0, .inl (cyI, 20, .inl f_1))] H → va_D A [(h0, .inl (cyI, 20, .inl f_1))] → va_S A s.heap H locs → lv_has ls 5 [(4, .int (nI k)), (0, .ref h0), (1, .int 4), (2, .int 0), (3, .int 1)] → W p l e R s m ([.ref h0, .int 4, .int 0, .int 1] : List Value).toArray below meth c H locs 0 0 Q (F0 m 3 ls []) := by
    intro Q R kx n
    induction n with
    | zero =>
      intro k f_1 H locs ls hn hP hD hS hl
      have hkN : k = 4 := by omega
      have hl : lv_has ls 5 [(4, .int 4), (0, .ref h0), (1, .int 4), (2, .int 0), (3, .int 1)] := by rw [hkN] at hl; exact hl
      refine lv_iload hx hb dX12_copyRow_3 (lv_at hl 0 rfl) ?_
      refine lv_iload_n hx hb dX12_copyRow_5 rfl (lv_at hl 2 rfl) ?_
      refine lv_icmp_ge (tgt := 31) hx hb dX12_copyRow_6 (by decide) (fun _ => ?_) (fun c_2 => absurd c_2 (by decide))
      exact kx f_1 _ _ _ hP hD hS (lv_sub hl [0, 1, 2, 3, 4] rfl)
    | succ n ih =>
      intro k f_1 H locs ls hn hP hD hS hl
      have hk9 : (nI k).toInt = (k : Int) := nI_toInt (by omega)
      refine lv_iload hx hb dX12_copyRow_3 (lv_at hl 0 rfl) ?_
      refine lv_iload_n hx hb dX12_copyRow_5 rfl (lv_at hl 2 rfl) ?_
      refine lv_icmp_ge (tgt := 31) hx hb dX12_copyRow_6 (by decide) (fun c_3 => absurd (show 4 ≤ (nI k).toInt from cv_le c_3) (by omega)) (fun _ => ?_)
      refine lv_aload_n hx hb dX12_copyRow_9 rfl (lv_at hl 1 rfl) ?_
      refine lv_iload_n hx hb dX12_copyRow_10 rfl (lv_at hl 2 rfl) ?_
      refine lv_iload_n hx hb dX12_copyRow_11 rfl (lv_at hl 4 rfl) ?_
      refine lv_imul hx hb dX12_copyRow_12 ?_
      refine cv_topi (b := 4) (by decide) ?_
      refine lv_iload hx hb dX12_copyRow_13 (lv_at hl 0 rfl) ?_
      refine lv_iadd hx hb dX12_copyRow_15 ?_
      refine lv_topi (fun x_4 ex_4 => ?_)
      have fx_4 : x_4.toInt = 4 + (nI k).toInt := by rw [ex_4]; exact cv_addI (by have : (4 : Int32).toInt = 4 := rfl; omega) (by have : (4 : Int32).toInt = 4 := rfl; omega)
      refine lv_aload_n hx hb dX12_copyRow_16 rfl (lv_at hl 1 rfl) ?_
      refine lv_iload_n hx hb dX12_copyRow_17 rfl (lv_at hl 2 rfl) ?_
      refine lv_iload_n hx hb dX12_copyRow_18 rfl (lv_at hl 3 rfl) ?_
      refine lv_imul hx hb dX12_copyRow_19 ?_
      refine cv_topi (b := 0) (by decide) ?_
      refine lv_iload hx hb dX12_copyRow_20 (lv_at hl 0 rfl) ?_
      refine lv_iadd hx hb dX12_copyRow_22 ?_
      refine lv_topi (fun x_5 ex_5 => ?_)
      have fx_5 : x_5.toInt = 0 + (nI k).toInt := by rw [ex_5]; exact cv_addI (by have : (0 : Int32).toInt = 0 := rfl; omega) (by have : (0 : Int32).toInt = 0 := rfl; omega)
      refine va_iald hx hb hK hP 0 0 rfl rfl (vp_in_iff.mpr (by omega)) dX12_copyRow_23 ?_
      refine lv_topi (fun x_6 ex_6 => ?_)
      refine va_iast hx hb hK hP hD hS 0 0 rfl rfl (vp_in_iff.mpr (by omega)) dX12_copyRow_24 (fun H locs hP hD hS => ?_)
      obtain ⟨f_7, ef_7⟩ : ∃ z9 : Nat → Int32, z9 = upd f_1 x_4.toNatClampNeg x_6 := ⟨_, rfl⟩
      rw [← ef_7] at hP hD
      have hP : va_P (dC, dI) vwCl [(h0, .inl (cyI, 20, .inl f_7))] H := hP
      have hD : va_D A [(h0, .inl (cyI, 20, .inl f_7))] := hD
      obtain ⟨x_8, ex_8⟩ : ∃ y : Int32, y = (nI k) + 1 := ⟨_, rfl⟩
      refine lv_iinc (v := x_8) (lv' := [(4, .int x_8), (0, .ref h0), (1, .int 4), (2, .int 0), (3, .int 1)]) hx hb dX12_copyRow_25 hl (k := 0) rfl (by rw [ex_8]; rfl) (by decide) rfl (fun ls hl => ?_)
      refine lv_goto (tgt := 3) hx hb dX12_copyRow_28 (by decide) ?_
      have hl : lv_has ls 5 [(4, .int (nI (k + 1))), (0, .ref h0), (1, .int 4), (2, .int 0), (3, .int 1)] := by rw [← nI_1, ← ex_8]; exact hl
      exact ih (k + 1) f_7 _ _ _ (by omega) hP hD hS (lv_sub hl [0, 1, 2, 3, 4] rfl)
  refine key _ _ (fun f_9 H locs ls hP hD hS hl => ?_) 4 0 f _ _ _ (by omega) hP hD hS hl
  have hP9 := hP.sub (ws' := [(h0, .inl (cyI, 20, .inl f_9))]) [0] rfl
  have hD9 := hD.sub (ws' := [(h0, .inl (cyI, 20, .inl f_9))]) [0] (by decide) rfl
  exact W.vret hx hb hr (fun t ht hW => ⟨⟨(), rfl, trivial, ⟨f_9, by rw [ht]; exact hP9, hD9⟩⟩, hS.F ht⟩) hS.2.2 dX12_copyRow_31

/- X12_copyRow -/
set_option maxHeartbeats 4000000 in
set_option maxRecDepth 100000 in
theorem m_copyRow_told_01 (l : Launch) (dC : Nat → ClassId) (dI : Nat → Nat → Nat) (cyI cyB cyJ cyZ cyH cyN : ClassId) (sz : Nat) (h0 : Nat) (f : Nat → Int32) : Met l yX12_copyRow (wk yX12_copyRow cX12_copyRow 5 none) ({ frames := 1, cells := 0, slots := 0, locals := 60 }) (va_Pc [.ref h0, .int 7, .int 0, .int 1] (fun U => U.heap.size = sz ∧ va_P (dC, dI) vwCl [(h0, .inl (cyI, 35, .inl f))] U.heap ∧ va_K (dC, dI) vwCl [(cyI, .int), (cyB, .byte), (cyJ, .long), (cyZ, .boolean), (cyH, .object RX2), (cyN, .array .long)] U ∧ va_D (fun _ => True) [(h0, .inl (cyI, 35, .inl f))])) (va_Qv (fun _ : Unit => True) (fun (_ : Unit) (t : State) => ∃ g : Nat → Int32, va_P (dC, dI) vwCl [(h0, .inl (cyI, 35, .inl g))] t.heap ∧ va_D (va_A [(h0, .inl (cyI, 35, .inl f))] sz) [(h0, .inl (cyI, 35, .inl g))]) (va_A [(h0, .inl (cyI, 35, .inl f))] sz)) 0 0 (va_A [(h0, .inl (cyI, 35, .inl f))] sz) := by
  refine Met.ofW (cc := cX12_copyRow) (maxL := 5) (ret := none) (by decide) rfl ?_
  intro p e s m args below meth c s₁ B hml hv
  obtain ⟨rfl, hsz, hP, hK, hD0⟩ := hv
  have hx := B.exec
  have hb := B.bytes
  have hr := B.returns
  have hts : ∀ w ∈ uU, w.before ([.ref h0, .int 7, .int 0, .int 1] : List Value).toArray s = true := fun w h => atoms_spec (ws := wk yX12_copyRow cX12_copyRow 5 none) B.pre w (List.mem_cons_of_mem _ h)
  have hown : s.vm.findClass RX12 = some m.cls := findClass_of_methodNamed B.named
  have hlocks := B.notSynchronized
  subst hsz
  have hD := hD0.self (sz := s.heap.size)
  generalize hAe : va_A [(h0, .inl (cyI, 35, .inl f))] s.heap.size = A at hD ⊢
  have hA : ∀ q : Nat, s.heap.size ≤ q → A q := fun q h => by rw [← hAe]; exact Or.inr h
  have hS : va_S A s.heap s.heap [] := va_S.rf
  have hP : va_P (dC, dI) vwCl [(h0, .inl (cyI, 35, .inl f))] s.heap := hP
  have hl := lv_entry ([.ref h0, .int 7, .int 0, .int 1]) (n := 5) (Nat.le_of_ble_eq_true rfl)
  rw [lg_entry_eq]
  generalize (lg_sl ([.ref h0, .int 7, .int 0, .int 1]) ++ List.replicate (5 - (lg_sl ([.ref h0, .int 7, .int 0, .int 1])).length) Slot.unset).toArray = ls at hl ⊢
  have hl : lv_has ls 5 [(0, .ref h0), (1, .int 7), (2, .int 0), (3, .int 1)] := hl
  obtain ⟨H, hHe⟩ : ∃ H, H = s.heap := ⟨_, rfl⟩
  have hP : va_P (dC, dI) vwCl [(h0, .inl (cyI, 35, .inl f))] H := by rw [hHe]; exact hP
  have hS : va_S A s.heap H [] := by rw [hHe]; exact hS
  refine cv_heap hHe ?_
  refine lv_iconst (v := 0) hx hb dX12_copyRow_0 (by decide) ?_
  refine lv_istore (lv' := [(4, .int 0), (0, .ref h0), (1, .int 7), (2, .int 0), (3, .int 1)]) hx hb dX12_copyRow_1 hl (by decide) rfl (fun ls hl => ?_)
  have key : ∀ (Q : State → Prop) (R : Room), (∀ (f_1 : Nat → Int32) (H : Heap) (locs : List Loc) (ls : Array Slot), va_P (dC, dI) vwCl [(h0, .inl (cyI, 35, .inl f_1))] H → va_D A [(h0, .inl (cyI, 35, .inl f_1))] → va_S A s.heap H locs → lv_has ls 5 [(4, .int 7), (0, .ref h0), (1, .int 7), (2, .int 0), (3, .int 1)] → W p l e R s m ([.ref h0, .int 7, .int 0, .int 1] : List Value).toArray below meth c H locs 0 0 Q (F0 m 31 ls [])) → ∀ (n k : Nat) (f_1 : Nat → Int32) (H : Heap) (locs : List Loc) (ls : Array Slot), k + n = 7 → va_P (dC, dI) vwCl [(h0, .inl (cyI, 35, .inl f_1))] H → va_D A [(h0, .inl (cyI, 35, .inl f_1))] → va_S A s.heap H locs → lv_has ls 5 [(4, .int (nI k)), (0, .ref h0), (1, .int 7), (2, .int 0), (3, .int 1)] → W p l e R s m ([.ref h0, .int 7, .int 0, .int 1] : List Value).toArray below meth c H locs 0 0 Q (F0 m 3 ls []) := by
    intro Q R kx n
    induction n with
    | zero =>
      intro k f_1 H locs ls hn hP hD hS hl
      have hkN : k = 7 := by omega
      have hl : lv_has ls 5 [(4, .int 7), (0, .ref h0), (1, .int 7), (2, .int 0), (3, .int 1)] := by rw [hkN] at hl; exact hl
      refine lv_iload hx hb dX12_copyRow_3 (lv_at hl 0 rfl) ?_
      refine lv_iload_n hx hb dX12_copyRow_5 rfl (lv_at hl 2 rfl) ?_
      refine lv_icmp_ge (tgt := 31) hx hb dX12_copyRow_6 (by decide) (fun _ => ?_) (fun c_2 => absurd c_2 (by decide))
      exact kx f_1 _ _ _ hP hD hS (lv_sub hl [0, 1, 2, 3, 4] rfl)
    | succ n ih =>
      intro k f_1 H locs ls hn hP hD hS hl
      have hk9 : (nI k).toInt = (k : Int) := nI_toInt (by omega)
      refine lv_iload hx hb dX12_copyRow_3 (lv_at hl 0 rfl) ?_
      refine lv_iload_n hx hb dX12_copyRow_5 rfl (lv_at hl 2 rfl) ?_
      refine lv_icmp_ge (tgt := 31) hx hb dX12_copyRow_6 (by decide) (fun c_3 => absurd (show 7 ≤ (nI k).toInt from cv_le c_3) (by omega)) (fun _ => ?_)
      refine lv_aload_n hx hb dX12_copyRow_9 rfl (lv_at hl 1 rfl) ?_
      refine lv_iload_n hx hb dX12_copyRow_10 rfl (lv_at hl 2 rfl) ?_
      refine lv_iload_n hx hb dX12_copyRow_11 rfl (lv_at hl 4 rfl) ?_
      refine lv_imul hx hb dX12_copyRow_12 ?_
      refine cv_topi (b := 7) (by decide) ?_
      refine lv_iload hx hb dX12_copyRow_13 (lv_at hl 0 rfl) ?_
      refine lv_iadd hx hb dX12_copyRow_15 ?_
      refine lv_topi (fun x_4 ex_4 => ?_)
      have fx_4 : x_4.toInt = 7 + (nI k).toInt := by rw [ex_4]; exact cv_addI (by have : (7 : Int32).toInt = 7 := rfl; omega) (by have : (7 : Int32).toInt = 7 := rfl; omega)
      refine lv_aload_n hx hb dX12_copyRow_16 rfl (lv_at hl 1 rfl) ?_
      refine lv_iload_n hx hb dX12_copyRow_17 rfl (lv_at hl 2 rfl) ?_
      refine lv_iload_n hx hb dX12_copyRow_18 rfl (lv_at hl 3 rfl) ?_
      refine lv_imul hx hb dX12_copyRow_19 ?_
      refine cv_topi (b := 0) (by decide) ?_
      refine lv_iload hx hb dX12_copyRow_20 (lv_at hl 0 rfl) ?_
      refine lv_iadd hx hb dX12_copyRow_22 ?_
      refine lv_topi (fun x_5 ex_5 => ?_)
      have fx_5 : x_5.toInt = 0 + (nI k).toInt := by rw [ex_5]; exact cv_addI (by have : (0 : Int32).toInt = 0 := rfl; omega) (by have : (0 : Int32).toInt = 0 := rfl; omega)
      refine va_iald hx hb hK hP 0 0 rfl rfl (vp_in_iff.mpr (by omega)) dX12_copyRow_23 ?_
      refine lv_topi (fun x_6 ex_6 => ?_)
      refine va_iast hx hb hK hP hD hS 0 0 rfl rfl (vp_in_iff.mpr (by omega)) dX12_copyRow_24 (fun H locs hP hD hS => ?_)
      obtain ⟨f_7, ef_7⟩ : ∃ z9 : Nat → Int32, z9 = upd f_1 x_4.toNatClampNeg x_6 := ⟨_, rfl⟩
      rw [← ef_7] at hP hD
      have hP : va_P (dC, dI) vwCl [(h0, .inl (cyI, 35, .inl f_7))] H := hP
      have hD : va_D A [(h0, .inl (cyI, 35, .inl f_7))] := hD
      obtain ⟨x_8, ex_8⟩ : ∃ y : Int32, y = (nI k) + 1 := ⟨_, rfl⟩
      refine lv_iinc (v := x_8) (lv' := [(4, .int x_8), (0, .ref h0), (1, .int 7), (2, .int 0), (3, .int 1)]) hx hb dX12_copyRow_25 hl (k := 0) rfl (by rw [ex_8]; rfl) (by decide) rfl (fun ls hl => ?_)
      refine lv_goto (tgt := 3) hx hb dX12_copyRow_28 (by decide) ?_
      have hl : lv_has ls 5 [(4, .int (nI (k + 1))), (0, .ref h0), (1, .int 7), (2, .int 0), (3, .int 1)] := by rw [← nI_1, ← ex_8]; exact hl
      exact ih (k + 1) f_7 _ _ _ (by omega) hP hD hS (lv_sub hl [0, 1, 2, 3, 4] rfl)
  refine key _ _ (fun f_9 H locs ls hP hD hS hl => ?_) 7 0 f _ _ _ (by omega) hP hD hS hl
  have hP9 := hP.sub (ws' := [(h0, .inl (cyI, 35, .inl f_9))]) [0] rfl
  have hD9 := hD.sub (ws' := [(h0, .inl (cyI, 35, .inl f_9))]) [0] (by decide) rfl
  exact W.vret hx hb hr (fun t ht hW => ⟨⟨(), rfl, trivial, ⟨f_9, by rw [ht]; exact hP9, hD9⟩⟩, hS.F ht⟩) hS.2.2 dX12_copyRow_31

/- X12_copyRow -/
set_option maxHeartbeats 4000000 in
set_option maxRecDepth 100000 in
theorem m_copyRow_law_01 (l : Launch) (dC : Nat → ClassId) (dI : Nat → Nat → Nat) (cyI cyB cyJ cyZ cyH cyN : ClassId) (sz : Nat) (h0 : Nat) (f : Nat → Int32) : Met l yX12_copyRow (wk yX12_copyRow cX12_copyRow 5 none) ({ frames := 1, cells := 0, slots := 0, locals := 60 }) (va_Pc [.ref h0, .int 24, .int 0, .int 1] (fun U => U.heap.size = sz ∧ va_P (dC, dI) vwCl [(h0, .inl (cyI, 120, .inl f))] U.heap ∧ va_K (dC, dI) vwCl [(cyI, .int), (cyB, .byte), (cyJ, .long), (cyZ, .boolean), (cyH, .object RX2), (cyN, .array .long)] U ∧ va_D (fun _ => True) [(h0, .inl (cyI, 120, .inl f))])) (va_Qv (fun _ : Unit => True) (fun (_ : Unit) (t : State) => ∃ g : Nat → Int32, va_P (dC, dI) vwCl [(h0, .inl (cyI, 120, .inl g))] t.heap ∧ va_D (va_A [(h0, .inl (cyI, 120, .inl f))] sz) [(h0, .inl (cyI, 120, .inl g))]) (va_A [(h0, .inl (cyI, 120, .inl f))] sz)) 0 0 (va_A [(h0, .inl (cyI, 120, .inl f))] sz) := by
  refine Met.ofW (cc := cX12_copyRow) (maxL := 5) (ret := none) (by decide) rfl ?_
  intro p e s m args below meth c s₁ B hml hv
  obtain ⟨rfl, hsz, hP, hK, hD0⟩ := hv
  have hx := B.exec
  have hb := B.bytes
  have hr := B.returns
  have hts : ∀ w ∈ uU, w.before ([.ref h0, .int 24, .int 0, .int 1] : List Value).toArray s = true := fun w h => atoms_spec (ws := wk yX12_copyRow cX12_copyRow 5 none) B.pre w (List.mem_cons_of_mem _ h)
  have hown : s.vm.findClass RX12 = some m.cls := findClass_of_methodNamed B.named
  have hlocks := B.notSynchronized
  subst hsz
  have hD := hD0.self (sz := s.heap.size)
  generalize hAe : va_A [(h0, .inl (cyI, 120, .inl f))] s.heap.size = A at hD ⊢
  have hA : ∀ q : Nat, s.heap.size ≤ q → A q := fun q h => by rw [← hAe]; exact Or.inr h
  have hS : va_S A s.heap s.heap [] := va_S.rf
  have hP : va_P (dC, dI) vwCl [(h0, .inl (cyI, 120, .inl f))] s.heap := hP
  have hl := lv_entry ([.ref h0, .int 24, .int 0, .int 1]) (n := 5) (Nat.le_of_ble_eq_true rfl)
  rw [lg_entry_eq]
  generalize (lg_sl ([.ref h0, .int 24, .int 0, .int 1]) ++ List.replicate (5 - (lg_sl ([.ref h0, .int 24, .int 0, .int 1])).length) Slot.unset).toArray = ls at hl ⊢
  have hl : lv_has ls 5 [(0, .ref h0), (1, .int 24), (2, .int 0), (3, .int 1)] := hl
  obtain ⟨H, hHe⟩ : ∃ H, H = s.heap := ⟨_, rfl⟩
  have hP : va_P (dC, dI) vwCl [(h0, .inl (cyI, 120, .inl f))] H := by rw [hHe]; exact hP
  have hS : va_S A s.heap H [] := by rw [hHe]; exact hS
  refine cv_heap hHe ?_
  refine lv_iconst (v := 0) hx hb dX12_copyRow_0 (by decide) ?_
  refine lv_istore (lv' := [(4, .int 0), (0, .ref h0), (1, .int 24), (2, .int 0), (3, .int 1)]) hx hb dX12_copyRow_1 hl (by decide) rfl (fun ls hl => ?_)
  have key : ∀ (Q : State → Prop) (R : Room), (∀ (f_1 : Nat → Int32) (H : Heap) (locs : List Loc) (ls : Array Slot), va_P (dC, dI) vwCl [(h0, .inl (cyI, 120, .inl f_1))] H → va_D A [(h0, .inl (cyI, 120, .inl f_1))] → va_S A s.heap H locs → lv_has ls 5 [(4, .int 24), (0, .ref h0), (1, .int 24), (2, .int 0), (3, .int 1)] → W p l e R s m ([.ref h0, .int 24, .int 0, .int 1] : List Value).toArray below meth c H locs 0 0 Q (F0 m 31 ls [])) → ∀ (n k : Nat) (f_1 : Nat → Int32) (H : Heap) (locs : List Loc) (ls : Array Slot), k + n = 24 → va_P (dC, dI) vwCl [(h0, .inl (cyI, 120, .inl f_1))] H → va_D A [(h0, .inl (cyI, 120, .inl f_1))] → va_S A s.heap H locs → lv_has ls 5 [(4, .int (nI k)), (0, .ref h0), (1, .int 24), (2, .int 0), (3, .int 1)] → W p l e R s m ([.ref h0, .int 24, .int 0, .int 1] : List Value).toArray below meth c H locs 0 0 Q (F0 m 3 ls []) := by
    intro Q R kx n
    induction n with
    | zero =>
      intro k f_1 H locs ls hn hP hD hS hl
      have hkN : k = 24 := by omega
      have hl : lv_has ls 5 [(4, .int 24), (0, .ref h0), (1, .int 24), (2, .int 0), (3, .int 1)] := by rw [hkN] at hl; exact hl
      refine lv_iload hx hb dX12_copyRow_3 (lv_at hl 0 rfl) ?_
      refine lv_iload_n hx hb dX12_copyRow_5 rfl (lv_at hl 2 rfl) ?_
      refine lv_icmp_ge (tgt := 31) hx hb dX12_copyRow_6 (by decide) (fun _ => ?_) (fun c_2 => absurd c_2 (by decide))
      exact kx f_1 _ _ _ hP hD hS (lv_sub hl [0, 1, 2, 3, 4] rfl)
    | succ n ih =>
      intro k f_1 H locs ls hn hP hD hS hl
      have hk9 : (nI k).toInt = (k : Int) := nI_toInt (by omega)
      refine lv_iload hx hb dX12_copyRow_3 (lv_at hl 0 rfl) ?_
      refine lv_iload_n hx hb dX12_copyRow_5 rfl (lv_at hl 2 rfl) ?_
      refine lv_icmp_ge (tgt := 31) hx hb dX12_copyRow_6 (by decide) (fun c_3 => absurd (show 24 ≤ (nI k).toInt from cv_le c_3) (by omega)) (fun _ => ?_)
      refine lv_aload_n hx hb dX12_copyRow_9 rfl (lv_at hl 1 rfl) ?_
      refine lv_iload_n hx hb dX12_copyRow_10 rfl (lv_at hl 2 rfl) ?_
      refine lv_iload_n hx hb dX12_copyRow_11 rfl (lv_at hl 4 rfl) ?_
      refine lv_imul hx hb dX12_copyRow_12 ?_
      refine cv_topi (b := 24) (by decide) ?_
      refine lv_iload hx hb dX12_copyRow_13 (lv_at hl 0 rfl) ?_
      refine lv_iadd hx hb dX12_copyRow_15 ?_
      refine lv_topi (fun x_4 ex_4 => ?_)
      have fx_4 : x_4.toInt = 24 + (nI k).toInt := by rw [ex_4]; exact cv_addI (by have : (24 : Int32).toInt = 24 := rfl; omega) (by have : (24 : Int32).toInt = 24 := rfl; omega)
      refine lv_aload_n hx hb dX12_copyRow_16 rfl (lv_at hl 1 rfl) ?_
      refine lv_iload_n hx hb dX12_copyRow_17 rfl (lv_at hl 2 rfl) ?_
      refine lv_iload_n hx hb dX12_copyRow_18 rfl (lv_at hl 3 rfl) ?_
      refine lv_imul hx hb dX12_copyRow_19 ?_
      refine cv_topi (b := 0) (by decide) ?_
      refine lv_iload hx hb dX12_copyRow_20 (lv_at hl 0 rfl) ?_
      refine lv_iadd hx hb dX12_copyRow_22 ?_
      refine lv_topi (fun x_5 ex_5 => ?_)
      have fx_5 : x_5.toInt = 0 + (nI k).toInt := by rw [ex_5]; exact cv_addI (by have : (0 : Int32).toInt = 0 := rfl; omega) (by have : (0 : Int32).toInt = 0 := rfl; omega)
      refine va_iald hx hb hK hP 0 0 rfl rfl (vp_in_iff.mpr (by omega)) dX12_copyRow_23 ?_
      refine lv_topi (fun x_6 ex_6 => ?_)
      refine va_iast hx hb hK hP hD hS 0 0 rfl rfl (vp_in_iff.mpr (by omega)) dX12_copyRow_24 (fun H locs hP hD hS => ?_)
      obtain ⟨f_7, ef_7⟩ : ∃ z9 : Nat → Int32, z9 = upd f_1 x_4.toNatClampNeg x_6 := ⟨_, rfl⟩
      rw [← ef_7] at hP hD
      have hP : va_P (dC, dI) vwCl [(h0, .inl (cyI, 120, .inl f_7))] H := hP
      have hD : va_D A [(h0, .inl (cyI, 120, .inl f_7))] := hD
      obtain ⟨x_8, ex_8⟩ : ∃ y : Int32, y = (nI k) + 1 := ⟨_, rfl⟩
      refine lv_iinc (v := x_8) (lv' := [(4, .int x_8), (0, .ref h0), (1, .int 24), (2, .int 0), (3, .int 1)]) hx hb dX12_copyRow_25 hl (k := 0) rfl (by rw [ex_8]; rfl) (by decide) rfl (fun ls hl => ?_)
      refine lv_goto (tgt := 3) hx hb dX12_copyRow_28 (by decide) ?_
      have hl : lv_has ls 5 [(4, .int (nI (k + 1))), (0, .ref h0), (1, .int 24), (2, .int 0), (3, .int 1)] := by rw [← nI_1, ← ex_8]; exact hl
      exact ih (k + 1) f_7 _ _ _ (by omega) hP hD hS (lv_sub hl [0, 1, 2, 3, 4] rfl)
  refine key _ _ (fun f_9 H locs ls hP hD hS hl => ?_) 24 0 f _ _ _ (by omega) hP hD hS hl
  have hP9 := hP.sub (ws' := [(h0, .inl (cyI, 120, .inl f_9))]) [0] rfl
  have hD9 := hD.sub (ws' := [(h0, .inl (cyI, 120, .inl f_9))]) [0] (by decide) rfl
  exact W.vret hx hb hr (fun t ht hW => ⟨⟨(), rfl, trivial, ⟨f_9, by rw [ht]; exact hP9, hD9⟩⟩, hS.F ht⟩) hS.2.2 dX12_copyRow_31

/- X12_copyRow -/
set_option maxHeartbeats 4000000 in
set_option maxRecDepth 100000 in
theorem m_copyRow_suit_01 (l : Launch) (dC : Nat → ClassId) (dI : Nat → Nat → Nat) (cyI cyB cyJ cyZ cyH cyN : ClassId) (sz : Nat) (h0 : Nat) (f : Nat → Int32) : Met l yX12_copyRow (wk yX12_copyRow cX12_copyRow 5 none) ({ frames := 1, cells := 0, slots := 0, locals := 60 }) (va_Pc [.ref h0, .int 49, .int 0, .int 1] (fun U => U.heap.size = sz ∧ va_P (dC, dI) vwCl [(h0, .inl (cyI, 245, .inl f))] U.heap ∧ va_K (dC, dI) vwCl [(cyI, .int), (cyB, .byte), (cyJ, .long), (cyZ, .boolean), (cyH, .object RX2), (cyN, .array .long)] U ∧ va_D (fun _ => True) [(h0, .inl (cyI, 245, .inl f))])) (va_Qv (fun _ : Unit => True) (fun (_ : Unit) (t : State) => ∃ g : Nat → Int32, va_P (dC, dI) vwCl [(h0, .inl (cyI, 245, .inl g))] t.heap ∧ va_D (va_A [(h0, .inl (cyI, 245, .inl f))] sz) [(h0, .inl (cyI, 245, .inl g))]) (va_A [(h0, .inl (cyI, 245, .inl f))] sz)) 0 0 (va_A [(h0, .inl (cyI, 245, .inl f))] sz) := by
  refine Met.ofW (cc := cX12_copyRow) (maxL := 5) (ret := none) (by decide) rfl ?_
  intro p e s m args below meth c s₁ B hml hv
  obtain ⟨rfl, hsz, hP, hK, hD0⟩ := hv
  have hx := B.exec
  have hb := B.bytes
  have hr := B.returns
  have hts : ∀ w ∈ uU, w.before ([.ref h0, .int 49, .int 0, .int 1] : List Value).toArray s = true := fun w h => atoms_spec (ws := wk yX12_copyRow cX12_copyRow 5 none) B.pre w (List.mem_cons_of_mem _ h)
  have hown : s.vm.findClass RX12 = some m.cls := findClass_of_methodNamed B.named
  have hlocks := B.notSynchronized
  subst hsz
  have hD := hD0.self (sz := s.heap.size)
  generalize hAe : va_A [(h0, .inl (cyI, 245, .inl f))] s.heap.size = A at hD ⊢
  have hA : ∀ q : Nat, s.heap.size ≤ q → A q := fun q h => by rw [← hAe]; exact Or.inr h
  have hS : va_S A s.heap s.heap [] := va_S.rf
  have hP : va_P (dC, dI) vwCl [(h0, .inl (cyI, 245, .inl f))] s.heap := hP
  have hl := lv_entry ([.ref h0, .int 49, .int 0, .int 1]) (n := 5) (Nat.le_of_ble_eq_true rfl)
  rw [lg_entry_eq]
  generalize (lg_sl ([.ref h0, .int 49, .int 0, .int 1]) ++ List.replicate (5 - (lg_sl ([.ref h0, .int 49, .int 0, .int 1])).length) Slot.unset).toArray = ls at hl ⊢
  have hl : lv_has ls 5 [(0, .ref h0), (1, .int 49), (2, .int 0), (3, .int 1)] := hl
  obtain ⟨H, hHe⟩ : ∃ H, H = s.heap := ⟨_, rfl⟩
  have hP : va_P (dC, dI) vwCl [(h0, .inl (cyI, 245, .inl f))] H := by rw [hHe]; exact hP
  have hS : va_S A s.heap H [] := by rw [hHe]; exact hS
  refine cv_heap hHe ?_
  refine lv_iconst (v := 0) hx hb dX12_copyRow_0 (by decide) ?_
  refine lv_istore (lv' := [(4, .int 0), (0, .ref h0), (1, .int 49), (2, .int 0), (3, .int 1)]) hx hb dX12_copyRow_1 hl (by decide) rfl (fun ls hl => ?_)
  have key : ∀ (Q : State → Prop) (R : Room), (∀ (f_1 : Nat → Int32) (H : Heap) (locs : List Loc) (ls : Array Slot), va_P (dC, dI) vwCl [(h0, .inl (cyI, 245, .inl f_1))] H → va_D A [(h0, .inl (cyI, 245, .inl f_1))] → va_S A s.heap H locs → lv_has ls 5 [(4, .int 49), (0, .ref h0), (1, .int 49), (2, .int 0), (3, .int 1)] → W p l e R s m ([.ref h0, .int 49, .int 0, .int 1] : List Value).toArray below meth c H locs 0 0 Q (F0 m 31 ls [])) → ∀ (n k : Nat) (f_1 : Nat → Int32) (H : Heap) (locs : List Loc) (ls : Array Slot), k + n = 49 → va_P (dC, dI) vwCl [(h0, .inl (cyI, 245, .inl f_1))] H → va_D A [(h0, .inl (cyI, 245, .inl f_1))] → va_S A s.heap H locs → lv_has ls 5 [(4, .int (nI k)), (0, .ref h0), (1, .int 49), (2, .int 0), (3, .int 1)] → W p l e R s m ([.ref h0, .int 49, .int 0, .int 1] : List Value).toArray below meth c H locs 0 0 Q (F0 m 3 ls []) := by
    intro Q R kx n
    induction n with
    | zero =>
      intro k f_1 H locs ls hn hP hD hS hl
      have hkN : k = 49 := by omega
      have hl : lv_has ls 5 [(4, .int 49), (0, .ref h0), (1, .int 49), (2, .int 0), (3, .int 1)] := by rw [hkN] at hl; exact hl
      refine lv_iload hx hb dX12_copyRow_3 (lv_at hl 0 rfl) ?_
      refine lv_iload_n hx hb dX12_copyRow_5 rfl (lv_at hl 2 rfl) ?_
      refine lv_icmp_ge (tgt := 31) hx hb dX12_copyRow_6 (by decide) (fun _ => ?_) (fun c_2 => absurd c_2 (by decide))
      exact kx f_1 _ _ _ hP hD hS (lv_sub hl [0, 1, 2, 3, 4] rfl)
    | succ n ih =>
      intro k f_1 H locs ls hn hP hD hS hl
      have hk9 : (nI k).toInt = (k : Int) := nI_toInt (by omega)
      refine lv_iload hx hb dX12_copyRow_3 (lv_at hl 0 rfl) ?_
      refine lv_iload_n hx hb dX12_copyRow_5 rfl (lv_at hl 2 rfl) ?_
      refine lv_icmp_ge (tgt := 31) hx hb dX12_copyRow_6 (by decide) (fun c_3 => absurd (show 49 ≤ (nI k).toInt from cv_le c_3) (by omega)) (fun _ => ?_)
      refine lv_aload_n hx hb dX12_copyRow_9 rfl (lv_at hl 1 rfl) ?_
      refine lv_iload_n hx hb dX12_copyRow_10 rfl (lv_at hl 2 rfl) ?_
      refine lv_iload_n hx hb dX12_copyRow_11 rfl (lv_at hl 4 rfl) ?_
      refine lv_imul hx hb dX12_copyRow_12 ?_
      refine cv_topi (b := 49) (by decide) ?_
      refine lv_iload hx hb dX12_copyRow_13 (lv_at hl 0 rfl) ?_
      refine lv_iadd hx hb dX12_copyRow_15 ?_
      refine lv_topi (fun x_4 ex_4 => ?_)
      have fx_4 : x_4.toInt = 49 + (nI k).toInt := by rw [ex_4]; exact cv_addI (by have : (49 : Int32).toInt = 49 := rfl; omega) (by have : (49 : Int32).toInt = 49 := rfl; omega)
      refine lv_aload_n hx hb dX12_copyRow_16 rfl (lv_at hl 1 rfl) ?_
      refine lv_iload_n hx hb dX12_copyRow_17 rfl (lv_at hl 2 rfl) ?_
      refine lv_iload_n hx hb dX12_copyRow_18 rfl (lv_at hl 3 rfl) ?_
      refine lv_imul hx hb dX12_copyRow_19 ?_
      refine cv_topi (b := 0) (by decide) ?_
      refine lv_iload hx hb dX12_copyRow_20 (lv_at hl 0 rfl) ?_
      refine lv_iadd hx hb dX12_copyRow_22 ?_
      refine lv_topi (fun x_5 ex_5 => ?_)
      have fx_5 : x_5.toInt = 0 + (nI k).toInt := by rw [ex_5]; exact cv_addI (by have : (0 : Int32).toInt = 0 := rfl; omega) (by have : (0 : Int32).toInt = 0 := rfl; omega)
      refine va_iald hx hb hK hP 0 0 rfl rfl (vp_in_iff.mpr (by omega)) dX12_copyRow_23 ?_
      refine lv_topi (fun x_6 ex_6 => ?_)
      refine va_iast hx hb hK hP hD hS 0 0 rfl rfl (vp_in_iff.mpr (by omega)) dX12_copyRow_24 (fun H locs hP hD hS => ?_)
      obtain ⟨f_7, ef_7⟩ : ∃ z9 : Nat → Int32, z9 = upd f_1 x_4.toNatClampNeg x_6 := ⟨_, rfl⟩
      rw [← ef_7] at hP hD
      have hP : va_P (dC, dI) vwCl [(h0, .inl (cyI, 245, .inl f_7))] H := hP
      have hD : va_D A [(h0, .inl (cyI, 245, .inl f_7))] := hD
      obtain ⟨x_8, ex_8⟩ : ∃ y : Int32, y = (nI k) + 1 := ⟨_, rfl⟩
      refine lv_iinc (v := x_8) (lv' := [(4, .int x_8), (0, .ref h0), (1, .int 49), (2, .int 0), (3, .int 1)]) hx hb dX12_copyRow_25 hl (k := 0) rfl (by rw [ex_8]; rfl) (by decide) rfl (fun ls hl => ?_)
      refine lv_goto (tgt := 3) hx hb dX12_copyRow_28 (by decide) ?_
      have hl : lv_has ls 5 [(4, .int (nI (k + 1))), (0, .ref h0), (1, .int 49), (2, .int 0), (3, .int 1)] := by rw [← nI_1, ← ex_8]; exact hl
      exact ih (k + 1) f_7 _ _ _ (by omega) hP hD hS (lv_sub hl [0, 1, 2, 3, 4] rfl)
  refine key _ _ (fun f_9 H locs ls hP hD hS hl => ?_) 49 0 f _ _ _ (by omega) hP hD hS hl
  have hP9 := hP.sub (ws' := [(h0, .inl (cyI, 245, .inl f_9))]) [0] rfl
  have hD9 := hD.sub (ws' := [(h0, .inl (cyI, 245, .inl f_9))]) [0] (by decide) rfl
  exact W.vret hx hb hr (fun t ht hW => ⟨⟨(), rfl, trivial, ⟨f_9, by rw [ht]; exact hP9, hD9⟩⟩, hS.F ht⟩) hS.2.2 dX12_copyRow_31

/- X12_copyRow -/
set_option maxHeartbeats 4000000 in
set_option maxRecDepth 100000 in
theorem m_copyRow_act_01 (l : Launch) (dC : Nat → ClassId) (dI : Nat → Nat → Nat) (cyI cyB cyJ cyZ cyH cyN : ClassId) (sz : Nat) (h0 : Nat) (f : Nat → Int32) : Met l yX12_copyRow (wk yX12_copyRow cX12_copyRow 5 none) ({ frames := 1, cells := 0, slots := 0, locals := 60 }) (va_Pc [.ref h0, .int 80, .int 0, .int 1] (fun U => U.heap.size = sz ∧ va_P (dC, dI) vwCl [(h0, .inl (cyI, 400, .inl f))] U.heap ∧ va_K (dC, dI) vwCl [(cyI, .int), (cyB, .byte), (cyJ, .long), (cyZ, .boolean), (cyH, .object RX2), (cyN, .array .long)] U ∧ va_D (fun _ => True) [(h0, .inl (cyI, 400, .inl f))])) (va_Qv (fun _ : Unit => True) (fun (_ : Unit) (t : State) => ∃ g : Nat → Int32, va_P (dC, dI) vwCl [(h0, .inl (cyI, 400, .inl g))] t.heap ∧ va_D (va_A [(h0, .inl (cyI, 400, .inl f))] sz) [(h0, .inl (cyI, 400, .inl g))]) (va_A [(h0, .inl (cyI, 400, .inl f))] sz)) 0 0 (va_A [(h0, .inl (cyI, 400, .inl f))] sz) := by
  refine Met.ofW (cc := cX12_copyRow) (maxL := 5) (ret := none) (by decide) rfl ?_
  intro p e s m args below meth c s₁ B hml hv
  obtain ⟨rfl, hsz, hP, hK, hD0⟩ := hv
  have hx := B.exec
  have hb := B.bytes
  have hr := B.returns
  have hts : ∀ w ∈ uU, w.before ([.ref h0, .int 80, .int 0, .int 1] : List Value).toArray s = true := fun w h => atoms_spec (ws := wk yX12_copyRow cX12_copyRow 5 none) B.pre w (List.mem_cons_of_mem _ h)
  have hown : s.vm.findClass RX12 = some m.cls := findClass_of_methodNamed B.named
  have hlocks := B.notSynchronized
  subst hsz
  have hD := hD0.self (sz := s.heap.size)
  generalize hAe : va_A [(h0, .inl (cyI, 400, .inl f))] s.heap.size = A at hD ⊢
  have hA : ∀ q : Nat, s.heap.size ≤ q → A q := fun q h => by rw [← hAe]; exact Or.inr h
  have hS : va_S A s.heap s.heap [] := va_S.rf
  have hP : va_P (dC, dI) vwCl [(h0, .inl (cyI, 400, .inl f))] s.heap := hP
  have hl := lv_entry ([.ref h0, .int 80, .int 0, .int 1]) (n := 5) (Nat.le_of_ble_eq_true rfl)
  rw [lg_entry_eq]
  generalize (lg_sl ([.ref h0, .int 80, .int 0, .int 1]) ++ List.replicate (5 - (lg_sl ([.ref h0, .int 80, .int 0, .int 1])).length) Slot.unset).toArray = ls at hl ⊢
  have hl : lv_has ls 5 [(0, .ref h0), (1, .int 80), (2, .int 0), (3, .int 1)] := hl
  obtain ⟨H, hHe⟩ : ∃ H, H = s.heap := ⟨_, rfl⟩
  have hP : va_P (dC, dI) vwCl [(h0, .inl (cyI, 400, .inl f))] H := by rw [hHe]; exact hP
  have hS : va_S A s.heap H [] := by rw [hHe]; exact hS
  refine cv_heap hHe ?_
  refine lv_iconst (v := 0) hx hb dX12_copyRow_0 (by decide) ?_
  refine lv_istore (lv' := [(4, .int 0), (0, .ref h0), (1, .int 80), (2, .int 0), (3, .int 1)]) hx hb dX12_copyRow_1 hl (by decide) rfl (fun ls hl => ?_)
  have key : ∀ (Q : State → Prop) (R : Room), (∀ (f_1 : Nat → Int32) (H : Heap) (locs : List Loc) (ls : Array Slot), va_P (dC, dI) vwCl [(h0, .inl (cyI, 400, .inl f_1))] H → va_D A [(h0, .inl (cyI, 400, .inl f_1))] → va_S A s.heap H locs → lv_has ls 5 [(4, .int 80), (0, .ref h0), (1, .int 80), (2, .int 0), (3, .int 1)] → W p l e R s m ([.ref h0, .int 80, .int 0, .int 1] : List Value).toArray below meth c H locs 0 0 Q (F0 m 31 ls [])) → ∀ (n k : Nat) (f_1 : Nat → Int32) (H : Heap) (locs : List Loc) (ls : Array Slot), k + n = 80 → va_P (dC, dI) vwCl [(h0, .inl (cyI, 400, .inl f_1))] H → va_D A [(h0, .inl (cyI, 400, .inl f_1))] → va_S A s.heap H locs → lv_has ls 5 [(4, .int (nI k)), (0, .ref h0), (1, .int 80), (2, .int 0), (3, .int 1)] → W p l e R s m ([.ref h0, .int 80, .int 0, .int 1] : List Value).toArray below meth c H locs 0 0 Q (F0 m 3 ls []) := by
    intro Q R kx n
    induction n with
    | zero =>
      intro k f_1 H locs ls hn hP hD hS hl
      have hkN : k = 80 := by omega
      have hl : lv_has ls 5 [(4, .int 80), (0, .ref h0), (1, .int 80), (2, .int 0), (3, .int 1)] := by rw [hkN] at hl; exact hl
      refine lv_iload hx hb dX12_copyRow_3 (lv_at hl 0 rfl) ?_
      refine lv_iload_n hx hb dX12_copyRow_5 rfl (lv_at hl 2 rfl) ?_
      refine lv_icmp_ge (tgt := 31) hx hb dX12_copyRow_6 (by decide) (fun _ => ?_) (fun c_2 => absurd c_2 (by decide))
      exact kx f_1 _ _ _ hP hD hS (lv_sub hl [0, 1, 2, 3, 4] rfl)
    | succ n ih =>
      intro k f_1 H locs ls hn hP hD hS hl
      have hk9 : (nI k).toInt = (k : Int) := nI_toInt (by omega)
      refine lv_iload hx hb dX12_copyRow_3 (lv_at hl 0 rfl) ?_
      refine lv_iload_n hx hb dX12_copyRow_5 rfl (lv_at hl 2 rfl) ?_
      refine lv_icmp_ge (tgt := 31) hx hb dX12_copyRow_6 (by decide) (fun c_3 => absurd (show 80 ≤ (nI k).toInt from cv_le c_3) (by omega)) (fun _ => ?_)
      refine lv_aload_n hx hb dX12_copyRow_9 rfl (lv_at hl 1 rfl) ?_
      refine lv_iload_n hx hb dX12_copyRow_10 rfl (lv_at hl 2 rfl) ?_
      refine lv_iload_n hx hb dX12_copyRow_11 rfl (lv_at hl 4 rfl) ?_
      refine lv_imul hx hb dX12_copyRow_12 ?_
      refine cv_topi (b := 80) (by decide) ?_
      refine lv_iload hx hb dX12_copyRow_13 (lv_at hl 0 rfl) ?_
      refine lv_iadd hx hb dX12_copyRow_15 ?_
      refine lv_topi (fun x_4 ex_4 => ?_)
      have fx_4 : x_4.toInt = 80 + (nI k).toInt := by rw [ex_4]; exact cv_addI (by have : (80 : Int32).toInt = 80 := rfl; omega) (by have : (80 : Int32).toInt = 80 := rfl; omega)
      refine lv_aload_n hx hb dX12_copyRow_16 rfl (lv_at hl 1 rfl) ?_
      refine lv_iload_n hx hb dX12_copyRow_17 rfl (lv_at hl 2 rfl) ?_
      refine lv_iload_n hx hb dX12_copyRow_18 rfl (lv_at hl 3 rfl) ?_
      refine lv_imul hx hb dX12_copyRow_19 ?_
      refine cv_topi (b := 0) (by decide) ?_
      refine lv_iload hx hb dX12_copyRow_20 (lv_at hl 0 rfl) ?_
      refine lv_iadd hx hb dX12_copyRow_22 ?_
      refine lv_topi (fun x_5 ex_5 => ?_)
      have fx_5 : x_5.toInt = 0 + (nI k).toInt := by rw [ex_5]; exact cv_addI (by have : (0 : Int32).toInt = 0 := rfl; omega) (by have : (0 : Int32).toInt = 0 := rfl; omega)
      refine va_iald hx hb hK hP 0 0 rfl rfl (vp_in_iff.mpr (by omega)) dX12_copyRow_23 ?_
      refine lv_topi (fun x_6 ex_6 => ?_)
      refine va_iast hx hb hK hP hD hS 0 0 rfl rfl (vp_in_iff.mpr (by omega)) dX12_copyRow_24 (fun H locs hP hD hS => ?_)
      obtain ⟨f_7, ef_7⟩ : ∃ z9 : Nat → Int32, z9 = upd f_1 x_4.toNatClampNeg x_6 := ⟨_, rfl⟩
      rw [← ef_7] at hP hD
      have hP : va_P (dC, dI) vwCl [(h0, .inl (cyI, 400, .inl f_7))] H := hP
      have hD : va_D A [(h0, .inl (cyI, 400, .inl f_7))] := hD
      obtain ⟨x_8, ex_8⟩ : ∃ y : Int32, y = (nI k) + 1 := ⟨_, rfl⟩
      refine lv_iinc (v := x_8) (lv' := [(4, .int x_8), (0, .ref h0), (1, .int 80), (2, .int 0), (3, .int 1)]) hx hb dX12_copyRow_25 hl (k := 0) rfl (by rw [ex_8]; rfl) (by decide) rfl (fun ls hl => ?_)
      refine lv_goto (tgt := 3) hx hb dX12_copyRow_28 (by decide) ?_
      have hl : lv_has ls 5 [(4, .int (nI (k + 1))), (0, .ref h0), (1, .int 80), (2, .int 0), (3, .int 1)] := by rw [← nI_1, ← ex_8]; exact hl
      exact ih (k + 1) f_7 _ _ _ (by omega) hP hD hS (lv_sub hl [0, 1, 2, 3, 4] rfl)
  refine key _ _ (fun f_9 H locs ls hP hD hS hl => ?_) 80 0 f _ _ _ (by omega) hP hD hS hl
  have hP9 := hP.sub (ws' := [(h0, .inl (cyI, 400, .inl f_9))]) [0] rfl
  have hD9 := hD.sub (ws' := [(h0, .inl (cyI, 400, .inl f_9))]) [0] (by decide) rfl
  exact W.vret hx hb hr (fun t ht hW => ⟨⟨(), rfl, trivial, ⟨f_9, by rw [ht]; exact hP9, hD9⟩⟩, hS.F ht⟩) hS.2.2 dX12_copyRow_31

/- X12_copyHall -/
set_option maxHeartbeats 4000000 in
set_option maxRecDepth 100000 in
theorem m_copyHall_01 (l : Launch) (dC : Nat → ClassId) (dI : Nat → Nat → Nat) (cyI cyB cyJ cyZ cyH cyN : ClassId) (sz : Nat) (m0 mwidth mmany mcells mmoved mtape mlines mhas mtold mlaw msuit mapart mact misKept mseen mhung mgoal mleaps mqueue mrow mwanted mfirst moften mlots mthen : Nat) (bp : Int32) (f0 f1 f2 f3 f4 f5 : Nat → Int32) : Met l yX12_copyHall (wk yX12_copyHall cX12_copyHall 3 none) ({ frames := 2, cells := 0, slots := 0, locals := 84 }) (va_Pc [.ref m0, .int 0, .int 1] (fun U => U.heap.size = sz ∧ va_P (dC, dI) vwCl [(m0, .inr (11, [.int 0, .ref mwidth, .ref mmany, .ref mcells, .ref mmoved, .ref mtape, .int 0, .int 0, .int 0, .int 0, .int 0, .long 0, .int 0, .int bp, .int 0, .int (-1), .ref mlines, .ref mhas, .ref mtold, .ref mlaw, .ref msuit, .ref mapart, .ref mact, .ref misKept, .ref mseen, .ref mhung, .int 0, .ref mgoal, .ref mleaps, .ref mqueue, .ref mrow, .int 0, .ref mwanted, .ref mfirst, .ref moften, .int 0, .int 0, .int 0, .int 0, .int 0, .int 0, .ref mlots, .ref mthen, .long 0])), (mlines, .inl (cyI, 5, .inl (fun _ => 0))), (mhas, .inl (cyI, 20, .inl f0)), (mtold, .inl (cyI, 35, .inl f1)), (mlaw, .inl (cyI, 120, .inl f2)), (msuit, .inl (cyI, 245, .inl f3)), (mapart, .inl (cyI, 35, .inl f4)), (mact, .inl (cyI, 400, .inl f5))] U.heap ∧ va_K (dC, dI) vwCl [(cyI, .int), (cyB, .byte), (cyJ, .long), (cyZ, .boolean), (cyH, .object RX2), (cyN, .array .long)] U ∧ va_D (fun _ => True) [(m0, .inr (11, [.int 0, .ref mwidth, .ref mmany, .ref mcells, .ref mmoved, .ref mtape, .int 0, .int 0, .int 0, .int 0, .int 0, .long 0, .int 0, .int bp, .int 0, .int (-1), .ref mlines, .ref mhas, .ref mtold, .ref mlaw, .ref msuit, .ref mapart, .ref mact, .ref misKept, .ref mseen, .ref mhung, .int 0, .ref mgoal, .ref mleaps, .ref mqueue, .ref mrow, .int 0, .ref mwanted, .ref mfirst, .ref moften, .int 0, .int 0, .int 0, .int 0, .int 0, .int 0, .ref mlots, .ref mthen, .long 0])), (mlines, .inl (cyI, 5, .inl (fun _ => 0))), (mhas, .inl (cyI, 20, .inl f0)), (mtold, .inl (cyI, 35, .inl f1)), (mlaw, .inl (cyI, 120, .inl f2)), (msuit, .inl (cyI, 245, .inl f3)), (mapart, .inl (cyI, 35, .inl f4)), (mact, .inl (cyI, 400, .inl f5))])) (va_Qv (fun _ : Unit => True) (fun (_ : Unit) (t : State) => va_P (dC, dI) vwCl [(m0, .inr (11, [.int 0, .ref mwidth, .ref mmany, .ref mcells, .ref mmoved, .ref mtape, .int 0, .int 0, .int 0, .int 0, .int 0, .long 0, .int 0, .int bp, .int 0, .int (-1), .ref mlines, .ref mhas, .ref mtold, .ref mlaw, .ref msuit, .ref mapart, .ref mact, .ref misKept, .ref mseen, .ref mhung, .int 0, .ref mgoal, .ref mleaps, .ref mqueue, .ref mrow, .int 0, .ref mwanted, .ref mfirst, .ref moften, .int 0, .int 0, .int 0, .int 0, .int 0, .int 0, .ref mlots, .ref mthen, .long 0])), (mlines, .inl (cyI, 5, .inl (fun _ => 0)))] t.heap ∧ va_D (va_A [(m0, .inr (11, [.int 0, .ref mwidth, .ref mmany, .ref mcells, .ref mmoved, .ref mtape, .int 0, .int 0, .int 0, .int 0, .int 0, .long 0, .int 0, .int bp, .int 0, .int (-1), .ref mlines, .ref mhas, .ref mtold, .ref mlaw, .ref msuit, .ref mapart, .ref mact, .ref misKept, .ref mseen, .ref mhung, .int 0, .ref mgoal, .ref mleaps, .ref mqueue, .ref mrow, .int 0, .ref mwanted, .ref mfirst, .ref moften, .int 0, .int 0, .int 0, .int 0, .int 0, .int 0, .ref mlots, .ref mthen, .long 0])), (mlines, .inl (cyI, 5, .inl (fun _ => 0))), (mhas, .inl (cyI, 20, .inl f0)), (mtold, .inl (cyI, 35, .inl f1)), (mlaw, .inl (cyI, 120, .inl f2)), (msuit, .inl (cyI, 245, .inl f3)), (mapart, .inl (cyI, 35, .inl f4)), (mact, .inl (cyI, 400, .inl f5))] sz) [(m0, .inr (11, [.int 0, .ref mwidth, .ref mmany, .ref mcells, .ref mmoved, .ref mtape, .int 0, .int 0, .int 0, .int 0, .int 0, .long 0, .int 0, .int bp, .int 0, .int (-1), .ref mlines, .ref mhas, .ref mtold, .ref mlaw, .ref msuit, .ref mapart, .ref mact, .ref misKept, .ref mseen, .ref mhung, .int 0, .ref mgoal, .ref mleaps, .ref mqueue, .ref mrow, .int 0, .ref mwanted, .ref mfirst, .ref moften, .int 0, .int 0, .int 0, .int 0, .int 0, .int 0, .ref mlots, .ref mthen, .long 0])), (mlines, .inl (cyI, 5, .inl (fun _ => 0)))]) (va_A [(m0, .inr (11, [.int 0, .ref mwidth, .ref mmany, .ref mcells, .ref mmoved, .ref mtape, .int 0, .int 0, .int 0, .int 0, .int 0, .long 0, .int 0, .int bp, .int 0, .int (-1), .ref mlines, .ref mhas, .ref mtold, .ref mlaw, .ref msuit, .ref mapart, .ref mact, .ref misKept, .ref mseen, .ref mhung, .int 0, .ref mgoal, .ref mleaps, .ref mqueue, .ref mrow, .int 0, .ref mwanted, .ref mfirst, .ref moften, .int 0, .int 0, .int 0, .int 0, .int 0, .int 0, .ref mlots, .ref mthen, .long 0])), (mlines, .inl (cyI, 5, .inl (fun _ => 0))), (mhas, .inl (cyI, 20, .inl f0)), (mtold, .inl (cyI, 35, .inl f1)), (mlaw, .inl (cyI, 120, .inl f2)), (msuit, .inl (cyI, 245, .inl f3)), (mapart, .inl (cyI, 35, .inl f4)), (mact, .inl (cyI, 400, .inl f5))] sz)) 0 0 (va_A [(m0, .inr (11, [.int 0, .ref mwidth, .ref mmany, .ref mcells, .ref mmoved, .ref mtape, .int 0, .int 0, .int 0, .int 0, .int 0, .long 0, .int 0, .int bp, .int 0, .int (-1), .ref mlines, .ref mhas, .ref mtold, .ref mlaw, .ref msuit, .ref mapart, .ref mact, .ref misKept, .ref mseen, .ref mhung, .int 0, .ref mgoal, .ref mleaps, .ref mqueue, .ref mrow, .int 0, .ref mwanted, .ref mfirst, .ref moften, .int 0, .int 0, .int 0, .int 0, .int 0, .int 0, .ref mlots, .ref mthen, .long 0])), (mlines, .inl (cyI, 5, .inl (fun _ => 0))), (mhas, .inl (cyI, 20, .inl f0)), (mtold, .inl (cyI, 35, .inl f1)), (mlaw, .inl (cyI, 120, .inl f2)), (msuit, .inl (cyI, 245, .inl f3)), (mapart, .inl (cyI, 35, .inl f4)), (mact, .inl (cyI, 400, .inl f5))] sz) := by
  refine Met.ofW (cc := cX12_copyHall) (maxL := 3) (ret := none) (by decide) rfl ?_
  intro p e s m args below meth c s₁ B hml hv
  obtain ⟨rfl, hsz, hP, hK, hD0⟩ := hv
  have hx := B.exec
  have hb := B.bytes
  have hr := B.returns
  have hts : ∀ w ∈ uU, w.before ([.ref m0, .int 0, .int 1] : List Value).toArray s = true := fun w h => atoms_spec (ws := wk yX12_copyHall cX12_copyHall 3 none) B.pre w (List.mem_cons_of_mem _ h)
  have hown : s.vm.findClass RX12 = some m.cls := findClass_of_methodNamed B.named
  have hlocks := B.notSynchronized
  subst hsz
  have hD := hD0.self (sz := s.heap.size)
  generalize hAe : va_A [(m0, .inr (11, [.int 0, .ref mwidth, .ref mmany, .ref mcells, .ref mmoved, .ref mtape, .int 0, .int 0, .int 0, .int 0, .int 0, .long 0, .int 0, .int bp, .int 0, .int (-1), .ref mlines, .ref mhas, .ref mtold, .ref mlaw, .ref msuit, .ref mapart, .ref mact, .ref misKept, .ref mseen, .ref mhung, .int 0, .ref mgoal, .ref mleaps, .ref mqueue, .ref mrow, .int 0, .ref mwanted, .ref mfirst, .ref moften, .int 0, .int 0, .int 0, .int 0, .int 0, .int 0, .ref mlots, .ref mthen, .long 0])), (mlines, .inl (cyI, 5, .inl (fun _ => 0))), (mhas, .inl (cyI, 20, .inl f0)), (mtold, .inl (cyI, 35, .inl f1)), (mlaw, .inl (cyI, 120, .inl f2)), (msuit, .inl (cyI, 245, .inl f3)), (mapart, .inl (cyI, 35, .inl f4)), (mact, .inl (cyI, 400, .inl f5))] s.heap.size = A at hD ⊢
  have hA : ∀ q : Nat, s.heap.size ≤ q → A q := fun q h => by rw [← hAe]; exact Or.inr h
  have hS : va_S A s.heap s.heap [] := va_S.rf
  have hP : va_P (dC, dI) vwCl [(m0, .inr (11, [.int 0, .ref mwidth, .ref mmany, .ref mcells, .ref mmoved, .ref mtape, .int 0, .int 0, .int 0, .int 0, .int 0, .long 0, .int 0, .int bp, .int 0, .int (-1), .ref mlines, .ref mhas, .ref mtold, .ref mlaw, .ref msuit, .ref mapart, .ref mact, .ref misKept, .ref mseen, .ref mhung, .int 0, .ref mgoal, .ref mleaps, .ref mqueue, .ref mrow, .int 0, .ref mwanted, .ref mfirst, .ref moften, .int 0, .int 0, .int 0, .int 0, .int 0, .int 0, .ref mlots, .ref mthen, .long 0])), (mlines, .inl (cyI, 5, .inl (fun _ => 0))), (mhas, .inl (cyI, 20, .inl f0)), (mtold, .inl (cyI, 35, .inl f1)), (mlaw, .inl (cyI, 120, .inl f2)), (msuit, .inl (cyI, 245, .inl f3)), (mapart, .inl (cyI, 35, .inl f4)), (mact, .inl (cyI, 400, .inl f5))] s.heap := hP
  have hl := lv_entry ([.ref m0, .int 0, .int 1]) (n := 3) (Nat.le_of_ble_eq_true rfl)
  rw [lg_entry_eq]
  generalize (lg_sl ([.ref m0, .int 0, .int 1]) ++ List.replicate (3 - (lg_sl ([.ref m0, .int 0, .int 1])).length) Slot.unset).toArray = ls at hl ⊢
  have hl : lv_has ls 3 [(0, .ref m0), (1, .int 0), (2, .int 1)] := hl
  obtain ⟨H, hHe⟩ : ∃ H, H = s.heap := ⟨_, rfl⟩
  have hP : va_P (dC, dI) vwCl [(m0, .inr (11, [.int 0, .ref mwidth, .ref mmany, .ref mcells, .ref mmoved, .ref mtape, .int 0, .int 0, .int 0, .int 0, .int 0, .long 0, .int 0, .int bp, .int 0, .int (-1), .ref mlines, .ref mhas, .ref mtold, .ref mlaw, .ref msuit, .ref mapart, .ref mact, .ref misKept, .ref mseen, .ref mhung, .int 0, .ref mgoal, .ref mleaps, .ref mqueue, .ref mrow, .int 0, .ref mwanted, .ref mfirst, .ref moften, .int 0, .int 0, .int 0, .int 0, .int 0, .int 0, .ref mlots, .ref mthen, .long 0])), (mlines, .inl (cyI, 5, .inl (fun _ => 0))), (mhas, .inl (cyI, 20, .inl f0)), (mtold, .inl (cyI, 35, .inl f1)), (mlaw, .inl (cyI, 120, .inl f2)), (msuit, .inl (cyI, 245, .inl f3)), (mapart, .inl (cyI, 35, .inl f4)), (mact, .inl (cyI, 400, .inl f5))] H := by rw [hHe]; exact hP
  have hS : va_S A s.heap H [] := by rw [hHe]; exact hS
  refine cv_heap hHe ?_
  refine lv_aload_n hx hb dX12_copyHall_0 rfl (lv_at hl 0 rfl) ?_
  refine va_get (D := (dC, dI)) (ci := 11) (v := .ref mlines) (C := RX12) (T := TX12) (N := 44) hx hb hts uinX12 hown hK hP 0 rfl rfl 16 (by decide) (hts _ wd_6_53) (fun _ h9 => h9) rfl dX12_copyHall_1 ?_
  refine lv_iconst (v := 1) hx hb dX12_copyHall_4 (by decide) ?_
  refine lv_iload_n hx hb dX12_copyHall_5 rfl (lv_at hl 1 rfl) ?_
  refine lv_iload_n hx hb dX12_copyHall_6 rfl (lv_at hl 2 rfl) ?_
  have hPc := hP.sub (ws' := [(mlines, .inl (cyI, 5, .inl (fun _ => 0)))]) [1] rfl
  have hKc := hK.sub (tys' := [(cyI, .int), (cyB, .byte), (cyJ, .long), (cyZ, .boolean), (cyH, .object RX2), (cyN, .array .long)]) [0, 1, 2, 3, 4, 5] rfl
  have hDc := hD.sub (ws' := [(mlines, .inl (cyI, 5, .inl (fun _ => 0)))]) [1] (by decide) rfl
  have hFc := va_free (wc := [(mlines, .inl (cyI, 5, .inl (fun _ => 0)))]) hD hS hA [1] rfl
  refine va_callv (va_runS (As := [.ref mlines, .int 1, .int 0, .int 1]) (rest := []) ⟨hx, hb, hml, hown, hts⟩ (m_copyRow_lines_01 l dC dI cyI cyB cyJ cyZ cyH cyN H.size mlines) (va_cwS 4 hts (gdS wd_7_71 wd_7_72 wd_1_11 wd_7_73) rfl rfl rfl (by decide +kernel) ⟨Nat.le_of_ble_eq_true rfl, Nat.le_of_ble_eq_true rfl⟩) ⟨fun a U g mk q => by obtain ⟨q0, q1, qP, qK, qD⟩ := q; exact ⟨q0, q1, qP, va_K.moved (u := U) (U := U.calling g mk a) (Vm.Alike.refl U.vm) qK, qD⟩, fun U hU hW => ⟨rfl, by rw [hU], by rw [hU]; exact hPc, va_K.moved hW.alike hKc, hDc.weaken (fun _ _ _ _ => trivial)⟩⟩ rfl rfl hl.1 rfl (lv_room (Nat.le_of_ble_eq_true rfl)) dX12_copyHall_7 ⟨Nat.le_of_ble_eq_true rfl, Nat.le_of_ble_eq_true rfl⟩) hS (fun q _ h => hFc q h) hFc (fun  u t H1 locs ht hvm hw hB hz1 hk1 hS => ?_)
  obtain ⟨hP1, hD1⟩ := hB
  rw [ht] at hP1
  obtain ⟨hP, hD⟩ := va_join (wr := [(m0, .inr (11, [.int 0, .ref mwidth, .ref mmany, .ref mcells, .ref mmoved, .ref mtape, .int 0, .int 0, .int 0, .int 0, .int 0, .long 0, .int 0, .int bp, .int 0, .int (-1), .ref mlines, .ref mhas, .ref mtold, .ref mlaw, .ref msuit, .ref mapart, .ref mact, .ref misKept, .ref mseen, .ref mhung, .int 0, .ref mgoal, .ref mleaps, .ref mqueue, .ref mrow, .int 0, .ref mwanted, .ref mfirst, .ref moften, .int 0, .int 0, .int 0, .int 0, .int 0, .int 0, .ref mlots, .ref mthen, .long 0])), (mhas, .inl (cyI, 20, .inl f0)), (mtold, .inl (cyI, 35, .inl f1)), (mlaw, .inl (cyI, 120, .inl f2)), (msuit, .inl (cyI, 245, .inl f3)), (mapart, .inl (cyI, 35, .inl f4)), (mact, .inl (cyI, 400, .inl f5))]) (w1 := [(mlines, .inl (cyI, 5, .inl (fun _ => 0)))]) hP hD [1] [0, 2, 3, 4, 5, 6, 7] rfl rfl (by decide) (by decide) hk1 hFc hP1 hD1
  generalize H1 = H at hP hS ⊢
  have hP : va_P (dC, dI) vwCl [(m0, .inr (11, [.int 0, .ref mwidth, .ref mmany, .ref mcells, .ref mmoved, .ref mtape, .int 0, .int 0, .int 0, .int 0, .int 0, .long 0, .int 0, .int bp, .int 0, .int (-1), .ref mlines, .ref mhas, .ref mtold, .ref mlaw, .ref msuit, .ref mapart, .ref mact, .ref misKept, .ref mseen, .ref mhung, .int 0, .ref mgoal, .ref mleaps, .ref mqueue, .ref mrow, .int 0, .ref mwanted, .ref mfirst, .ref moften, .int 0, .int 0, .int 0, .int 0, .int 0, .int 0, .ref mlots, .ref mthen, .long 0])), (mhas, .inl (cyI, 20, .inl f0)), (mtold, .inl (cyI, 35, .inl f1)), (mlaw, .inl (cyI, 120, .inl f2)), (msuit, .inl (cyI, 245, .inl f3)), (mapart, .inl (cyI, 35, .inl f4)), (mact, .inl (cyI, 400, .inl f5)), (mlines, .inl (cyI, 5, .inl (fun _ => 0)))] H := hP
  have hD : va_D A [(m0, .inr (11, [.int 0, .ref mwidth, .ref mmany, .ref mcells, .ref mmoved, .ref mtape, .int 0, .int 0, .int 0, .int 0, .int 0, .long 0, .int 0, .int bp, .int 0, .int (-1), .ref mlines, .ref mhas, .ref mtold, .ref mlaw, .ref msuit, .ref mapart, .ref mact, .ref misKept, .ref mseen, .ref mhung, .int 0, .ref mgoal, .ref mleaps, .ref mqueue, .ref mrow, .int 0, .ref mwanted, .ref mfirst, .ref moften, .int 0, .int 0, .int 0, .int 0, .int 0, .int 0, .ref mlots, .ref mthen, .long 0])), (mhas, .inl (cyI, 20, .inl f0)), (mtold, .inl (cyI, 35, .inl f1)), (mlaw, .inl (cyI, 120, .inl f2)), (msuit, .inl (cyI, 245, .inl f3)), (mapart, .inl (cyI, 35, .inl f4)), (mact, .inl (cyI, 400, .inl f5)), (mlines, .inl (cyI, 5, .inl (fun _ => 0)))] := hD
  refine lv_aload_n hx hb dX12_copyHall_10 rfl (lv_at hl 0 rfl) ?_
  refine va_get (D := (dC, dI)) (ci := 11) (v := .ref mhas) (C := RX12) (T := TX12) (N := 44) hx hb hts uinX12 hown hK hP 0 rfl rfl 17 (by decide) (hts _ wd_6_54) (fun _ h9 => h9) rfl dX12_copyHall_11 ?_
  refine lv_iconst (v := 4) hx hb dX12_copyHall_14 (by decide) ?_
  refine lv_iload_n hx hb dX12_copyHall_15 rfl (lv_at hl 1 rfl) ?_
  refine lv_iload_n hx hb dX12_copyHall_16 rfl (lv_at hl 2 rfl) ?_
  have hPc := hP.sub (ws' := [(mhas, .inl (cyI, 20, .inl f0))]) [1] rfl
  have hKc := hK.sub (tys' := [(cyI, .int), (cyB, .byte), (cyJ, .long), (cyZ, .boolean), (cyH, .object RX2), (cyN, .array .long)]) [0, 1, 2, 3, 4, 5] rfl
  have hDc := hD.sub (ws' := [(mhas, .inl (cyI, 20, .inl f0))]) [1] (by decide) rfl
  have hFc := va_free (wc := [(mhas, .inl (cyI, 20, .inl f0))]) hD hS hA [1] rfl
  refine va_callv (va_runS (As := [.ref mhas, .int 4, .int 0, .int 1]) (rest := []) ⟨hx, hb, hml, hown, hts⟩ (m_copyRow_has_01 l dC dI cyI cyB cyJ cyZ cyH cyN H.size mhas f0) (va_cwS 4 hts (gdS wd_7_71 wd_7_72 wd_1_11 wd_7_73) rfl rfl rfl (by decide +kernel) ⟨Nat.le_of_ble_eq_true rfl, Nat.le_of_ble_eq_true rfl⟩) ⟨fun a U g mk q => by obtain ⟨q0, q1, qP, qK, qD⟩ := q; exact ⟨q0, q1, qP, va_K.moved (u := U) (U := U.calling g mk a) (Vm.Alike.refl U.vm) qK, qD⟩, fun U hU hW => ⟨rfl, by rw [hU], by rw [hU]; exact hPc, va_K.moved hW.alike hKc, hDc.weaken (fun _ _ _ _ => trivial)⟩⟩ rfl rfl hl.1 rfl (lv_room (Nat.le_of_ble_eq_true rfl)) dX12_copyHall_17 ⟨Nat.le_of_ble_eq_true rfl, Nat.le_of_ble_eq_true rfl⟩) hS (fun q _ h => hFc q h) hFc (fun  u t H1 locs ht hvm hw hB hz1 hk1 hS => ?_)
  obtain ⟨g_1, hP1, hD1⟩ := hB
  rw [ht] at hP1
  obtain ⟨hP, hD⟩ := va_join (wr := [(m0, .inr (11, [.int 0, .ref mwidth, .ref mmany, .ref mcells, .ref mmoved, .ref mtape, .int 0, .int 0, .int 0, .int 0, .int 0, .long 0, .int 0, .int bp, .int 0, .int (-1), .ref mlines, .ref mhas, .ref mtold, .ref mlaw, .ref msuit, .ref mapart, .ref mact, .ref misKept, .ref mseen, .ref mhung, .int 0, .ref mgoal, .ref mleaps, .ref mqueue, .ref mrow, .int 0, .ref mwanted, .ref mfirst, .ref moften, .int 0, .int 0, .int 0, .int 0, .int 0, .int 0, .ref mlots, .ref mthen, .long 0])), (mtold, .inl (cyI, 35, .inl f1)), (mlaw, .inl (cyI, 120, .inl f2)), (msuit, .inl (cyI, 245, .inl f3)), (mapart, .inl (cyI, 35, .inl f4)), (mact, .inl (cyI, 400, .inl f5)), (mlines, .inl (cyI, 5, .inl (fun _ => 0)))]) (w1 := [(mhas, .inl (cyI, 20, .inl g_1))]) hP hD [1] [0, 2, 3, 4, 5, 6, 7] rfl rfl (by decide) (by decide) hk1 hFc hP1 hD1
  generalize H1 = H at hP hS ⊢
  have hP : va_P (dC, dI) vwCl [(m0, .inr (11, [.int 0, .ref mwidth, .ref mmany, .ref mcells, .ref mmoved, .ref mtape, .int 0, .int 0, .int 0, .int 0, .int 0, .long 0, .int 0, .int bp, .int 0, .int (-1), .ref mlines, .ref mhas, .ref mtold, .ref mlaw, .ref msuit, .ref mapart, .ref mact, .ref misKept, .ref mseen, .ref mhung, .int 0, .ref mgoal, .ref mleaps, .ref mqueue, .ref mrow, .int 0, .ref mwanted, .ref mfirst, .ref moften, .int 0, .int 0, .int 0, .int 0, .int 0, .int 0, .ref mlots, .ref mthen, .long 0])), (mtold, .inl (cyI, 35, .inl f1)), (mlaw, .inl (cyI, 120, .inl f2)), (msuit, .inl (cyI, 245, .inl f3)), (mapart, .inl (cyI, 35, .inl f4)), (mact, .inl (cyI, 400, .inl f5)), (mlines, .inl (cyI, 5, .inl (fun _ => 0))), (mhas, .inl (cyI, 20, .inl g_1))] H := hP
  have hD : va_D A [(m0, .inr (11, [.int 0, .ref mwidth, .ref mmany, .ref mcells, .ref mmoved, .ref mtape, .int 0, .int 0, .int 0, .int 0, .int 0, .long 0, .int 0, .int bp, .int 0, .int (-1), .ref mlines, .ref mhas, .ref mtold, .ref mlaw, .ref msuit, .ref mapart, .ref mact, .ref misKept, .ref mseen, .ref mhung, .int 0, .ref mgoal, .ref mleaps, .ref mqueue, .ref mrow, .int 0, .ref mwanted, .ref mfirst, .ref moften, .int 0, .int 0, .int 0, .int 0, .int 0, .int 0, .ref mlots, .ref mthen, .long 0])), (mtold, .inl (cyI, 35, .inl f1)), (mlaw, .inl (cyI, 120, .inl f2)), (msuit, .inl (cyI, 245, .inl f3)), (mapart, .inl (cyI, 35, .inl f4)), (mact, .inl (cyI, 400, .inl f5)), (mlines, .inl (cyI, 5, .inl (fun _ => 0))), (mhas, .inl (cyI, 20, .inl g_1))] := hD
  refine lv_aload_n hx hb dX12_copyHall_20 rfl (lv_at hl 0 rfl) ?_
  refine va_get (D := (dC, dI)) (ci := 11) (v := .ref mtold) (C := RX12) (T := TX12) (N := 44) hx hb hts uinX12 hown hK hP 0 rfl rfl 18 (by decide) (hts _ wd_6_55) (fun _ h9 => h9) rfl dX12_copyHall_21 ?_
  refine lv_bipush (v := 7) hx hb dX12_copyHall_24 (by decide) ?_
  refine lv_iload_n hx hb dX12_copyHall_26 rfl (lv_at hl 1 rfl) ?_
  refine lv_iload_n hx hb dX12_copyHall_27 rfl (lv_at hl 2 rfl) ?_
  have hPc := hP.sub (ws' := [(mtold, .inl (cyI, 35, .inl f1))]) [1] rfl
  have hKc := hK.sub (tys' := [(cyI, .int), (cyB, .byte), (cyJ, .long), (cyZ, .boolean), (cyH, .object RX2), (cyN, .array .long)]) [0, 1, 2, 3, 4, 5] rfl
  have hDc := hD.sub (ws' := [(mtold, .inl (cyI, 35, .inl f1))]) [1] (by decide) rfl
  have hFc := va_free (wc := [(mtold, .inl (cyI, 35, .inl f1))]) hD hS hA [1] rfl
  refine va_callv (va_runS (As := [.ref mtold, .int 7, .int 0, .int 1]) (rest := []) ⟨hx, hb, hml, hown, hts⟩ (m_copyRow_told_01 l dC dI cyI cyB cyJ cyZ cyH cyN H.size mtold f1) (va_cwS 4 hts (gdS wd_7_71 wd_7_72 wd_1_11 wd_7_73) rfl rfl rfl (by decide +kernel) ⟨Nat.le_of_ble_eq_true rfl, Nat.le_of_ble_eq_true rfl⟩) ⟨fun a U g mk q => by obtain ⟨q0, q1, qP, qK, qD⟩ := q; exact ⟨q0, q1, qP, va_K.moved (u := U) (U := U.calling g mk a) (Vm.Alike.refl U.vm) qK, qD⟩, fun U hU hW => ⟨rfl, by rw [hU], by rw [hU]; exact hPc, va_K.moved hW.alike hKc, hDc.weaken (fun _ _ _ _ => trivial)⟩⟩ rfl rfl hl.1 rfl (lv_room (Nat.le_of_ble_eq_true rfl)) dX12_copyHall_28 ⟨Nat.le_of_ble_eq_true rfl, Nat.le_of_ble_eq_true rfl⟩) hS (fun q _ h => hFc q h) hFc (fun  u t H1 locs ht hvm hw hB hz1 hk1 hS => ?_)
  obtain ⟨g_2, hP1, hD1⟩ := hB
  rw [ht] at hP1
  obtain ⟨hP, hD⟩ := va_join (wr := [(m0, .inr (11, [.int 0, .ref mwidth, .ref mmany, .ref mcells, .ref mmoved, .ref mtape, .int 0, .int 0, .int 0, .int 0, .int 0, .long 0, .int 0, .int bp, .int 0, .int (-1), .ref mlines, .ref mhas, .ref mtold, .ref mlaw, .ref msuit, .ref mapart, .ref mact, .ref misKept, .ref mseen, .ref mhung, .int 0, .ref mgoal, .ref mleaps, .ref mqueue, .ref mrow, .int 0, .ref mwanted, .ref mfirst, .ref moften, .int 0, .int 0, .int 0, .int 0, .int 0, .int 0, .ref mlots, .ref mthen, .long 0])), (mlaw, .inl (cyI, 120, .inl f2)), (msuit, .inl (cyI, 245, .inl f3)), (mapart, .inl (cyI, 35, .inl f4)), (mact, .inl (cyI, 400, .inl f5)), (mlines, .inl (cyI, 5, .inl (fun _ => 0))), (mhas, .inl (cyI, 20, .inl g_1))]) (w1 := [(mtold, .inl (cyI, 35, .inl g_2))]) hP hD [1] [0, 2, 3, 4, 5, 6, 7] rfl rfl (by decide) (by decide) hk1 hFc hP1 hD1
  generalize H1 = H at hP hS ⊢
  have hP : va_P (dC, dI) vwCl [(m0, .inr (11, [.int 0, .ref mwidth, .ref mmany, .ref mcells, .ref mmoved, .ref mtape, .int 0, .int 0, .int 0, .int 0, .int 0, .long 0, .int 0, .int bp, .int 0, .int (-1), .ref mlines, .ref mhas, .ref mtold, .ref mlaw, .ref msuit, .ref mapart, .ref mact, .ref misKept, .ref mseen, .ref mhung, .int 0, .ref mgoal, .ref mleaps, .ref mqueue, .ref mrow, .int 0, .ref mwanted, .ref mfirst, .ref moften, .int 0, .int 0, .int 0, .int 0, .int 0, .int 0, .ref mlots, .ref mthen, .long 0])), (mlaw, .inl (cyI, 120, .inl f2)), (msuit, .inl (cyI, 245, .inl f3)), (mapart, .inl (cyI, 35, .inl f4)), (mact, .inl (cyI, 400, .inl f5)), (mlines, .inl (cyI, 5, .inl (fun _ => 0))), (mhas, .inl (cyI, 20, .inl g_1)), (mtold, .inl (cyI, 35, .inl g_2))] H := hP
  have hD : va_D A [(m0, .inr (11, [.int 0, .ref mwidth, .ref mmany, .ref mcells, .ref mmoved, .ref mtape, .int 0, .int 0, .int 0, .int 0, .int 0, .long 0, .int 0, .int bp, .int 0, .int (-1), .ref mlines, .ref mhas, .ref mtold, .ref mlaw, .ref msuit, .ref mapart, .ref mact, .ref misKept, .ref mseen, .ref mhung, .int 0, .ref mgoal, .ref mleaps, .ref mqueue, .ref mrow, .int 0, .ref mwanted, .ref mfirst, .ref moften, .int 0, .int 0, .int 0, .int 0, .int 0, .int 0, .ref mlots, .ref mthen, .long 0])), (mlaw, .inl (cyI, 120, .inl f2)), (msuit, .inl (cyI, 245, .inl f3)), (mapart, .inl (cyI, 35, .inl f4)), (mact, .inl (cyI, 400, .inl f5)), (mlines, .inl (cyI, 5, .inl (fun _ => 0))), (mhas, .inl (cyI, 20, .inl g_1)), (mtold, .inl (cyI, 35, .inl g_2))] := hD
  refine lv_aload_n hx hb dX12_copyHall_31 rfl (lv_at hl 0 rfl) ?_
  refine va_get (D := (dC, dI)) (ci := 11) (v := .ref mlaw) (C := RX12) (T := TX12) (N := 44) hx hb hts uinX12 hown hK hP 0 rfl rfl 19 (by decide) (hts _ wd_6_56) (fun _ h9 => h9) rfl dX12_copyHall_32 ?_
  refine lv_bipush (v := 24) hx hb dX12_copyHall_35 (by decide) ?_
  refine lv_iload_n hx hb dX12_copyHall_37 rfl (lv_at hl 1 rfl) ?_
  refine lv_iload_n hx hb dX12_copyHall_38 rfl (lv_at hl 2 rfl) ?_
  have hPc := hP.sub (ws' := [(mlaw, .inl (cyI, 120, .inl f2))]) [1] rfl
  have hKc := hK.sub (tys' := [(cyI, .int), (cyB, .byte), (cyJ, .long), (cyZ, .boolean), (cyH, .object RX2), (cyN, .array .long)]) [0, 1, 2, 3, 4, 5] rfl
  have hDc := hD.sub (ws' := [(mlaw, .inl (cyI, 120, .inl f2))]) [1] (by decide) rfl
  have hFc := va_free (wc := [(mlaw, .inl (cyI, 120, .inl f2))]) hD hS hA [1] rfl
  refine va_callv (va_runS (As := [.ref mlaw, .int 24, .int 0, .int 1]) (rest := []) ⟨hx, hb, hml, hown, hts⟩ (m_copyRow_law_01 l dC dI cyI cyB cyJ cyZ cyH cyN H.size mlaw f2) (va_cwS 4 hts (gdS wd_7_71 wd_7_72 wd_1_11 wd_7_73) rfl rfl rfl (by decide +kernel) ⟨Nat.le_of_ble_eq_true rfl, Nat.le_of_ble_eq_true rfl⟩) ⟨fun a U g mk q => by obtain ⟨q0, q1, qP, qK, qD⟩ := q; exact ⟨q0, q1, qP, va_K.moved (u := U) (U := U.calling g mk a) (Vm.Alike.refl U.vm) qK, qD⟩, fun U hU hW => ⟨rfl, by rw [hU], by rw [hU]; exact hPc, va_K.moved hW.alike hKc, hDc.weaken (fun _ _ _ _ => trivial)⟩⟩ rfl rfl hl.1 rfl (lv_room (Nat.le_of_ble_eq_true rfl)) dX12_copyHall_39 ⟨Nat.le_of_ble_eq_true rfl, Nat.le_of_ble_eq_true rfl⟩) hS (fun q _ h => hFc q h) hFc (fun  u t H1 locs ht hvm hw hB hz1 hk1 hS => ?_)
  obtain ⟨g_3, hP1, hD1⟩ := hB
  rw [ht] at hP1
  obtain ⟨hP, hD⟩ := va_join (wr := [(m0, .inr (11, [.int 0, .ref mwidth, .ref mmany, .ref mcells, .ref mmoved, .ref mtape, .int 0, .int 0, .int 0, .int 0, .int 0, .long 0, .int 0, .int bp, .int 0, .int (-1), .ref mlines, .ref mhas, .ref mtold, .ref mlaw, .ref msuit, .ref mapart, .ref mact, .ref misKept, .ref mseen, .ref mhung, .int 0, .ref mgoal, .ref mleaps, .ref mqueue, .ref mrow, .int 0, .ref mwanted, .ref mfirst, .ref moften, .int 0, .int 0, .int 0, .int 0, .int 0, .int 0, .ref mlots, .ref mthen, .long 0])), (msuit, .inl (cyI, 245, .inl f3)), (mapart, .inl (cyI, 35, .inl f4)), (mact, .inl (cyI, 400, .inl f5)), (mlines, .inl (cyI, 5, .inl (fun _ => 0))), (mhas, .inl (cyI, 20, .inl g_1)), (mtold, .inl (cyI, 35, .inl g_2))]) (w1 := [(mlaw, .inl (cyI, 120, .inl g_3))]) hP hD [1] [0, 2, 3, 4, 5, 6, 7] rfl rfl (by decide) (by decide) hk1 hFc hP1 hD1
  generalize H1 = H at hP hS ⊢
  have hP : va_P (dC, dI) vwCl [(m0, .inr (11, [.int 0, .ref mwidth, .ref mmany, .ref mcells, .ref mmoved, .ref mtape, .int 0, .int 0, .int 0, .int 0, .int 0, .long 0, .int 0, .int bp, .int 0, .int (-1), .ref mlines, .ref mhas, .ref mtold, .ref mlaw, .ref msuit, .ref mapart, .ref mact, .ref misKept, .ref mseen, .ref mhung, .int 0, .ref mgoal, .ref mleaps, .ref mqueue, .ref mrow, .int 0, .ref mwanted, .ref mfirst, .ref moften, .int 0, .int 0, .int 0, .int 0, .int 0, .int 0, .ref mlots, .ref mthen, .long 0])), (msuit, .inl (cyI, 245, .inl f3)), (mapart, .inl (cyI, 35, .inl f4)), (mact, .inl (cyI, 400, .inl f5)), (mlines, .inl (cyI, 5, .inl (fun _ => 0))), (mhas, .inl (cyI, 20, .inl g_1)), (mtold, .inl (cyI, 35, .inl g_2)), (mlaw, .inl (cyI, 120, .inl g_3))] H := hP
  have hD : va_D A [(m0, .inr (11, [.int 0, .ref mwidth, .ref mmany, .ref mcells, .ref mmoved, .ref mtape, .int 0, .int 0, .int 0, .int 0, .int 0, .long 0, .int 0, .int bp, .int 0, .int (-1), .ref mlines, .ref mhas, .ref mtold, .ref mlaw, .ref msuit, .ref mapart, .ref mact, .ref misKept, .ref mseen, .ref mhung, .int 0, .ref mgoal, .ref mleaps, .ref mqueue, .ref mrow, .int 0, .ref mwanted, .ref mfirst, .ref moften, .int 0, .int 0, .int 0, .int 0, .int 0, .int 0, .ref mlots, .ref mthen, .long 0])), (msuit, .inl (cyI, 245, .inl f3)), (mapart, .inl (cyI, 35, .inl f4)), (mact, .inl (cyI, 400, .inl f5)), (mlines, .inl (cyI, 5, .inl (fun _ => 0))), (mhas, .inl (cyI, 20, .inl g_1)), (mtold, .inl (cyI, 35, .inl g_2)), (mlaw, .inl (cyI, 120, .inl g_3))] := hD
  refine lv_aload_n hx hb dX12_copyHall_42 rfl (lv_at hl 0 rfl) ?_
  refine va_get (D := (dC, dI)) (ci := 11) (v := .ref msuit) (C := RX12) (T := TX12) (N := 44) hx hb hts uinX12 hown hK hP 0 rfl rfl 20 (by decide) (hts _ wd_6_57) (fun _ h9 => h9) rfl dX12_copyHall_43 ?_
  refine lv_bipush (v := 49) hx hb dX12_copyHall_46 (by decide) ?_
  refine lv_iload_n hx hb dX12_copyHall_48 rfl (lv_at hl 1 rfl) ?_
  refine lv_iload_n hx hb dX12_copyHall_49 rfl (lv_at hl 2 rfl) ?_
  have hPc := hP.sub (ws' := [(msuit, .inl (cyI, 245, .inl f3))]) [1] rfl
  have hKc := hK.sub (tys' := [(cyI, .int), (cyB, .byte), (cyJ, .long), (cyZ, .boolean), (cyH, .object RX2), (cyN, .array .long)]) [0, 1, 2, 3, 4, 5] rfl
  have hDc := hD.sub (ws' := [(msuit, .inl (cyI, 245, .inl f3))]) [1] (by decide) rfl
  have hFc := va_free (wc := [(msuit, .inl (cyI, 245, .inl f3))]) hD hS hA [1] rfl
  refine va_callv (va_runS (As := [.ref msuit, .int 49, .int 0, .int 1]) (rest := []) ⟨hx, hb, hml, hown, hts⟩ (m_copyRow_suit_01 l dC dI cyI cyB cyJ cyZ cyH cyN H.size msuit f3) (va_cwS 4 hts (gdS wd_7_71 wd_7_72 wd_1_11 wd_7_73) rfl rfl rfl (by decide +kernel) ⟨Nat.le_of_ble_eq_true rfl, Nat.le_of_ble_eq_true rfl⟩) ⟨fun a U g mk q => by obtain ⟨q0, q1, qP, qK, qD⟩ := q; exact ⟨q0, q1, qP, va_K.moved (u := U) (U := U.calling g mk a) (Vm.Alike.refl U.vm) qK, qD⟩, fun U hU hW => ⟨rfl, by rw [hU], by rw [hU]; exact hPc, va_K.moved hW.alike hKc, hDc.weaken (fun _ _ _ _ => trivial)⟩⟩ rfl rfl hl.1 rfl (lv_room (Nat.le_of_ble_eq_true rfl)) dX12_copyHall_50 ⟨Nat.le_of_ble_eq_true rfl, Nat.le_of_ble_eq_true rfl⟩) hS (fun q _ h => hFc q h) hFc (fun  u t H1 locs ht hvm hw hB hz1 hk1 hS => ?_)
  obtain ⟨g_4, hP1, hD1⟩ := hB
  rw [ht] at hP1
  obtain ⟨hP, hD⟩ := va_join (wr := [(m0, .inr (11, [.int 0, .ref mwidth, .ref mmany, .ref mcells, .ref mmoved, .ref mtape, .int 0, .int 0, .int 0, .int 0, .int 0, .long 0, .int 0, .int bp, .int 0, .int (-1), .ref mlines, .ref mhas, .ref mtold, .ref mlaw, .ref msuit, .ref mapart, .ref mact, .ref misKept, .ref mseen, .ref mhung, .int 0, .ref mgoal, .ref mleaps, .ref mqueue, .ref mrow, .int 0, .ref mwanted, .ref mfirst, .ref moften, .int 0, .int 0, .int 0, .int 0, .int 0, .int 0, .ref mlots, .ref mthen, .long 0])), (mapart, .inl (cyI, 35, .inl f4)), (mact, .inl (cyI, 400, .inl f5)), (mlines, .inl (cyI, 5, .inl (fun _ => 0))), (mhas, .inl (cyI, 20, .inl g_1)), (mtold, .inl (cyI, 35, .inl g_2)), (mlaw, .inl (cyI, 120, .inl g_3))]) (w1 := [(msuit, .inl (cyI, 245, .inl g_4))]) hP hD [1] [0, 2, 3, 4, 5, 6, 7] rfl rfl (by decide) (by decide) hk1 hFc hP1 hD1
  generalize H1 = H at hP hS ⊢
  have hP : va_P (dC, dI) vwCl [(m0, .inr (11, [.int 0, .ref mwidth, .ref mmany, .ref mcells, .ref mmoved, .ref mtape, .int 0, .int 0, .int 0, .int 0, .int 0, .long 0, .int 0, .int bp, .int 0, .int (-1), .ref mlines, .ref mhas, .ref mtold, .ref mlaw, .ref msuit, .ref mapart, .ref mact, .ref misKept, .ref mseen, .ref mhung, .int 0, .ref mgoal, .ref mleaps, .ref mqueue, .ref mrow, .int 0, .ref mwanted, .ref mfirst, .ref moften, .int 0, .int 0, .int 0, .int 0, .int 0, .int 0, .ref mlots, .ref mthen, .long 0])), (mapart, .inl (cyI, 35, .inl f4)), (mact, .inl (cyI, 400, .inl f5)), (mlines, .inl (cyI, 5, .inl (fun _ => 0))), (mhas, .inl (cyI, 20, .inl g_1)), (mtold, .inl (cyI, 35, .inl g_2)), (mlaw, .inl (cyI, 120, .inl g_3)), (msuit, .inl (cyI, 245, .inl g_4))] H := hP
  have hD : va_D A [(m0, .inr (11, [.int 0, .ref mwidth, .ref mmany, .ref mcells, .ref mmoved, .ref mtape, .int 0, .int 0, .int 0, .int 0, .int 0, .long 0, .int 0, .int bp, .int 0, .int (-1), .ref mlines, .ref mhas, .ref mtold, .ref mlaw, .ref msuit, .ref mapart, .ref mact, .ref misKept, .ref mseen, .ref mhung, .int 0, .ref mgoal, .ref mleaps, .ref mqueue, .ref mrow, .int 0, .ref mwanted, .ref mfirst, .ref moften, .int 0, .int 0, .int 0, .int 0, .int 0, .int 0, .ref mlots, .ref mthen, .long 0])), (mapart, .inl (cyI, 35, .inl f4)), (mact, .inl (cyI, 400, .inl f5)), (mlines, .inl (cyI, 5, .inl (fun _ => 0))), (mhas, .inl (cyI, 20, .inl g_1)), (mtold, .inl (cyI, 35, .inl g_2)), (mlaw, .inl (cyI, 120, .inl g_3)), (msuit, .inl (cyI, 245, .inl g_4))] := hD
  refine lv_aload_n hx hb dX12_copyHall_53 rfl (lv_at hl 0 rfl) ?_
  refine va_get (D := (dC, dI)) (ci := 11) (v := .ref mapart) (C := RX12) (T := TX12) (N := 44) hx hb hts uinX12 hown hK hP 0 rfl rfl 21 (by decide) (hts _ wd_6_58) (fun _ h9 => h9) rfl dX12_copyHall_54 ?_
  refine lv_bipush (v := 7) hx hb dX12_copyHall_57 (by decide) ?_
  refine lv_iload_n hx hb dX12_copyHall_59 rfl (lv_at hl 1 rfl) ?_
  refine lv_iload_n hx hb dX12_copyHall_60 rfl (lv_at hl 2 rfl) ?_
  have hPc := hP.sub (ws' := [(mapart, .inl (cyI, 35, .inl f4))]) [1] rfl
  have hKc := hK.sub (tys' := [(cyI, .int), (cyB, .byte), (cyJ, .long), (cyZ, .boolean), (cyH, .object RX2), (cyN, .array .long)]) [0, 1, 2, 3, 4, 5] rfl
  have hDc := hD.sub (ws' := [(mapart, .inl (cyI, 35, .inl f4))]) [1] (by decide) rfl
  have hFc := va_free (wc := [(mapart, .inl (cyI, 35, .inl f4))]) hD hS hA [1] rfl
  refine va_callv (va_runS (As := [.ref mapart, .int 7, .int 0, .int 1]) (rest := []) ⟨hx, hb, hml, hown, hts⟩ (m_copyRow_told_01 l dC dI cyI cyB cyJ cyZ cyH cyN H.size mapart f4) (va_cwS 4 hts (gdS wd_7_71 wd_7_72 wd_1_11 wd_7_73) rfl rfl rfl (by decide +kernel) ⟨Nat.le_of_ble_eq_true rfl, Nat.le_of_ble_eq_true rfl⟩) ⟨fun a U g mk q => by obtain ⟨q0, q1, qP, qK, qD⟩ := q; exact ⟨q0, q1, qP, va_K.moved (u := U) (U := U.calling g mk a) (Vm.Alike.refl U.vm) qK, qD⟩, fun U hU hW => ⟨rfl, by rw [hU], by rw [hU]; exact hPc, va_K.moved hW.alike hKc, hDc.weaken (fun _ _ _ _ => trivial)⟩⟩ rfl rfl hl.1 rfl (lv_room (Nat.le_of_ble_eq_true rfl)) dX12_copyHall_61 ⟨Nat.le_of_ble_eq_true rfl, Nat.le_of_ble_eq_true rfl⟩) hS (fun q _ h => hFc q h) hFc (fun  u t H1 locs ht hvm hw hB hz1 hk1 hS => ?_)
  obtain ⟨g_5, hP1, hD1⟩ := hB
  rw [ht] at hP1
  obtain ⟨hP, hD⟩ := va_join (wr := [(m0, .inr (11, [.int 0, .ref mwidth, .ref mmany, .ref mcells, .ref mmoved, .ref mtape, .int 0, .int 0, .int 0, .int 0, .int 0, .long 0, .int 0, .int bp, .int 0, .int (-1), .ref mlines, .ref mhas, .ref mtold, .ref mlaw, .ref msuit, .ref mapart, .ref mact, .ref misKept, .ref mseen, .ref mhung, .int 0, .ref mgoal, .ref mleaps, .ref mqueue, .ref mrow, .int 0, .ref mwanted, .ref mfirst, .ref moften, .int 0, .int 0, .int 0, .int 0, .int 0, .int 0, .ref mlots, .ref mthen, .long 0])), (mact, .inl (cyI, 400, .inl f5)), (mlines, .inl (cyI, 5, .inl (fun _ => 0))), (mhas, .inl (cyI, 20, .inl g_1)), (mtold, .inl (cyI, 35, .inl g_2)), (mlaw, .inl (cyI, 120, .inl g_3)), (msuit, .inl (cyI, 245, .inl g_4))]) (w1 := [(mapart, .inl (cyI, 35, .inl g_5))]) hP hD [1] [0, 2, 3, 4, 5, 6, 7] rfl rfl (by decide) (by decide) hk1 hFc hP1 hD1
  generalize H1 = H at hP hS ⊢
  have hP : va_P (dC, dI) vwCl [(m0, .inr (11, [.int 0, .ref mwidth, .ref mmany, .ref mcells, .ref mmoved, .ref mtape, .int 0, .int 0, .int 0, .int 0, .int 0, .long 0, .int 0, .int bp, .int 0, .int (-1), .ref mlines, .ref mhas, .ref mtold, .ref mlaw, .ref msuit, .ref mapart, .ref mact, .ref misKept, .ref mseen, .ref mhung, .int 0, .ref mgoal, .ref mleaps, .ref mqueue, .ref mrow, .int 0, .ref mwanted, .ref mfirst, .ref moften, .int 0, .int 0, .int 0, .int 0, .int 0, .int 0, .ref mlots, .ref mthen, .long 0])), (mact, .inl (cyI, 400, .inl f5)), (mlines, .inl (cyI, 5, .inl (fun _ => 0))), (mhas, .inl (cyI, 20, .inl g_1)), (mtold, .inl (cyI, 35, .inl g_2)), (mlaw, .inl (cyI, 120, .inl g_3)), (msuit, .inl (cyI, 245, .inl g_4)), (mapart, .inl (cyI, 35, .inl g_5))] H := hP
  have hD : va_D A [(m0, .inr (11, [.int 0, .ref mwidth, .ref mmany, .ref mcells, .ref mmoved, .ref mtape, .int 0, .int 0, .int 0, .int 0, .int 0, .long 0, .int 0, .int bp, .int 0, .int (-1), .ref mlines, .ref mhas, .ref mtold, .ref mlaw, .ref msuit, .ref mapart, .ref mact, .ref misKept, .ref mseen, .ref mhung, .int 0, .ref mgoal, .ref mleaps, .ref mqueue, .ref mrow, .int 0, .ref mwanted, .ref mfirst, .ref moften, .int 0, .int 0, .int 0, .int 0, .int 0, .int 0, .ref mlots, .ref mthen, .long 0])), (mact, .inl (cyI, 400, .inl f5)), (mlines, .inl (cyI, 5, .inl (fun _ => 0))), (mhas, .inl (cyI, 20, .inl g_1)), (mtold, .inl (cyI, 35, .inl g_2)), (mlaw, .inl (cyI, 120, .inl g_3)), (msuit, .inl (cyI, 245, .inl g_4)), (mapart, .inl (cyI, 35, .inl g_5))] := hD
  refine lv_aload_n hx hb dX12_copyHall_64 rfl (lv_at hl 0 rfl) ?_
  refine va_get (D := (dC, dI)) (ci := 11) (v := .ref mact) (C := RX12) (T := TX12) (N := 44) hx hb hts uinX12 hown hK hP 0 rfl rfl 22 (by decide) (hts _ wd_6_59) (fun _ h9 => h9) rfl dX12_copyHall_65 ?_
  refine lv_bipush (v := 80) hx hb dX12_copyHall_68 (by decide) ?_
  refine lv_iload_n hx hb dX12_copyHall_70 rfl (lv_at hl 1 rfl) ?_
  refine lv_iload_n hx hb dX12_copyHall_71 rfl (lv_at hl 2 rfl) ?_
  have hPc := hP.sub (ws' := [(mact, .inl (cyI, 400, .inl f5))]) [1] rfl
  have hKc := hK.sub (tys' := [(cyI, .int), (cyB, .byte), (cyJ, .long), (cyZ, .boolean), (cyH, .object RX2), (cyN, .array .long)]) [0, 1, 2, 3, 4, 5] rfl
  have hDc := hD.sub (ws' := [(mact, .inl (cyI, 400, .inl f5))]) [1] (by decide) rfl
  have hFc := va_free (wc := [(mact, .inl (cyI, 400, .inl f5))]) hD hS hA [1] rfl
  refine va_callv (va_runS (As := [.ref mact, .int 80, .int 0, .int 1]) (rest := []) ⟨hx, hb, hml, hown, hts⟩ (m_copyRow_act_01 l dC dI cyI cyB cyJ cyZ cyH cyN H.size mact f5) (va_cwS 4 hts (gdS wd_7_71 wd_7_72 wd_1_11 wd_7_73) rfl rfl rfl (by decide +kernel) ⟨Nat.le_of_ble_eq_true rfl, Nat.le_of_ble_eq_true rfl⟩) ⟨fun a U g mk q => by obtain ⟨q0, q1, qP, qK, qD⟩ := q; exact ⟨q0, q1, qP, va_K.moved (u := U) (U := U.calling g mk a) (Vm.Alike.refl U.vm) qK, qD⟩, fun U hU hW => ⟨rfl, by rw [hU], by rw [hU]; exact hPc, va_K.moved hW.alike hKc, hDc.weaken (fun _ _ _ _ => trivial)⟩⟩ rfl rfl hl.1 rfl (lv_room (Nat.le_of_ble_eq_true rfl)) dX12_copyHall_72 ⟨Nat.le_of_ble_eq_true rfl, Nat.le_of_ble_eq_true rfl⟩) hS (fun q _ h => hFc q h) hFc (fun  u t H1 locs ht hvm hw hB hz1 hk1 hS => ?_)
  obtain ⟨g_6, hP1, hD1⟩ := hB
  rw [ht] at hP1
  obtain ⟨hP, hD⟩ := va_join (wr := [(m0, .inr (11, [.int 0, .ref mwidth, .ref mmany, .ref mcells, .ref mmoved, .ref mtape, .int 0, .int 0, .int 0, .int 0, .int 0, .long 0, .int 0, .int bp, .int 0, .int (-1), .ref mlines, .ref mhas, .ref mtold, .ref mlaw, .ref msuit, .ref mapart, .ref mact, .ref misKept, .ref mseen, .ref mhung, .int 0, .ref mgoal, .ref mleaps, .ref mqueue, .ref mrow, .int 0, .ref mwanted, .ref mfirst, .ref moften, .int 0, .int 0, .int 0, .int 0, .int 0, .int 0, .ref mlots, .ref mthen, .long 0])), (mlines, .inl (cyI, 5, .inl (fun _ => 0))), (mhas, .inl (cyI, 20, .inl g_1)), (mtold, .inl (cyI, 35, .inl g_2)), (mlaw, .inl (cyI, 120, .inl g_3)), (msuit, .inl (cyI, 245, .inl g_4)), (mapart, .inl (cyI, 35, .inl g_5))]) (w1 := [(mact, .inl (cyI, 400, .inl g_6))]) hP hD [1] [0, 2, 3, 4, 5, 6, 7] rfl rfl (by decide) (by decide) hk1 hFc hP1 hD1
  generalize H1 = H at hP hS ⊢
  have hP : va_P (dC, dI) vwCl [(m0, .inr (11, [.int 0, .ref mwidth, .ref mmany, .ref mcells, .ref mmoved, .ref mtape, .int 0, .int 0, .int 0, .int 0, .int 0, .long 0, .int 0, .int bp, .int 0, .int (-1), .ref mlines, .ref mhas, .ref mtold, .ref mlaw, .ref msuit, .ref mapart, .ref mact, .ref misKept, .ref mseen, .ref mhung, .int 0, .ref mgoal, .ref mleaps, .ref mqueue, .ref mrow, .int 0, .ref mwanted, .ref mfirst, .ref moften, .int 0, .int 0, .int 0, .int 0, .int 0, .int 0, .ref mlots, .ref mthen, .long 0])), (mlines, .inl (cyI, 5, .inl (fun _ => 0))), (mhas, .inl (cyI, 20, .inl g_1)), (mtold, .inl (cyI, 35, .inl g_2)), (mlaw, .inl (cyI, 120, .inl g_3)), (msuit, .inl (cyI, 245, .inl g_4)), (mapart, .inl (cyI, 35, .inl g_5)), (mact, .inl (cyI, 400, .inl g_6))] H := hP
  have hD : va_D A [(m0, .inr (11, [.int 0, .ref mwidth, .ref mmany, .ref mcells, .ref mmoved, .ref mtape, .int 0, .int 0, .int 0, .int 0, .int 0, .long 0, .int 0, .int bp, .int 0, .int (-1), .ref mlines, .ref mhas, .ref mtold, .ref mlaw, .ref msuit, .ref mapart, .ref mact, .ref misKept, .ref mseen, .ref mhung, .int 0, .ref mgoal, .ref mleaps, .ref mqueue, .ref mrow, .int 0, .ref mwanted, .ref mfirst, .ref moften, .int 0, .int 0, .int 0, .int 0, .int 0, .int 0, .ref mlots, .ref mthen, .long 0])), (mlines, .inl (cyI, 5, .inl (fun _ => 0))), (mhas, .inl (cyI, 20, .inl g_1)), (mtold, .inl (cyI, 35, .inl g_2)), (mlaw, .inl (cyI, 120, .inl g_3)), (msuit, .inl (cyI, 245, .inl g_4)), (mapart, .inl (cyI, 35, .inl g_5)), (mact, .inl (cyI, 400, .inl g_6))] := hD
  have hP9 := hP.sub (ws' := [(m0, .inr (11, [.int 0, .ref mwidth, .ref mmany, .ref mcells, .ref mmoved, .ref mtape, .int 0, .int 0, .int 0, .int 0, .int 0, .long 0, .int 0, .int bp, .int 0, .int (-1), .ref mlines, .ref mhas, .ref mtold, .ref mlaw, .ref msuit, .ref mapart, .ref mact, .ref misKept, .ref mseen, .ref mhung, .int 0, .ref mgoal, .ref mleaps, .ref mqueue, .ref mrow, .int 0, .ref mwanted, .ref mfirst, .ref moften, .int 0, .int 0, .int 0, .int 0, .int 0, .int 0, .ref mlots, .ref mthen, .long 0])), (mlines, .inl (cyI, 5, .inl (fun _ => 0)))]) [0, 1] rfl
  have hD9 := hD.sub (ws' := [(m0, .inr (11, [.int 0, .ref mwidth, .ref mmany, .ref mcells, .ref mmoved, .ref mtape, .int 0, .int 0, .int 0, .int 0, .int 0, .long 0, .int 0, .int bp, .int 0, .int (-1), .ref mlines, .ref mhas, .ref mtold, .ref mlaw, .ref msuit, .ref mapart, .ref mact, .ref misKept, .ref mseen, .ref mhung, .int 0, .ref mgoal, .ref mleaps, .ref mqueue, .ref mrow, .int 0, .ref mwanted, .ref mfirst, .ref moften, .int 0, .int 0, .int 0, .int 0, .int 0, .int 0, .ref mlots, .ref mthen, .long 0])), (mlines, .inl (cyI, 5, .inl (fun _ => 0)))]) [0, 1] (by decide) rfl
  exact W.vret hx hb hr (fun t ht hW => ⟨⟨(), rfl, trivial, ⟨by rw [ht]; exact hP9, hD9⟩⟩, hS.F ht⟩) hS.2.2 dX12_copyHall_75

/- X12_copyRow -/
set_option maxHeartbeats 4000000 in
set_option maxRecDepth 100000 in
theorem m_copyRow_lines_02 (l : Launch) (dC : Nat → ClassId) (dI : Nat → Nat → Nat) (cyI cyB cyJ cyZ cyH cyN : ClassId) (sz : Nat) (h0 : Nat) : Met l yX12_copyRow (wk yX12_copyRow cX12_copyRow 5 none) ({ frames := 1, cells := 0, slots := 0, locals := 60 }) (va_Pc [.ref h0, .int 1, .int 0, .int 2] (fun U => U.heap.size = sz ∧ va_P (dC, dI) vwCl [(h0, .inl (cyI, 5, .inl (fun _ => 0)))] U.heap ∧ va_K (dC, dI) vwCl [(cyI, .int), (cyB, .byte), (cyJ, .long), (cyZ, .boolean), (cyH, .object RX2), (cyN, .array .long)] U ∧ va_D (fun _ => True) [(h0, .inl (cyI, 5, .inl (fun _ => 0)))])) (va_Qv (fun _ : Unit => True) (fun (_ : Unit) (t : State) => va_P (dC, dI) vwCl [(h0, .inl (cyI, 5, .inl (fun _ => 0)))] t.heap ∧ va_D (va_A [(h0, .inl (cyI, 5, .inl (fun _ => 0)))] sz) [(h0, .inl (cyI, 5, .inl (fun _ => 0)))]) (va_A [(h0, .inl (cyI, 5, .inl (fun _ => 0)))] sz)) 0 0 (va_A [(h0, .inl (cyI, 5, .inl (fun _ => 0)))] sz) := by
  refine Met.ofW (cc := cX12_copyRow) (maxL := 5) (ret := none) (by decide) rfl ?_
  intro p e s m args below meth c s₁ B hml hv
  obtain ⟨rfl, hsz, hP, hK, hD0⟩ := hv
  have hx := B.exec
  have hb := B.bytes
  have hr := B.returns
  have hts : ∀ w ∈ uU, w.before ([.ref h0, .int 1, .int 0, .int 2] : List Value).toArray s = true := fun w h => atoms_spec (ws := wk yX12_copyRow cX12_copyRow 5 none) B.pre w (List.mem_cons_of_mem _ h)
  have hown : s.vm.findClass RX12 = some m.cls := findClass_of_methodNamed B.named
  have hlocks := B.notSynchronized
  subst hsz
  have hD := hD0.self (sz := s.heap.size)
  generalize hAe : va_A [(h0, .inl (cyI, 5, .inl (fun _ => 0)))] s.heap.size = A at hD ⊢
  have hA : ∀ q : Nat, s.heap.size ≤ q → A q := fun q h => by rw [← hAe]; exact Or.inr h
  have hS : va_S A s.heap s.heap [] := va_S.rf
  have hP : va_P (dC, dI) vwCl [(h0, .inl (cyI, 5, .inl (fun _ => 0)))] s.heap := hP
  have hl := lv_entry ([.ref h0, .int 1, .int 0, .int 2]) (n := 5) (Nat.le_of_ble_eq_true rfl)
  rw [lg_entry_eq]
  generalize (lg_sl ([.ref h0, .int 1, .int 0, .int 2]) ++ List.replicate (5 - (lg_sl ([.ref h0, .int 1, .int 0, .int 2])).length) Slot.unset).toArray = ls at hl ⊢
  have hl : lv_has ls 5 [(0, .ref h0), (1, .int 1), (2, .int 0), (3, .int 2)] := hl
  obtain ⟨H, hHe⟩ : ∃ H, H = s.heap := ⟨_, rfl⟩
  have hP : va_P (dC, dI) vwCl [(h0, .inl (cyI, 5, .inl (fun _ => 0)))] H := by rw [hHe]; exact hP
  have hS : va_S A s.heap H [] := by rw [hHe]; exact hS
  refine cv_heap hHe ?_
  refine lv_iconst (v := 0) hx hb dX12_copyRow_0 (by decide) ?_
  refine lv_istore (lv' := [(4, .int 0), (0, .ref h0), (1, .int 1), (2, .int 0), (3, .int 2)]) hx hb dX12_copyRow_1 hl (by decide) rfl (fun ls hl => ?_)
  refine lv_iload hx hb dX12_copyRow_3 (lv_at hl 0 rfl) ?_
  refine lv_iload_n hx hb dX12_copyRow_5 rfl (lv_at hl 2 rfl) ?_
  refine lv_icmp_ge (tgt := 31) hx hb dX12_copyRow_6 (by decide) (fun c_1 => absurd c_1 (by decide)) (fun _ => ?_)
  refine lv_aload_n hx hb dX12_copyRow_9 rfl (lv_at hl 1 rfl) ?_
  refine lv_iload_n hx hb dX12_copyRow_10 rfl (lv_at hl 2 rfl) ?_
  refine lv_iload_n hx hb dX12_copyRow_11 rfl (lv_at hl 4 rfl) ?_
  refine lv_imul hx hb dX12_copyRow_12 ?_
  refine cv_topi (b := 2) (by decide) ?_
  refine lv_iload hx hb dX12_copyRow_13 (lv_at hl 0 rfl) ?_
  refine lv_iadd hx hb dX12_copyRow_15 ?_
  refine cv_topi (b := 2) (by decide) ?_
  refine lv_aload_n hx hb dX12_copyRow_16 rfl (lv_at hl 1 rfl) ?_
  refine lv_iload_n hx hb dX12_copyRow_17 rfl (lv_at hl 2 rfl) ?_
  refine lv_iload_n hx hb dX12_copyRow_18 rfl (lv_at hl 3 rfl) ?_
  refine lv_imul hx hb dX12_copyRow_19 ?_
  refine cv_topi (b := 0) (by decide) ?_
  refine lv_iload hx hb dX12_copyRow_20 (lv_at hl 0 rfl) ?_
  refine lv_iadd hx hb dX12_copyRow_22 ?_
  refine cv_topi (b := 0) (by decide) ?_
  refine va_iald hx hb hK hP 0 0 rfl rfl (vp_in_iff.mpr (by decide)) dX12_copyRow_23 ?_
  refine cv_topi (b := 0) (rfl) ?_
  refine va_iast hx hb hK hP hD hS 0 0 rfl rfl (vp_in_iff.mpr (by decide)) dX12_copyRow_24 (fun H locs hP hD hS => ?_)
  rw [cv_upd0] at hP hD
  have hP : va_P (dC, dI) vwCl [(h0, .inl (cyI, 5, .inl (fun _ => 0)))] H := hP
  have hD : va_D A [(h0, .inl (cyI, 5, .inl (fun _ => 0)))] := hD
  refine lv_iinc (v := 1) (lv' := [(4, .int 1), (0, .ref h0), (1, .int 1), (2, .int 0), (3, .int 2)]) hx hb dX12_copyRow_25 hl (k := 0) rfl (by decide) (by decide) rfl (fun ls hl => ?_)
  refine lv_goto (tgt := 3) hx hb dX12_copyRow_28 (by decide) ?_
  refine lv_iload hx hb dX12_copyRow_3 (lv_at hl 0 rfl) ?_
  refine lv_iload_n hx hb dX12_copyRow_5 rfl (lv_at hl 2 rfl) ?_
  refine lv_icmp_ge (tgt := 31) hx hb dX12_copyRow_6 (by decide) (fun _ => ?_) (fun c_2 => absurd c_2 (by decide))
  have hP9 := hP.sub (ws' := [(h0, .inl (cyI, 5, .inl (fun _ => 0)))]) [0] rfl
  have hD9 := hD.sub (ws' := [(h0, .inl (cyI, 5, .inl (fun _ => 0)))]) [0] (by decide) rfl
  exact W.vret hx hb hr (fun t ht hW => ⟨⟨(), rfl, trivial, ⟨by rw [ht]; exact hP9, hD9⟩⟩, hS.F ht⟩) hS.2.2 dX12_copyRow_31

/- X12_copyRow -/
set_option maxHeartbeats 4000000 in
set_option maxRecDepth 100000 in
theorem m_copyRow_has_02 (l : Launch) (dC : Nat → ClassId) (dI : Nat → Nat → Nat) (cyI cyB cyJ cyZ cyH cyN : ClassId) (sz : Nat) (h0 : Nat) (f : Nat → Int32) : Met l yX12_copyRow (wk yX12_copyRow cX12_copyRow 5 none) ({ frames := 1, cells := 0, slots := 0, locals := 60 }) (va_Pc [.ref h0, .int 4, .int 0, .int 2] (fun U => U.heap.size = sz ∧ va_P (dC, dI) vwCl [(h0, .inl (cyI, 20, .inl f))] U.heap ∧ va_K (dC, dI) vwCl [(cyI, .int), (cyB, .byte), (cyJ, .long), (cyZ, .boolean), (cyH, .object RX2), (cyN, .array .long)] U ∧ va_D (fun _ => True) [(h0, .inl (cyI, 20, .inl f))])) (va_Qv (fun _ : Unit => True) (fun (_ : Unit) (t : State) => ∃ g : Nat → Int32, va_P (dC, dI) vwCl [(h0, .inl (cyI, 20, .inl g))] t.heap ∧ va_D (va_A [(h0, .inl (cyI, 20, .inl f))] sz) [(h0, .inl (cyI, 20, .inl g))]) (va_A [(h0, .inl (cyI, 20, .inl f))] sz)) 0 0 (va_A [(h0, .inl (cyI, 20, .inl f))] sz) := by
  refine Met.ofW (cc := cX12_copyRow) (maxL := 5) (ret := none) (by decide) rfl ?_
  intro p e s m args below meth c s₁ B hml hv
  obtain ⟨rfl, hsz, hP, hK, hD0⟩ := hv
  have hx := B.exec
  have hb := B.bytes
  have hr := B.returns
  have hts : ∀ w ∈ uU, w.before ([.ref h0, .int 4, .int 0, .int 2] : List Value).toArray s = true := fun w h => atoms_spec (ws := wk yX12_copyRow cX12_copyRow 5 none) B.pre w (List.mem_cons_of_mem _ h)
  have hown : s.vm.findClass RX12 = some m.cls := findClass_of_methodNamed B.named
  have hlocks := B.notSynchronized
  subst hsz
  have hD := hD0.self (sz := s.heap.size)
  generalize hAe : va_A [(h0, .inl (cyI, 20, .inl f))] s.heap.size = A at hD ⊢
  have hA : ∀ q : Nat, s.heap.size ≤ q → A q := fun q h => by rw [← hAe]; exact Or.inr h
  have hS : va_S A s.heap s.heap [] := va_S.rf
  have hP : va_P (dC, dI) vwCl [(h0, .inl (cyI, 20, .inl f))] s.heap := hP
  have hl := lv_entry ([.ref h0, .int 4, .int 0, .int 2]) (n := 5) (Nat.le_of_ble_eq_true rfl)
  rw [lg_entry_eq]
  generalize (lg_sl ([.ref h0, .int 4, .int 0, .int 2]) ++ List.replicate (5 - (lg_sl ([.ref h0, .int 4, .int 0, .int 2])).length) Slot.unset).toArray = ls at hl ⊢
  have hl : lv_has ls 5 [(0, .ref h0), (1, .int 4), (2, .int 0), (3, .int 2)] := hl
  obtain ⟨H, hHe⟩ : ∃ H, H = s.heap := ⟨_, rfl⟩
  have hP : va_P (dC, dI) vwCl [(h0, .inl (cyI, 20, .inl f))] H := by rw [hHe]; exact hP
  have hS : va_S A s.heap H [] := by rw [hHe]; exact hS
  refine cv_heap hHe ?_
  refine lv_iconst (v := 0) hx hb dX12_copyRow_0 (by decide) ?_
  refine lv_istore (lv' := [(4, .int 0), (0, .ref h0), (1, .int 4), (2, .int 0), (3, .int 2)]) hx hb dX12_copyRow_1 hl (by decide) rfl (fun ls hl => ?_)
  have key : ∀ (Q : State → Prop) (R : Room), (∀ (f_1 : Nat → Int32) (H : Heap) (locs : List Loc) (ls : Array Slot), va_P (dC, dI) vwCl [(h0, .inl (cyI, 20, .inl f_1))] H → va_D A [(h0, .inl (cyI, 20, .inl f_1))] → va_S A s.heap H locs → lv_has ls 5 [(4, .int 4), (0, .ref h0), (1, .int 4), (2, .int 0), (3, .int 2)] → W p l e R s m ([.ref h0, .int 4, .int 0, .int 2] : List Value).toArray below meth c H locs 0 0 Q (F0 m 31 ls [])) → ∀ (n k : Nat) (f_1 : Nat → Int32) (H : Heap) (locs : List Loc) (ls : Array Slot), k + n = 4 → va_P (dC, dI) vwCl [(h0, .inl (cyI, 20, .inl f_1))] H → va_D A [(h0, .inl (cyI, 20, .inl f_1))] → va_S A s.heap H locs → lv_has ls 5 [(4, .int (nI k)), (0, .ref h0), (1, .int 4), (2, .int 0), (3, .int 2)] → W p l e R s m ([.ref h0, .int 4, .int 0, .int 2] : List Value).toArray below meth c H locs 0 0 Q (F0 m 3 ls []) := by
    intro Q R kx n
    induction n with
    | zero =>
      intro k f_1 H locs ls hn hP hD hS hl
      have hkN : k = 4 := by omega
      have hl : lv_has ls 5 [(4, .int 4), (0, .ref h0), (1, .int 4), (2, .int 0), (3, .int 2)] := by rw [hkN] at hl; exact hl
      refine lv_iload hx hb dX12_copyRow_3 (lv_at hl 0 rfl) ?_
      refine lv_iload_n hx hb dX12_copyRow_5 rfl (lv_at hl 2 rfl) ?_
      refine lv_icmp_ge (tgt := 31) hx hb dX12_copyRow_6 (by decide) (fun _ => ?_) (fun c_2 => absurd c_2 (by decide))
      exact kx f_1 _ _ _ hP hD hS (lv_sub hl [0, 1, 2, 3, 4] rfl)
    | succ n ih =>
      intro k f_1 H locs ls hn hP hD hS hl
      have hk9 : (nI k).toInt = (k : Int) := nI_toInt (by omega)
      refine lv_iload hx hb dX12_copyRow_3 (lv_at hl 0 rfl) ?_
      refine lv_iload_n hx hb dX12_copyRow_5 rfl (lv_at hl 2 rfl) ?_
      refine lv_icmp_ge (tgt := 31) hx hb dX12_copyRow_6 (by decide) (fun c_3 => absurd (show 4 ≤ (nI k).toInt from cv_le c_3) (by omega)) (fun _ => ?_)
      refine lv_aload_n hx hb dX12_copyRow_9 rfl (lv_at hl 1 rfl) ?_
      refine lv_iload_n hx hb dX12_copyRow_10 rfl (lv_at hl 2 rfl) ?_
      refine lv_iload_n hx hb dX12_copyRow_11 rfl (lv_at hl 4 rfl) ?_
      refine lv_imul hx hb dX12_copyRow_12 ?_
      refine cv_topi (b := 8) (by decide) ?_
      refine lv_iload hx hb dX12_copyRow_13 (lv_at hl 0 rfl) ?_
      refine lv_iadd hx hb dX12_copyRow_15 ?_
      refine lv_topi (fun x_4 ex_4 => ?_)
      have fx_4 : x_4.toInt = 8 + (nI k).toInt := by rw [ex_4]; exact cv_addI (by have : (8 : Int32).toInt = 8 := rfl; omega) (by have : (8 : Int32).toInt = 8 := rfl; omega)
      refine lv_aload_n hx hb dX12_copyRow_16 rfl (lv_at hl 1 rfl) ?_
      refine lv_iload_n hx hb dX12_copyRow_17 rfl (lv_at hl 2 rfl) ?_
      refine lv_iload_n hx hb dX12_copyRow_18 rfl (lv_at hl 3 rfl) ?_
      refine lv_imul hx hb dX12_copyRow_19 ?_
      refine cv_topi (b := 0) (by decide) ?_
      refine lv_iload hx hb dX12_copyRow_20 (lv_at hl 0 rfl) ?_
      refine lv_iadd hx hb dX12_copyRow_22 ?_
      refine lv_topi (fun x_5 ex_5 => ?_)
      have fx_5 : x_5.toInt = 0 + (nI k).toInt := by rw [ex_5]; exact cv_addI (by have : (0 : Int32).toInt = 0 := rfl; omega) (by have : (0 : Int32).toInt = 0 := rfl; omega)
      refine va_iald hx hb hK hP 0 0 rfl rfl (vp_in_iff.mpr (by omega)) dX12_copyRow_23 ?_
      refine lv_topi (fun x_6 ex_6 => ?_)
      refine va_iast hx hb hK hP hD hS 0 0 rfl rfl (vp_in_iff.mpr (by omega)) dX12_copyRow_24 (fun H locs hP hD hS => ?_)
      obtain ⟨f_7, ef_7⟩ : ∃ z9 : Nat → Int32, z9 = upd f_1 x_4.toNatClampNeg x_6 := ⟨_, rfl⟩
      rw [← ef_7] at hP hD
      have hP : va_P (dC, dI) vwCl [(h0, .inl (cyI, 20, .inl f_7))] H := hP
      have hD : va_D A [(h0, .inl (cyI, 20, .inl f_7))] := hD
      obtain ⟨x_8, ex_8⟩ : ∃ y : Int32, y = (nI k) + 1 := ⟨_, rfl⟩
      refine lv_iinc (v := x_8) (lv' := [(4, .int x_8), (0, .ref h0), (1, .int 4), (2, .int 0), (3, .int 2)]) hx hb dX12_copyRow_25 hl (k := 0) rfl (by rw [ex_8]; rfl) (by decide) rfl (fun ls hl => ?_)
      refine lv_goto (tgt := 3) hx hb dX12_copyRow_28 (by decide) ?_
      have hl : lv_has ls 5 [(4, .int (nI (k + 1))), (0, .ref h0), (1, .int 4), (2, .int 0), (3, .int 2)] := by rw [← nI_1, ← ex_8]; exact hl
      exact ih (k + 1) f_7 _ _ _ (by omega) hP hD hS (lv_sub hl [0, 1, 2, 3, 4] rfl)
  refine key _ _ (fun f_9 H locs ls hP hD hS hl => ?_) 4 0 f _ _ _ (by omega) hP hD hS hl
  have hP9 := hP.sub (ws' := [(h0, .inl (cyI, 20, .inl f_9))]) [0] rfl
  have hD9 := hD.sub (ws' := [(h0, .inl (cyI, 20, .inl f_9))]) [0] (by decide) rfl
  exact W.vret hx hb hr (fun t ht hW => ⟨⟨(), rfl, trivial, ⟨f_9, by rw [ht]; exact hP9, hD9⟩⟩, hS.F ht⟩) hS.2.2 dX12_copyRow_31

/- X12_copyRow -/
set_option maxHeartbeats 4000000 in
set_option maxRecDepth 100000 in
theorem m_copyRow_told_02 (l : Launch) (dC : Nat → ClassId) (dI : Nat → Nat → Nat) (cyI cyB cyJ cyZ cyH cyN : ClassId) (sz : Nat) (h0 : Nat) (f : Nat → Int32) : Met l yX12_copyRow (wk yX12_copyRow cX12_copyRow 5 none) ({ frames := 1, cells := 0, slots := 0, locals := 60 }) (va_Pc [.ref h0, .int 7, .int 0, .int 2] (fun U => U.heap.size = sz ∧ va_P (dC, dI) vwCl [(h0, .inl (cyI, 35, .inl f))] U.heap ∧ va_K (dC, dI) vwCl [(cyI, .int), (cyB, .byte), (cyJ, .long), (cyZ, .boolean), (cyH, .object RX2), (cyN, .array .long)] U ∧ va_D (fun _ => True) [(h0, .inl (cyI, 35, .inl f))])) (va_Qv (fun _ : Unit => True) (fun (_ : Unit) (t : State) => ∃ g : Nat → Int32, va_P (dC, dI) vwCl [(h0, .inl (cyI, 35, .inl g))] t.heap ∧ va_D (va_A [(h0, .inl (cyI, 35, .inl f))] sz) [(h0, .inl (cyI, 35, .inl g))]) (va_A [(h0, .inl (cyI, 35, .inl f))] sz)) 0 0 (va_A [(h0, .inl (cyI, 35, .inl f))] sz) := by
  refine Met.ofW (cc := cX12_copyRow) (maxL := 5) (ret := none) (by decide) rfl ?_
  intro p e s m args below meth c s₁ B hml hv
  obtain ⟨rfl, hsz, hP, hK, hD0⟩ := hv
  have hx := B.exec
  have hb := B.bytes
  have hr := B.returns
  have hts : ∀ w ∈ uU, w.before ([.ref h0, .int 7, .int 0, .int 2] : List Value).toArray s = true := fun w h => atoms_spec (ws := wk yX12_copyRow cX12_copyRow 5 none) B.pre w (List.mem_cons_of_mem _ h)
  have hown : s.vm.findClass RX12 = some m.cls := findClass_of_methodNamed B.named
  have hlocks := B.notSynchronized
  subst hsz
  have hD := hD0.self (sz := s.heap.size)
  generalize hAe : va_A [(h0, .inl (cyI, 35, .inl f))] s.heap.size = A at hD ⊢
  have hA : ∀ q : Nat, s.heap.size ≤ q → A q := fun q h => by rw [← hAe]; exact Or.inr h
  have hS : va_S A s.heap s.heap [] := va_S.rf
  have hP : va_P (dC, dI) vwCl [(h0, .inl (cyI, 35, .inl f))] s.heap := hP
  have hl := lv_entry ([.ref h0, .int 7, .int 0, .int 2]) (n := 5) (Nat.le_of_ble_eq_true rfl)
  rw [lg_entry_eq]
  generalize (lg_sl ([.ref h0, .int 7, .int 0, .int 2]) ++ List.replicate (5 - (lg_sl ([.ref h0, .int 7, .int 0, .int 2])).length) Slot.unset).toArray = ls at hl ⊢
  have hl : lv_has ls 5 [(0, .ref h0), (1, .int 7), (2, .int 0), (3, .int 2)] := hl
  obtain ⟨H, hHe⟩ : ∃ H, H = s.heap := ⟨_, rfl⟩
  have hP : va_P (dC, dI) vwCl [(h0, .inl (cyI, 35, .inl f))] H := by rw [hHe]; exact hP
  have hS : va_S A s.heap H [] := by rw [hHe]; exact hS
  refine cv_heap hHe ?_
  refine lv_iconst (v := 0) hx hb dX12_copyRow_0 (by decide) ?_
  refine lv_istore (lv' := [(4, .int 0), (0, .ref h0), (1, .int 7), (2, .int 0), (3, .int 2)]) hx hb dX12_copyRow_1 hl (by decide) rfl (fun ls hl => ?_)
  have key : ∀ (Q : State → Prop) (R : Room), (∀ (f_1 : Nat → Int32) (H : Heap) (locs : List Loc) (ls : Array Slot), va_P (dC, dI) vwCl [(h0, .inl (cyI, 35, .inl f_1))] H → va_D A [(h0, .inl (cyI, 35, .inl f_1))] → va_S A s.heap H locs → lv_has ls 5 [(4, .int 7), (0, .ref h0), (1, .int 7), (2, .int 0), (3, .int 2)] → W p l e R s m ([.ref h0, .int 7, .int 0, .int 2] : List Value).toArray below meth c H locs 0 0 Q (F0 m 31 ls [])) → ∀ (n k : Nat) (f_1 : Nat → Int32) (H : Heap) (locs : List Loc) (ls : Array Slot), k + n = 7 → va_P (dC, dI) vwCl [(h0, .inl (cyI, 35, .inl f_1))] H → va_D A [(h0, .inl (cyI, 35, .inl f_1))] → va_S A s.heap H locs → lv_has ls 5 [(4, .int (nI k)), (0, .ref h0), (1, .int 7), (2, .int 0), (3, .int 2)] → W p l e R s m ([.ref h0, .int 7, .int 0, .int 2] : List Value).toArray below meth c H locs 0 0 Q (F0 m 3 ls []) := by
    intro Q R kx n
    induction n with
    | zero =>
      intro k f_1 H locs ls hn hP hD hS hl
      have hkN : k = 7 := by omega
      have hl : lv_has ls 5 [(4, .int 7), (0, .ref h0), (1, .int 7), (2, .int 0), (3, .int 2)] := by rw [hkN] at hl; exact hl
      refine lv_iload hx hb dX12_copyRow_3 (lv_at hl 0 rfl) ?_
      refine lv_iload_n hx hb dX12_copyRow_5 rfl (lv_at hl 2 rfl) ?_
      refine lv_icmp_ge (tgt := 31) hx hb dX12_copyRow_6 (by decide) (fun _ => ?_) (fun c_2 => absurd c_2 (by decide))
      exact kx f_1 _ _ _ hP hD hS (lv_sub hl [0, 1, 2, 3, 4] rfl)
    | succ n ih =>
      intro k f_1 H locs ls hn hP hD hS hl
      have hk9 : (nI k).toInt = (k : Int) := nI_toInt (by omega)
      refine lv_iload hx hb dX12_copyRow_3 (lv_at hl 0 rfl) ?_
      refine lv_iload_n hx hb dX12_copyRow_5 rfl (lv_at hl 2 rfl) ?_
      refine lv_icmp_ge (tgt := 31) hx hb dX12_copyRow_6 (by decide) (fun c_3 => absurd (show 7 ≤ (nI k).toInt from cv_le c_3) (by omega)) (fun _ => ?_)
      refine lv_aload_n hx hb dX12_copyRow_9 rfl (lv_at hl 1 rfl) ?_
      refine lv_iload_n hx hb dX12_copyRow_10 rfl (lv_at hl 2 rfl) ?_
      refine lv_iload_n hx hb dX12_copyRow_11 rfl (lv_at hl 4 rfl) ?_
      refine lv_imul hx hb dX12_copyRow_12 ?_
      refine cv_topi (b := 14) (by decide) ?_
      refine lv_iload hx hb dX12_copyRow_13 (lv_at hl 0 rfl) ?_
      refine lv_iadd hx hb dX12_copyRow_15 ?_
      refine lv_topi (fun x_4 ex_4 => ?_)
      have fx_4 : x_4.toInt = 14 + (nI k).toInt := by rw [ex_4]; exact cv_addI (by have : (14 : Int32).toInt = 14 := rfl; omega) (by have : (14 : Int32).toInt = 14 := rfl; omega)
      refine lv_aload_n hx hb dX12_copyRow_16 rfl (lv_at hl 1 rfl) ?_
      refine lv_iload_n hx hb dX12_copyRow_17 rfl (lv_at hl 2 rfl) ?_
      refine lv_iload_n hx hb dX12_copyRow_18 rfl (lv_at hl 3 rfl) ?_
      refine lv_imul hx hb dX12_copyRow_19 ?_
      refine cv_topi (b := 0) (by decide) ?_
      refine lv_iload hx hb dX12_copyRow_20 (lv_at hl 0 rfl) ?_
      refine lv_iadd hx hb dX12_copyRow_22 ?_
      refine lv_topi (fun x_5 ex_5 => ?_)
      have fx_5 : x_5.toInt = 0 + (nI k).toInt := by rw [ex_5]; exact cv_addI (by have : (0 : Int32).toInt = 0 := rfl; omega) (by have : (0 : Int32).toInt = 0 := rfl; omega)
      refine va_iald hx hb hK hP 0 0 rfl rfl (vp_in_iff.mpr (by omega)) dX12_copyRow_23 ?_
      refine lv_topi (fun x_6 ex_6 => ?_)
      refine va_iast hx hb hK hP hD hS 0 0 rfl rfl (vp_in_iff.mpr (by omega)) dX12_copyRow_24 (fun H locs hP hD hS => ?_)
      obtain ⟨f_7, ef_7⟩ : ∃ z9 : Nat → Int32, z9 = upd f_1 x_4.toNatClampNeg x_6 := ⟨_, rfl⟩
      rw [← ef_7] at hP hD
      have hP : va_P (dC, dI) vwCl [(h0, .inl (cyI, 35, .inl f_7))] H := hP
      have hD : va_D A [(h0, .inl (cyI, 35, .inl f_7))] := hD
      obtain ⟨x_8, ex_8⟩ : ∃ y : Int32, y = (nI k) + 1 := ⟨_, rfl⟩
      refine lv_iinc (v := x_8) (lv' := [(4, .int x_8), (0, .ref h0), (1, .int 7), (2, .int 0), (3, .int 2)]) hx hb dX12_copyRow_25 hl (k := 0) rfl (by rw [ex_8]; rfl) (by decide) rfl (fun ls hl => ?_)
      refine lv_goto (tgt := 3) hx hb dX12_copyRow_28 (by decide) ?_
      have hl : lv_has ls 5 [(4, .int (nI (k + 1))), (0, .ref h0), (1, .int 7), (2, .int 0), (3, .int 2)] := by rw [← nI_1, ← ex_8]; exact hl
      exact ih (k + 1) f_7 _ _ _ (by omega) hP hD hS (lv_sub hl [0, 1, 2, 3, 4] rfl)
  refine key _ _ (fun f_9 H locs ls hP hD hS hl => ?_) 7 0 f _ _ _ (by omega) hP hD hS hl
  have hP9 := hP.sub (ws' := [(h0, .inl (cyI, 35, .inl f_9))]) [0] rfl
  have hD9 := hD.sub (ws' := [(h0, .inl (cyI, 35, .inl f_9))]) [0] (by decide) rfl
  exact W.vret hx hb hr (fun t ht hW => ⟨⟨(), rfl, trivial, ⟨f_9, by rw [ht]; exact hP9, hD9⟩⟩, hS.F ht⟩) hS.2.2 dX12_copyRow_31

/- X12_copyRow -/
set_option maxHeartbeats 4000000 in
set_option maxRecDepth 100000 in
theorem m_copyRow_law_02 (l : Launch) (dC : Nat → ClassId) (dI : Nat → Nat → Nat) (cyI cyB cyJ cyZ cyH cyN : ClassId) (sz : Nat) (h0 : Nat) (f : Nat → Int32) : Met l yX12_copyRow (wk yX12_copyRow cX12_copyRow 5 none) ({ frames := 1, cells := 0, slots := 0, locals := 60 }) (va_Pc [.ref h0, .int 24, .int 0, .int 2] (fun U => U.heap.size = sz ∧ va_P (dC, dI) vwCl [(h0, .inl (cyI, 120, .inl f))] U.heap ∧ va_K (dC, dI) vwCl [(cyI, .int), (cyB, .byte), (cyJ, .long), (cyZ, .boolean), (cyH, .object RX2), (cyN, .array .long)] U ∧ va_D (fun _ => True) [(h0, .inl (cyI, 120, .inl f))])) (va_Qv (fun _ : Unit => True) (fun (_ : Unit) (t : State) => ∃ g : Nat → Int32, va_P (dC, dI) vwCl [(h0, .inl (cyI, 120, .inl g))] t.heap ∧ va_D (va_A [(h0, .inl (cyI, 120, .inl f))] sz) [(h0, .inl (cyI, 120, .inl g))]) (va_A [(h0, .inl (cyI, 120, .inl f))] sz)) 0 0 (va_A [(h0, .inl (cyI, 120, .inl f))] sz) := by
  refine Met.ofW (cc := cX12_copyRow) (maxL := 5) (ret := none) (by decide) rfl ?_
  intro p e s m args below meth c s₁ B hml hv
  obtain ⟨rfl, hsz, hP, hK, hD0⟩ := hv
  have hx := B.exec
  have hb := B.bytes
  have hr := B.returns
  have hts : ∀ w ∈ uU, w.before ([.ref h0, .int 24, .int 0, .int 2] : List Value).toArray s = true := fun w h => atoms_spec (ws := wk yX12_copyRow cX12_copyRow 5 none) B.pre w (List.mem_cons_of_mem _ h)
  have hown : s.vm.findClass RX12 = some m.cls := findClass_of_methodNamed B.named
  have hlocks := B.notSynchronized
  subst hsz
  have hD := hD0.self (sz := s.heap.size)
  generalize hAe : va_A [(h0, .inl (cyI, 120, .inl f))] s.heap.size = A at hD ⊢
  have hA : ∀ q : Nat, s.heap.size ≤ q → A q := fun q h => by rw [← hAe]; exact Or.inr h
  have hS : va_S A s.heap s.heap [] := va_S.rf
  have hP : va_P (dC, dI) vwCl [(h0, .inl (cyI, 120, .inl f))] s.heap := hP
  have hl := lv_entry ([.ref h0, .int 24, .int 0, .int 2]) (n := 5) (Nat.le_of_ble_eq_true rfl)
  rw [lg_entry_eq]
  generalize (lg_sl ([.ref h0, .int 24, .int 0, .int 2]) ++ List.replicate (5 - (lg_sl ([.ref h0, .int 24, .int 0, .int 2])).length) Slot.unset).toArray = ls at hl ⊢
  have hl : lv_has ls 5 [(0, .ref h0), (1, .int 24), (2, .int 0), (3, .int 2)] := hl
  obtain ⟨H, hHe⟩ : ∃ H, H = s.heap := ⟨_, rfl⟩
  have hP : va_P (dC, dI) vwCl [(h0, .inl (cyI, 120, .inl f))] H := by rw [hHe]; exact hP
  have hS : va_S A s.heap H [] := by rw [hHe]; exact hS
  refine cv_heap hHe ?_
  refine lv_iconst (v := 0) hx hb dX12_copyRow_0 (by decide) ?_
  refine lv_istore (lv' := [(4, .int 0), (0, .ref h0), (1, .int 24), (2, .int 0), (3, .int 2)]) hx hb dX12_copyRow_1 hl (by decide) rfl (fun ls hl => ?_)
  have key : ∀ (Q : State → Prop) (R : Room), (∀ (f_1 : Nat → Int32) (H : Heap) (locs : List Loc) (ls : Array Slot), va_P (dC, dI) vwCl [(h0, .inl (cyI, 120, .inl f_1))] H → va_D A [(h0, .inl (cyI, 120, .inl f_1))] → va_S A s.heap H locs → lv_has ls 5 [(4, .int 24), (0, .ref h0), (1, .int 24), (2, .int 0), (3, .int 2)] → W p l e R s m ([.ref h0, .int 24, .int 0, .int 2] : List Value).toArray below meth c H locs 0 0 Q (F0 m 31 ls [])) → ∀ (n k : Nat) (f_1 : Nat → Int32) (H : Heap) (locs : List Loc) (ls : Array Slot), k + n = 24 → va_P (dC, dI) vwCl [(h0, .inl (cyI, 120, .inl f_1))] H → va_D A [(h0, .inl (cyI, 120, .inl f_1))] → va_S A s.heap H locs → lv_has ls 5 [(4, .int (nI k)), (0, .ref h0), (1, .int 24), (2, .int 0), (3, .int 2)] → W p l e R s m ([.ref h0, .int 24, .int 0, .int 2] : List Value).toArray below meth c H locs 0 0 Q (F0 m 3 ls []) := by
    intro Q R kx n
    induction n with
    | zero =>
      intro k f_1 H locs ls hn hP hD hS hl
      have hkN : k = 24 := by omega
      have hl : lv_has ls 5 [(4, .int 24), (0, .ref h0), (1, .int 24), (2, .int 0), (3, .int 2)] := by rw [hkN] at hl; exact hl
      refine lv_iload hx hb dX12_copyRow_3 (lv_at hl 0 rfl) ?_
      refine lv_iload_n hx hb dX12_copyRow_5 rfl (lv_at hl 2 rfl) ?_
      refine lv_icmp_ge (tgt := 31) hx hb dX12_copyRow_6 (by decide) (fun _ => ?_) (fun c_2 => absurd c_2 (by decide))
      exact kx f_1 _ _ _ hP hD hS (lv_sub hl [0, 1, 2, 3, 4] rfl)
    | succ n ih =>
      intro k f_1 H locs ls hn hP hD hS hl
      have hk9 : (nI k).toInt = (k : Int) := nI_toInt (by omega)
      refine lv_iload hx hb dX12_copyRow_3 (lv_at hl 0 rfl) ?_
      refine lv_iload_n hx hb dX12_copyRow_5 rfl (lv_at hl 2 rfl) ?_
      refine lv_icmp_ge (tgt := 31) hx hb dX12_copyRow_6 (by decide) (fun c_3 => absurd (show 24 ≤ (nI k).toInt from cv_le c_3) (by omega)) (fun _ => ?_)
      refine lv_aload_n hx hb dX12_copyRow_9 rfl (lv_at hl 1 rfl) ?_
      refine lv_iload_n hx hb dX12_copyRow_10 rfl (lv_at hl 2 rfl) ?_
      refine lv_iload_n hx hb dX12_copyRow_11 rfl (lv_at hl 4 rfl) ?_
      refine lv_imul hx hb dX12_copyRow_12 ?_
      refine cv_topi (b := 48) (by decide) ?_
      refine lv_iload hx hb dX12_copyRow_13 (lv_at hl 0 rfl) ?_
      refine lv_iadd hx hb dX12_copyRow_15 ?_
      refine lv_topi (fun x_4 ex_4 => ?_)
      have fx_4 : x_4.toInt = 48 + (nI k).toInt := by rw [ex_4]; exact cv_addI (by have : (48 : Int32).toInt = 48 := rfl; omega) (by have : (48 : Int32).toInt = 48 := rfl; omega)
      refine lv_aload_n hx hb dX12_copyRow_16 rfl (lv_at hl 1 rfl) ?_
      refine lv_iload_n hx hb dX12_copyRow_17 rfl (lv_at hl 2 rfl) ?_
      refine lv_iload_n hx hb dX12_copyRow_18 rfl (lv_at hl 3 rfl) ?_
      refine lv_imul hx hb dX12_copyRow_19 ?_
      refine cv_topi (b := 0) (by decide) ?_
      refine lv_iload hx hb dX12_copyRow_20 (lv_at hl 0 rfl) ?_
      refine lv_iadd hx hb dX12_copyRow_22 ?_
      refine lv_topi (fun x_5 ex_5 => ?_)
      have fx_5 : x_5.toInt = 0 + (nI k).toInt := by rw [ex_5]; exact cv_addI (by have : (0 : Int32).toInt = 0 := rfl; omega) (by have : (0 : Int32).toInt = 0 := rfl; omega)
      refine va_iald hx hb hK hP 0 0 rfl rfl (vp_in_iff.mpr (by omega)) dX12_copyRow_23 ?_
      refine lv_topi (fun x_6 ex_6 => ?_)
      refine va_iast hx hb hK hP hD hS 0 0 rfl rfl (vp_in_iff.mpr (by omega)) dX12_copyRow_24 (fun H locs hP hD hS => ?_)
      obtain ⟨f_7, ef_7⟩ : ∃ z9 : Nat → Int32, z9 = upd f_1 x_4.toNatClampNeg x_6 := ⟨_, rfl⟩
      rw [← ef_7] at hP hD
      have hP : va_P (dC, dI) vwCl [(h0, .inl (cyI, 120, .inl f_7))] H := hP
      have hD : va_D A [(h0, .inl (cyI, 120, .inl f_7))] := hD
      obtain ⟨x_8, ex_8⟩ : ∃ y : Int32, y = (nI k) + 1 := ⟨_, rfl⟩
      refine lv_iinc (v := x_8) (lv' := [(4, .int x_8), (0, .ref h0), (1, .int 24), (2, .int 0), (3, .int 2)]) hx hb dX12_copyRow_25 hl (k := 0) rfl (by rw [ex_8]; rfl) (by decide) rfl (fun ls hl => ?_)
      refine lv_goto (tgt := 3) hx hb dX12_copyRow_28 (by decide) ?_
      have hl : lv_has ls 5 [(4, .int (nI (k + 1))), (0, .ref h0), (1, .int 24), (2, .int 0), (3, .int 2)] := by rw [← nI_1, ← ex_8]; exact hl
      exact ih (k + 1) f_7 _ _ _ (by omega) hP hD hS (lv_sub hl [0, 1, 2, 3, 4] rfl)
  refine key _ _ (fun f_9 H locs ls hP hD hS hl => ?_) 24 0 f _ _ _ (by omega) hP hD hS hl
  have hP9 := hP.sub (ws' := [(h0, .inl (cyI, 120, .inl f_9))]) [0] rfl
  have hD9 := hD.sub (ws' := [(h0, .inl (cyI, 120, .inl f_9))]) [0] (by decide) rfl
  exact W.vret hx hb hr (fun t ht hW => ⟨⟨(), rfl, trivial, ⟨f_9, by rw [ht]; exact hP9, hD9⟩⟩, hS.F ht⟩) hS.2.2 dX12_copyRow_31

/- X12_copyRow -/
set_option maxHeartbeats 4000000 in
set_option maxRecDepth 100000 in
theorem m_copyRow_suit_02 (l : Launch) (dC : Nat → ClassId) (dI : Nat → Nat → Nat) (cyI cyB cyJ cyZ cyH cyN : ClassId) (sz : Nat) (h0 : Nat) (f : Nat → Int32) : Met l yX12_copyRow (wk yX12_copyRow cX12_copyRow 5 none) ({ frames := 1, cells := 0, slots := 0, locals := 60 }) (va_Pc [.ref h0, .int 49, .int 0, .int 2] (fun U => U.heap.size = sz ∧ va_P (dC, dI) vwCl [(h0, .inl (cyI, 245, .inl f))] U.heap ∧ va_K (dC, dI) vwCl [(cyI, .int), (cyB, .byte), (cyJ, .long), (cyZ, .boolean), (cyH, .object RX2), (cyN, .array .long)] U ∧ va_D (fun _ => True) [(h0, .inl (cyI, 245, .inl f))])) (va_Qv (fun _ : Unit => True) (fun (_ : Unit) (t : State) => ∃ g : Nat → Int32, va_P (dC, dI) vwCl [(h0, .inl (cyI, 245, .inl g))] t.heap ∧ va_D (va_A [(h0, .inl (cyI, 245, .inl f))] sz) [(h0, .inl (cyI, 245, .inl g))]) (va_A [(h0, .inl (cyI, 245, .inl f))] sz)) 0 0 (va_A [(h0, .inl (cyI, 245, .inl f))] sz) := by
  refine Met.ofW (cc := cX12_copyRow) (maxL := 5) (ret := none) (by decide) rfl ?_
  intro p e s m args below meth c s₁ B hml hv
  obtain ⟨rfl, hsz, hP, hK, hD0⟩ := hv
  have hx := B.exec
  have hb := B.bytes
  have hr := B.returns
  have hts : ∀ w ∈ uU, w.before ([.ref h0, .int 49, .int 0, .int 2] : List Value).toArray s = true := fun w h => atoms_spec (ws := wk yX12_copyRow cX12_copyRow 5 none) B.pre w (List.mem_cons_of_mem _ h)
  have hown : s.vm.findClass RX12 = some m.cls := findClass_of_methodNamed B.named
  have hlocks := B.notSynchronized
  subst hsz
  have hD := hD0.self (sz := s.heap.size)
  generalize hAe : va_A [(h0, .inl (cyI, 245, .inl f))] s.heap.size = A at hD ⊢
  have hA : ∀ q : Nat, s.heap.size ≤ q → A q := fun q h => by rw [← hAe]; exact Or.inr h
  have hS : va_S A s.heap s.heap [] := va_S.rf
  have hP : va_P (dC, dI) vwCl [(h0, .inl (cyI, 245, .inl f))] s.heap := hP
  have hl := lv_entry ([.ref h0, .int 49, .int 0, .int 2]) (n := 5) (Nat.le_of_ble_eq_true rfl)
  rw [lg_entry_eq]
  generalize (lg_sl ([.ref h0, .int 49, .int 0, .int 2]) ++ List.replicate (5 - (lg_sl ([.ref h0, .int 49, .int 0, .int 2])).length) Slot.unset).toArray = ls at hl ⊢
  have hl : lv_has ls 5 [(0, .ref h0), (1, .int 49), (2, .int 0), (3, .int 2)] := hl
  obtain ⟨H, hHe⟩ : ∃ H, H = s.heap := ⟨_, rfl⟩
  have hP : va_P (dC, dI) vwCl [(h0, .inl (cyI, 245, .inl f))] H := by rw [hHe]; exact hP
  have hS : va_S A s.heap H [] := by rw [hHe]; exact hS
  refine cv_heap hHe ?_
  refine lv_iconst (v := 0) hx hb dX12_copyRow_0 (by decide) ?_
  refine lv_istore (lv' := [(4, .int 0), (0, .ref h0), (1, .int 49), (2, .int 0), (3, .int 2)]) hx hb dX12_copyRow_1 hl (by decide) rfl (fun ls hl => ?_)
  have key : ∀ (Q : State → Prop) (R : Room), (∀ (f_1 : Nat → Int32) (H : Heap) (locs : List Loc) (ls : Array Slot), va_P (dC, dI) vwCl [(h0, .inl (cyI, 245, .inl f_1))] H → va_D A [(h0, .inl (cyI, 245, .inl f_1))] → va_S A s.heap H locs → lv_has ls 5 [(4, .int 49), (0, .ref h0), (1, .int 49), (2, .int 0), (3, .int 2)] → W p l e R s m ([.ref h0, .int 49, .int 0, .int 2] : List Value).toArray below meth c H locs 0 0 Q (F0 m 31 ls [])) → ∀ (n k : Nat) (f_1 : Nat → Int32) (H : Heap) (locs : List Loc) (ls : Array Slot), k + n = 49 → va_P (dC, dI) vwCl [(h0, .inl (cyI, 245, .inl f_1))] H → va_D A [(h0, .inl (cyI, 245, .inl f_1))] → va_S A s.heap H locs → lv_has ls 5 [(4, .int (nI k)), (0, .ref h0), (1, .int 49), (2, .int 0), (3, .int 2)] → W p l e R s m ([.ref h0, .int 49, .int 0, .int 2] : List Value).toArray below meth c H locs 0 0 Q (F0 m 3 ls []) := by
    intro Q R kx n
    induction n with
    | zero =>
      intro k f_1 H locs ls hn hP hD hS hl
      have hkN : k = 49 := by omega
      have hl : lv_has ls 5 [(4, .int 49), (0, .ref h0), (1, .int 49), (2, .int 0), (3, .int 2)] := by rw [hkN] at hl; exact hl
      refine lv_iload hx hb dX12_copyRow_3 (lv_at hl 0 rfl) ?_
      refine lv_iload_n hx hb dX12_copyRow_5 rfl (lv_at hl 2 rfl) ?_
      refine lv_icmp_ge (tgt := 31) hx hb dX12_copyRow_6 (by decide) (fun _ => ?_) (fun c_2 => absurd c_2 (by decide))
      exact kx f_1 _ _ _ hP hD hS (lv_sub hl [0, 1, 2, 3, 4] rfl)
    | succ n ih =>
      intro k f_1 H locs ls hn hP hD hS hl
      have hk9 : (nI k).toInt = (k : Int) := nI_toInt (by omega)
      refine lv_iload hx hb dX12_copyRow_3 (lv_at hl 0 rfl) ?_
      refine lv_iload_n hx hb dX12_copyRow_5 rfl (lv_at hl 2 rfl) ?_
      refine lv_icmp_ge (tgt := 31) hx hb dX12_copyRow_6 (by decide) (fun c_3 => absurd (show 49 ≤ (nI k).toInt from cv_le c_3) (by omega)) (fun _ => ?_)
      refine lv_aload_n hx hb dX12_copyRow_9 rfl (lv_at hl 1 rfl) ?_
      refine lv_iload_n hx hb dX12_copyRow_10 rfl (lv_at hl 2 rfl) ?_
      refine lv_iload_n hx hb dX12_copyRow_11 rfl (lv_at hl 4 rfl) ?_
      refine lv_imul hx hb dX12_copyRow_12 ?_
      refine cv_topi (b := 98) (by decide) ?_
      refine lv_iload hx hb dX12_copyRow_13 (lv_at hl 0 rfl) ?_
      refine lv_iadd hx hb dX12_copyRow_15 ?_
      refine lv_topi (fun x_4 ex_4 => ?_)
      have fx_4 : x_4.toInt = 98 + (nI k).toInt := by rw [ex_4]; exact cv_addI (by have : (98 : Int32).toInt = 98 := rfl; omega) (by have : (98 : Int32).toInt = 98 := rfl; omega)
      refine lv_aload_n hx hb dX12_copyRow_16 rfl (lv_at hl 1 rfl) ?_
      refine lv_iload_n hx hb dX12_copyRow_17 rfl (lv_at hl 2 rfl) ?_
      refine lv_iload_n hx hb dX12_copyRow_18 rfl (lv_at hl 3 rfl) ?_
      refine lv_imul hx hb dX12_copyRow_19 ?_
      refine cv_topi (b := 0) (by decide) ?_
      refine lv_iload hx hb dX12_copyRow_20 (lv_at hl 0 rfl) ?_
      refine lv_iadd hx hb dX12_copyRow_22 ?_
      refine lv_topi (fun x_5 ex_5 => ?_)
      have fx_5 : x_5.toInt = 0 + (nI k).toInt := by rw [ex_5]; exact cv_addI (by have : (0 : Int32).toInt = 0 := rfl; omega) (by have : (0 : Int32).toInt = 0 := rfl; omega)
      refine va_iald hx hb hK hP 0 0 rfl rfl (vp_in_iff.mpr (by omega)) dX12_copyRow_23 ?_
      refine lv_topi (fun x_6 ex_6 => ?_)
      refine va_iast hx hb hK hP hD hS 0 0 rfl rfl (vp_in_iff.mpr (by omega)) dX12_copyRow_24 (fun H locs hP hD hS => ?_)
      obtain ⟨f_7, ef_7⟩ : ∃ z9 : Nat → Int32, z9 = upd f_1 x_4.toNatClampNeg x_6 := ⟨_, rfl⟩
      rw [← ef_7] at hP hD
      have hP : va_P (dC, dI) vwCl [(h0, .inl (cyI, 245, .inl f_7))] H := hP
      have hD : va_D A [(h0, .inl (cyI, 245, .inl f_7))] := hD
      obtain ⟨x_8, ex_8⟩ : ∃ y : Int32, y = (nI k) + 1 := ⟨_, rfl⟩
      refine lv_iinc (v := x_8) (lv' := [(4, .int x_8), (0, .ref h0), (1, .int 49), (2, .int 0), (3, .int 2)]) hx hb dX12_copyRow_25 hl (k := 0) rfl (by rw [ex_8]; rfl) (by decide) rfl (fun ls hl => ?_)
      refine lv_goto (tgt := 3) hx hb dX12_copyRow_28 (by decide) ?_
      have hl : lv_has ls 5 [(4, .int (nI (k + 1))), (0, .ref h0), (1, .int 49), (2, .int 0), (3, .int 2)] := by rw [← nI_1, ← ex_8]; exact hl
      exact ih (k + 1) f_7 _ _ _ (by omega) hP hD hS (lv_sub hl [0, 1, 2, 3, 4] rfl)
  refine key _ _ (fun f_9 H locs ls hP hD hS hl => ?_) 49 0 f _ _ _ (by omega) hP hD hS hl
  have hP9 := hP.sub (ws' := [(h0, .inl (cyI, 245, .inl f_9))]) [0] rfl
  have hD9 := hD.sub (ws' := [(h0, .inl (cyI, 245, .inl f_9))]) [0] (by decide) rfl
  exact W.vret hx hb hr (fun t ht hW => ⟨⟨(), rfl, trivial, ⟨f_9, by rw [ht]; exact hP9, hD9⟩⟩, hS.F ht⟩) hS.2.2 dX12_copyRow_31

/- X12_copyRow -/
set_option maxHeartbeats 4000000 in
set_option maxRecDepth 100000 in
theorem m_copyRow_act_02 (l : Launch) (dC : Nat → ClassId) (dI : Nat → Nat → Nat) (cyI cyB cyJ cyZ cyH cyN : ClassId) (sz : Nat) (h0 : Nat) (f : Nat → Int32) : Met l yX12_copyRow (wk yX12_copyRow cX12_copyRow 5 none) ({ frames := 1, cells := 0, slots := 0, locals := 60 }) (va_Pc [.ref h0, .int 80, .int 0, .int 2] (fun U => U.heap.size = sz ∧ va_P (dC, dI) vwCl [(h0, .inl (cyI, 400, .inl f))] U.heap ∧ va_K (dC, dI) vwCl [(cyI, .int), (cyB, .byte), (cyJ, .long), (cyZ, .boolean), (cyH, .object RX2), (cyN, .array .long)] U ∧ va_D (fun _ => True) [(h0, .inl (cyI, 400, .inl f))])) (va_Qv (fun _ : Unit => True) (fun (_ : Unit) (t : State) => ∃ g : Nat → Int32, va_P (dC, dI) vwCl [(h0, .inl (cyI, 400, .inl g))] t.heap ∧ va_D (va_A [(h0, .inl (cyI, 400, .inl f))] sz) [(h0, .inl (cyI, 400, .inl g))]) (va_A [(h0, .inl (cyI, 400, .inl f))] sz)) 0 0 (va_A [(h0, .inl (cyI, 400, .inl f))] sz) := by
  refine Met.ofW (cc := cX12_copyRow) (maxL := 5) (ret := none) (by decide) rfl ?_
  intro p e s m args below meth c s₁ B hml hv
  obtain ⟨rfl, hsz, hP, hK, hD0⟩ := hv
  have hx := B.exec
  have hb := B.bytes
  have hr := B.returns
  have hts : ∀ w ∈ uU, w.before ([.ref h0, .int 80, .int 0, .int 2] : List Value).toArray s = true := fun w h => atoms_spec (ws := wk yX12_copyRow cX12_copyRow 5 none) B.pre w (List.mem_cons_of_mem _ h)
  have hown : s.vm.findClass RX12 = some m.cls := findClass_of_methodNamed B.named
  have hlocks := B.notSynchronized
  subst hsz
  have hD := hD0.self (sz := s.heap.size)
  generalize hAe : va_A [(h0, .inl (cyI, 400, .inl f))] s.heap.size = A at hD ⊢
  have hA : ∀ q : Nat, s.heap.size ≤ q → A q := fun q h => by rw [← hAe]; exact Or.inr h
  have hS : va_S A s.heap s.heap [] := va_S.rf
  have hP : va_P (dC, dI) vwCl [(h0, .inl (cyI, 400, .inl f))] s.heap := hP
  have hl := lv_entry ([.ref h0, .int 80, .int 0, .int 2]) (n := 5) (Nat.le_of_ble_eq_true rfl)
  rw [lg_entry_eq]
  generalize (lg_sl ([.ref h0, .int 80, .int 0, .int 2]) ++ List.replicate (5 - (lg_sl ([.ref h0, .int 80, .int 0, .int 2])).length) Slot.unset).toArray = ls at hl ⊢
  have hl : lv_has ls 5 [(0, .ref h0), (1, .int 80), (2, .int 0), (3, .int 2)] := hl
  obtain ⟨H, hHe⟩ : ∃ H, H = s.heap := ⟨_, rfl⟩
  have hP : va_P (dC, dI) vwCl [(h0, .inl (cyI, 400, .inl f))] H := by rw [hHe]; exact hP
  have hS : va_S A s.heap H [] := by rw [hHe]; exact hS
  refine cv_heap hHe ?_
  refine lv_iconst (v := 0) hx hb dX12_copyRow_0 (by decide) ?_
  refine lv_istore (lv' := [(4, .int 0), (0, .ref h0), (1, .int 80), (2, .int 0), (3, .int 2)]) hx hb dX12_copyRow_1 hl (by decide) rfl (fun ls hl => ?_)
  have key : ∀ (Q : State → Prop) (R : Room), (∀ (f_1 : Nat → Int32) (H : Heap) (locs : List Loc) (ls : Array Slot), va_P (dC, dI) vwCl [(h0, .inl (cyI, 400, .inl f_1))] H → va_D A [(h0, .inl (cyI, 400, .inl f_1))] → va_S A s.heap H locs → lv_has ls 5 [(4, .int 80), (0, .ref h0), (1, .int 80), (2, .int 0), (3, .int 2)] → W p l e R s m ([.ref h0, .int 80, .int 0, .int 2] : List Value).toArray below meth c H locs 0 0 Q (F0 m 31 ls [])) → ∀ (n k : Nat) (f_1 : Nat → Int32) (H : Heap) (locs : List Loc) (ls : Array Slot), k + n = 80 → va_P (dC, dI) vwCl [(h0, .inl (cyI, 400, .inl f_1))] H → va_D A [(h0, .inl (cyI, 400, .inl f_1))] → va_S A s.heap H locs → lv_has ls 5 [(4, .int (nI k)), (0, .ref h0), (1, .int 80), (2, .int 0), (3, .int 2)] → W p l e R s m ([.ref h0, .int 80, .int 0, .int 2] : List Value).toArray below meth c H locs 0 0 Q (F0 m 3 ls []) := by
    intro Q R kx n
    induction n with
    | zero =>
      intro k f_1 H locs ls hn hP hD hS hl
      have hkN : k = 80 := by omega
      have hl : lv_has ls 5 [(4, .int 80), (0, .ref h0), (1, .int 80), (2, .int 0), (3, .int 2)] := by rw [hkN] at hl; exact hl
      refine lv_iload hx hb dX12_copyRow_3 (lv_at hl 0 rfl) ?_
      refine lv_iload_n hx hb dX12_copyRow_5 rfl (lv_at hl 2 rfl) ?_
      refine lv_icmp_ge (tgt := 31) hx hb dX12_copyRow_6 (by decide) (fun _ => ?_) (fun c_2 => absurd c_2 (by decide))
      exact kx f_1 _ _ _ hP hD hS (lv_sub hl [0, 1, 2, 3, 4] rfl)
    | succ n ih =>
      intro k f_1 H locs ls hn hP hD hS hl
      have hk9 : (nI k).toInt = (k : Int) := nI_toInt (by omega)
      refine lv_iload hx hb dX12_copyRow_3 (lv_at hl 0 rfl) ?_
      refine lv_iload_n hx hb dX12_copyRow_5 rfl (lv_at hl 2 rfl) ?_
      refine lv_icmp_ge (tgt := 31) hx hb dX12_copyRow_6 (by decide) (fun c_3 => absurd (show 80 ≤ (nI k).toInt from cv_le c_3) (by omega)) (fun _ => ?_)
      refine lv_aload_n hx hb dX12_copyRow_9 rfl (lv_at hl 1 rfl) ?_
      refine lv_iload_n hx hb dX12_copyRow_10 rfl (lv_at hl 2 rfl) ?_
      refine lv_iload_n hx hb dX12_copyRow_11 rfl (lv_at hl 4 rfl) ?_
      refine lv_imul hx hb dX12_copyRow_12 ?_
      refine cv_topi (b := 160) (by decide) ?_
      refine lv_iload hx hb dX12_copyRow_13 (lv_at hl 0 rfl) ?_
      refine lv_iadd hx hb dX12_copyRow_15 ?_
      refine lv_topi (fun x_4 ex_4 => ?_)
      have fx_4 : x_4.toInt = 160 + (nI k).toInt := by rw [ex_4]; exact cv_addI (by have : (160 : Int32).toInt = 160 := rfl; omega) (by have : (160 : Int32).toInt = 160 := rfl; omega)
      refine lv_aload_n hx hb dX12_copyRow_16 rfl (lv_at hl 1 rfl) ?_
      refine lv_iload_n hx hb dX12_copyRow_17 rfl (lv_at hl 2 rfl) ?_
      refine lv_iload_n hx hb dX12_copyRow_18 rfl (lv_at hl 3 rfl) ?_
      refine lv_imul hx hb dX12_copyRow_19 ?_
      refine cv_topi (b := 0) (by decide) ?_
      refine lv_iload hx hb dX12_copyRow_20 (lv_at hl 0 rfl) ?_
      refine lv_iadd hx hb dX12_copyRow_22 ?_
      refine lv_topi (fun x_5 ex_5 => ?_)
      have fx_5 : x_5.toInt = 0 + (nI k).toInt := by rw [ex_5]; exact cv_addI (by have : (0 : Int32).toInt = 0 := rfl; omega) (by have : (0 : Int32).toInt = 0 := rfl; omega)
      refine va_iald hx hb hK hP 0 0 rfl rfl (vp_in_iff.mpr (by omega)) dX12_copyRow_23 ?_
      refine lv_topi (fun x_6 ex_6 => ?_)
      refine va_iast hx hb hK hP hD hS 0 0 rfl rfl (vp_in_iff.mpr (by omega)) dX12_copyRow_24 (fun H locs hP hD hS => ?_)
      obtain ⟨f_7, ef_7⟩ : ∃ z9 : Nat → Int32, z9 = upd f_1 x_4.toNatClampNeg x_6 := ⟨_, rfl⟩
      rw [← ef_7] at hP hD
      have hP : va_P (dC, dI) vwCl [(h0, .inl (cyI, 400, .inl f_7))] H := hP
      have hD : va_D A [(h0, .inl (cyI, 400, .inl f_7))] := hD
      obtain ⟨x_8, ex_8⟩ : ∃ y : Int32, y = (nI k) + 1 := ⟨_, rfl⟩
      refine lv_iinc (v := x_8) (lv' := [(4, .int x_8), (0, .ref h0), (1, .int 80), (2, .int 0), (3, .int 2)]) hx hb dX12_copyRow_25 hl (k := 0) rfl (by rw [ex_8]; rfl) (by decide) rfl (fun ls hl => ?_)
      refine lv_goto (tgt := 3) hx hb dX12_copyRow_28 (by decide) ?_
      have hl : lv_has ls 5 [(4, .int (nI (k + 1))), (0, .ref h0), (1, .int 80), (2, .int 0), (3, .int 2)] := by rw [← nI_1, ← ex_8]; exact hl
      exact ih (k + 1) f_7 _ _ _ (by omega) hP hD hS (lv_sub hl [0, 1, 2, 3, 4] rfl)
  refine key _ _ (fun f_9 H locs ls hP hD hS hl => ?_) 80 0 f _ _ _ (by omega) hP hD hS hl
  have hP9 := hP.sub (ws' := [(h0, .inl (cyI, 400, .inl f_9))]) [0] rfl
  have hD9 := hD.sub (ws' := [(h0, .inl (cyI, 400, .inl f_9))]) [0] (by decide) rfl
  exact W.vret hx hb hr (fun t ht hW => ⟨⟨(), rfl, trivial, ⟨f_9, by rw [ht]; exact hP9, hD9⟩⟩, hS.F ht⟩) hS.2.2 dX12_copyRow_31

/- X12_copyHall -/
set_option maxHeartbeats 4000000 in
set_option maxRecDepth 100000 in
theorem m_copyHall_02 (l : Launch) (dC : Nat → ClassId) (dI : Nat → Nat → Nat) (cyI cyB cyJ cyZ cyH cyN : ClassId) (sz : Nat) (m0 mwidth mmany mcells mmoved mtape mlines mhas mtold mlaw msuit mapart mact misKept mseen mhung mgoal mleaps mqueue mrow mwanted mfirst moften mlots mthen : Nat) (bp : Int32) (f0 f1 f2 f3 f4 f5 : Nat → Int32) : Met l yX12_copyHall (wk yX12_copyHall cX12_copyHall 3 none) ({ frames := 2, cells := 0, slots := 0, locals := 84 }) (va_Pc [.ref m0, .int 0, .int 2] (fun U => U.heap.size = sz ∧ va_P (dC, dI) vwCl [(m0, .inr (11, [.int 0, .ref mwidth, .ref mmany, .ref mcells, .ref mmoved, .ref mtape, .int 0, .int 0, .int 0, .int 0, .int 0, .long 0, .int 0, .int bp, .int 0, .int (-1), .ref mlines, .ref mhas, .ref mtold, .ref mlaw, .ref msuit, .ref mapart, .ref mact, .ref misKept, .ref mseen, .ref mhung, .int 0, .ref mgoal, .ref mleaps, .ref mqueue, .ref mrow, .int 0, .ref mwanted, .ref mfirst, .ref moften, .int 0, .int 0, .int 0, .int 0, .int 0, .int 0, .ref mlots, .ref mthen, .long 0])), (mlines, .inl (cyI, 5, .inl (fun _ => 0))), (mhas, .inl (cyI, 20, .inl f0)), (mtold, .inl (cyI, 35, .inl f1)), (mlaw, .inl (cyI, 120, .inl f2)), (msuit, .inl (cyI, 245, .inl f3)), (mapart, .inl (cyI, 35, .inl f4)), (mact, .inl (cyI, 400, .inl f5))] U.heap ∧ va_K (dC, dI) vwCl [(cyI, .int), (cyB, .byte), (cyJ, .long), (cyZ, .boolean), (cyH, .object RX2), (cyN, .array .long)] U ∧ va_D (fun _ => True) [(m0, .inr (11, [.int 0, .ref mwidth, .ref mmany, .ref mcells, .ref mmoved, .ref mtape, .int 0, .int 0, .int 0, .int 0, .int 0, .long 0, .int 0, .int bp, .int 0, .int (-1), .ref mlines, .ref mhas, .ref mtold, .ref mlaw, .ref msuit, .ref mapart, .ref mact, .ref misKept, .ref mseen, .ref mhung, .int 0, .ref mgoal, .ref mleaps, .ref mqueue, .ref mrow, .int 0, .ref mwanted, .ref mfirst, .ref moften, .int 0, .int 0, .int 0, .int 0, .int 0, .int 0, .ref mlots, .ref mthen, .long 0])), (mlines, .inl (cyI, 5, .inl (fun _ => 0))), (mhas, .inl (cyI, 20, .inl f0)), (mtold, .inl (cyI, 35, .inl f1)), (mlaw, .inl (cyI, 120, .inl f2)), (msuit, .inl (cyI, 245, .inl f3)), (mapart, .inl (cyI, 35, .inl f4)), (mact, .inl (cyI, 400, .inl f5))])) (va_Qv (fun _ : Unit => True) (fun (_ : Unit) (t : State) => va_P (dC, dI) vwCl [(m0, .inr (11, [.int 0, .ref mwidth, .ref mmany, .ref mcells, .ref mmoved, .ref mtape, .int 0, .int 0, .int 0, .int 0, .int 0, .long 0, .int 0, .int bp, .int 0, .int (-1), .ref mlines, .ref mhas, .ref mtold, .ref mlaw, .ref msuit, .ref mapart, .ref mact, .ref misKept, .ref mseen, .ref mhung, .int 0, .ref mgoal, .ref mleaps, .ref mqueue, .ref mrow, .int 0, .ref mwanted, .ref mfirst, .ref moften, .int 0, .int 0, .int 0, .int 0, .int 0, .int 0, .ref mlots, .ref mthen, .long 0])), (mlines, .inl (cyI, 5, .inl (fun _ => 0)))] t.heap ∧ va_D (va_A [(m0, .inr (11, [.int 0, .ref mwidth, .ref mmany, .ref mcells, .ref mmoved, .ref mtape, .int 0, .int 0, .int 0, .int 0, .int 0, .long 0, .int 0, .int bp, .int 0, .int (-1), .ref mlines, .ref mhas, .ref mtold, .ref mlaw, .ref msuit, .ref mapart, .ref mact, .ref misKept, .ref mseen, .ref mhung, .int 0, .ref mgoal, .ref mleaps, .ref mqueue, .ref mrow, .int 0, .ref mwanted, .ref mfirst, .ref moften, .int 0, .int 0, .int 0, .int 0, .int 0, .int 0, .ref mlots, .ref mthen, .long 0])), (mlines, .inl (cyI, 5, .inl (fun _ => 0))), (mhas, .inl (cyI, 20, .inl f0)), (mtold, .inl (cyI, 35, .inl f1)), (mlaw, .inl (cyI, 120, .inl f2)), (msuit, .inl (cyI, 245, .inl f3)), (mapart, .inl (cyI, 35, .inl f4)), (mact, .inl (cyI, 400, .inl f5))] sz) [(m0, .inr (11, [.int 0, .ref mwidth, .ref mmany, .ref mcells, .ref mmoved, .ref mtape, .int 0, .int 0, .int 0, .int 0, .int 0, .long 0, .int 0, .int bp, .int 0, .int (-1), .ref mlines, .ref mhas, .ref mtold, .ref mlaw, .ref msuit, .ref mapart, .ref mact, .ref misKept, .ref mseen, .ref mhung, .int 0, .ref mgoal, .ref mleaps, .ref mqueue, .ref mrow, .int 0, .ref mwanted, .ref mfirst, .ref moften, .int 0, .int 0, .int 0, .int 0, .int 0, .int 0, .ref mlots, .ref mthen, .long 0])), (mlines, .inl (cyI, 5, .inl (fun _ => 0)))]) (va_A [(m0, .inr (11, [.int 0, .ref mwidth, .ref mmany, .ref mcells, .ref mmoved, .ref mtape, .int 0, .int 0, .int 0, .int 0, .int 0, .long 0, .int 0, .int bp, .int 0, .int (-1), .ref mlines, .ref mhas, .ref mtold, .ref mlaw, .ref msuit, .ref mapart, .ref mact, .ref misKept, .ref mseen, .ref mhung, .int 0, .ref mgoal, .ref mleaps, .ref mqueue, .ref mrow, .int 0, .ref mwanted, .ref mfirst, .ref moften, .int 0, .int 0, .int 0, .int 0, .int 0, .int 0, .ref mlots, .ref mthen, .long 0])), (mlines, .inl (cyI, 5, .inl (fun _ => 0))), (mhas, .inl (cyI, 20, .inl f0)), (mtold, .inl (cyI, 35, .inl f1)), (mlaw, .inl (cyI, 120, .inl f2)), (msuit, .inl (cyI, 245, .inl f3)), (mapart, .inl (cyI, 35, .inl f4)), (mact, .inl (cyI, 400, .inl f5))] sz)) 0 0 (va_A [(m0, .inr (11, [.int 0, .ref mwidth, .ref mmany, .ref mcells, .ref mmoved, .ref mtape, .int 0, .int 0, .int 0, .int 0, .int 0, .long 0, .int 0, .int bp, .int 0, .int (-1), .ref mlines, .ref mhas, .ref mtold, .ref mlaw, .ref msuit, .ref mapart, .ref mact, .ref misKept, .ref mseen, .ref mhung, .int 0, .ref mgoal, .ref mleaps, .ref mqueue, .ref mrow, .int 0, .ref mwanted, .ref mfirst, .ref moften, .int 0, .int 0, .int 0, .int 0, .int 0, .int 0, .ref mlots, .ref mthen, .long 0])), (mlines, .inl (cyI, 5, .inl (fun _ => 0))), (mhas, .inl (cyI, 20, .inl f0)), (mtold, .inl (cyI, 35, .inl f1)), (mlaw, .inl (cyI, 120, .inl f2)), (msuit, .inl (cyI, 245, .inl f3)), (mapart, .inl (cyI, 35, .inl f4)), (mact, .inl (cyI, 400, .inl f5))] sz) := by
  refine Met.ofW (cc := cX12_copyHall) (maxL := 3) (ret := none) (by decide) rfl ?_
  intro p e s m args below meth c s₁ B hml hv
  obtain ⟨rfl, hsz, hP, hK, hD0⟩ := hv
  have hx := B.exec
  have hb := B.bytes
  have hr := B.returns
  have hts : ∀ w ∈ uU, w.before ([.ref m0, .int 0, .int 2] : List Value).toArray s = true := fun w h => atoms_spec (ws := wk yX12_copyHall cX12_copyHall 3 none) B.pre w (List.mem_cons_of_mem _ h)
  have hown : s.vm.findClass RX12 = some m.cls := findClass_of_methodNamed B.named
  have hlocks := B.notSynchronized
  subst hsz
  have hD := hD0.self (sz := s.heap.size)
  generalize hAe : va_A [(m0, .inr (11, [.int 0, .ref mwidth, .ref mmany, .ref mcells, .ref mmoved, .ref mtape, .int 0, .int 0, .int 0, .int 0, .int 0, .long 0, .int 0, .int bp, .int 0, .int (-1), .ref mlines, .ref mhas, .ref mtold, .ref mlaw, .ref msuit, .ref mapart, .ref mact, .ref misKept, .ref mseen, .ref mhung, .int 0, .ref mgoal, .ref mleaps, .ref mqueue, .ref mrow, .int 0, .ref mwanted, .ref mfirst, .ref moften, .int 0, .int 0, .int 0, .int 0, .int 0, .int 0, .ref mlots, .ref mthen, .long 0])), (mlines, .inl (cyI, 5, .inl (fun _ => 0))), (mhas, .inl (cyI, 20, .inl f0)), (mtold, .inl (cyI, 35, .inl f1)), (mlaw, .inl (cyI, 120, .inl f2)), (msuit, .inl (cyI, 245, .inl f3)), (mapart, .inl (cyI, 35, .inl f4)), (mact, .inl (cyI, 400, .inl f5))] s.heap.size = A at hD ⊢
  have hA : ∀ q : Nat, s.heap.size ≤ q → A q := fun q h => by rw [← hAe]; exact Or.inr h
  have hS : va_S A s.heap s.heap [] := va_S.rf
  have hP : va_P (dC, dI) vwCl [(m0, .inr (11, [.int 0, .ref mwidth, .ref mmany, .ref mcells, .ref mmoved, .ref mtape, .int 0, .int 0, .int 0, .int 0, .int 0, .long 0, .int 0, .int bp, .int 0, .int (-1), .ref mlines, .ref mhas, .ref mtold, .ref mlaw, .ref msuit, .ref mapart, .ref mact, .ref misKept, .ref mseen, .ref mhung, .int 0, .ref mgoal, .ref mleaps, .ref mqueue, .ref mrow, .int 0, .ref mwanted, .ref mfirst, .ref moften, .int 0, .int 0, .int 0, .int 0, .int 0, .int 0, .ref mlots, .ref mthen, .long 0])), (mlines, .inl (cyI, 5, .inl (fun _ => 0))), (mhas, .inl (cyI, 20, .inl f0)), (mtold, .inl (cyI, 35, .inl f1)), (mlaw, .inl (cyI, 120, .inl f2)), (msuit, .inl (cyI, 245, .inl f3)), (mapart, .inl (cyI, 35, .inl f4)), (mact, .inl (cyI, 400, .inl f5))] s.heap := hP
  have hl := lv_entry ([.ref m0, .int 0, .int 2]) (n := 3) (Nat.le_of_ble_eq_true rfl)
  rw [lg_entry_eq]
  generalize (lg_sl ([.ref m0, .int 0, .int 2]) ++ List.replicate (3 - (lg_sl ([.ref m0, .int 0, .int 2])).length) Slot.unset).toArray = ls at hl ⊢
  have hl : lv_has ls 3 [(0, .ref m0), (1, .int 0), (2, .int 2)] := hl
  obtain ⟨H, hHe⟩ : ∃ H, H = s.heap := ⟨_, rfl⟩
  have hP : va_P (dC, dI) vwCl [(m0, .inr (11, [.int 0, .ref mwidth, .ref mmany, .ref mcells, .ref mmoved, .ref mtape, .int 0, .int 0, .int 0, .int 0, .int 0, .long 0, .int 0, .int bp, .int 0, .int (-1), .ref mlines, .ref mhas, .ref mtold, .ref mlaw, .ref msuit, .ref mapart, .ref mact, .ref misKept, .ref mseen, .ref mhung, .int 0, .ref mgoal, .ref mleaps, .ref mqueue, .ref mrow, .int 0, .ref mwanted, .ref mfirst, .ref moften, .int 0, .int 0, .int 0, .int 0, .int 0, .int 0, .ref mlots, .ref mthen, .long 0])), (mlines, .inl (cyI, 5, .inl (fun _ => 0))), (mhas, .inl (cyI, 20, .inl f0)), (mtold, .inl (cyI, 35, .inl f1)), (mlaw, .inl (cyI, 120, .inl f2)), (msuit, .inl (cyI, 245, .inl f3)), (mapart, .inl (cyI, 35, .inl f4)), (mact, .inl (cyI, 400, .inl f5))] H := by rw [hHe]; exact hP
  have hS : va_S A s.heap H [] := by rw [hHe]; exact hS
  refine cv_heap hHe ?_
  refine lv_aload_n hx hb dX12_copyHall_0 rfl (lv_at hl 0 rfl) ?_
  refine va_get (D := (dC, dI)) (ci := 11) (v := .ref mlines) (C := RX12) (T := TX12) (N := 44) hx hb hts uinX12 hown hK hP 0 rfl rfl 16 (by decide) (hts _ wd_6_53) (fun _ h9 => h9) rfl dX12_copyHall_1 ?_
  refine lv_iconst (v := 1) hx hb dX12_copyHall_4 (by decide) ?_
  refine lv_iload_n hx hb dX12_copyHall_5 rfl (lv_at hl 1 rfl) ?_
  refine lv_iload_n hx hb dX12_copyHall_6 rfl (lv_at hl 2 rfl) ?_
  have hPc := hP.sub (ws' := [(mlines, .inl (cyI, 5, .inl (fun _ => 0)))]) [1] rfl
  have hKc := hK.sub (tys' := [(cyI, .int), (cyB, .byte), (cyJ, .long), (cyZ, .boolean), (cyH, .object RX2), (cyN, .array .long)]) [0, 1, 2, 3, 4, 5] rfl
  have hDc := hD.sub (ws' := [(mlines, .inl (cyI, 5, .inl (fun _ => 0)))]) [1] (by decide) rfl
  have hFc := va_free (wc := [(mlines, .inl (cyI, 5, .inl (fun _ => 0)))]) hD hS hA [1] rfl
  refine va_callv (va_runS (As := [.ref mlines, .int 1, .int 0, .int 2]) (rest := []) ⟨hx, hb, hml, hown, hts⟩ (m_copyRow_lines_02 l dC dI cyI cyB cyJ cyZ cyH cyN H.size mlines) (va_cwS 4 hts (gdS wd_7_71 wd_7_72 wd_1_11 wd_7_73) rfl rfl rfl (by decide +kernel) ⟨Nat.le_of_ble_eq_true rfl, Nat.le_of_ble_eq_true rfl⟩) ⟨fun a U g mk q => by obtain ⟨q0, q1, qP, qK, qD⟩ := q; exact ⟨q0, q1, qP, va_K.moved (u := U) (U := U.calling g mk a) (Vm.Alike.refl U.vm) qK, qD⟩, fun U hU hW => ⟨rfl, by rw [hU], by rw [hU]; exact hPc, va_K.moved hW.alike hKc, hDc.weaken (fun _ _ _ _ => trivial)⟩⟩ rfl rfl hl.1 rfl (lv_room (Nat.le_of_ble_eq_true rfl)) dX12_copyHall_7 ⟨Nat.le_of_ble_eq_true rfl, Nat.le_of_ble_eq_true rfl⟩) hS (fun q _ h => hFc q h) hFc (fun  u t H1 locs ht hvm hw hB hz1 hk1 hS => ?_)
  obtain ⟨hP1, hD1⟩ := hB
  rw [ht] at hP1
  obtain ⟨hP, hD⟩ := va_join (wr := [(m0, .inr (11, [.int 0, .ref mwidth, .ref mmany, .ref mcells, .ref mmoved, .ref mtape, .int 0, .int 0, .int 0, .int 0, .int 0, .long 0, .int 0, .int bp, .int 0, .int (-1), .ref mlines, .ref mhas, .ref mtold, .ref mlaw, .ref msuit, .ref mapart, .ref mact, .ref misKept, .ref mseen, .ref mhung, .int 0, .ref mgoal, .ref mleaps, .ref mqueue, .ref mrow, .int 0, .ref mwanted, .ref mfirst, .ref moften, .int 0, .int 0, .int 0, .int 0, .int 0, .int 0, .ref mlots, .ref mthen, .long 0])), (mhas, .inl (cyI, 20, .inl f0)), (mtold, .inl (cyI, 35, .inl f1)), (mlaw, .inl (cyI, 120, .inl f2)), (msuit, .inl (cyI, 245, .inl f3)), (mapart, .inl (cyI, 35, .inl f4)), (mact, .inl (cyI, 400, .inl f5))]) (w1 := [(mlines, .inl (cyI, 5, .inl (fun _ => 0)))]) hP hD [1] [0, 2, 3, 4, 5, 6, 7] rfl rfl (by decide) (by decide) hk1 hFc hP1 hD1
  generalize H1 = H at hP hS ⊢
  have hP : va_P (dC, dI) vwCl [(m0, .inr (11, [.int 0, .ref mwidth, .ref mmany, .ref mcells, .ref mmoved, .ref mtape, .int 0, .int 0, .int 0, .int 0, .int 0, .long 0, .int 0, .int bp, .int 0, .int (-1), .ref mlines, .ref mhas, .ref mtold, .ref mlaw, .ref msuit, .ref mapart, .ref mact, .ref misKept, .ref mseen, .ref mhung, .int 0, .ref mgoal, .ref mleaps, .ref mqueue, .ref mrow, .int 0, .ref mwanted, .ref mfirst, .ref moften, .int 0, .int 0, .int 0, .int 0, .int 0, .int 0, .ref mlots, .ref mthen, .long 0])), (mhas, .inl (cyI, 20, .inl f0)), (mtold, .inl (cyI, 35, .inl f1)), (mlaw, .inl (cyI, 120, .inl f2)), (msuit, .inl (cyI, 245, .inl f3)), (mapart, .inl (cyI, 35, .inl f4)), (mact, .inl (cyI, 400, .inl f5)), (mlines, .inl (cyI, 5, .inl (fun _ => 0)))] H := hP
  have hD : va_D A [(m0, .inr (11, [.int 0, .ref mwidth, .ref mmany, .ref mcells, .ref mmoved, .ref mtape, .int 0, .int 0, .int 0, .int 0, .int 0, .long 0, .int 0, .int bp, .int 0, .int (-1), .ref mlines, .ref mhas, .ref mtold, .ref mlaw, .ref msuit, .ref mapart, .ref mact, .ref misKept, .ref mseen, .ref mhung, .int 0, .ref mgoal, .ref mleaps, .ref mqueue, .ref mrow, .int 0, .ref mwanted, .ref mfirst, .ref moften, .int 0, .int 0, .int 0, .int 0, .int 0, .int 0, .ref mlots, .ref mthen, .long 0])), (mhas, .inl (cyI, 20, .inl f0)), (mtold, .inl (cyI, 35, .inl f1)), (mlaw, .inl (cyI, 120, .inl f2)), (msuit, .inl (cyI, 245, .inl f3)), (mapart, .inl (cyI, 35, .inl f4)), (mact, .inl (cyI, 400, .inl f5)), (mlines, .inl (cyI, 5, .inl (fun _ => 0)))] := hD
  refine lv_aload_n hx hb dX12_copyHall_10 rfl (lv_at hl 0 rfl) ?_
  refine va_get (D := (dC, dI)) (ci := 11) (v := .ref mhas) (C := RX12) (T := TX12) (N := 44) hx hb hts uinX12 hown hK hP 0 rfl rfl 17 (by decide) (hts _ wd_6_54) (fun _ h9 => h9) rfl dX12_copyHall_11 ?_
  refine lv_iconst (v := 4) hx hb dX12_copyHall_14 (by decide) ?_
  refine lv_iload_n hx hb dX12_copyHall_15 rfl (lv_at hl 1 rfl) ?_
  refine lv_iload_n hx hb dX12_copyHall_16 rfl (lv_at hl 2 rfl) ?_
  have hPc := hP.sub (ws' := [(mhas, .inl (cyI, 20, .inl f0))]) [1] rfl
  have hKc := hK.sub (tys' := [(cyI, .int), (cyB, .byte), (cyJ, .long), (cyZ, .boolean), (cyH, .object RX2), (cyN, .array .long)]) [0, 1, 2, 3, 4, 5] rfl
  have hDc := hD.sub (ws' := [(mhas, .inl (cyI, 20, .inl f0))]) [1] (by decide) rfl
  have hFc := va_free (wc := [(mhas, .inl (cyI, 20, .inl f0))]) hD hS hA [1] rfl
  refine va_callv (va_runS (As := [.ref mhas, .int 4, .int 0, .int 2]) (rest := []) ⟨hx, hb, hml, hown, hts⟩ (m_copyRow_has_02 l dC dI cyI cyB cyJ cyZ cyH cyN H.size mhas f0) (va_cwS 4 hts (gdS wd_7_71 wd_7_72 wd_1_11 wd_7_73) rfl rfl rfl (by decide +kernel) ⟨Nat.le_of_ble_eq_true rfl, Nat.le_of_ble_eq_true rfl⟩) ⟨fun a U g mk q => by obtain ⟨q0, q1, qP, qK, qD⟩ := q; exact ⟨q0, q1, qP, va_K.moved (u := U) (U := U.calling g mk a) (Vm.Alike.refl U.vm) qK, qD⟩, fun U hU hW => ⟨rfl, by rw [hU], by rw [hU]; exact hPc, va_K.moved hW.alike hKc, hDc.weaken (fun _ _ _ _ => trivial)⟩⟩ rfl rfl hl.1 rfl (lv_room (Nat.le_of_ble_eq_true rfl)) dX12_copyHall_17 ⟨Nat.le_of_ble_eq_true rfl, Nat.le_of_ble_eq_true rfl⟩) hS (fun q _ h => hFc q h) hFc (fun  u t H1 locs ht hvm hw hB hz1 hk1 hS => ?_)
  obtain ⟨g_1, hP1, hD1⟩ := hB
  rw [ht] at hP1
  obtain ⟨hP, hD⟩ := va_join (wr := [(m0, .inr (11, [.int 0, .ref mwidth, .ref mmany, .ref mcells, .ref mmoved, .ref mtape, .int 0, .int 0, .int 0, .int 0, .int 0, .long 0, .int 0, .int bp, .int 0, .int (-1), .ref mlines, .ref mhas, .ref mtold, .ref mlaw, .ref msuit, .ref mapart, .ref mact, .ref misKept, .ref mseen, .ref mhung, .int 0, .ref mgoal, .ref mleaps, .ref mqueue, .ref mrow, .int 0, .ref mwanted, .ref mfirst, .ref moften, .int 0, .int 0, .int 0, .int 0, .int 0, .int 0, .ref mlots, .ref mthen, .long 0])), (mtold, .inl (cyI, 35, .inl f1)), (mlaw, .inl (cyI, 120, .inl f2)), (msuit, .inl (cyI, 245, .inl f3)), (mapart, .inl (cyI, 35, .inl f4)), (mact, .inl (cyI, 400, .inl f5)), (mlines, .inl (cyI, 5, .inl (fun _ => 0)))]) (w1 := [(mhas, .inl (cyI, 20, .inl g_1))]) hP hD [1] [0, 2, 3, 4, 5, 6, 7] rfl rfl (by decide) (by decide) hk1 hFc hP1 hD1
  generalize H1 = H at hP hS ⊢
  have hP : va_P (dC, dI) vwCl [(m0, .inr (11, [.int 0, .ref mwidth, .ref mmany, .ref mcells, .ref mmoved, .ref mtape, .int 0, .int 0, .int 0, .int 0, .int 0, .long 0, .int 0, .int bp, .int 0, .int (-1), .ref mlines, .ref mhas, .ref mtold, .ref mlaw, .ref msuit, .ref mapart, .ref mact, .ref misKept, .ref mseen, .ref mhung, .int 0, .ref mgoal, .ref mleaps, .ref mqueue, .ref mrow, .int 0, .ref mwanted, .ref mfirst, .ref moften, .int 0, .int 0, .int 0, .int 0, .int 0, .int 0, .ref mlots, .ref mthen, .long 0])), (mtold, .inl (cyI, 35, .inl f1)), (mlaw, .inl (cyI, 120, .inl f2)), (msuit, .inl (cyI, 245, .inl f3)), (mapart, .inl (cyI, 35, .inl f4)), (mact, .inl (cyI, 400, .inl f5)), (mlines, .inl (cyI, 5, .inl (fun _ => 0))), (mhas, .inl (cyI, 20, .inl g_1))] H := hP
  have hD : va_D A [(m0, .inr (11, [.int 0, .ref mwidth, .ref mmany, .ref mcells, .ref mmoved, .ref mtape, .int 0, .int 0, .int 0, .int 0, .int 0, .long 0, .int 0, .int bp, .int 0, .int (-1), .ref mlines, .ref mhas, .ref mtold, .ref mlaw, .ref msuit, .ref mapart, .ref mact, .ref misKept, .ref mseen, .ref mhung, .int 0, .ref mgoal, .ref mleaps, .ref mqueue, .ref mrow, .int 0, .ref mwanted, .ref mfirst, .ref moften, .int 0, .int 0, .int 0, .int 0, .int 0, .int 0, .ref mlots, .ref mthen, .long 0])), (mtold, .inl (cyI, 35, .inl f1)), (mlaw, .inl (cyI, 120, .inl f2)), (msuit, .inl (cyI, 245, .inl f3)), (mapart, .inl (cyI, 35, .inl f4)), (mact, .inl (cyI, 400, .inl f5)), (mlines, .inl (cyI, 5, .inl (fun _ => 0))), (mhas, .inl (cyI, 20, .inl g_1))] := hD
  refine lv_aload_n hx hb dX12_copyHall_20 rfl (lv_at hl 0 rfl) ?_
  refine va_get (D := (dC, dI)) (ci := 11) (v := .ref mtold) (C := RX12) (T := TX12) (N := 44) hx hb hts uinX12 hown hK hP 0 rfl rfl 18 (by decide) (hts _ wd_6_55) (fun _ h9 => h9) rfl dX12_copyHall_21 ?_
  refine lv_bipush (v := 7) hx hb dX12_copyHall_24 (by decide) ?_
  refine lv_iload_n hx hb dX12_copyHall_26 rfl (lv_at hl 1 rfl) ?_
  refine lv_iload_n hx hb dX12_copyHall_27 rfl (lv_at hl 2 rfl) ?_
  have hPc := hP.sub (ws' := [(mtold, .inl (cyI, 35, .inl f1))]) [1] rfl
  have hKc := hK.sub (tys' := [(cyI, .int), (cyB, .byte), (cyJ, .long), (cyZ, .boolean), (cyH, .object RX2), (cyN, .array .long)]) [0, 1, 2, 3, 4, 5] rfl
  have hDc := hD.sub (ws' := [(mtold, .inl (cyI, 35, .inl f1))]) [1] (by decide) rfl
  have hFc := va_free (wc := [(mtold, .inl (cyI, 35, .inl f1))]) hD hS hA [1] rfl
  refine va_callv (va_runS (As := [.ref mtold, .int 7, .int 0, .int 2]) (rest := []) ⟨hx, hb, hml, hown, hts⟩ (m_copyRow_told_02 l dC dI cyI cyB cyJ cyZ cyH cyN H.size mtold f1) (va_cwS 4 hts (gdS wd_7_71 wd_7_72 wd_1_11 wd_7_73) rfl rfl rfl (by decide +kernel) ⟨Nat.le_of_ble_eq_true rfl, Nat.le_of_ble_eq_true rfl⟩) ⟨fun a U g mk q => by obtain ⟨q0, q1, qP, qK, qD⟩ := q; exact ⟨q0, q1, qP, va_K.moved (u := U) (U := U.calling g mk a) (Vm.Alike.refl U.vm) qK, qD⟩, fun U hU hW => ⟨rfl, by rw [hU], by rw [hU]; exact hPc, va_K.moved hW.alike hKc, hDc.weaken (fun _ _ _ _ => trivial)⟩⟩ rfl rfl hl.1 rfl (lv_room (Nat.le_of_ble_eq_true rfl)) dX12_copyHall_28 ⟨Nat.le_of_ble_eq_true rfl, Nat.le_of_ble_eq_true rfl⟩) hS (fun q _ h => hFc q h) hFc (fun  u t H1 locs ht hvm hw hB hz1 hk1 hS => ?_)
  obtain ⟨g_2, hP1, hD1⟩ := hB
  rw [ht] at hP1
  obtain ⟨hP, hD⟩ := va_join (wr := [(m0, .inr (11, [.int 0, .ref mwidth, .ref mmany, .ref mcells, .ref mmoved, .ref mtape, .int 0, .int 0, .int 0, .int 0, .int 0, .long 0, .int 0, .int bp, .int 0, .int (-1), .ref mlines, .ref mhas, .ref mtold, .ref mlaw, .ref msuit, .ref mapart, .ref mact, .ref misKept, .ref mseen, .ref mhung, .int 0, .ref mgoal, .ref mleaps, .ref mqueue, .ref mrow, .int 0, .ref mwanted, .ref mfirst, .ref moften, .int 0, .int 0, .int 0, .int 0, .int 0, .int 0, .ref mlots, .ref mthen, .long 0])), (mlaw, .inl (cyI, 120, .inl f2)), (msuit, .inl (cyI, 245, .inl f3)), (mapart, .inl (cyI, 35, .inl f4)), (mact, .inl (cyI, 400, .inl f5)), (mlines, .inl (cyI, 5, .inl (fun _ => 0))), (mhas, .inl (cyI, 20, .inl g_1))]) (w1 := [(mtold, .inl (cyI, 35, .inl g_2))]) hP hD [1] [0, 2, 3, 4, 5, 6, 7] rfl rfl (by decide) (by decide) hk1 hFc hP1 hD1
  generalize H1 = H at hP hS ⊢
  have hP : va_P (dC, dI) vwCl [(m0, .inr (11, [.int 0, .ref mwidth, .ref mmany, .ref mcells, .ref mmoved, .ref mtape, .int 0, .int 0, .int 0, .int 0, .int 0, .long 0, .int 0, .int bp, .int 0, .int (-1), .ref mlines, .ref mhas, .ref mtold, .ref mlaw, .ref msuit, .ref mapart, .ref mact, .ref misKept, .ref mseen, .ref mhung, .int 0, .ref mgoal, .ref mleaps, .ref mqueue, .ref mrow, .int 0, .ref mwanted, .ref mfirst, .ref moften, .int 0, .int 0, .int 0, .int 0, .int 0, .int 0, .ref mlots, .ref mthen, .long 0])), (mlaw, .inl (cyI, 120, .inl f2)), (msuit, .inl (cyI, 245, .inl f3)), (mapart, .inl (cyI, 35, .inl f4)), (mact, .inl (cyI, 400, .inl f5)), (mlines, .inl (cyI, 5, .inl (fun _ => 0))), (mhas, .inl (cyI, 20, .inl g_1)), (mtold, .inl (cyI, 35, .inl g_2))] H := hP
  have hD : va_D A [(m0, .inr (11, [.int 0, .ref mwidth, .ref mmany, .ref mcells, .ref mmoved, .ref mtape, .int 0, .int 0, .int 0, .int 0, .int 0, .long 0, .int 0, .int bp, .int 0, .int (-1), .ref mlines, .ref mhas, .ref mtold, .ref mlaw, .ref msuit, .ref mapart, .ref mact, .ref misKept, .ref mseen, .ref mhung, .int 0, .ref mgoal, .ref mleaps, .ref mqueue, .ref mrow, .int 0, .ref mwanted, .ref mfirst, .ref moften, .int 0, .int 0, .int 0, .int 0, .int 0, .int 0, .ref mlots, .ref mthen, .long 0])), (mlaw, .inl (cyI, 120, .inl f2)), (msuit, .inl (cyI, 245, .inl f3)), (mapart, .inl (cyI, 35, .inl f4)), (mact, .inl (cyI, 400, .inl f5)), (mlines, .inl (cyI, 5, .inl (fun _ => 0))), (mhas, .inl (cyI, 20, .inl g_1)), (mtold, .inl (cyI, 35, .inl g_2))] := hD
  refine lv_aload_n hx hb dX12_copyHall_31 rfl (lv_at hl 0 rfl) ?_
  refine va_get (D := (dC, dI)) (ci := 11) (v := .ref mlaw) (C := RX12) (T := TX12) (N := 44) hx hb hts uinX12 hown hK hP 0 rfl rfl 19 (by decide) (hts _ wd_6_56) (fun _ h9 => h9) rfl dX12_copyHall_32 ?_
  refine lv_bipush (v := 24) hx hb dX12_copyHall_35 (by decide) ?_
  refine lv_iload_n hx hb dX12_copyHall_37 rfl (lv_at hl 1 rfl) ?_
  refine lv_iload_n hx hb dX12_copyHall_38 rfl (lv_at hl 2 rfl) ?_
  have hPc := hP.sub (ws' := [(mlaw, .inl (cyI, 120, .inl f2))]) [1] rfl
  have hKc := hK.sub (tys' := [(cyI, .int), (cyB, .byte), (cyJ, .long), (cyZ, .boolean), (cyH, .object RX2), (cyN, .array .long)]) [0, 1, 2, 3, 4, 5] rfl
  have hDc := hD.sub (ws' := [(mlaw, .inl (cyI, 120, .inl f2))]) [1] (by decide) rfl
  have hFc := va_free (wc := [(mlaw, .inl (cyI, 120, .inl f2))]) hD hS hA [1] rfl
  refine va_callv (va_runS (As := [.ref mlaw, .int 24, .int 0, .int 2]) (rest := []) ⟨hx, hb, hml, hown, hts⟩ (m_copyRow_law_02 l dC dI cyI cyB cyJ cyZ cyH cyN H.size mlaw f2) (va_cwS 4 hts (gdS wd_7_71 wd_7_72 wd_1_11 wd_7_73) rfl rfl rfl (by decide +kernel) ⟨Nat.le_of_ble_eq_true rfl, Nat.le_of_ble_eq_true rfl⟩) ⟨fun a U g mk q => by obtain ⟨q0, q1, qP, qK, qD⟩ := q; exact ⟨q0, q1, qP, va_K.moved (u := U) (U := U.calling g mk a) (Vm.Alike.refl U.vm) qK, qD⟩, fun U hU hW => ⟨rfl, by rw [hU], by rw [hU]; exact hPc, va_K.moved hW.alike hKc, hDc.weaken (fun _ _ _ _ => trivial)⟩⟩ rfl rfl hl.1 rfl (lv_room (Nat.le_of_ble_eq_true rfl)) dX12_copyHall_39 ⟨Nat.le_of_ble_eq_true rfl, Nat.le_of_ble_eq_true rfl⟩) hS (fun q _ h => hFc q h) hFc (fun  u t H1 locs ht hvm hw hB hz1 hk1 hS => ?_)
  obtain ⟨g_3, hP1, hD1⟩ := hB
  rw [ht] at hP1
  obtain ⟨hP, hD⟩ := va_join (wr := [(m0, .inr (11, [.int 0, .ref mwidth, .ref mmany, .ref mcells, .ref mmoved, .ref mtape, .int 0, .int 0, .int 0, .int 0, .int 0, .long 0, .int 0, .int bp, .int 0, .int (-1), .ref mlines, .ref mhas, .ref mtold, .ref mlaw, .ref msuit, .ref mapart, .ref mact, .ref misKept, .ref mseen, .ref mhung, .int 0, .ref mgoal, .ref mleaps, .ref mqueue, .ref mrow, .int 0, .ref mwanted, .ref mfirst, .ref moften, .int 0, .int 0, .int 0, .int 0, .int 0, .int 0, .ref mlots, .ref mthen, .long 0])), (msuit, .inl (cyI, 245, .inl f3)), (mapart, .inl (cyI, 35, .inl f4)), (mact, .inl (cyI, 400, .inl f5)), (mlines, .inl (cyI, 5, .inl (fun _ => 0))), (mhas, .inl (cyI, 20, .inl g_1)), (mtold, .inl (cyI, 35, .inl g_2))]) (w1 := [(mlaw, .inl (cyI, 120, .inl g_3))]) hP hD [1] [0, 2, 3, 4, 5, 6, 7] rfl rfl (by decide) (by decide) hk1 hFc hP1 hD1
  generalize H1 = H at hP hS ⊢
  have hP : va_P (dC, dI) vwCl [(m0, .inr (11, [.int 0, .ref mwidth, .ref mmany, .ref mcells, .ref mmoved, .ref mtape, .int 0, .int 0, .int 0, .int 0, .int 0, .long 0, .int 0, .int bp, .int 0, .int (-1), .ref mlines, .ref mhas, .ref mtold, .ref mlaw, .ref msuit, .ref mapart, .ref mact, .ref misKept, .ref mseen, .ref mhung, .int 0, .ref mgoal, .ref mleaps, .ref mqueue, .ref mrow, .int 0, .ref mwanted, .ref mfirst, .ref moften, .int 0, .int 0, .int 0, .int 0, .int 0, .int 0, .ref mlots, .ref mthen, .long 0])), (msuit, .inl (cyI, 245, .inl f3)), (mapart, .inl (cyI, 35, .inl f4)), (mact, .inl (cyI, 400, .inl f5)), (mlines, .inl (cyI, 5, .inl (fun _ => 0))), (mhas, .inl (cyI, 20, .inl g_1)), (mtold, .inl (cyI, 35, .inl g_2)), (mlaw, .inl (cyI, 120, .inl g_3))] H := hP
  have hD : va_D A [(m0, .inr (11, [.int 0, .ref mwidth, .ref mmany, .ref mcells, .ref mmoved, .ref mtape, .int 0, .int 0, .int 0, .int 0, .int 0, .long 0, .int 0, .int bp, .int 0, .int (-1), .ref mlines, .ref mhas, .ref mtold, .ref mlaw, .ref msuit, .ref mapart, .ref mact, .ref misKept, .ref mseen, .ref mhung, .int 0, .ref mgoal, .ref mleaps, .ref mqueue, .ref mrow, .int 0, .ref mwanted, .ref mfirst, .ref moften, .int 0, .int 0, .int 0, .int 0, .int 0, .int 0, .ref mlots, .ref mthen, .long 0])), (msuit, .inl (cyI, 245, .inl f3)), (mapart, .inl (cyI, 35, .inl f4)), (mact, .inl (cyI, 400, .inl f5)), (mlines, .inl (cyI, 5, .inl (fun _ => 0))), (mhas, .inl (cyI, 20, .inl g_1)), (mtold, .inl (cyI, 35, .inl g_2)), (mlaw, .inl (cyI, 120, .inl g_3))] := hD
  refine lv_aload_n hx hb dX12_copyHall_42 rfl (lv_at hl 0 rfl) ?_
  refine va_get (D := (dC, dI)) (ci := 11) (v := .ref msuit) (C := RX12) (T := TX12) (N := 44) hx hb hts uinX12 hown hK hP 0 rfl rfl 20 (by decide) (hts _ wd_6_57) (fun _ h9 => h9) rfl dX12_copyHall_43 ?_
  refine lv_bipush (v := 49) hx hb dX12_copyHall_46 (by decide) ?_
  refine lv_iload_n hx hb dX12_copyHall_48 rfl (lv_at hl 1 rfl) ?_
  refine lv_iload_n hx hb dX12_copyHall_49 rfl (lv_at hl 2 rfl) ?_
  have hPc := hP.sub (ws' := [(msuit, .inl (cyI, 245, .inl f3))]) [1] rfl
  have hKc := hK.sub (tys' := [(cyI, .int), (cyB, .byte), (cyJ, .long), (cyZ, .boolean), (cyH, .object RX2), (cyN, .array .long)]) [0, 1, 2, 3, 4, 5] rfl
  have hDc := hD.sub (ws' := [(msuit, .inl (cyI, 245, .inl f3))]) [1] (by decide) rfl
  have hFc := va_free (wc := [(msuit, .inl (cyI, 245, .inl f3))]) hD hS hA [1] rfl
  refine va_callv (va_runS (As := [.ref msuit, .int 49, .int 0, .int 2]) (rest := []) ⟨hx, hb, hml, hown, hts⟩ (m_copyRow_suit_02 l dC dI cyI cyB cyJ cyZ cyH cyN H.size msuit f3) (va_cwS 4 hts (gdS wd_7_71 wd_7_72 wd_1_11 wd_7_73) rfl rfl rfl (by decide +kernel) ⟨Nat.le_of_ble_eq_true rfl, Nat.le_of_ble_eq_true rfl⟩) ⟨fun a U g mk q => by obtain ⟨q0, q1, qP, qK, qD⟩ := q; exact ⟨q0, q1, qP, va_K.moved (u := U) (U := U.calling g mk a) (Vm.Alike.refl U.vm) qK, qD⟩, fun U hU hW => ⟨rfl, by rw [hU], by rw [hU]; exact hPc, va_K.moved hW.alike hKc, hDc.weaken (fun _ _ _ _ => trivial)⟩⟩ rfl rfl hl.1 rfl (lv_room (Nat.le_of_ble_eq_true rfl)) dX12_copyHall_50 ⟨Nat.le_of_ble_eq_true rfl, Nat.le_of_ble_eq_true rfl⟩) hS (fun q _ h => hFc q h) hFc (fun  u t H1 locs ht hvm hw hB hz1 hk1 hS => ?_)
  obtain ⟨g_4, hP1, hD1⟩ := hB
  rw [ht] at hP1
  obtain ⟨hP, hD⟩ := va_join (wr := [(m0, .inr (11, [.int 0, .ref mwidth, .ref mmany, .ref mcells, .ref mmoved, .ref mtape, .int 0, .int 0, .int 0, .int 0, .int 0, .long 0, .int 0, .int bp, .int 0, .int (-1), .ref mlines, .ref mhas, .ref mtold, .ref mlaw, .ref msuit, .ref mapart, .ref mact, .ref misKept, .ref mseen, .ref mhung, .int 0, .ref mgoal, .ref mleaps, .ref mqueue, .ref mrow, .int 0, .ref mwanted, .ref mfirst, .ref moften, .int 0, .int 0, .int 0, .int 0, .int 0, .int 0, .ref mlots, .ref mthen, .long 0])), (mapart, .inl (cyI, 35, .inl f4)), (mact, .inl (cyI, 400, .inl f5)), (mlines, .inl (cyI, 5, .inl (fun _ => 0))), (mhas, .inl (cyI, 20, .inl g_1)), (mtold, .inl (cyI, 35, .inl g_2)), (mlaw, .inl (cyI, 120, .inl g_3))]) (w1 := [(msuit, .inl (cyI, 245, .inl g_4))]) hP hD [1] [0, 2, 3, 4, 5, 6, 7] rfl rfl (by decide) (by decide) hk1 hFc hP1 hD1
  generalize H1 = H at hP hS ⊢
  have hP : va_P (dC, dI) vwCl [(m0, .inr (11, [.int 0, .ref mwidth, .ref mmany, .ref mcells, .ref mmoved, .ref mtape, .int 0, .int 0, .int 0, .int 0, .int 0, .long 0, .int 0, .int bp, .int 0, .int (-1), .ref mlines, .ref mhas, .ref mtold, .ref mlaw, .ref msuit, .ref mapart, .ref mact, .ref misKept, .ref mseen, .ref mhung, .int 0, .ref mgoal, .ref mleaps, .ref mqueue, .ref mrow, .int 0, .ref mwanted, .ref mfirst, .ref moften, .int 0, .int 0, .int 0, .int 0, .int 0, .int 0, .ref mlots, .ref mthen, .long 0])), (mapart, .inl (cyI, 35, .inl f4)), (mact, .inl (cyI, 400, .inl f5)), (mlines, .inl (cyI, 5, .inl (fun _ => 0))), (mhas, .inl (cyI, 20, .inl g_1)), (mtold, .inl (cyI, 35, .inl g_2)), (mlaw, .inl (cyI, 120, .inl g_3)), (msuit, .inl (cyI, 245, .inl g_4))] H := hP
  have hD : va_D A [(m0, .inr (11, [.int 0, .ref mwidth, .ref mmany, .ref mcells, .ref mmoved, .ref mtape, .int 0, .int 0, .int 0, .int 0, .int 0, .long 0, .int 0, .int bp, .int 0, .int (-1), .ref mlines, .ref mhas, .ref mtold, .ref mlaw, .ref msuit, .ref mapart, .ref mact, .ref misKept, .ref mseen, .ref mhung, .int 0, .ref mgoal, .ref mleaps, .ref mqueue, .ref mrow, .int 0, .ref mwanted, .ref mfirst, .ref moften, .int 0, .int 0, .int 0, .int 0, .int 0, .int 0, .ref mlots, .ref mthen, .long 0])), (mapart, .inl (cyI, 35, .inl f4)), (mact, .inl (cyI, 400, .inl f5)), (mlines, .inl (cyI, 5, .inl (fun _ => 0))), (mhas, .inl (cyI, 20, .inl g_1)), (mtold, .inl (cyI, 35, .inl g_2)), (mlaw, .inl (cyI, 120, .inl g_3)), (msuit, .inl (cyI, 245, .inl g_4))] := hD
  refine lv_aload_n hx hb dX12_copyHall_53 rfl (lv_at hl 0 rfl) ?_
  refine va_get (D := (dC, dI)) (ci := 11) (v := .ref mapart) (C := RX12) (T := TX12) (N := 44) hx hb hts uinX12 hown hK hP 0 rfl rfl 21 (by decide) (hts _ wd_6_58) (fun _ h9 => h9) rfl dX12_copyHall_54 ?_
  refine lv_bipush (v := 7) hx hb dX12_copyHall_57 (by decide) ?_
  refine lv_iload_n hx hb dX12_copyHall_59 rfl (lv_at hl 1 rfl) ?_
  refine lv_iload_n hx hb dX12_copyHall_60 rfl (lv_at hl 2 rfl) ?_
  have hPc := hP.sub (ws' := [(mapart, .inl (cyI, 35, .inl f4))]) [1] rfl
  have hKc := hK.sub (tys' := [(cyI, .int), (cyB, .byte), (cyJ, .long), (cyZ, .boolean), (cyH, .object RX2), (cyN, .array .long)]) [0, 1, 2, 3, 4, 5] rfl
  have hDc := hD.sub (ws' := [(mapart, .inl (cyI, 35, .inl f4))]) [1] (by decide) rfl
  have hFc := va_free (wc := [(mapart, .inl (cyI, 35, .inl f4))]) hD hS hA [1] rfl
  refine va_callv (va_runS (As := [.ref mapart, .int 7, .int 0, .int 2]) (rest := []) ⟨hx, hb, hml, hown, hts⟩ (m_copyRow_told_02 l dC dI cyI cyB cyJ cyZ cyH cyN H.size mapart f4) (va_cwS 4 hts (gdS wd_7_71 wd_7_72 wd_1_11 wd_7_73) rfl rfl rfl (by decide +kernel) ⟨Nat.le_of_ble_eq_true rfl, Nat.le_of_ble_eq_true rfl⟩) ⟨fun a U g mk q => by obtain ⟨q0, q1, qP, qK, qD⟩ := q; exact ⟨q0, q1, qP, va_K.moved (u := U) (U := U.calling g mk a) (Vm.Alike.refl U.vm) qK, qD⟩, fun U hU hW => ⟨rfl, by rw [hU], by rw [hU]; exact hPc, va_K.moved hW.alike hKc, hDc.weaken (fun _ _ _ _ => trivial)⟩⟩ rfl rfl hl.1 rfl (lv_room (Nat.le_of_ble_eq_true rfl)) dX12_copyHall_61 ⟨Nat.le_of_ble_eq_true rfl, Nat.le_of_ble_eq_true rfl⟩) hS (fun q _ h => hFc q h) hFc (fun  u t H1 locs ht hvm hw hB hz1 hk1 hS => ?_)
  obtain ⟨g_5, hP1, hD1⟩ := hB
  rw [ht] at hP1
  obtain ⟨hP, hD⟩ := va_join (wr := [(m0, .inr (11, [.int 0, .ref mwidth, .ref mmany, .ref mcells, .ref mmoved, .ref mtape, .int 0, .int 0, .int 0, .int 0, .int 0, .long 0, .int 0, .int bp, .int 0, .int (-1), .ref mlines, .ref mhas, .ref mtold, .ref mlaw, .ref msuit, .ref mapart, .ref mact, .ref misKept, .ref mseen, .ref mhung, .int 0, .ref mgoal, .ref mleaps, .ref mqueue, .ref mrow, .int 0, .ref mwanted, .ref mfirst, .ref moften, .int 0, .int 0, .int 0, .int 0, .int 0, .int 0, .ref mlots, .ref mthen, .long 0])), (mact, .inl (cyI, 400, .inl f5)), (mlines, .inl (cyI, 5, .inl (fun _ => 0))), (mhas, .inl (cyI, 20, .inl g_1)), (mtold, .inl (cyI, 35, .inl g_2)), (mlaw, .inl (cyI, 120, .inl g_3)), (msuit, .inl (cyI, 245, .inl g_4))]) (w1 := [(mapart, .inl (cyI, 35, .inl g_5))]) hP hD [1] [0, 2, 3, 4, 5, 6, 7] rfl rfl (by decide) (by decide) hk1 hFc hP1 hD1
  generalize H1 = H at hP hS ⊢
  have hP : va_P (dC, dI) vwCl [(m0, .inr (11, [.int 0, .ref mwidth, .ref mmany, .ref mcells, .ref mmoved, .ref mtape, .int 0, .int 0, .int 0, .int 0, .int 0, .long 0, .int 0, .int bp, .int 0, .int (-1), .ref mlines, .ref mhas, .ref mtold, .ref mlaw, .ref msuit, .ref mapart, .ref mact, .ref misKept, .ref mseen, .ref mhung, .int 0, .ref mgoal, .ref mleaps, .ref mqueue, .ref mrow, .int 0, .ref mwanted, .ref mfirst, .ref moften, .int 0, .int 0, .int 0, .int 0, .int 0, .int 0, .ref mlots, .ref mthen, .long 0])), (mact, .inl (cyI, 400, .inl f5)), (mlines, .inl (cyI, 5, .inl (fun _ => 0))), (mhas, .inl (cyI, 20, .inl g_1)), (mtold, .inl (cyI, 35, .inl g_2)), (mlaw, .inl (cyI, 120, .inl g_3)), (msuit, .inl (cyI, 245, .inl g_4)), (mapart, .inl (cyI, 35, .inl g_5))] H := hP
  have hD : va_D A [(m0, .inr (11, [.int 0, .ref mwidth, .ref mmany, .ref mcells, .ref mmoved, .ref mtape, .int 0, .int 0, .int 0, .int 0, .int 0, .long 0, .int 0, .int bp, .int 0, .int (-1), .ref mlines, .ref mhas, .ref mtold, .ref mlaw, .ref msuit, .ref mapart, .ref mact, .ref misKept, .ref mseen, .ref mhung, .int 0, .ref mgoal, .ref mleaps, .ref mqueue, .ref mrow, .int 0, .ref mwanted, .ref mfirst, .ref moften, .int 0, .int 0, .int 0, .int 0, .int 0, .int 0, .ref mlots, .ref mthen, .long 0])), (mact, .inl (cyI, 400, .inl f5)), (mlines, .inl (cyI, 5, .inl (fun _ => 0))), (mhas, .inl (cyI, 20, .inl g_1)), (mtold, .inl (cyI, 35, .inl g_2)), (mlaw, .inl (cyI, 120, .inl g_3)), (msuit, .inl (cyI, 245, .inl g_4)), (mapart, .inl (cyI, 35, .inl g_5))] := hD
  refine lv_aload_n hx hb dX12_copyHall_64 rfl (lv_at hl 0 rfl) ?_
  refine va_get (D := (dC, dI)) (ci := 11) (v := .ref mact) (C := RX12) (T := TX12) (N := 44) hx hb hts uinX12 hown hK hP 0 rfl rfl 22 (by decide) (hts _ wd_6_59) (fun _ h9 => h9) rfl dX12_copyHall_65 ?_
  refine lv_bipush (v := 80) hx hb dX12_copyHall_68 (by decide) ?_
  refine lv_iload_n hx hb dX12_copyHall_70 rfl (lv_at hl 1 rfl) ?_
  refine lv_iload_n hx hb dX12_copyHall_71 rfl (lv_at hl 2 rfl) ?_
  have hPc := hP.sub (ws' := [(mact, .inl (cyI, 400, .inl f5))]) [1] rfl
  have hKc := hK.sub (tys' := [(cyI, .int), (cyB, .byte), (cyJ, .long), (cyZ, .boolean), (cyH, .object RX2), (cyN, .array .long)]) [0, 1, 2, 3, 4, 5] rfl
  have hDc := hD.sub (ws' := [(mact, .inl (cyI, 400, .inl f5))]) [1] (by decide) rfl
  have hFc := va_free (wc := [(mact, .inl (cyI, 400, .inl f5))]) hD hS hA [1] rfl
  refine va_callv (va_runS (As := [.ref mact, .int 80, .int 0, .int 2]) (rest := []) ⟨hx, hb, hml, hown, hts⟩ (m_copyRow_act_02 l dC dI cyI cyB cyJ cyZ cyH cyN H.size mact f5) (va_cwS 4 hts (gdS wd_7_71 wd_7_72 wd_1_11 wd_7_73) rfl rfl rfl (by decide +kernel) ⟨Nat.le_of_ble_eq_true rfl, Nat.le_of_ble_eq_true rfl⟩) ⟨fun a U g mk q => by obtain ⟨q0, q1, qP, qK, qD⟩ := q; exact ⟨q0, q1, qP, va_K.moved (u := U) (U := U.calling g mk a) (Vm.Alike.refl U.vm) qK, qD⟩, fun U hU hW => ⟨rfl, by rw [hU], by rw [hU]; exact hPc, va_K.moved hW.alike hKc, hDc.weaken (fun _ _ _ _ => trivial)⟩⟩ rfl rfl hl.1 rfl (lv_room (Nat.le_of_ble_eq_true rfl)) dX12_copyHall_72 ⟨Nat.le_of_ble_eq_true rfl, Nat.le_of_ble_eq_true rfl⟩) hS (fun q _ h => hFc q h) hFc (fun  u t H1 locs ht hvm hw hB hz1 hk1 hS => ?_)
  obtain ⟨g_6, hP1, hD1⟩ := hB
  rw [ht] at hP1
  obtain ⟨hP, hD⟩ := va_join (wr := [(m0, .inr (11, [.int 0, .ref mwidth, .ref mmany, .ref mcells, .ref mmoved, .ref mtape, .int 0, .int 0, .int 0, .int 0, .int 0, .long 0, .int 0, .int bp, .int 0, .int (-1), .ref mlines, .ref mhas, .ref mtold, .ref mlaw, .ref msuit, .ref mapart, .ref mact, .ref misKept, .ref mseen, .ref mhung, .int 0, .ref mgoal, .ref mleaps, .ref mqueue, .ref mrow, .int 0, .ref mwanted, .ref mfirst, .ref moften, .int 0, .int 0, .int 0, .int 0, .int 0, .int 0, .ref mlots, .ref mthen, .long 0])), (mlines, .inl (cyI, 5, .inl (fun _ => 0))), (mhas, .inl (cyI, 20, .inl g_1)), (mtold, .inl (cyI, 35, .inl g_2)), (mlaw, .inl (cyI, 120, .inl g_3)), (msuit, .inl (cyI, 245, .inl g_4)), (mapart, .inl (cyI, 35, .inl g_5))]) (w1 := [(mact, .inl (cyI, 400, .inl g_6))]) hP hD [1] [0, 2, 3, 4, 5, 6, 7] rfl rfl (by decide) (by decide) hk1 hFc hP1 hD1
  generalize H1 = H at hP hS ⊢
  have hP : va_P (dC, dI) vwCl [(m0, .inr (11, [.int 0, .ref mwidth, .ref mmany, .ref mcells, .ref mmoved, .ref mtape, .int 0, .int 0, .int 0, .int 0, .int 0, .long 0, .int 0, .int bp, .int 0, .int (-1), .ref mlines, .ref mhas, .ref mtold, .ref mlaw, .ref msuit, .ref mapart, .ref mact, .ref misKept, .ref mseen, .ref mhung, .int 0, .ref mgoal, .ref mleaps, .ref mqueue, .ref mrow, .int 0, .ref mwanted, .ref mfirst, .ref moften, .int 0, .int 0, .int 0, .int 0, .int 0, .int 0, .ref mlots, .ref mthen, .long 0])), (mlines, .inl (cyI, 5, .inl (fun _ => 0))), (mhas, .inl (cyI, 20, .inl g_1)), (mtold, .inl (cyI, 35, .inl g_2)), (mlaw, .inl (cyI, 120, .inl g_3)), (msuit, .inl (cyI, 245, .inl g_4)), (mapart, .inl (cyI, 35, .inl g_5)), (mact, .inl (cyI, 400, .inl g_6))] H := hP
  have hD : va_D A [(m0, .inr (11, [.int 0, .ref mwidth, .ref mmany, .ref mcells, .ref mmoved, .ref mtape, .int 0, .int 0, .int 0, .int 0, .int 0, .long 0, .int 0, .int bp, .int 0, .int (-1), .ref mlines, .ref mhas, .ref mtold, .ref mlaw, .ref msuit, .ref mapart, .ref mact, .ref misKept, .ref mseen, .ref mhung, .int 0, .ref mgoal, .ref mleaps, .ref mqueue, .ref mrow, .int 0, .ref mwanted, .ref mfirst, .ref moften, .int 0, .int 0, .int 0, .int 0, .int 0, .int 0, .ref mlots, .ref mthen, .long 0])), (mlines, .inl (cyI, 5, .inl (fun _ => 0))), (mhas, .inl (cyI, 20, .inl g_1)), (mtold, .inl (cyI, 35, .inl g_2)), (mlaw, .inl (cyI, 120, .inl g_3)), (msuit, .inl (cyI, 245, .inl g_4)), (mapart, .inl (cyI, 35, .inl g_5)), (mact, .inl (cyI, 400, .inl g_6))] := hD
  have hP9 := hP.sub (ws' := [(m0, .inr (11, [.int 0, .ref mwidth, .ref mmany, .ref mcells, .ref mmoved, .ref mtape, .int 0, .int 0, .int 0, .int 0, .int 0, .long 0, .int 0, .int bp, .int 0, .int (-1), .ref mlines, .ref mhas, .ref mtold, .ref mlaw, .ref msuit, .ref mapart, .ref mact, .ref misKept, .ref mseen, .ref mhung, .int 0, .ref mgoal, .ref mleaps, .ref mqueue, .ref mrow, .int 0, .ref mwanted, .ref mfirst, .ref moften, .int 0, .int 0, .int 0, .int 0, .int 0, .int 0, .ref mlots, .ref mthen, .long 0])), (mlines, .inl (cyI, 5, .inl (fun _ => 0)))]) [0, 1] rfl
  have hD9 := hD.sub (ws' := [(m0, .inr (11, [.int 0, .ref mwidth, .ref mmany, .ref mcells, .ref mmoved, .ref mtape, .int 0, .int 0, .int 0, .int 0, .int 0, .long 0, .int 0, .int bp, .int 0, .int (-1), .ref mlines, .ref mhas, .ref mtold, .ref mlaw, .ref msuit, .ref mapart, .ref mact, .ref misKept, .ref mseen, .ref mhung, .int 0, .ref mgoal, .ref mleaps, .ref mqueue, .ref mrow, .int 0, .ref mwanted, .ref mfirst, .ref moften, .int 0, .int 0, .int 0, .int 0, .int 0, .int 0, .ref mlots, .ref mthen, .long 0])), (mlines, .inl (cyI, 5, .inl (fun _ => 0)))]) [0, 1] (by decide) rfl
  exact W.vret hx hb hr (fun t ht hW => ⟨⟨(), rfl, trivial, ⟨by rw [ht]; exact hP9, hD9⟩⟩, hS.F ht⟩) hS.2.2 dX12_copyHall_75

/- X12_copyRow -/
set_option maxHeartbeats 4000000 in
set_option maxRecDepth 100000 in
theorem m_copyRow_lines_03 (l : Launch) (dC : Nat → ClassId) (dI : Nat → Nat → Nat) (cyI cyB cyJ cyZ cyH cyN : ClassId) (sz : Nat) (h0 : Nat) : Met l yX12_copyRow (wk yX12_copyRow cX12_copyRow 5 none) ({ frames := 1, cells := 0, slots := 0, locals := 60 }) (va_Pc [.ref h0, .int 1, .int 0, .int 3] (fun U => U.heap.size = sz ∧ va_P (dC, dI) vwCl [(h0, .inl (cyI, 5, .inl (fun _ => 0)))] U.heap ∧ va_K (dC, dI) vwCl [(cyI, .int), (cyB, .byte), (cyJ, .long), (cyZ, .boolean), (cyH, .object RX2), (cyN, .array .long)] U ∧ va_D (fun _ => True) [(h0, .inl (cyI, 5, .inl (fun _ => 0)))])) (va_Qv (fun _ : Unit => True) (fun (_ : Unit) (t : State) => va_P (dC, dI) vwCl [(h0, .inl (cyI, 5, .inl (fun _ => 0)))] t.heap ∧ va_D (va_A [(h0, .inl (cyI, 5, .inl (fun _ => 0)))] sz) [(h0, .inl (cyI, 5, .inl (fun _ => 0)))]) (va_A [(h0, .inl (cyI, 5, .inl (fun _ => 0)))] sz)) 0 0 (va_A [(h0, .inl (cyI, 5, .inl (fun _ => 0)))] sz) := by
  refine Met.ofW (cc := cX12_copyRow) (maxL := 5) (ret := none) (by decide) rfl ?_
  intro p e s m args below meth c s₁ B hml hv
  obtain ⟨rfl, hsz, hP, hK, hD0⟩ := hv
  have hx := B.exec
  have hb := B.bytes
  have hr := B.returns
  have hts : ∀ w ∈ uU, w.before ([.ref h0, .int 1, .int 0, .int 3] : List Value).toArray s = true := fun w h => atoms_spec (ws := wk yX12_copyRow cX12_copyRow 5 none) B.pre w (List.mem_cons_of_mem _ h)
  have hown : s.vm.findClass RX12 = some m.cls := findClass_of_methodNamed B.named
  have hlocks := B.notSynchronized
  subst hsz
  have hD := hD0.self (sz := s.heap.size)
  generalize hAe : va_A [(h0, .inl (cyI, 5, .inl (fun _ => 0)))] s.heap.size = A at hD ⊢
  have hA : ∀ q : Nat, s.heap.size ≤ q → A q := fun q h => by rw [← hAe]; exact Or.inr h
  have hS : va_S A s.heap s.heap [] := va_S.rf
  have hP : va_P (dC, dI) vwCl [(h0, .inl (cyI, 5, .inl (fun _ => 0)))] s.heap := hP
  have hl := lv_entry ([.ref h0, .int 1, .int 0, .int 3]) (n := 5) (Nat.le_of_ble_eq_true rfl)
  rw [lg_entry_eq]
  generalize (lg_sl ([.ref h0, .int 1, .int 0, .int 3]) ++ List.replicate (5 - (lg_sl ([.ref h0, .int 1, .int 0, .int 3])).length) Slot.unset).toArray = ls at hl ⊢
  have hl : lv_has ls 5 [(0, .ref h0), (1, .int 1), (2, .int 0), (3, .int 3)] := hl
  obtain ⟨H, hHe⟩ : ∃ H, H = s.heap := ⟨_, rfl⟩
  have hP : va_P (dC, dI) vwCl [(h0, .inl (cyI, 5, .inl (fun _ => 0)))] H := by rw [hHe]; exact hP
  have hS : va_S A s.heap H [] := by rw [hHe]; exact hS
  refine cv_heap hHe ?_
  refine lv_iconst (v := 0) hx hb dX12_copyRow_0 (by decide) ?_
  refine lv_istore (lv' := [(4, .int 0), (0, .ref h0), (1, .int 1), (2, .int 0), (3, .int 3)]) hx hb dX12_copyRow_1 hl (by decide) rfl (fun ls hl => ?_)
  refine lv_iload hx hb dX12_copyRow_3 (lv_at hl 0 rfl) ?_
  refine lv_iload_n hx hb dX12_copyRow_5 rfl (lv_at hl 2 rfl) ?_
  refine lv_icmp_ge (tgt := 31) hx hb dX12_copyRow_6 (by decide) (fun c_1 => absurd c_1 (by decide)) (fun _ => ?_)
  refine lv_aload_n hx hb dX12_copyRow_9 rfl (lv_at hl 1 rfl) ?_
  refine lv_iload_n hx hb dX12_copyRow_10 rfl (lv_at hl 2 rfl) ?_
  refine lv_iload_n hx hb dX12_copyRow_11 rfl (lv_at hl 4 rfl) ?_
  refine lv_imul hx hb dX12_copyRow_12 ?_
  refine cv_topi (b := 3) (by decide) ?_
  refine lv_iload hx hb dX12_copyRow_13 (lv_at hl 0 rfl) ?_
  refine lv_iadd hx hb dX12_copyRow_15 ?_
  refine cv_topi (b := 3) (by decide) ?_
  refine lv_aload_n hx hb dX12_copyRow_16 rfl (lv_at hl 1 rfl) ?_
  refine lv_iload_n hx hb dX12_copyRow_17 rfl (lv_at hl 2 rfl) ?_
  refine lv_iload_n hx hb dX12_copyRow_18 rfl (lv_at hl 3 rfl) ?_
  refine lv_imul hx hb dX12_copyRow_19 ?_
  refine cv_topi (b := 0) (by decide) ?_
  refine lv_iload hx hb dX12_copyRow_20 (lv_at hl 0 rfl) ?_
  refine lv_iadd hx hb dX12_copyRow_22 ?_
  refine cv_topi (b := 0) (by decide) ?_
  refine va_iald hx hb hK hP 0 0 rfl rfl (vp_in_iff.mpr (by decide)) dX12_copyRow_23 ?_
  refine cv_topi (b := 0) (rfl) ?_
  refine va_iast hx hb hK hP hD hS 0 0 rfl rfl (vp_in_iff.mpr (by decide)) dX12_copyRow_24 (fun H locs hP hD hS => ?_)
  rw [cv_upd0] at hP hD
  have hP : va_P (dC, dI) vwCl [(h0, .inl (cyI, 5, .inl (fun _ => 0)))] H := hP
  have hD : va_D A [(h0, .inl (cyI, 5, .inl (fun _ => 0)))] := hD
  refine lv_iinc (v := 1) (lv' := [(4, .int 1), (0, .ref h0), (1, .int 1), (2, .int 0), (3, .int 3)]) hx hb dX12_copyRow_25 hl (k := 0) rfl (by decide) (by decide) rfl (fun ls hl => ?_)
  refine lv_goto (tgt := 3) hx hb dX12_copyRow_28 (by decide) ?_
  refine lv_iload hx hb dX12_copyRow_3 (lv_at hl 0 rfl) ?_
  refine lv_iload_n hx hb dX12_copyRow_5 rfl (lv_at hl 2 rfl) ?_
  refine lv_icmp_ge (tgt := 31) hx hb dX12_copyRow_6 (by decide) (fun _ => ?_) (fun c_2 => absurd c_2 (by decide))
  have hP9 := hP.sub (ws' := [(h0, .inl (cyI, 5, .inl (fun _ => 0)))]) [0] rfl
  have hD9 := hD.sub (ws' := [(h0, .inl (cyI, 5, .inl (fun _ => 0)))]) [0] (by decide) rfl
  exact W.vret hx hb hr (fun t ht hW => ⟨⟨(), rfl, trivial, ⟨by rw [ht]; exact hP9, hD9⟩⟩, hS.F ht⟩) hS.2.2 dX12_copyRow_31

/- X12_copyRow -/
set_option maxHeartbeats 4000000 in
set_option maxRecDepth 100000 in
theorem m_copyRow_has_03 (l : Launch) (dC : Nat → ClassId) (dI : Nat → Nat → Nat) (cyI cyB cyJ cyZ cyH cyN : ClassId) (sz : Nat) (h0 : Nat) (f : Nat → Int32) : Met l yX12_copyRow (wk yX12_copyRow cX12_copyRow 5 none) ({ frames := 1, cells := 0, slots := 0, locals := 60 }) (va_Pc [.ref h0, .int 4, .int 0, .int 3] (fun U => U.heap.size = sz ∧ va_P (dC, dI) vwCl [(h0, .inl (cyI, 20, .inl f))] U.heap ∧ va_K (dC, dI) vwCl [(cyI, .int), (cyB, .byte), (cyJ, .long), (cyZ, .boolean), (cyH, .object RX2), (cyN, .array .long)] U ∧ va_D (fun _ => True) [(h0, .inl (cyI, 20, .inl f))])) (va_Qv (fun _ : Unit => True) (fun (_ : Unit) (t : State) => ∃ g : Nat → Int32, va_P (dC, dI) vwCl [(h0, .inl (cyI, 20, .inl g))] t.heap ∧ va_D (va_A [(h0, .inl (cyI, 20, .inl f))] sz) [(h0, .inl (cyI, 20, .inl g))]) (va_A [(h0, .inl (cyI, 20, .inl f))] sz)) 0 0 (va_A [(h0, .inl (cyI, 20, .inl f))] sz) := by
  refine Met.ofW (cc := cX12_copyRow) (maxL := 5) (ret := none) (by decide) rfl ?_
  intro p e s m args below meth c s₁ B hml hv
  obtain ⟨rfl, hsz, hP, hK, hD0⟩ := hv
  have hx := B.exec
  have hb := B.bytes
  have hr := B.returns
  have hts : ∀ w ∈ uU, w.before ([.ref h0, .int 4, .int 0, .int 3] : List Value).toArray s = true := fun w h => atoms_spec (ws := wk yX12_copyRow cX12_copyRow 5 none) B.pre w (List.mem_cons_of_mem _ h)
  have hown : s.vm.findClass RX12 = some m.cls := findClass_of_methodNamed B.named
  have hlocks := B.notSynchronized
  subst hsz
  have hD := hD0.self (sz := s.heap.size)
  generalize hAe : va_A [(h0, .inl (cyI, 20, .inl f))] s.heap.size = A at hD ⊢
  have hA : ∀ q : Nat, s.heap.size ≤ q → A q := fun q h => by rw [← hAe]; exact Or.inr h
  have hS : va_S A s.heap s.heap [] := va_S.rf
  have hP : va_P (dC, dI) vwCl [(h0, .inl (cyI, 20, .inl f))] s.heap := hP
  have hl := lv_entry ([.ref h0, .int 4, .int 0, .int 3]) (n := 5) (Nat.le_of_ble_eq_true rfl)
  rw [lg_entry_eq]
  generalize (lg_sl ([.ref h0, .int 4, .int 0, .int 3]) ++ List.replicate (5 - (lg_sl ([.ref h0, .int 4, .int 0, .int 3])).length) Slot.unset).toArray = ls at hl ⊢
  have hl : lv_has ls 5 [(0, .ref h0), (1, .int 4), (2, .int 0), (3, .int 3)] := hl
  obtain ⟨H, hHe⟩ : ∃ H, H = s.heap := ⟨_, rfl⟩
  have hP : va_P (dC, dI) vwCl [(h0, .inl (cyI, 20, .inl f))] H := by rw [hHe]; exact hP
  have hS : va_S A s.heap H [] := by rw [hHe]; exact hS
  refine cv_heap hHe ?_
  refine lv_iconst (v := 0) hx hb dX12_copyRow_0 (by decide) ?_
  refine lv_istore (lv' := [(4, .int 0), (0, .ref h0), (1, .int 4), (2, .int 0), (3, .int 3)]) hx hb dX12_copyRow_1 hl (by decide) rfl (fun ls hl => ?_)
  have key : ∀ (Q : State → Prop) (R : Room), (∀ (f_1 : Nat → Int32) (H : Heap) (locs : List Loc) (ls : Array Slot), va_P (dC, dI) vwCl [(h0, .inl (cyI, 20, .inl f_1))] H → va_D A [(h0, .inl (cyI, 20, .inl f_1))] → va_S A s.heap H locs → lv_has ls 5 [(4, .int 4), (0, .ref h0), (1, .int 4), (2, .int 0), (3, .int 3)] → W p l e R s m ([.ref h0, .int 4, .int 0, .int 3] : List Value).toArray below meth c H locs 0 0 Q (F0 m 31 ls [])) → ∀ (n k : Nat) (f_1 : Nat → Int32) (H : Heap) (locs : List Loc) (ls : Array Slot), k + n = 4 → va_P (dC, dI) vwCl [(h0, .inl (cyI, 20, .inl f_1))] H → va_D A [(h0, .inl (cyI, 20, .inl f_1))] → va_S A s.heap H locs → lv_has ls 5 [(4, .int (nI k)), (0, .ref h0), (1, .int 4), (2, .int 0), (3, .int 3)] → W p l e R s m ([.ref h0, .int 4, .int 0, .int 3] : List Value).toArray below meth c H locs 0 0 Q (F0 m 3 ls []) := by
    intro Q R kx n
    induction n with
    | zero =>
      intro k f_1 H locs ls hn hP hD hS hl
      have hkN : k = 4 := by omega
      have hl : lv_has ls 5 [(4, .int 4), (0, .ref h0), (1, .int 4), (2, .int 0), (3, .int 3)] := by rw [hkN] at hl; exact hl
      refine lv_iload hx hb dX12_copyRow_3 (lv_at hl 0 rfl) ?_
      refine lv_iload_n hx hb dX12_copyRow_5 rfl (lv_at hl 2 rfl) ?_
      refine lv_icmp_ge (tgt := 31) hx hb dX12_copyRow_6 (by decide) (fun _ => ?_) (fun c_2 => absurd c_2 (by decide))
      exact kx f_1 _ _ _ hP hD hS (lv_sub hl [0, 1, 2, 3, 4] rfl)
    | succ n ih =>
      intro k f_1 H locs ls hn hP hD hS hl
      have hk9 : (nI k).toInt = (k : Int) := nI_toInt (by omega)
      refine lv_iload hx hb dX12_copyRow_3 (lv_at hl 0 rfl) ?_
      refine lv_iload_n hx hb dX12_copyRow_5 rfl (lv_at hl 2 rfl) ?_
      refine lv_icmp_ge (tgt := 31) hx hb dX12_copyRow_6 (by decide) (fun c_3 => absurd (show 4 ≤ (nI k).toInt from cv_le c_3) (by omega)) (fun _ => ?_)
      refine lv_aload_n hx hb dX12_copyRow_9 rfl (lv_at hl 1 rfl) ?_
      refine lv_iload_n hx hb dX12_copyRow_10 rfl (lv_at hl 2 rfl) ?_
      refine lv_iload_n hx hb dX12_copyRow_11 rfl (lv_at hl 4 rfl) ?_
      refine lv_imul hx hb dX12_copyRow_12 ?_
      refine cv_topi (b := 12) (by decide) ?_
      refine lv_iload hx hb dX12_copyRow_13 (lv_at hl 0 rfl) ?_
      refine lv_iadd hx hb dX12_copyRow_15 ?_
      refine lv_topi (fun x_4 ex_4 => ?_)
      have fx_4 : x_4.toInt = 12 + (nI k).toInt := by rw [ex_4]; exact cv_addI (by have : (12 : Int32).toInt = 12 := rfl; omega) (by have : (12 : Int32).toInt = 12 := rfl; omega)
      refine lv_aload_n hx hb dX12_copyRow_16 rfl (lv_at hl 1 rfl) ?_
      refine lv_iload_n hx hb dX12_copyRow_17 rfl (lv_at hl 2 rfl) ?_
      refine lv_iload_n hx hb dX12_copyRow_18 rfl (lv_at hl 3 rfl) ?_
      refine lv_imul hx hb dX12_copyRow_19 ?_
      refine cv_topi (b := 0) (by decide) ?_
      refine lv_iload hx hb dX12_copyRow_20 (lv_at hl 0 rfl) ?_
      refine lv_iadd hx hb dX12_copyRow_22 ?_
      refine lv_topi (fun x_5 ex_5 => ?_)
      have fx_5 : x_5.toInt = 0 + (nI k).toInt := by rw [ex_5]; exact cv_addI (by have : (0 : Int32).toInt = 0 := rfl; omega) (by have : (0 : Int32).toInt = 0 := rfl; omega)
      refine va_iald hx hb hK hP 0 0 rfl rfl (vp_in_iff.mpr (by omega)) dX12_copyRow_23 ?_
      refine lv_topi (fun x_6 ex_6 => ?_)
      refine va_iast hx hb hK hP hD hS 0 0 rfl rfl (vp_in_iff.mpr (by omega)) dX12_copyRow_24 (fun H locs hP hD hS => ?_)
      obtain ⟨f_7, ef_7⟩ : ∃ z9 : Nat → Int32, z9 = upd f_1 x_4.toNatClampNeg x_6 := ⟨_, rfl⟩
      rw [← ef_7] at hP hD
      have hP : va_P (dC, dI) vwCl [(h0, .inl (cyI, 20, .inl f_7))] H := hP
      have hD : va_D A [(h0, .inl (cyI, 20, .inl f_7))] := hD
      obtain ⟨x_8, ex_8⟩ : ∃ y : Int32, y = (nI k) + 1 := ⟨_, rfl⟩
      refine lv_iinc (v := x_8) (lv' := [(4, .int x_8), (0, .ref h0), (1, .int 4), (2, .int 0), (3, .int 3)]) hx hb dX12_copyRow_25 hl (k := 0) rfl (by rw [ex_8]; rfl) (by decide) rfl (fun ls hl => ?_)
      refine lv_goto (tgt := 3) hx hb dX12_copyRow_28 (by decide) ?_
      have hl : lv_has ls 5 [(4, .int (nI (k + 1))), (0, .ref h0), (1, .int 4), (2, .int 0), (3, .int 3)] := by rw [← nI_1, ← ex_8]; exact hl
      exact ih (k + 1) f_7 _ _ _ (by omega) hP hD hS (lv_sub hl [0, 1, 2, 3, 4] rfl)
  refine key _ _ (fun f_9 H locs ls hP hD hS hl => ?_) 4 0 f _ _ _ (by omega) hP hD hS hl
  have hP9 := hP.sub (ws' := [(h0, .inl (cyI, 20, .inl f_9))]) [0] rfl
  have hD9 := hD.sub (ws' := [(h0, .inl (cyI, 20, .inl f_9))]) [0] (by decide) rfl
  exact W.vret hx hb hr (fun t ht hW => ⟨⟨(), rfl, trivial, ⟨f_9, by rw [ht]; exact hP9, hD9⟩⟩, hS.F ht⟩) hS.2.2 dX12_copyRow_31

/- X12_copyRow -/
set_option maxHeartbeats 4000000 in
set_option maxRecDepth 100000 in
theorem m_copyRow_told_03 (l : Launch) (dC : Nat → ClassId) (dI : Nat → Nat → Nat) (cyI cyB cyJ cyZ cyH cyN : ClassId) (sz : Nat) (h0 : Nat) (f : Nat → Int32) : Met l yX12_copyRow (wk yX12_copyRow cX12_copyRow 5 none) ({ frames := 1, cells := 0, slots := 0, locals := 60 }) (va_Pc [.ref h0, .int 7, .int 0, .int 3] (fun U => U.heap.size = sz ∧ va_P (dC, dI) vwCl [(h0, .inl (cyI, 35, .inl f))] U.heap ∧ va_K (dC, dI) vwCl [(cyI, .int), (cyB, .byte), (cyJ, .long), (cyZ, .boolean), (cyH, .object RX2), (cyN, .array .long)] U ∧ va_D (fun _ => True) [(h0, .inl (cyI, 35, .inl f))])) (va_Qv (fun _ : Unit => True) (fun (_ : Unit) (t : State) => ∃ g : Nat → Int32, va_P (dC, dI) vwCl [(h0, .inl (cyI, 35, .inl g))] t.heap ∧ va_D (va_A [(h0, .inl (cyI, 35, .inl f))] sz) [(h0, .inl (cyI, 35, .inl g))]) (va_A [(h0, .inl (cyI, 35, .inl f))] sz)) 0 0 (va_A [(h0, .inl (cyI, 35, .inl f))] sz) := by
  refine Met.ofW (cc := cX12_copyRow) (maxL := 5) (ret := none) (by decide) rfl ?_
  intro p e s m args below meth c s₁ B hml hv
  obtain ⟨rfl, hsz, hP, hK, hD0⟩ := hv
  have hx := B.exec
  have hb := B.bytes
  have hr := B.returns
  have hts : ∀ w ∈ uU, w.before ([.ref h0, .int 7, .int 0, .int 3] : List Value).toArray s = true := fun w h => atoms_spec (ws := wk yX12_copyRow cX12_copyRow 5 none) B.pre w (List.mem_cons_of_mem _ h)
  have hown : s.vm.findClass RX12 = some m.cls := findClass_of_methodNamed B.named
  have hlocks := B.notSynchronized
  subst hsz
  have hD := hD0.self (sz := s.heap.size)
  generalize hAe : va_A [(h0, .inl (cyI, 35, .inl f))] s.heap.size = A at hD ⊢
  have hA : ∀ q : Nat, s.heap.size ≤ q → A q := fun q h => by rw [← hAe]; exact Or.inr h
  have hS : va_S A s.heap s.heap [] := va_S.rf
  have hP : va_P (dC, dI) vwCl [(h0, .inl (cyI, 35, .inl f))] s.heap := hP
  have hl := lv_entry ([.ref h0, .int 7, .int 0, .int 3]) (n := 5) (Nat.le_of_ble_eq_true rfl)
  rw [lg_entry_eq]
  generalize (lg_sl ([.ref h0, .int 7, .int 0, .int 3]) ++ List.replicate (5 - (lg_sl ([.ref h0, .int 7, .int 0, .int 3])).length) Slot.unset).toArray = ls at hl ⊢
  have hl : lv_has ls 5 [(0, .ref h0), (1, .int 7), (2, .int 0), (3, .int 3)] := hl
  obtain ⟨H, hHe⟩ : ∃ H, H = s.heap := ⟨_, rfl⟩
  have hP : va_P (dC, dI) vwCl [(h0, .inl (cyI, 35, .inl f))] H := by rw [hHe]; exact hP
  have hS : va_S A s.heap H [] := by rw [hHe]; exact hS
  refine cv_heap hHe ?_
  refine lv_iconst (v := 0) hx hb dX12_copyRow_0 (by decide) ?_
  refine lv_istore (lv' := [(4, .int 0), (0, .ref h0), (1, .int 7), (2, .int 0), (3, .int 3)]) hx hb dX12_copyRow_1 hl (by decide) rfl (fun ls hl => ?_)
  have key : ∀ (Q : State → Prop) (R : Room), (∀ (f_1 : Nat → Int32) (H : Heap) (locs : List Loc) (ls : Array Slot), va_P (dC, dI) vwCl [(h0, .inl (cyI, 35, .inl f_1))] H → va_D A [(h0, .inl (cyI, 35, .inl f_1))] → va_S A s.heap H locs → lv_has ls 5 [(4, .int 7), (0, .ref h0), (1, .int 7), (2, .int 0), (3, .int 3)] → W p l e R s m ([.ref h0, .int 7, .int 0, .int 3] : List Value).toArray below meth c H locs 0 0 Q (F0 m 31 ls [])) → ∀ (n k : Nat) (f_1 : Nat → Int32) (H : Heap) (locs : List Loc) (ls : Array Slot), k + n = 7 → va_P (dC, dI) vwCl [(h0, .inl (cyI, 35, .inl f_1))] H → va_D A [(h0, .inl (cyI, 35, .inl f_1))] → va_S A s.heap H locs → lv_has ls 5 [(4, .int (nI k)), (0, .ref h0), (1, .int 7), (2, .int 0), (3, .int 3)] → W p l e R s m ([.ref h0, .int 7, .int 0, .int 3] : List Value).toArray below meth c H locs 0 0 Q (F0 m 3 ls []) := by
    intro Q R kx n
    induction n with
    | zero =>
      intro k f_1 H locs ls hn hP hD hS hl
      have hkN : k = 7 := by omega
      have hl : lv_has ls 5 [(4, .int 7), (0, .ref h0), (1, .int 7), (2, .int 0), (3, .int 3)] := by rw [hkN] at hl; exact hl
      refine lv_iload hx hb dX12_copyRow_3 (lv_at hl 0 rfl) ?_
      refine lv_iload_n hx hb dX12_copyRow_5 rfl (lv_at hl 2 rfl) ?_
      refine lv_icmp_ge (tgt := 31) hx hb dX12_copyRow_6 (by decide) (fun _ => ?_) (fun c_2 => absurd c_2 (by decide))
      exact kx f_1 _ _ _ hP hD hS (lv_sub hl [0, 1, 2, 3, 4] rfl)
    | succ n ih =>
      intro k f_1 H locs ls hn hP hD hS hl
      have hk9 : (nI k).toInt = (k : Int) := nI_toInt (by omega)
      refine lv_iload hx hb dX12_copyRow_3 (lv_at hl 0 rfl) ?_
      refine lv_iload_n hx hb dX12_copyRow_5 rfl (lv_at hl 2 rfl) ?_
      refine lv_icmp_ge (tgt := 31) hx hb dX12_copyRow_6 (by decide) (fun c_3 => absurd (show 7 ≤ (nI k).toInt from cv_le c_3) (by omega)) (fun _ => ?_)
      refine lv_aload_n hx hb dX12_copyRow_9 rfl (lv_at hl 1 rfl) ?_
      refine lv_iload_n hx hb dX12_copyRow_10 rfl (lv_at hl 2 rfl) ?_
      refine lv_iload_n hx hb dX12_copyRow_11 rfl (lv_at hl 4 rfl) ?_
      refine lv_imul hx hb dX12_copyRow_12 ?_
      refine cv_topi (b := 21) (by decide) ?_
      refine lv_iload hx hb dX12_copyRow_13 (lv_at hl 0 rfl) ?_
      refine lv_iadd hx hb dX12_copyRow_15 ?_
      refine lv_topi (fun x_4 ex_4 => ?_)
      have fx_4 : x_4.toInt = 21 + (nI k).toInt := by rw [ex_4]; exact cv_addI (by have : (21 : Int32).toInt = 21 := rfl; omega) (by have : (21 : Int32).toInt = 21 := rfl; omega)
      refine lv_aload_n hx hb dX12_copyRow_16 rfl (lv_at hl 1 rfl) ?_
      refine lv_iload_n hx hb dX12_copyRow_17 rfl (lv_at hl 2 rfl) ?_
      refine lv_iload_n hx hb dX12_copyRow_18 rfl (lv_at hl 3 rfl) ?_
      refine lv_imul hx hb dX12_copyRow_19 ?_
      refine cv_topi (b := 0) (by decide) ?_
      refine lv_iload hx hb dX12_copyRow_20 (lv_at hl 0 rfl) ?_
      refine lv_iadd hx hb dX12_copyRow_22 ?_
      refine lv_topi (fun x_5 ex_5 => ?_)
      have fx_5 : x_5.toInt = 0 + (nI k).toInt := by rw [ex_5]; exact cv_addI (by have : (0 : Int32).toInt = 0 := rfl; omega) (by have : (0 : Int32).toInt = 0 := rfl; omega)
      refine va_iald hx hb hK hP 0 0 rfl rfl (vp_in_iff.mpr (by omega)) dX12_copyRow_23 ?_
      refine lv_topi (fun x_6 ex_6 => ?_)
      refine va_iast hx hb hK hP hD hS 0 0 rfl rfl (vp_in_iff.mpr (by omega)) dX12_copyRow_24 (fun H locs hP hD hS => ?_)
      obtain ⟨f_7, ef_7⟩ : ∃ z9 : Nat → Int32, z9 = upd f_1 x_4.toNatClampNeg x_6 := ⟨_, rfl⟩
      rw [← ef_7] at hP hD
      have hP : va_P (dC, dI) vwCl [(h0, .inl (cyI, 35, .inl f_7))] H := hP
      have hD : va_D A [(h0, .inl (cyI, 35, .inl f_7))] := hD
      obtain ⟨x_8, ex_8⟩ : ∃ y : Int32, y = (nI k) + 1 := ⟨_, rfl⟩
      refine lv_iinc (v := x_8) (lv' := [(4, .int x_8), (0, .ref h0), (1, .int 7), (2, .int 0), (3, .int 3)]) hx hb dX12_copyRow_25 hl (k := 0) rfl (by rw [ex_8]; rfl) (by decide) rfl (fun ls hl => ?_)
      refine lv_goto (tgt := 3) hx hb dX12_copyRow_28 (by decide) ?_
      have hl : lv_has ls 5 [(4, .int (nI (k + 1))), (0, .ref h0), (1, .int 7), (2, .int 0), (3, .int 3)] := by rw [← nI_1, ← ex_8]; exact hl
      exact ih (k + 1) f_7 _ _ _ (by omega) hP hD hS (lv_sub hl [0, 1, 2, 3, 4] rfl)
  refine key _ _ (fun f_9 H locs ls hP hD hS hl => ?_) 7 0 f _ _ _ (by omega) hP hD hS hl
  have hP9 := hP.sub (ws' := [(h0, .inl (cyI, 35, .inl f_9))]) [0] rfl
  have hD9 := hD.sub (ws' := [(h0, .inl (cyI, 35, .inl f_9))]) [0] (by decide) rfl
  exact W.vret hx hb hr (fun t ht hW => ⟨⟨(), rfl, trivial, ⟨f_9, by rw [ht]; exact hP9, hD9⟩⟩, hS.F ht⟩) hS.2.2 dX12_copyRow_31

/- X12_copyRow -/
set_option maxHeartbeats 4000000 in
set_option maxRecDepth 100000 in
theorem m_copyRow_law_03 (l : Launch) (dC : Nat → ClassId) (dI : Nat → Nat → Nat) (cyI cyB cyJ cyZ cyH cyN : ClassId) (sz : Nat) (h0 : Nat) (f : Nat → Int32) : Met l yX12_copyRow (wk yX12_copyRow cX12_copyRow 5 none) ({ frames := 1, cells := 0, slots := 0, locals := 60 }) (va_Pc [.ref h0, .int 24, .int 0, .int 3] (fun U => U.heap.size = sz ∧ va_P (dC, dI) vwCl [(h0, .inl (cyI, 120, .inl f))] U.heap ∧ va_K (dC, dI) vwCl [(cyI, .int), (cyB, .byte), (cyJ, .long), (cyZ, .boolean), (cyH, .object RX2), (cyN, .array .long)] U ∧ va_D (fun _ => True) [(h0, .inl (cyI, 120, .inl f))])) (va_Qv (fun _ : Unit => True) (fun (_ : Unit) (t : State) => ∃ g : Nat → Int32, va_P (dC, dI) vwCl [(h0, .inl (cyI, 120, .inl g))] t.heap ∧ va_D (va_A [(h0, .inl (cyI, 120, .inl f))] sz) [(h0, .inl (cyI, 120, .inl g))]) (va_A [(h0, .inl (cyI, 120, .inl f))] sz)) 0 0 (va_A [(h0, .inl (cyI, 120, .inl f))] sz) := by
  refine Met.ofW (cc := cX12_copyRow) (maxL := 5) (ret := none) (by decide) rfl ?_
  intro p e s m args below meth c s₁ B hml hv
  obtain ⟨rfl, hsz, hP, hK, hD0⟩ := hv
  have hx := B.exec
  have hb := B.bytes
  have hr := B.returns
  have hts : ∀ w ∈ uU, w.before ([.ref h0, .int 24, .int 0, .int 3] : List Value).toArray s = true := fun w h => atoms_spec (ws := wk yX12_copyRow cX12_copyRow 5 none) B.pre w (List.mem_cons_of_mem _ h)
  have hown : s.vm.findClass RX12 = some m.cls := findClass_of_methodNamed B.named
  have hlocks := B.notSynchronized
  subst hsz
  have hD := hD0.self (sz := s.heap.size)
  generalize hAe : va_A [(h0, .inl (cyI, 120, .inl f))] s.heap.size = A at hD ⊢
  have hA : ∀ q : Nat, s.heap.size ≤ q → A q := fun q h => by rw [← hAe]; exact Or.inr h
  have hS : va_S A s.heap s.heap [] := va_S.rf
  have hP : va_P (dC, dI) vwCl [(h0, .inl (cyI, 120, .inl f))] s.heap := hP
  have hl := lv_entry ([.ref h0, .int 24, .int 0, .int 3]) (n := 5) (Nat.le_of_ble_eq_true rfl)
  rw [lg_entry_eq]
  generalize (lg_sl ([.ref h0, .int 24, .int 0, .int 3]) ++ List.replicate (5 - (lg_sl ([.ref h0, .int 24, .int 0, .int 3])).length) Slot.unset).toArray = ls at hl ⊢
  have hl : lv_has ls 5 [(0, .ref h0), (1, .int 24), (2, .int 0), (3, .int 3)] := hl
  obtain ⟨H, hHe⟩ : ∃ H, H = s.heap := ⟨_, rfl⟩
  have hP : va_P (dC, dI) vwCl [(h0, .inl (cyI, 120, .inl f))] H := by rw [hHe]; exact hP
  have hS : va_S A s.heap H [] := by rw [hHe]; exact hS
  refine cv_heap hHe ?_
  refine lv_iconst (v := 0) hx hb dX12_copyRow_0 (by decide) ?_
  refine lv_istore (lv' := [(4, .int 0), (0, .ref h0), (1, .int 24), (2, .int 0), (3, .int 3)]) hx hb dX12_copyRow_1 hl (by decide) rfl (fun ls hl => ?_)
  have key : ∀ (Q : State → Prop) (R : Room), (∀ (f_1 : Nat → Int32) (H : Heap) (locs : List Loc) (ls : Array Slot), va_P (dC, dI) vwCl [(h0, .inl (cyI, 120, .inl f_1))] H → va_D A [(h0, .inl (cyI, 120, .inl f_1))] → va_S A s.heap H locs → lv_has ls 5 [(4, .int 24), (0, .ref h0), (1, .int 24), (2, .int 0), (3, .int 3)] → W p l e R s m ([.ref h0, .int 24, .int 0, .int 3] : List Value).toArray below meth c H locs 0 0 Q (F0 m 31 ls [])) → ∀ (n k : Nat) (f_1 : Nat → Int32) (H : Heap) (locs : List Loc) (ls : Array Slot), k + n = 24 → va_P (dC, dI) vwCl [(h0, .inl (cyI, 120, .inl f_1))] H → va_D A [(h0, .inl (cyI, 120, .inl f_1))] → va_S A s.heap H locs → lv_has ls 5 [(4, .int (nI k)), (0, .ref h0), (1, .int 24), (2, .int 0), (3, .int 3)] → W p l e R s m ([.ref h0, .int 24, .int 0, .int 3] : List Value).toArray below meth c H locs 0 0 Q (F0 m 3 ls []) := by
    intro Q R kx n
    induction n with
    | zero =>
      intro k f_1 H locs ls hn hP hD hS hl
      have hkN : k = 24 := by omega
      have hl : lv_has ls 5 [(4, .int 24), (0, .ref h0), (1, .int 24), (2, .int 0), (3, .int 3)] := by rw [hkN] at hl; exact hl
      refine lv_iload hx hb dX12_copyRow_3 (lv_at hl 0 rfl) ?_
      refine lv_iload_n hx hb dX12_copyRow_5 rfl (lv_at hl 2 rfl) ?_
      refine lv_icmp_ge (tgt := 31) hx hb dX12_copyRow_6 (by decide) (fun _ => ?_) (fun c_2 => absurd c_2 (by decide))
      exact kx f_1 _ _ _ hP hD hS (lv_sub hl [0, 1, 2, 3, 4] rfl)
    | succ n ih =>
      intro k f_1 H locs ls hn hP hD hS hl
      have hk9 : (nI k).toInt = (k : Int) := nI_toInt (by omega)
      refine lv_iload hx hb dX12_copyRow_3 (lv_at hl 0 rfl) ?_
      refine lv_iload_n hx hb dX12_copyRow_5 rfl (lv_at hl 2 rfl) ?_
      refine lv_icmp_ge (tgt := 31) hx hb dX12_copyRow_6 (by decide) (fun c_3 => absurd (show 24 ≤ (nI k).toInt from cv_le c_3) (by omega)) (fun _ => ?_)
      refine lv_aload_n hx hb dX12_copyRow_9 rfl (lv_at hl 1 rfl) ?_
      refine lv_iload_n hx hb dX12_copyRow_10 rfl (lv_at hl 2 rfl) ?_
      refine lv_iload_n hx hb dX12_copyRow_11 rfl (lv_at hl 4 rfl) ?_
      refine lv_imul hx hb dX12_copyRow_12 ?_
      refine cv_topi (b := 72) (by decide) ?_
      refine lv_iload hx hb dX12_copyRow_13 (lv_at hl 0 rfl) ?_
      refine lv_iadd hx hb dX12_copyRow_15 ?_
      refine lv_topi (fun x_4 ex_4 => ?_)
      have fx_4 : x_4.toInt = 72 + (nI k).toInt := by rw [ex_4]; exact cv_addI (by have : (72 : Int32).toInt = 72 := rfl; omega) (by have : (72 : Int32).toInt = 72 := rfl; omega)
      refine lv_aload_n hx hb dX12_copyRow_16 rfl (lv_at hl 1 rfl) ?_
      refine lv_iload_n hx hb dX12_copyRow_17 rfl (lv_at hl 2 rfl) ?_
      refine lv_iload_n hx hb dX12_copyRow_18 rfl (lv_at hl 3 rfl) ?_
      refine lv_imul hx hb dX12_copyRow_19 ?_
      refine cv_topi (b := 0) (by decide) ?_
      refine lv_iload hx hb dX12_copyRow_20 (lv_at hl 0 rfl) ?_
      refine lv_iadd hx hb dX12_copyRow_22 ?_
      refine lv_topi (fun x_5 ex_5 => ?_)
      have fx_5 : x_5.toInt = 0 + (nI k).toInt := by rw [ex_5]; exact cv_addI (by have : (0 : Int32).toInt = 0 := rfl; omega) (by have : (0 : Int32).toInt = 0 := rfl; omega)
      refine va_iald hx hb hK hP 0 0 rfl rfl (vp_in_iff.mpr (by omega)) dX12_copyRow_23 ?_
      refine lv_topi (fun x_6 ex_6 => ?_)
      refine va_iast hx hb hK hP hD hS 0 0 rfl rfl (vp_in_iff.mpr (by omega)) dX12_copyRow_24 (fun H locs hP hD hS => ?_)
      obtain ⟨f_7, ef_7⟩ : ∃ z9 : Nat → Int32, z9 = upd f_1 x_4.toNatClampNeg x_6 := ⟨_, rfl⟩
      rw [← ef_7] at hP hD
      have hP : va_P (dC, dI) vwCl [(h0, .inl (cyI, 120, .inl f_7))] H := hP
      have hD : va_D A [(h0, .inl (cyI, 120, .inl f_7))] := hD
      obtain ⟨x_8, ex_8⟩ : ∃ y : Int32, y = (nI k) + 1 := ⟨_, rfl⟩
      refine lv_iinc (v := x_8) (lv' := [(4, .int x_8), (0, .ref h0), (1, .int 24), (2, .int 0), (3, .int 3)]) hx hb dX12_copyRow_25 hl (k := 0) rfl (by rw [ex_8]; rfl) (by decide) rfl (fun ls hl => ?_)
      refine lv_goto (tgt := 3) hx hb dX12_copyRow_28 (by decide) ?_
      have hl : lv_has ls 5 [(4, .int (nI (k + 1))), (0, .ref h0), (1, .int 24), (2, .int 0), (3, .int 3)] := by rw [← nI_1, ← ex_8]; exact hl
      exact ih (k + 1) f_7 _ _ _ (by omega) hP hD hS (lv_sub hl [0, 1, 2, 3, 4] rfl)
  refine key _ _ (fun f_9 H locs ls hP hD hS hl => ?_) 24 0 f _ _ _ (by omega) hP hD hS hl
  have hP9 := hP.sub (ws' := [(h0, .inl (cyI, 120, .inl f_9))]) [0] rfl
  have hD9 := hD.sub (ws' := [(h0, .inl (cyI, 120, .inl f_9))]) [0] (by decide) rfl
  exact W.vret hx hb hr (fun t ht hW => ⟨⟨(), rfl, trivial, ⟨f_9, by rw [ht]; exact hP9, hD9⟩⟩, hS.F ht⟩) hS.2.2 dX12_copyRow_31

/- X12_copyRow -/
set_option maxHeartbeats 4000000 in
set_option maxRecDepth 100000 in
theorem m_copyRow_suit_03 (l : Launch) (dC : Nat → ClassId) (dI : Nat → Nat → Nat) (cyI cyB cyJ cyZ cyH cyN : ClassId) (sz : Nat) (h0 : Nat) (f : Nat → Int32) : Met l yX12_copyRow (wk yX12_copyRow cX12_copyRow 5 none) ({ frames := 1, cells := 0, slots := 0, locals := 60 }) (va_Pc [.ref h0, .int 49, .int 0, .int 3] (fun U => U.heap.size = sz ∧ va_P (dC, dI) vwCl [(h0, .inl (cyI, 245, .inl f))] U.heap ∧ va_K (dC, dI) vwCl [(cyI, .int), (cyB, .byte), (cyJ, .long), (cyZ, .boolean), (cyH, .object RX2), (cyN, .array .long)] U ∧ va_D (fun _ => True) [(h0, .inl (cyI, 245, .inl f))])) (va_Qv (fun _ : Unit => True) (fun (_ : Unit) (t : State) => ∃ g : Nat → Int32, va_P (dC, dI) vwCl [(h0, .inl (cyI, 245, .inl g))] t.heap ∧ va_D (va_A [(h0, .inl (cyI, 245, .inl f))] sz) [(h0, .inl (cyI, 245, .inl g))]) (va_A [(h0, .inl (cyI, 245, .inl f))] sz)) 0 0 (va_A [(h0, .inl (cyI, 245, .inl f))] sz) := by
  refine Met.ofW (cc := cX12_copyRow) (maxL := 5) (ret := none) (by decide) rfl ?_
  intro p e s m args below meth c s₁ B hml hv
  obtain ⟨rfl, hsz, hP, hK, hD0⟩ := hv
  have hx := B.exec
  have hb := B.bytes
  have hr := B.returns
  have hts : ∀ w ∈ uU, w.before ([.ref h0, .int 49, .int 0, .int 3] : List Value).toArray s = true := fun w h => atoms_spec (ws := wk yX12_copyRow cX12_copyRow 5 none) B.pre w (List.mem_cons_of_mem _ h)
  have hown : s.vm.findClass RX12 = some m.cls := findClass_of_methodNamed B.named
  have hlocks := B.notSynchronized
  subst hsz
  have hD := hD0.self (sz := s.heap.size)
  generalize hAe : va_A [(h0, .inl (cyI, 245, .inl f))] s.heap.size = A at hD ⊢
  have hA : ∀ q : Nat, s.heap.size ≤ q → A q := fun q h => by rw [← hAe]; exact Or.inr h
  have hS : va_S A s.heap s.heap [] := va_S.rf
  have hP : va_P (dC, dI) vwCl [(h0, .inl (cyI, 245, .inl f))] s.heap := hP
  have hl := lv_entry ([.ref h0, .int 49, .int 0, .int 3]) (n := 5) (Nat.le_of_ble_eq_true rfl)
  rw [lg_entry_eq]
  generalize (lg_sl ([.ref h0, .int 49, .int 0, .int 3]) ++ List.replicate (5 - (lg_sl ([.ref h0, .int 49, .int 0, .int 3])).length) Slot.unset).toArray = ls at hl ⊢
  have hl : lv_has ls 5 [(0, .ref h0), (1, .int 49), (2, .int 0), (3, .int 3)] := hl
  obtain ⟨H, hHe⟩ : ∃ H, H = s.heap := ⟨_, rfl⟩
  have hP : va_P (dC, dI) vwCl [(h0, .inl (cyI, 245, .inl f))] H := by rw [hHe]; exact hP
  have hS : va_S A s.heap H [] := by rw [hHe]; exact hS
  refine cv_heap hHe ?_
  refine lv_iconst (v := 0) hx hb dX12_copyRow_0 (by decide) ?_
  refine lv_istore (lv' := [(4, .int 0), (0, .ref h0), (1, .int 49), (2, .int 0), (3, .int 3)]) hx hb dX12_copyRow_1 hl (by decide) rfl (fun ls hl => ?_)
  have key : ∀ (Q : State → Prop) (R : Room), (∀ (f_1 : Nat → Int32) (H : Heap) (locs : List Loc) (ls : Array Slot), va_P (dC, dI) vwCl [(h0, .inl (cyI, 245, .inl f_1))] H → va_D A [(h0, .inl (cyI, 245, .inl f_1))] → va_S A s.heap H locs → lv_has ls 5 [(4, .int 49), (0, .ref h0), (1, .int 49), (2, .int 0), (3, .int 3)] → W p l e R s m ([.ref h0, .int 49, .int 0, .int 3] : List Value).toArray below meth c H locs 0 0 Q (F0 m 31 ls [])) → ∀ (n k : Nat) (f_1 : Nat → Int32) (H : Heap) (locs : List Loc) (ls : Array Slot), k + n = 49 → va_P (dC, dI) vwCl [(h0, .inl (cyI, 245, .inl f_1))] H → va_D A [(h0, .inl (cyI, 245, .inl f_1))] → va_S A s.heap H locs → lv_has ls 5 [(4, .int (nI k)), (0, .ref h0), (1, .int 49), (2, .int 0), (3, .int 3)] → W p l e R s m ([.ref h0, .int 49, .int 0, .int 3] : List Value).toArray below meth c H locs 0 0 Q (F0 m 3 ls []) := by
    intro Q R kx n
    induction n with
    | zero =>
      intro k f_1 H locs ls hn hP hD hS hl
      have hkN : k = 49 := by omega
      have hl : lv_has ls 5 [(4, .int 49), (0, .ref h0), (1, .int 49), (2, .int 0), (3, .int 3)] := by rw [hkN] at hl; exact hl
      refine lv_iload hx hb dX12_copyRow_3 (lv_at hl 0 rfl) ?_
      refine lv_iload_n hx hb dX12_copyRow_5 rfl (lv_at hl 2 rfl) ?_
      refine lv_icmp_ge (tgt := 31) hx hb dX12_copyRow_6 (by decide) (fun _ => ?_) (fun c_2 => absurd c_2 (by decide))
      exact kx f_1 _ _ _ hP hD hS (lv_sub hl [0, 1, 2, 3, 4] rfl)
    | succ n ih =>
      intro k f_1 H locs ls hn hP hD hS hl
      have hk9 : (nI k).toInt = (k : Int) := nI_toInt (by omega)
      refine lv_iload hx hb dX12_copyRow_3 (lv_at hl 0 rfl) ?_
      refine lv_iload_n hx hb dX12_copyRow_5 rfl (lv_at hl 2 rfl) ?_
      refine lv_icmp_ge (tgt := 31) hx hb dX12_copyRow_6 (by decide) (fun c_3 => absurd (show 49 ≤ (nI k).toInt from cv_le c_3) (by omega)) (fun _ => ?_)
      refine lv_aload_n hx hb dX12_copyRow_9 rfl (lv_at hl 1 rfl) ?_
      refine lv_iload_n hx hb dX12_copyRow_10 rfl (lv_at hl 2 rfl) ?_
      refine lv_iload_n hx hb dX12_copyRow_11 rfl (lv_at hl 4 rfl) ?_
      refine lv_imul hx hb dX12_copyRow_12 ?_
      refine cv_topi (b := 147) (by decide) ?_
      refine lv_iload hx hb dX12_copyRow_13 (lv_at hl 0 rfl) ?_
      refine lv_iadd hx hb dX12_copyRow_15 ?_
      refine lv_topi (fun x_4 ex_4 => ?_)
      have fx_4 : x_4.toInt = 147 + (nI k).toInt := by rw [ex_4]; exact cv_addI (by have : (147 : Int32).toInt = 147 := rfl; omega) (by have : (147 : Int32).toInt = 147 := rfl; omega)
      refine lv_aload_n hx hb dX12_copyRow_16 rfl (lv_at hl 1 rfl) ?_
      refine lv_iload_n hx hb dX12_copyRow_17 rfl (lv_at hl 2 rfl) ?_
      refine lv_iload_n hx hb dX12_copyRow_18 rfl (lv_at hl 3 rfl) ?_
      refine lv_imul hx hb dX12_copyRow_19 ?_
      refine cv_topi (b := 0) (by decide) ?_
      refine lv_iload hx hb dX12_copyRow_20 (lv_at hl 0 rfl) ?_
      refine lv_iadd hx hb dX12_copyRow_22 ?_
      refine lv_topi (fun x_5 ex_5 => ?_)
      have fx_5 : x_5.toInt = 0 + (nI k).toInt := by rw [ex_5]; exact cv_addI (by have : (0 : Int32).toInt = 0 := rfl; omega) (by have : (0 : Int32).toInt = 0 := rfl; omega)
      refine va_iald hx hb hK hP 0 0 rfl rfl (vp_in_iff.mpr (by omega)) dX12_copyRow_23 ?_
      refine lv_topi (fun x_6 ex_6 => ?_)
      refine va_iast hx hb hK hP hD hS 0 0 rfl rfl (vp_in_iff.mpr (by omega)) dX12_copyRow_24 (fun H locs hP hD hS => ?_)
      obtain ⟨f_7, ef_7⟩ : ∃ z9 : Nat → Int32, z9 = upd f_1 x_4.toNatClampNeg x_6 := ⟨_, rfl⟩
      rw [← ef_7] at hP hD
      have hP : va_P (dC, dI) vwCl [(h0, .inl (cyI, 245, .inl f_7))] H := hP
      have hD : va_D A [(h0, .inl (cyI, 245, .inl f_7))] := hD
      obtain ⟨x_8, ex_8⟩ : ∃ y : Int32, y = (nI k) + 1 := ⟨_, rfl⟩
      refine lv_iinc (v := x_8) (lv' := [(4, .int x_8), (0, .ref h0), (1, .int 49), (2, .int 0), (3, .int 3)]) hx hb dX12_copyRow_25 hl (k := 0) rfl (by rw [ex_8]; rfl) (by decide) rfl (fun ls hl => ?_)
      refine lv_goto (tgt := 3) hx hb dX12_copyRow_28 (by decide) ?_
      have hl : lv_has ls 5 [(4, .int (nI (k + 1))), (0, .ref h0), (1, .int 49), (2, .int 0), (3, .int 3)] := by rw [← nI_1, ← ex_8]; exact hl
      exact ih (k + 1) f_7 _ _ _ (by omega) hP hD hS (lv_sub hl [0, 1, 2, 3, 4] rfl)
  refine key _ _ (fun f_9 H locs ls hP hD hS hl => ?_) 49 0 f _ _ _ (by omega) hP hD hS hl
  have hP9 := hP.sub (ws' := [(h0, .inl (cyI, 245, .inl f_9))]) [0] rfl
  have hD9 := hD.sub (ws' := [(h0, .inl (cyI, 245, .inl f_9))]) [0] (by decide) rfl
  exact W.vret hx hb hr (fun t ht hW => ⟨⟨(), rfl, trivial, ⟨f_9, by rw [ht]; exact hP9, hD9⟩⟩, hS.F ht⟩) hS.2.2 dX12_copyRow_31

/- X12_copyRow -/
set_option maxHeartbeats 4000000 in
set_option maxRecDepth 100000 in
theorem m_copyRow_act_03 (l : Launch) (dC : Nat → ClassId) (dI : Nat → Nat → Nat) (cyI cyB cyJ cyZ cyH cyN : ClassId) (sz : Nat) (h0 : Nat) (f : Nat → Int32) : Met l yX12_copyRow (wk yX12_copyRow cX12_copyRow 5 none) ({ frames := 1, cells := 0, slots := 0, locals := 60 }) (va_Pc [.ref h0, .int 80, .int 0, .int 3] (fun U => U.heap.size = sz ∧ va_P (dC, dI) vwCl [(h0, .inl (cyI, 400, .inl f))] U.heap ∧ va_K (dC, dI) vwCl [(cyI, .int), (cyB, .byte), (cyJ, .long), (cyZ, .boolean), (cyH, .object RX2), (cyN, .array .long)] U ∧ va_D (fun _ => True) [(h0, .inl (cyI, 400, .inl f))])) (va_Qv (fun _ : Unit => True) (fun (_ : Unit) (t : State) => ∃ g : Nat → Int32, va_P (dC, dI) vwCl [(h0, .inl (cyI, 400, .inl g))] t.heap ∧ va_D (va_A [(h0, .inl (cyI, 400, .inl f))] sz) [(h0, .inl (cyI, 400, .inl g))]) (va_A [(h0, .inl (cyI, 400, .inl f))] sz)) 0 0 (va_A [(h0, .inl (cyI, 400, .inl f))] sz) := by
  refine Met.ofW (cc := cX12_copyRow) (maxL := 5) (ret := none) (by decide) rfl ?_
  intro p e s m args below meth c s₁ B hml hv
  obtain ⟨rfl, hsz, hP, hK, hD0⟩ := hv
  have hx := B.exec
  have hb := B.bytes
  have hr := B.returns
  have hts : ∀ w ∈ uU, w.before ([.ref h0, .int 80, .int 0, .int 3] : List Value).toArray s = true := fun w h => atoms_spec (ws := wk yX12_copyRow cX12_copyRow 5 none) B.pre w (List.mem_cons_of_mem _ h)
  have hown : s.vm.findClass RX12 = some m.cls := findClass_of_methodNamed B.named
  have hlocks := B.notSynchronized
  subst hsz
  have hD := hD0.self (sz := s.heap.size)
  generalize hAe : va_A [(h0, .inl (cyI, 400, .inl f))] s.heap.size = A at hD ⊢
  have hA : ∀ q : Nat, s.heap.size ≤ q → A q := fun q h => by rw [← hAe]; exact Or.inr h
  have hS : va_S A s.heap s.heap [] := va_S.rf
  have hP : va_P (dC, dI) vwCl [(h0, .inl (cyI, 400, .inl f))] s.heap := hP
  have hl := lv_entry ([.ref h0, .int 80, .int 0, .int 3]) (n := 5) (Nat.le_of_ble_eq_true rfl)
  rw [lg_entry_eq]
  generalize (lg_sl ([.ref h0, .int 80, .int 0, .int 3]) ++ List.replicate (5 - (lg_sl ([.ref h0, .int 80, .int 0, .int 3])).length) Slot.unset).toArray = ls at hl ⊢
  have hl : lv_has ls 5 [(0, .ref h0), (1, .int 80), (2, .int 0), (3, .int 3)] := hl
  obtain ⟨H, hHe⟩ : ∃ H, H = s.heap := ⟨_, rfl⟩
  have hP : va_P (dC, dI) vwCl [(h0, .inl (cyI, 400, .inl f))] H := by rw [hHe]; exact hP
  have hS : va_S A s.heap H [] := by rw [hHe]; exact hS
  refine cv_heap hHe ?_
  refine lv_iconst (v := 0) hx hb dX12_copyRow_0 (by decide) ?_
  refine lv_istore (lv' := [(4, .int 0), (0, .ref h0), (1, .int 80), (2, .int 0), (3, .int 3)]) hx hb dX12_copyRow_1 hl (by decide) rfl (fun ls hl => ?_)
  have key : ∀ (Q : State → Prop) (R : Room), (∀ (f_1 : Nat → Int32) (H : Heap) (locs : List Loc) (ls : Array Slot), va_P (dC, dI) vwCl [(h0, .inl (cyI, 400, .inl f_1))] H → va_D A [(h0, .inl (cyI, 400, .inl f_1))] → va_S A s.heap H locs → lv_has ls 5 [(4, .int 80), (0, .ref h0), (1, .int 80), (2, .int 0), (3, .int 3)] → W p l e R s m ([.ref h0, .int 80, .int 0, .int 3] : List Value).toArray below meth c H locs 0 0 Q (F0 m 31 ls [])) → ∀ (n k : Nat) (f_1 : Nat → Int32) (H : Heap) (locs : List Loc) (ls : Array Slot), k + n = 80 → va_P (dC, dI) vwCl [(h0, .inl (cyI, 400, .inl f_1))] H → va_D A [(h0, .inl (cyI, 400, .inl f_1))] → va_S A s.heap H locs → lv_has ls 5 [(4, .int (nI k)), (0, .ref h0), (1, .int 80), (2, .int 0), (3, .int 3)] → W p l e R s m ([.ref h0, .int 80, .int 0, .int 3] : List Value).toArray below meth c H locs 0 0 Q (F0 m 3 ls []) := by
    intro Q R kx n
    induction n with
    | zero =>
      intro k f_1 H locs ls hn hP hD hS hl
      have hkN : k = 80 := by omega
      have hl : lv_has ls 5 [(4, .int 80), (0, .ref h0), (1, .int 80), (2, .int 0), (3, .int 3)] := by rw [hkN] at hl; exact hl
      refine lv_iload hx hb dX12_copyRow_3 (lv_at hl 0 rfl) ?_
      refine lv_iload_n hx hb dX12_copyRow_5 rfl (lv_at hl 2 rfl) ?_
      refine lv_icmp_ge (tgt := 31) hx hb dX12_copyRow_6 (by decide) (fun _ => ?_) (fun c_2 => absurd c_2 (by decide))
      exact kx f_1 _ _ _ hP hD hS (lv_sub hl [0, 1, 2, 3, 4] rfl)
    | succ n ih =>
      intro k f_1 H locs ls hn hP hD hS hl
      have hk9 : (nI k).toInt = (k : Int) := nI_toInt (by omega)
      refine lv_iload hx hb dX12_copyRow_3 (lv_at hl 0 rfl) ?_
      refine lv_iload_n hx hb dX12_copyRow_5 rfl (lv_at hl 2 rfl) ?_
      refine lv_icmp_ge (tgt := 31) hx hb dX12_copyRow_6 (by decide) (fun c_3 => absurd (show 80 ≤ (nI k).toInt from cv_le c_3) (by omega)) (fun _ => ?_)
      refine lv_aload_n hx hb dX12_copyRow_9 rfl (lv_at hl 1 rfl) ?_
      refine lv_iload_n hx hb dX12_copyRow_10 rfl (lv_at hl 2 rfl) ?_
      refine lv_iload_n hx hb dX12_copyRow_11 rfl (lv_at hl 4 rfl) ?_
      refine lv_imul hx hb dX12_copyRow_12 ?_
      refine cv_topi (b := 240) (by decide) ?_
      refine lv_iload hx hb dX12_copyRow_13 (lv_at hl 0 rfl) ?_
      refine lv_iadd hx hb dX12_copyRow_15 ?_
      refine lv_topi (fun x_4 ex_4 => ?_)
      have fx_4 : x_4.toInt = 240 + (nI k).toInt := by rw [ex_4]; exact cv_addI (by have : (240 : Int32).toInt = 240 := rfl; omega) (by have : (240 : Int32).toInt = 240 := rfl; omega)
      refine lv_aload_n hx hb dX12_copyRow_16 rfl (lv_at hl 1 rfl) ?_
      refine lv_iload_n hx hb dX12_copyRow_17 rfl (lv_at hl 2 rfl) ?_
      refine lv_iload_n hx hb dX12_copyRow_18 rfl (lv_at hl 3 rfl) ?_
      refine lv_imul hx hb dX12_copyRow_19 ?_
      refine cv_topi (b := 0) (by decide) ?_
      refine lv_iload hx hb dX12_copyRow_20 (lv_at hl 0 rfl) ?_
      refine lv_iadd hx hb dX12_copyRow_22 ?_
      refine lv_topi (fun x_5 ex_5 => ?_)
      have fx_5 : x_5.toInt = 0 + (nI k).toInt := by rw [ex_5]; exact cv_addI (by have : (0 : Int32).toInt = 0 := rfl; omega) (by have : (0 : Int32).toInt = 0 := rfl; omega)
      refine va_iald hx hb hK hP 0 0 rfl rfl (vp_in_iff.mpr (by omega)) dX12_copyRow_23 ?_
      refine lv_topi (fun x_6 ex_6 => ?_)
      refine va_iast hx hb hK hP hD hS 0 0 rfl rfl (vp_in_iff.mpr (by omega)) dX12_copyRow_24 (fun H locs hP hD hS => ?_)
      obtain ⟨f_7, ef_7⟩ : ∃ z9 : Nat → Int32, z9 = upd f_1 x_4.toNatClampNeg x_6 := ⟨_, rfl⟩
      rw [← ef_7] at hP hD
      have hP : va_P (dC, dI) vwCl [(h0, .inl (cyI, 400, .inl f_7))] H := hP
      have hD : va_D A [(h0, .inl (cyI, 400, .inl f_7))] := hD
      obtain ⟨x_8, ex_8⟩ : ∃ y : Int32, y = (nI k) + 1 := ⟨_, rfl⟩
      refine lv_iinc (v := x_8) (lv' := [(4, .int x_8), (0, .ref h0), (1, .int 80), (2, .int 0), (3, .int 3)]) hx hb dX12_copyRow_25 hl (k := 0) rfl (by rw [ex_8]; rfl) (by decide) rfl (fun ls hl => ?_)
      refine lv_goto (tgt := 3) hx hb dX12_copyRow_28 (by decide) ?_
      have hl : lv_has ls 5 [(4, .int (nI (k + 1))), (0, .ref h0), (1, .int 80), (2, .int 0), (3, .int 3)] := by rw [← nI_1, ← ex_8]; exact hl
      exact ih (k + 1) f_7 _ _ _ (by omega) hP hD hS (lv_sub hl [0, 1, 2, 3, 4] rfl)
  refine key _ _ (fun f_9 H locs ls hP hD hS hl => ?_) 80 0 f _ _ _ (by omega) hP hD hS hl
  have hP9 := hP.sub (ws' := [(h0, .inl (cyI, 400, .inl f_9))]) [0] rfl
  have hD9 := hD.sub (ws' := [(h0, .inl (cyI, 400, .inl f_9))]) [0] (by decide) rfl
  exact W.vret hx hb hr (fun t ht hW => ⟨⟨(), rfl, trivial, ⟨f_9, by rw [ht]; exact hP9, hD9⟩⟩, hS.F ht⟩) hS.2.2 dX12_copyRow_31

/- X12_copyHall -/
set_option maxHeartbeats 4000000 in
set_option maxRecDepth 100000 in
theorem m_copyHall_03 (l : Launch) (dC : Nat → ClassId) (dI : Nat → Nat → Nat) (cyI cyB cyJ cyZ cyH cyN : ClassId) (sz : Nat) (m0 mwidth mmany mcells mmoved mtape mlines mhas mtold mlaw msuit mapart mact misKept mseen mhung mgoal mleaps mqueue mrow mwanted mfirst moften mlots mthen : Nat) (bp : Int32) (f0 f1 f2 f3 f4 f5 : Nat → Int32) : Met l yX12_copyHall (wk yX12_copyHall cX12_copyHall 3 none) ({ frames := 2, cells := 0, slots := 0, locals := 84 }) (va_Pc [.ref m0, .int 0, .int 3] (fun U => U.heap.size = sz ∧ va_P (dC, dI) vwCl [(m0, .inr (11, [.int 0, .ref mwidth, .ref mmany, .ref mcells, .ref mmoved, .ref mtape, .int 0, .int 0, .int 0, .int 0, .int 0, .long 0, .int 0, .int bp, .int 0, .int (-1), .ref mlines, .ref mhas, .ref mtold, .ref mlaw, .ref msuit, .ref mapart, .ref mact, .ref misKept, .ref mseen, .ref mhung, .int 0, .ref mgoal, .ref mleaps, .ref mqueue, .ref mrow, .int 0, .ref mwanted, .ref mfirst, .ref moften, .int 0, .int 0, .int 0, .int 0, .int 0, .int 0, .ref mlots, .ref mthen, .long 0])), (mlines, .inl (cyI, 5, .inl (fun _ => 0))), (mhas, .inl (cyI, 20, .inl f0)), (mtold, .inl (cyI, 35, .inl f1)), (mlaw, .inl (cyI, 120, .inl f2)), (msuit, .inl (cyI, 245, .inl f3)), (mapart, .inl (cyI, 35, .inl f4)), (mact, .inl (cyI, 400, .inl f5))] U.heap ∧ va_K (dC, dI) vwCl [(cyI, .int), (cyB, .byte), (cyJ, .long), (cyZ, .boolean), (cyH, .object RX2), (cyN, .array .long)] U ∧ va_D (fun _ => True) [(m0, .inr (11, [.int 0, .ref mwidth, .ref mmany, .ref mcells, .ref mmoved, .ref mtape, .int 0, .int 0, .int 0, .int 0, .int 0, .long 0, .int 0, .int bp, .int 0, .int (-1), .ref mlines, .ref mhas, .ref mtold, .ref mlaw, .ref msuit, .ref mapart, .ref mact, .ref misKept, .ref mseen, .ref mhung, .int 0, .ref mgoal, .ref mleaps, .ref mqueue, .ref mrow, .int 0, .ref mwanted, .ref mfirst, .ref moften, .int 0, .int 0, .int 0, .int 0, .int 0, .int 0, .ref mlots, .ref mthen, .long 0])), (mlines, .inl (cyI, 5, .inl (fun _ => 0))), (mhas, .inl (cyI, 20, .inl f0)), (mtold, .inl (cyI, 35, .inl f1)), (mlaw, .inl (cyI, 120, .inl f2)), (msuit, .inl (cyI, 245, .inl f3)), (mapart, .inl (cyI, 35, .inl f4)), (mact, .inl (cyI, 400, .inl f5))])) (va_Qv (fun _ : Unit => True) (fun (_ : Unit) (t : State) => va_P (dC, dI) vwCl [(m0, .inr (11, [.int 0, .ref mwidth, .ref mmany, .ref mcells, .ref mmoved, .ref mtape, .int 0, .int 0, .int 0, .int 0, .int 0, .long 0, .int 0, .int bp, .int 0, .int (-1), .ref mlines, .ref mhas, .ref mtold, .ref mlaw, .ref msuit, .ref mapart, .ref mact, .ref misKept, .ref mseen, .ref mhung, .int 0, .ref mgoal, .ref mleaps, .ref mqueue, .ref mrow, .int 0, .ref mwanted, .ref mfirst, .ref moften, .int 0, .int 0, .int 0, .int 0, .int 0, .int 0, .ref mlots, .ref mthen, .long 0])), (mlines, .inl (cyI, 5, .inl (fun _ => 0)))] t.heap ∧ va_D (va_A [(m0, .inr (11, [.int 0, .ref mwidth, .ref mmany, .ref mcells, .ref mmoved, .ref mtape, .int 0, .int 0, .int 0, .int 0, .int 0, .long 0, .int 0, .int bp, .int 0, .int (-1), .ref mlines, .ref mhas, .ref mtold, .ref mlaw, .ref msuit, .ref mapart, .ref mact, .ref misKept, .ref mseen, .ref mhung, .int 0, .ref mgoal, .ref mleaps, .ref mqueue, .ref mrow, .int 0, .ref mwanted, .ref mfirst, .ref moften, .int 0, .int 0, .int 0, .int 0, .int 0, .int 0, .ref mlots, .ref mthen, .long 0])), (mlines, .inl (cyI, 5, .inl (fun _ => 0))), (mhas, .inl (cyI, 20, .inl f0)), (mtold, .inl (cyI, 35, .inl f1)), (mlaw, .inl (cyI, 120, .inl f2)), (msuit, .inl (cyI, 245, .inl f3)), (mapart, .inl (cyI, 35, .inl f4)), (mact, .inl (cyI, 400, .inl f5))] sz) [(m0, .inr (11, [.int 0, .ref mwidth, .ref mmany, .ref mcells, .ref mmoved, .ref mtape, .int 0, .int 0, .int 0, .int 0, .int 0, .long 0, .int 0, .int bp, .int 0, .int (-1), .ref mlines, .ref mhas, .ref mtold, .ref mlaw, .ref msuit, .ref mapart, .ref mact, .ref misKept, .ref mseen, .ref mhung, .int 0, .ref mgoal, .ref mleaps, .ref mqueue, .ref mrow, .int 0, .ref mwanted, .ref mfirst, .ref moften, .int 0, .int 0, .int 0, .int 0, .int 0, .int 0, .ref mlots, .ref mthen, .long 0])), (mlines, .inl (cyI, 5, .inl (fun _ => 0)))]) (va_A [(m0, .inr (11, [.int 0, .ref mwidth, .ref mmany, .ref mcells, .ref mmoved, .ref mtape, .int 0, .int 0, .int 0, .int 0, .int 0, .long 0, .int 0, .int bp, .int 0, .int (-1), .ref mlines, .ref mhas, .ref mtold, .ref mlaw, .ref msuit, .ref mapart, .ref mact, .ref misKept, .ref mseen, .ref mhung, .int 0, .ref mgoal, .ref mleaps, .ref mqueue, .ref mrow, .int 0, .ref mwanted, .ref mfirst, .ref moften, .int 0, .int 0, .int 0, .int 0, .int 0, .int 0, .ref mlots, .ref mthen, .long 0])), (mlines, .inl (cyI, 5, .inl (fun _ => 0))), (mhas, .inl (cyI, 20, .inl f0)), (mtold, .inl (cyI, 35, .inl f1)), (mlaw, .inl (cyI, 120, .inl f2)), (msuit, .inl (cyI, 245, .inl f3)), (mapart, .inl (cyI, 35, .inl f4)), (mact, .inl (cyI, 400, .inl f5))] sz)) 0 0 (va_A [(m0, .inr (11, [.int 0, .ref mwidth, .ref mmany, .ref mcells, .ref mmoved, .ref mtape, .int 0, .int 0, .int 0, .int 0, .int 0, .long 0, .int 0, .int bp, .int 0, .int (-1), .ref mlines, .ref mhas, .ref mtold, .ref mlaw, .ref msuit, .ref mapart, .ref mact, .ref misKept, .ref mseen, .ref mhung, .int 0, .ref mgoal, .ref mleaps, .ref mqueue, .ref mrow, .int 0, .ref mwanted, .ref mfirst, .ref moften, .int 0, .int 0, .int 0, .int 0, .int 0, .int 0, .ref mlots, .ref mthen, .long 0])), (mlines, .inl (cyI, 5, .inl (fun _ => 0))), (mhas, .inl (cyI, 20, .inl f0)), (mtold, .inl (cyI, 35, .inl f1)), (mlaw, .inl (cyI, 120, .inl f2)), (msuit, .inl (cyI, 245, .inl f3)), (mapart, .inl (cyI, 35, .inl f4)), (mact, .inl (cyI, 400, .inl f5))] sz) := by
  refine Met.ofW (cc := cX12_copyHall) (maxL := 3) (ret := none) (by decide) rfl ?_
  intro p e s m args below meth c s₁ B hml hv
  obtain ⟨rfl, hsz, hP, hK, hD0⟩ := hv
  have hx := B.exec
  have hb := B.bytes
  have hr := B.returns
  have hts : ∀ w ∈ uU, w.before ([.ref m0, .int 0, .int 3] : List Value).toArray s = true := fun w h => atoms_spec (ws := wk yX12_copyHall cX12_copyHall 3 none) B.pre w (List.mem_cons_of_mem _ h)
  have hown : s.vm.findClass RX12 = some m.cls := findClass_of_methodNamed B.named
  have hlocks := B.notSynchronized
  subst hsz
  have hD := hD0.self (sz := s.heap.size)
  generalize hAe : va_A [(m0, .inr (11, [.int 0, .ref mwidth, .ref mmany, .ref mcells, .ref mmoved, .ref mtape, .int 0, .int 0, .int 0, .int 0, .int 0, .long 0, .int 0, .int bp, .int 0, .int (-1), .ref mlines, .ref mhas, .ref mtold, .ref mlaw, .ref msuit, .ref mapart, .ref mact, .ref misKept, .ref mseen, .ref mhung, .int 0, .ref mgoal, .ref mleaps, .ref mqueue, .ref mrow, .int 0, .ref mwanted, .ref mfirst, .ref moften, .int 0, .int 0, .int 0, .int 0, .int 0, .int 0, .ref mlots, .ref mthen, .long 0])), (mlines, .inl (cyI, 5, .inl (fun _ => 0))), (mhas, .inl (cyI, 20, .inl f0)), (mtold, .inl (cyI, 35, .inl f1)), (mlaw, .inl (cyI, 120, .inl f2)), (msuit, .inl (cyI, 245, .inl f3)), (mapart, .inl (cyI, 35, .inl f4)), (mact, .inl (cyI, 400, .inl f5))] s.heap.size = A at hD ⊢
  have hA : ∀ q : Nat, s.heap.size ≤ q → A q := fun q h => by rw [← hAe]; exact Or.inr h
  have hS : va_S A s.heap s.heap [] := va_S.rf
  have hP : va_P (dC, dI) vwCl [(m0, .inr (11, [.int 0, .ref mwidth, .ref mmany, .ref mcells, .ref mmoved, .ref mtape, .int 0, .int 0, .int 0, .int 0, .int 0, .long 0, .int 0, .int bp, .int 0, .int (-1), .ref mlines, .ref mhas, .ref mtold, .ref mlaw, .ref msuit, .ref mapart, .ref mact, .ref misKept, .ref mseen, .ref mhung, .int 0, .ref mgoal, .ref mleaps, .ref mqueue, .ref mrow, .int 0, .ref mwanted, .ref mfirst, .ref moften, .int 0, .int 0, .int 0, .int 0, .int 0, .int 0, .ref mlots, .ref mthen, .long 0])), (mlines, .inl (cyI, 5, .inl (fun _ => 0))), (mhas, .inl (cyI, 20, .inl f0)), (mtold, .inl (cyI, 35, .inl f1)), (mlaw, .inl (cyI, 120, .inl f2)), (msuit, .inl (cyI, 245, .inl f3)), (mapart, .inl (cyI, 35, .inl f4)), (mact, .inl (cyI, 400, .inl f5))] s.heap := hP
  have hl := lv_entry ([.ref m0, .int 0, .int 3]) (n := 3) (Nat.le_of_ble_eq_true rfl)
  rw [lg_entry_eq]
  generalize (lg_sl ([.ref m0, .int 0, .int 3]) ++ List.replicate (3 - (lg_sl ([.ref m0, .int 0, .int 3])).length) Slot.unset).toArray = ls at hl ⊢
  have hl : lv_has ls 3 [(0, .ref m0), (1, .int 0), (2, .int 3)] := hl
  obtain ⟨H, hHe⟩ : ∃ H, H = s.heap := ⟨_, rfl⟩
  have hP : va_P (dC, dI) vwCl [(m0, .inr (11, [.int 0, .ref mwidth, .ref mmany, .ref mcells, .ref mmoved, .ref mtape, .int 0, .int 0, .int 0, .int 0, .int 0, .long 0, .int 0, .int bp, .int 0, .int (-1), .ref mlines, .ref mhas, .ref mtold, .ref mlaw, .ref msuit, .ref mapart, .ref mact, .ref misKept, .ref mseen, .ref mhung, .int 0, .ref mgoal, .ref mleaps, .ref mqueue, .ref mrow, .int 0, .ref mwanted, .ref mfirst, .ref moften, .int 0, .int 0, .int 0, .int 0, .int 0, .int 0, .ref mlots, .ref mthen, .long 0])), (mlines, .inl (cyI, 5, .inl (fun _ => 0))), (mhas, .inl (cyI, 20, .inl f0)), (mtold, .inl (cyI, 35, .inl f1)), (mlaw, .inl (cyI, 120, .inl f2)), (msuit, .inl (cyI, 245, .inl f3)), (mapart, .inl (cyI, 35, .inl f4)), (mact, .inl (cyI, 400, .inl f5))] H := by rw [hHe]; exact hP
  have hS : va_S A s.heap H [] := by rw [hHe]; exact hS
  refine cv_heap hHe ?_
  refine lv_aload_n hx hb dX12_copyHall_0 rfl (lv_at hl 0 rfl) ?_
  refine va_get (D := (dC, dI)) (ci := 11) (v := .ref mlines) (C := RX12) (T := TX12) (N := 44) hx hb hts uinX12 hown hK hP 0 rfl rfl 16 (by decide) (hts _ wd_6_53) (fun _ h9 => h9) rfl dX12_copyHall_1 ?_
  refine lv_iconst (v := 1) hx hb dX12_copyHall_4 (by decide) ?_
  refine lv_iload_n hx hb dX12_copyHall_5 rfl (lv_at hl 1 rfl) ?_
  refine lv_iload_n hx hb dX12_copyHall_6 rfl (lv_at hl 2 rfl) ?_
  have hPc := hP.sub (ws' := [(mlines, .inl (cyI, 5, .inl (fun _ => 0)))]) [1] rfl
  have hKc := hK.sub (tys' := [(cyI, .int), (cyB, .byte), (cyJ, .long), (cyZ, .boolean), (cyH, .object RX2), (cyN, .array .long)]) [0, 1, 2, 3, 4, 5] rfl
  have hDc := hD.sub (ws' := [(mlines, .inl (cyI, 5, .inl (fun _ => 0)))]) [1] (by decide) rfl
  have hFc := va_free (wc := [(mlines, .inl (cyI, 5, .inl (fun _ => 0)))]) hD hS hA [1] rfl
  refine va_callv (va_runS (As := [.ref mlines, .int 1, .int 0, .int 3]) (rest := []) ⟨hx, hb, hml, hown, hts⟩ (m_copyRow_lines_03 l dC dI cyI cyB cyJ cyZ cyH cyN H.size mlines) (va_cwS 4 hts (gdS wd_7_71 wd_7_72 wd_1_11 wd_7_73) rfl rfl rfl (by decide +kernel) ⟨Nat.le_of_ble_eq_true rfl, Nat.le_of_ble_eq_true rfl⟩) ⟨fun a U g mk q => by obtain ⟨q0, q1, qP, qK, qD⟩ := q; exact ⟨q0, q1, qP, va_K.moved (u := U) (U := U.calling g mk a) (Vm.Alike.refl U.vm) qK, qD⟩, fun U hU hW => ⟨rfl, by rw [hU], by rw [hU]; exact hPc, va_K.moved hW.alike hKc, hDc.weaken (fun _ _ _ _ => trivial)⟩⟩ rfl rfl hl.1 rfl (lv_room (Nat.le_of_ble_eq_true rfl)) dX12_copyHall_7 ⟨Nat.le_of_ble_eq_true rfl, Nat.le_of_ble_eq_true rfl⟩) hS (fun q _ h => hFc q h) hFc (fun  u t H1 locs ht hvm hw hB hz1 hk1 hS => ?_)
  obtain ⟨hP1, hD1⟩ := hB
  rw [ht] at hP1
  obtain ⟨hP, hD⟩ := va_join (wr := [(m0, .inr (11, [.int 0, .ref mwidth, .ref mmany, .ref mcells, .ref mmoved, .ref mtape, .int 0, .int 0, .int 0, .int 0, .int 0, .long 0, .int 0, .int bp, .int 0, .int (-1), .ref mlines, .ref mhas, .ref mtold, .ref mlaw, .ref msuit, .ref mapart, .ref mact, .ref misKept, .ref mseen, .ref mhung, .int 0, .ref mgoal, .ref mleaps, .ref mqueue, .ref mrow, .int 0, .ref mwanted, .ref mfirst, .ref moften, .int 0, .int 0, .int 0, .int 0, .int 0, .int 0, .ref mlots, .ref mthen, .long 0])), (mhas, .inl (cyI, 20, .inl f0)), (mtold, .inl (cyI, 35, .inl f1)), (mlaw, .inl (cyI, 120, .inl f2)), (msuit, .inl (cyI, 245, .inl f3)), (mapart, .inl (cyI, 35, .inl f4)), (mact, .inl (cyI, 400, .inl f5))]) (w1 := [(mlines, .inl (cyI, 5, .inl (fun _ => 0)))]) hP hD [1] [0, 2, 3, 4, 5, 6, 7] rfl rfl (by decide) (by decide) hk1 hFc hP1 hD1
  generalize H1 = H at hP hS ⊢
  have hP : va_P (dC, dI) vwCl [(m0, .inr (11, [.int 0, .ref mwidth, .ref mmany, .ref mcells, .ref mmoved, .ref mtape, .int 0, .int 0, .int 0, .int 0, .int 0, .long 0, .int 0, .int bp, .int 0, .int (-1), .ref mlines, .ref mhas, .ref mtold, .ref mlaw, .ref msuit, .ref mapart, .ref mact, .ref misKept, .ref mseen, .ref mhung, .int 0, .ref mgoal, .ref mleaps, .ref mqueue, .ref mrow, .int 0, .ref mwanted, .ref mfirst, .ref moften, .int 0, .int 0, .int 0, .int 0, .int 0, .int 0, .ref mlots, .ref mthen, .long 0])), (mhas, .inl (cyI, 20, .inl f0)), (mtold, .inl (cyI, 35, .inl f1)), (mlaw, .inl (cyI, 120, .inl f2)), (msuit, .inl (cyI, 245, .inl f3)), (mapart, .inl (cyI, 35, .inl f4)), (mact, .inl (cyI, 400, .inl f5)), (mlines, .inl (cyI, 5, .inl (fun _ => 0)))] H := hP
  have hD : va_D A [(m0, .inr (11, [.int 0, .ref mwidth, .ref mmany, .ref mcells, .ref mmoved, .ref mtape, .int 0, .int 0, .int 0, .int 0, .int 0, .long 0, .int 0, .int bp, .int 0, .int (-1), .ref mlines, .ref mhas, .ref mtold, .ref mlaw, .ref msuit, .ref mapart, .ref mact, .ref misKept, .ref mseen, .ref mhung, .int 0, .ref mgoal, .ref mleaps, .ref mqueue, .ref mrow, .int 0, .ref mwanted, .ref mfirst, .ref moften, .int 0, .int 0, .int 0, .int 0, .int 0, .int 0, .ref mlots, .ref mthen, .long 0])), (mhas, .inl (cyI, 20, .inl f0)), (mtold, .inl (cyI, 35, .inl f1)), (mlaw, .inl (cyI, 120, .inl f2)), (msuit, .inl (cyI, 245, .inl f3)), (mapart, .inl (cyI, 35, .inl f4)), (mact, .inl (cyI, 400, .inl f5)), (mlines, .inl (cyI, 5, .inl (fun _ => 0)))] := hD
  refine lv_aload_n hx hb dX12_copyHall_10 rfl (lv_at hl 0 rfl) ?_
  refine va_get (D := (dC, dI)) (ci := 11) (v := .ref mhas) (C := RX12) (T := TX12) (N := 44) hx hb hts uinX12 hown hK hP 0 rfl rfl 17 (by decide) (hts _ wd_6_54) (fun _ h9 => h9) rfl dX12_copyHall_11 ?_
  refine lv_iconst (v := 4) hx hb dX12_copyHall_14 (by decide) ?_
  refine lv_iload_n hx hb dX12_copyHall_15 rfl (lv_at hl 1 rfl) ?_
  refine lv_iload_n hx hb dX12_copyHall_16 rfl (lv_at hl 2 rfl) ?_
  have hPc := hP.sub (ws' := [(mhas, .inl (cyI, 20, .inl f0))]) [1] rfl
  have hKc := hK.sub (tys' := [(cyI, .int), (cyB, .byte), (cyJ, .long), (cyZ, .boolean), (cyH, .object RX2), (cyN, .array .long)]) [0, 1, 2, 3, 4, 5] rfl
  have hDc := hD.sub (ws' := [(mhas, .inl (cyI, 20, .inl f0))]) [1] (by decide) rfl
  have hFc := va_free (wc := [(mhas, .inl (cyI, 20, .inl f0))]) hD hS hA [1] rfl
  refine va_callv (va_runS (As := [.ref mhas, .int 4, .int 0, .int 3]) (rest := []) ⟨hx, hb, hml, hown, hts⟩ (m_copyRow_has_03 l dC dI cyI cyB cyJ cyZ cyH cyN H.size mhas f0) (va_cwS 4 hts (gdS wd_7_71 wd_7_72 wd_1_11 wd_7_73) rfl rfl rfl (by decide +kernel) ⟨Nat.le_of_ble_eq_true rfl, Nat.le_of_ble_eq_true rfl⟩) ⟨fun a U g mk q => by obtain ⟨q0, q1, qP, qK, qD⟩ := q; exact ⟨q0, q1, qP, va_K.moved (u := U) (U := U.calling g mk a) (Vm.Alike.refl U.vm) qK, qD⟩, fun U hU hW => ⟨rfl, by rw [hU], by rw [hU]; exact hPc, va_K.moved hW.alike hKc, hDc.weaken (fun _ _ _ _ => trivial)⟩⟩ rfl rfl hl.1 rfl (lv_room (Nat.le_of_ble_eq_true rfl)) dX12_copyHall_17 ⟨Nat.le_of_ble_eq_true rfl, Nat.le_of_ble_eq_true rfl⟩) hS (fun q _ h => hFc q h) hFc (fun  u t H1 locs ht hvm hw hB hz1 hk1 hS => ?_)
  obtain ⟨g_1, hP1, hD1⟩ := hB
  rw [ht] at hP1
  obtain ⟨hP, hD⟩ := va_join (wr := [(m0, .inr (11, [.int 0, .ref mwidth, .ref mmany, .ref mcells, .ref mmoved, .ref mtape, .int 0, .int 0, .int 0, .int 0, .int 0, .long 0, .int 0, .int bp, .int 0, .int (-1), .ref mlines, .ref mhas, .ref mtold, .ref mlaw, .ref msuit, .ref mapart, .ref mact, .ref misKept, .ref mseen, .ref mhung, .int 0, .ref mgoal, .ref mleaps, .ref mqueue, .ref mrow, .int 0, .ref mwanted, .ref mfirst, .ref moften, .int 0, .int 0, .int 0, .int 0, .int 0, .int 0, .ref mlots, .ref mthen, .long 0])), (mtold, .inl (cyI, 35, .inl f1)), (mlaw, .inl (cyI, 120, .inl f2)), (msuit, .inl (cyI, 245, .inl f3)), (mapart, .inl (cyI, 35, .inl f4)), (mact, .inl (cyI, 400, .inl f5)), (mlines, .inl (cyI, 5, .inl (fun _ => 0)))]) (w1 := [(mhas, .inl (cyI, 20, .inl g_1))]) hP hD [1] [0, 2, 3, 4, 5, 6, 7] rfl rfl (by decide) (by decide) hk1 hFc hP1 hD1
  generalize H1 = H at hP hS ⊢
  have hP : va_P (dC, dI) vwCl [(m0, .inr (11, [.int 0, .ref mwidth, .ref mmany, .ref mcells, .ref mmoved, .ref mtape, .int 0, .int 0, .int 0, .int 0, .int 0, .long 0, .int 0, .int bp, .int 0, .int (-1), .ref mlines, .ref mhas, .ref mtold, .ref mlaw, .ref msuit, .ref mapart, .ref mact, .ref misKept, .ref mseen, .ref mhung, .int 0, .ref mgoal, .ref mleaps, .ref mqueue, .ref mrow, .int 0, .ref mwanted, .ref mfirst, .ref moften, .int 0, .int 0, .int 0, .int 0, .int 0, .int 0, .ref mlots, .ref mthen, .long 0])), (mtold, .inl (cyI, 35, .inl f1)), (mlaw, .inl (cyI, 120, .inl f2)), (msuit, .inl (cyI, 245, .inl f3)), (mapart, .inl (cyI, 35, .inl f4)), (mact, .inl (cyI, 400, .inl f5)), (mlines, .inl (cyI, 5, .inl (fun _ => 0))), (mhas, .inl (cyI, 20, .inl g_1))] H := hP
  have hD : va_D A [(m0, .inr (11, [.int 0, .ref mwidth, .ref mmany, .ref mcells, .ref mmoved, .ref mtape, .int 0, .int 0, .int 0, .int 0, .int 0, .long 0, .int 0, .int bp, .int 0, .int (-1), .ref mlines, .ref mhas, .ref mtold, .ref mlaw, .ref msuit, .ref mapart, .ref mact, .ref misKept, .ref mseen, .ref mhung, .int 0, .ref mgoal, .ref mleaps, .ref mqueue, .ref mrow, .int 0, .ref mwanted, .ref mfirst, .ref moften, .int 0, .int 0, .int 0, .int 0, .int 0, .int 0, .ref mlots, .ref mthen, .long 0])), (mtold, .inl (cyI, 35, .inl f1)), (mlaw, .inl (cyI, 120, .inl f2)), (msuit, .inl (cyI, 245, .inl f3)), (mapart, .inl (cyI, 35, .inl f4)), (mact, .inl (cyI, 400, .inl f5)), (mlines, .inl (cyI, 5, .inl (fun _ => 0))), (mhas, .inl (cyI, 20, .inl g_1))] := hD
  refine lv_aload_n hx hb dX12_copyHall_20 rfl (lv_at hl 0 rfl) ?_
  refine va_get (D := (dC, dI)) (ci := 11) (v := .ref mtold) (C := RX12) (T := TX12) (N := 44) hx hb hts uinX12 hown hK hP 0 rfl rfl 18 (by decide) (hts _ wd_6_55) (fun _ h9 => h9) rfl dX12_copyHall_21 ?_
  refine lv_bipush (v := 7) hx hb dX12_copyHall_24 (by decide) ?_
  refine lv_iload_n hx hb dX12_copyHall_26 rfl (lv_at hl 1 rfl) ?_
  refine lv_iload_n hx hb dX12_copyHall_27 rfl (lv_at hl 2 rfl) ?_
  have hPc := hP.sub (ws' := [(mtold, .inl (cyI, 35, .inl f1))]) [1] rfl
  have hKc := hK.sub (tys' := [(cyI, .int), (cyB, .byte), (cyJ, .long), (cyZ, .boolean), (cyH, .object RX2), (cyN, .array .long)]) [0, 1, 2, 3, 4, 5] rfl
  have hDc := hD.sub (ws' := [(mtold, .inl (cyI, 35, .inl f1))]) [1] (by decide) rfl
  have hFc := va_free (wc := [(mtold, .inl (cyI, 35, .inl f1))]) hD hS hA [1] rfl
  refine va_callv (va_runS (As := [.ref mtold, .int 7, .int 0, .int 3]) (rest := []) ⟨hx, hb, hml, hown, hts⟩ (m_copyRow_told_03 l dC dI cyI cyB cyJ cyZ cyH cyN H.size mtold f1) (va_cwS 4 hts (gdS wd_7_71 wd_7_72 wd_1_11 wd_7_73) rfl rfl rfl (by decide +kernel) ⟨Nat.le_of_ble_eq_true rfl, Nat.le_of_ble_eq_true rfl⟩) ⟨fun a U g mk q => by obtain ⟨q0, q1, qP, qK, qD⟩ := q; exact ⟨q0, q1, qP, va_K.moved (u := U) (U := U.calling g mk a) (Vm.Alike.refl U.vm) qK, qD⟩, fun U hU hW => ⟨rfl, by rw [hU], by rw [hU]; exact hPc, va_K.moved hW.alike hKc, hDc.weaken (fun _ _ _ _ => trivial)⟩⟩ rfl rfl hl.1 rfl (lv_room (Nat.le_of_ble_eq_true rfl)) dX12_copyHall_28 ⟨Nat.le_of_ble_eq_true rfl, Nat.le_of_ble_eq_true rfl⟩) hS (fun q _ h => hFc q h) hFc (fun  u t H1 locs ht hvm hw hB hz1 hk1 hS => ?_)
  obtain ⟨g_2, hP1, hD1⟩ := hB
  rw [ht] at hP1
  obtain ⟨hP, hD⟩ := va_join (wr := [(m0, .inr (11, [.int 0, .ref mwidth, .ref mmany, .ref mcells, .ref mmoved, .ref mtape, .int 0, .int 0, .int 0, .int 0, .int 0, .long 0, .int 0, .int bp, .int 0, .int (-1), .ref mlines, .ref mhas, .ref mtold, .ref mlaw, .ref msuit, .ref mapart, .ref mact, .ref misKept, .ref mseen, .ref mhung, .int 0, .ref mgoal, .ref mleaps, .ref mqueue, .ref mrow, .int 0, .ref mwanted, .ref mfirst, .ref moften, .int 0, .int 0, .int 0, .int 0, .int 0, .int 0, .ref mlots, .ref mthen, .long 0])), (mlaw, .inl (cyI, 120, .inl f2)), (msuit, .inl (cyI, 245, .inl f3)), (mapart, .inl (cyI, 35, .inl f4)), (mact, .inl (cyI, 400, .inl f5)), (mlines, .inl (cyI, 5, .inl (fun _ => 0))), (mhas, .inl (cyI, 20, .inl g_1))]) (w1 := [(mtold, .inl (cyI, 35, .inl g_2))]) hP hD [1] [0, 2, 3, 4, 5, 6, 7] rfl rfl (by decide) (by decide) hk1 hFc hP1 hD1
  generalize H1 = H at hP hS ⊢
  have hP : va_P (dC, dI) vwCl [(m0, .inr (11, [.int 0, .ref mwidth, .ref mmany, .ref mcells, .ref mmoved, .ref mtape, .int 0, .int 0, .int 0, .int 0, .int 0, .long 0, .int 0, .int bp, .int 0, .int (-1), .ref mlines, .ref mhas, .ref mtold, .ref mlaw, .ref msuit, .ref mapart, .ref mact, .ref misKept, .ref mseen, .ref mhung, .int 0, .ref mgoal, .ref mleaps, .ref mqueue, .ref mrow, .int 0, .ref mwanted, .ref mfirst, .ref moften, .int 0, .int 0, .int 0, .int 0, .int 0, .int 0, .ref mlots, .ref mthen, .long 0])), (mlaw, .inl (cyI, 120, .inl f2)), (msuit, .inl (cyI, 245, .inl f3)), (mapart, .inl (cyI, 35, .inl f4)), (mact, .inl (cyI, 400, .inl f5)), (mlines, .inl (cyI, 5, .inl (fun _ => 0))), (mhas, .inl (cyI, 20, .inl g_1)), (mtold, .inl (cyI, 35, .inl g_2))] H := hP
  have hD : va_D A [(m0, .inr (11, [.int 0, .ref mwidth, .ref mmany, .ref mcells, .ref mmoved, .ref mtape, .int 0, .int 0, .int 0, .int 0, .int 0, .long 0, .int 0, .int bp, .int 0, .int (-1), .ref mlines, .ref mhas, .ref mtold, .ref mlaw, .ref msuit, .ref mapart, .ref mact, .ref misKept, .ref mseen, .ref mhung, .int 0, .ref mgoal, .ref mleaps, .ref mqueue, .ref mrow, .int 0, .ref mwanted, .ref mfirst, .ref moften, .int 0, .int 0, .int 0, .int 0, .int 0, .int 0, .ref mlots, .ref mthen, .long 0])), (mlaw, .inl (cyI, 120, .inl f2)), (msuit, .inl (cyI, 245, .inl f3)), (mapart, .inl (cyI, 35, .inl f4)), (mact, .inl (cyI, 400, .inl f5)), (mlines, .inl (cyI, 5, .inl (fun _ => 0))), (mhas, .inl (cyI, 20, .inl g_1)), (mtold, .inl (cyI, 35, .inl g_2))] := hD
  refine lv_aload_n hx hb dX12_copyHall_31 rfl (lv_at hl 0 rfl) ?_
  refine va_get (D := (dC, dI)) (ci := 11) (v := .ref mlaw) (C := RX12) (T := TX12) (N := 44) hx hb hts uinX12 hown hK hP 0 rfl rfl 19 (by decide) (hts _ wd_6_56) (fun _ h9 => h9) rfl dX12_copyHall_32 ?_
  refine lv_bipush (v := 24) hx hb dX12_copyHall_35 (by decide) ?_
  refine lv_iload_n hx hb dX12_copyHall_37 rfl (lv_at hl 1 rfl) ?_
  refine lv_iload_n hx hb dX12_copyHall_38 rfl (lv_at hl 2 rfl) ?_
  have hPc := hP.sub (ws' := [(mlaw, .inl (cyI, 120, .inl f2))]) [1] rfl
  have hKc := hK.sub (tys' := [(cyI, .int), (cyB, .byte), (cyJ, .long), (cyZ, .boolean), (cyH, .object RX2), (cyN, .array .long)]) [0, 1, 2, 3, 4, 5] rfl
  have hDc := hD.sub (ws' := [(mlaw, .inl (cyI, 120, .inl f2))]) [1] (by decide) rfl
  have hFc := va_free (wc := [(mlaw, .inl (cyI, 120, .inl f2))]) hD hS hA [1] rfl
  refine va_callv (va_runS (As := [.ref mlaw, .int 24, .int 0, .int 3]) (rest := []) ⟨hx, hb, hml, hown, hts⟩ (m_copyRow_law_03 l dC dI cyI cyB cyJ cyZ cyH cyN H.size mlaw f2) (va_cwS 4 hts (gdS wd_7_71 wd_7_72 wd_1_11 wd_7_73) rfl rfl rfl (by decide +kernel) ⟨Nat.le_of_ble_eq_true rfl, Nat.le_of_ble_eq_true rfl⟩) ⟨fun a U g mk q => by obtain ⟨q0, q1, qP, qK, qD⟩ := q; exact ⟨q0, q1, qP, va_K.moved (u := U) (U := U.calling g mk a) (Vm.Alike.refl U.vm) qK, qD⟩, fun U hU hW => ⟨rfl, by rw [hU], by rw [hU]; exact hPc, va_K.moved hW.alike hKc, hDc.weaken (fun _ _ _ _ => trivial)⟩⟩ rfl rfl hl.1 rfl (lv_room (Nat.le_of_ble_eq_true rfl)) dX12_copyHall_39 ⟨Nat.le_of_ble_eq_true rfl, Nat.le_of_ble_eq_true rfl⟩) hS (fun q _ h => hFc q h) hFc (fun  u t H1 locs ht hvm hw hB hz1 hk1 hS => ?_)
  obtain ⟨g_3, hP1, hD1⟩ := hB
  rw [ht] at hP1
  obtain ⟨hP, hD⟩ := va_join (wr := [(m0, .inr (11, [.int 0, .ref mwidth, .ref mmany, .ref mcells, .ref mmoved, .ref mtape, .int 0, .int 0, .int 0, .int 0, .int 0, .long 0, .int 0, .int bp, .int 0, .int (-1), .ref mlines, .ref mhas, .ref mtold, .ref mlaw, .ref msuit, .ref mapart, .ref mact, .ref misKept, .ref mseen, .ref mhung, .int 0, .ref mgoal, .ref mleaps, .ref mqueue, .ref mrow, .int 0, .ref mwanted, .ref mfirst, .ref moften, .int 0, .int 0, .int 0, .int 0, .int 0, .int 0, .ref mlots, .ref mthen, .long 0])), (msuit, .inl (cyI, 245, .inl f3)), (mapart, .inl (cyI, 35, .inl f4)), (mact, .inl (cyI, 400, .inl f5)), (mlines, .inl (cyI, 5, .inl (fun _ => 0))), (mhas, .inl (cyI, 20, .inl g_1)), (mtold, .inl (cyI, 35, .inl g_2))]) (w1 := [(mlaw, .inl (cyI, 120, .inl g_3))]) hP hD [1] [0, 2, 3, 4, 5, 6, 7] rfl rfl (by decide) (by decide) hk1 hFc hP1 hD1
  generalize H1 = H at hP hS ⊢
  have hP : va_P (dC, dI) vwCl [(m0, .inr (11, [.int 0, .ref mwidth, .ref mmany, .ref mcells, .ref mmoved, .ref mtape, .int 0, .int 0, .int 0, .int 0, .int 0, .long 0, .int 0, .int bp, .int 0, .int (-1), .ref mlines, .ref mhas, .ref mtold, .ref mlaw, .ref msuit, .ref mapart, .ref mact, .ref misKept, .ref mseen, .ref mhung, .int 0, .ref mgoal, .ref mleaps, .ref mqueue, .ref mrow, .int 0, .ref mwanted, .ref mfirst, .ref moften, .int 0, .int 0, .int 0, .int 0, .int 0, .int 0, .ref mlots, .ref mthen, .long 0])), (msuit, .inl (cyI, 245, .inl f3)), (mapart, .inl (cyI, 35, .inl f4)), (mact, .inl (cyI, 400, .inl f5)), (mlines, .inl (cyI, 5, .inl (fun _ => 0))), (mhas, .inl (cyI, 20, .inl g_1)), (mtold, .inl (cyI, 35, .inl g_2)), (mlaw, .inl (cyI, 120, .inl g_3))] H := hP
  have hD : va_D A [(m0, .inr (11, [.int 0, .ref mwidth, .ref mmany, .ref mcells, .ref mmoved, .ref mtape, .int 0, .int 0, .int 0, .int 0, .int 0, .long 0, .int 0, .int bp, .int 0, .int (-1), .ref mlines, .ref mhas, .ref mtold, .ref mlaw, .ref msuit, .ref mapart, .ref mact, .ref misKept, .ref mseen, .ref mhung, .int 0, .ref mgoal, .ref mleaps, .ref mqueue, .ref mrow, .int 0, .ref mwanted, .ref mfirst, .ref moften, .int 0, .int 0, .int 0, .int 0, .int 0, .int 0, .ref mlots, .ref mthen, .long 0])), (msuit, .inl (cyI, 245, .inl f3)), (mapart, .inl (cyI, 35, .inl f4)), (mact, .inl (cyI, 400, .inl f5)), (mlines, .inl (cyI, 5, .inl (fun _ => 0))), (mhas, .inl (cyI, 20, .inl g_1)), (mtold, .inl (cyI, 35, .inl g_2)), (mlaw, .inl (cyI, 120, .inl g_3))] := hD
  refine lv_aload_n hx hb dX12_copyHall_42 rfl (lv_at hl 0 rfl) ?_
  refine va_get (D := (dC, dI)) (ci := 11) (v := .ref msuit) (C := RX12) (T := TX12) (N := 44) hx hb hts uinX12 hown hK hP 0 rfl rfl 20 (by decide) (hts _ wd_6_57) (fun _ h9 => h9) rfl dX12_copyHall_43 ?_
  refine lv_bipush (v := 49) hx hb dX12_copyHall_46 (by decide) ?_
  refine lv_iload_n hx hb dX12_copyHall_48 rfl (lv_at hl 1 rfl) ?_
  refine lv_iload_n hx hb dX12_copyHall_49 rfl (lv_at hl 2 rfl) ?_
  have hPc := hP.sub (ws' := [(msuit, .inl (cyI, 245, .inl f3))]) [1] rfl
  have hKc := hK.sub (tys' := [(cyI, .int), (cyB, .byte), (cyJ, .long), (cyZ, .boolean), (cyH, .object RX2), (cyN, .array .long)]) [0, 1, 2, 3, 4, 5] rfl
  have hDc := hD.sub (ws' := [(msuit, .inl (cyI, 245, .inl f3))]) [1] (by decide) rfl
  have hFc := va_free (wc := [(msuit, .inl (cyI, 245, .inl f3))]) hD hS hA [1] rfl
  refine va_callv (va_runS (As := [.ref msuit, .int 49, .int 0, .int 3]) (rest := []) ⟨hx, hb, hml, hown, hts⟩ (m_copyRow_suit_03 l dC dI cyI cyB cyJ cyZ cyH cyN H.size msuit f3) (va_cwS 4 hts (gdS wd_7_71 wd_7_72 wd_1_11 wd_7_73) rfl rfl rfl (by decide +kernel) ⟨Nat.le_of_ble_eq_true rfl, Nat.le_of_ble_eq_true rfl⟩) ⟨fun a U g mk q => by obtain ⟨q0, q1, qP, qK, qD⟩ := q; exact ⟨q0, q1, qP, va_K.moved (u := U) (U := U.calling g mk a) (Vm.Alike.refl U.vm) qK, qD⟩, fun U hU hW => ⟨rfl, by rw [hU], by rw [hU]; exact hPc, va_K.moved hW.alike hKc, hDc.weaken (fun _ _ _ _ => trivial)⟩⟩ rfl rfl hl.1 rfl (lv_room (Nat.le_of_ble_eq_true rfl)) dX12_copyHall_50 ⟨Nat.le_of_ble_eq_true rfl, Nat.le_of_ble_eq_true rfl⟩) hS (fun q _ h => hFc q h) hFc (fun  u t H1 locs ht hvm hw hB hz1 hk1 hS => ?_)
  obtain ⟨g_4, hP1, hD1⟩ := hB
  rw [ht] at hP1
  obtain ⟨hP, hD⟩ := va_join (wr := [(m0, .inr (11, [.int 0, .ref mwidth, .ref mmany, .ref mcells, .ref mmoved, .ref mtape, .int 0, .int 0, .int 0, .int 0, .int 0, .long 0, .int 0, .int bp, .int 0, .int (-1), .ref mlines, .ref mhas, .ref mtold, .ref mlaw, .ref msuit, .ref mapart, .ref mact, .ref misKept, .ref mseen, .ref mhung, .int 0, .ref mgoal, .ref mleaps, .ref mqueue, .ref mrow, .int 0, .ref mwanted, .ref mfirst, .ref moften, .int 0, .int 0, .int 0, .int 0, .int 0, .int 0, .ref mlots, .ref mthen, .long 0])), (mapart, .inl (cyI, 35, .inl f4)), (mact, .inl (cyI, 400, .inl f5)), (mlines, .inl (cyI, 5, .inl (fun _ => 0))), (mhas, .inl (cyI, 20, .inl g_1)), (mtold, .inl (cyI, 35, .inl g_2)), (mlaw, .inl (cyI, 120, .inl g_3))]) (w1 := [(msuit, .inl (cyI, 245, .inl g_4))]) hP hD [1] [0, 2, 3, 4, 5, 6, 7] rfl rfl (by decide) (by decide) hk1 hFc hP1 hD1
  generalize H1 = H at hP hS ⊢
  have hP : va_P (dC, dI) vwCl [(m0, .inr (11, [.int 0, .ref mwidth, .ref mmany, .ref mcells, .ref mmoved, .ref mtape, .int 0, .int 0, .int 0, .int 0, .int 0, .long 0, .int 0, .int bp, .int 0, .int (-1), .ref mlines, .ref mhas, .ref mtold, .ref mlaw, .ref msuit, .ref mapart, .ref mact, .ref misKept, .ref mseen, .ref mhung, .int 0, .ref mgoal, .ref mleaps, .ref mqueue, .ref mrow, .int 0, .ref mwanted, .ref mfirst, .ref moften, .int 0, .int 0, .int 0, .int 0, .int 0, .int 0, .ref mlots, .ref mthen, .long 0])), (mapart, .inl (cyI, 35, .inl f4)), (mact, .inl (cyI, 400, .inl f5)), (mlines, .inl (cyI, 5, .inl (fun _ => 0))), (mhas, .inl (cyI, 20, .inl g_1)), (mtold, .inl (cyI, 35, .inl g_2)), (mlaw, .inl (cyI, 120, .inl g_3)), (msuit, .inl (cyI, 245, .inl g_4))] H := hP
  have hD : va_D A [(m0, .inr (11, [.int 0, .ref mwidth, .ref mmany, .ref mcells, .ref mmoved, .ref mtape, .int 0, .int 0, .int 0, .int 0, .int 0, .long 0, .int 0, .int bp, .int 0, .int (-1), .ref mlines, .ref mhas, .ref mtold, .ref mlaw, .ref msuit, .ref mapart, .ref mact, .ref misKept, .ref mseen, .ref mhung, .int 0, .ref mgoal, .ref mleaps, .ref mqueue, .ref mrow, .int 0, .ref mwanted, .ref mfirst, .ref moften, .int 0, .int 0, .int 0, .int 0, .int 0, .int 0, .ref mlots, .ref mthen, .long 0])), (mapart, .inl (cyI, 35, .inl f4)), (mact, .inl (cyI, 400, .inl f5)), (mlines, .inl (cyI, 5, .inl (fun _ => 0))), (mhas, .inl (cyI, 20, .inl g_1)), (mtold, .inl (cyI, 35, .inl g_2)), (mlaw, .inl (cyI, 120, .inl g_3)), (msuit, .inl (cyI, 245, .inl g_4))] := hD
  refine lv_aload_n hx hb dX12_copyHall_53 rfl (lv_at hl 0 rfl) ?_
  refine va_get (D := (dC, dI)) (ci := 11) (v := .ref mapart) (C := RX12) (T := TX12) (N := 44) hx hb hts uinX12 hown hK hP 0 rfl rfl 21 (by decide) (hts _ wd_6_58) (fun _ h9 => h9) rfl dX12_copyHall_54 ?_
  refine lv_bipush (v := 7) hx hb dX12_copyHall_57 (by decide) ?_
  refine lv_iload_n hx hb dX12_copyHall_59 rfl (lv_at hl 1 rfl) ?_
  refine lv_iload_n hx hb dX12_copyHall_60 rfl (lv_at hl 2 rfl) ?_
  have hPc := hP.sub (ws' := [(mapart, .inl (cyI, 35, .inl f4))]) [1] rfl
  have hKc := hK.sub (tys' := [(cyI, .int), (cyB, .byte), (cyJ, .long), (cyZ, .boolean), (cyH, .object RX2), (cyN, .array .long)]) [0, 1, 2, 3, 4, 5] rfl
  have hDc := hD.sub (ws' := [(mapart, .inl (cyI, 35, .inl f4))]) [1] (by decide) rfl
  have hFc := va_free (wc := [(mapart, .inl (cyI, 35, .inl f4))]) hD hS hA [1] rfl
  refine va_callv (va_runS (As := [.ref mapart, .int 7, .int 0, .int 3]) (rest := []) ⟨hx, hb, hml, hown, hts⟩ (m_copyRow_told_03 l dC dI cyI cyB cyJ cyZ cyH cyN H.size mapart f4) (va_cwS 4 hts (gdS wd_7_71 wd_7_72 wd_1_11 wd_7_73) rfl rfl rfl (by decide +kernel) ⟨Nat.le_of_ble_eq_true rfl, Nat.le_of_ble_eq_true rfl⟩) ⟨fun a U g mk q => by obtain ⟨q0, q1, qP, qK, qD⟩ := q; exact ⟨q0, q1, qP, va_K.moved (u := U) (U := U.calling g mk a) (Vm.Alike.refl U.vm) qK, qD⟩, fun U hU hW => ⟨rfl, by rw [hU], by rw [hU]; exact hPc, va_K.moved hW.alike hKc, hDc.weaken (fun _ _ _ _ => trivial)⟩⟩ rfl rfl hl.1 rfl (lv_room (Nat.le_of_ble_eq_true rfl)) dX12_copyHall_61 ⟨Nat.le_of_ble_eq_true rfl, Nat.le_of_ble_eq_true rfl⟩) hS (fun q _ h => hFc q h) hFc (fun  u t H1 locs ht hvm hw hB hz1 hk1 hS => ?_)
  obtain ⟨g_5, hP1, hD1⟩ := hB
  rw [ht] at hP1
  obtain ⟨hP, hD⟩ := va_join (wr := [(m0, .inr (11, [.int 0, .ref mwidth, .ref mmany, .ref mcells, .ref mmoved, .ref mtape, .int 0, .int 0, .int 0, .int 0, .int 0, .long 0, .int 0, .int bp, .int 0, .int (-1), .ref mlines, .ref mhas, .ref mtold, .ref mlaw, .ref msuit, .ref mapart, .ref mact, .ref misKept, .ref mseen, .ref mhung, .int 0, .ref mgoal, .ref mleaps, .ref mqueue, .ref mrow, .int 0, .ref mwanted, .ref mfirst, .ref moften, .int 0, .int 0, .int 0, .int 0, .int 0, .int 0, .ref mlots, .ref mthen, .long 0])), (mact, .inl (cyI, 400, .inl f5)), (mlines, .inl (cyI, 5, .inl (fun _ => 0))), (mhas, .inl (cyI, 20, .inl g_1)), (mtold, .inl (cyI, 35, .inl g_2)), (mlaw, .inl (cyI, 120, .inl g_3)), (msuit, .inl (cyI, 245, .inl g_4))]) (w1 := [(mapart, .inl (cyI, 35, .inl g_5))]) hP hD [1] [0, 2, 3, 4, 5, 6, 7] rfl rfl (by decide) (by decide) hk1 hFc hP1 hD1
  generalize H1 = H at hP hS ⊢
  have hP : va_P (dC, dI) vwCl [(m0, .inr (11, [.int 0, .ref mwidth, .ref mmany, .ref mcells, .ref mmoved, .ref mtape, .int 0, .int 0, .int 0, .int 0, .int 0, .long 0, .int 0, .int bp, .int 0, .int (-1), .ref mlines, .ref mhas, .ref mtold, .ref mlaw, .ref msuit, .ref mapart, .ref mact, .ref misKept, .ref mseen, .ref mhung, .int 0, .ref mgoal, .ref mleaps, .ref mqueue, .ref mrow, .int 0, .ref mwanted, .ref mfirst, .ref moften, .int 0, .int 0, .int 0, .int 0, .int 0, .int 0, .ref mlots, .ref mthen, .long 0])), (mact, .inl (cyI, 400, .inl f5)), (mlines, .inl (cyI, 5, .inl (fun _ => 0))), (mhas, .inl (cyI, 20, .inl g_1)), (mtold, .inl (cyI, 35, .inl g_2)), (mlaw, .inl (cyI, 120, .inl g_3)), (msuit, .inl (cyI, 245, .inl g_4)), (mapart, .inl (cyI, 35, .inl g_5))] H := hP
  have hD : va_D A [(m0, .inr (11, [.int 0, .ref mwidth, .ref mmany, .ref mcells, .ref mmoved, .ref mtape, .int 0, .int 0, .int 0, .int 0, .int 0, .long 0, .int 0, .int bp, .int 0, .int (-1), .ref mlines, .ref mhas, .ref mtold, .ref mlaw, .ref msuit, .ref mapart, .ref mact, .ref misKept, .ref mseen, .ref mhung, .int 0, .ref mgoal, .ref mleaps, .ref mqueue, .ref mrow, .int 0, .ref mwanted, .ref mfirst, .ref moften, .int 0, .int 0, .int 0, .int 0, .int 0, .int 0, .ref mlots, .ref mthen, .long 0])), (mact, .inl (cyI, 400, .inl f5)), (mlines, .inl (cyI, 5, .inl (fun _ => 0))), (mhas, .inl (cyI, 20, .inl g_1)), (mtold, .inl (cyI, 35, .inl g_2)), (mlaw, .inl (cyI, 120, .inl g_3)), (msuit, .inl (cyI, 245, .inl g_4)), (mapart, .inl (cyI, 35, .inl g_5))] := hD
  refine lv_aload_n hx hb dX12_copyHall_64 rfl (lv_at hl 0 rfl) ?_
  refine va_get (D := (dC, dI)) (ci := 11) (v := .ref mact) (C := RX12) (T := TX12) (N := 44) hx hb hts uinX12 hown hK hP 0 rfl rfl 22 (by decide) (hts _ wd_6_59) (fun _ h9 => h9) rfl dX12_copyHall_65 ?_
  refine lv_bipush (v := 80) hx hb dX12_copyHall_68 (by decide) ?_
  refine lv_iload_n hx hb dX12_copyHall_70 rfl (lv_at hl 1 rfl) ?_
  refine lv_iload_n hx hb dX12_copyHall_71 rfl (lv_at hl 2 rfl) ?_
  have hPc := hP.sub (ws' := [(mact, .inl (cyI, 400, .inl f5))]) [1] rfl
  have hKc := hK.sub (tys' := [(cyI, .int), (cyB, .byte), (cyJ, .long), (cyZ, .boolean), (cyH, .object RX2), (cyN, .array .long)]) [0, 1, 2, 3, 4, 5] rfl
  have hDc := hD.sub (ws' := [(mact, .inl (cyI, 400, .inl f5))]) [1] (by decide) rfl
  have hFc := va_free (wc := [(mact, .inl (cyI, 400, .inl f5))]) hD hS hA [1] rfl
  refine va_callv (va_runS (As := [.ref mact, .int 80, .int 0, .int 3]) (rest := []) ⟨hx, hb, hml, hown, hts⟩ (m_copyRow_act_03 l dC dI cyI cyB cyJ cyZ cyH cyN H.size mact f5) (va_cwS 4 hts (gdS wd_7_71 wd_7_72 wd_1_11 wd_7_73) rfl rfl rfl (by decide +kernel) ⟨Nat.le_of_ble_eq_true rfl, Nat.le_of_ble_eq_true rfl⟩) ⟨fun a U g mk q => by obtain ⟨q0, q1, qP, qK, qD⟩ := q; exact ⟨q0, q1, qP, va_K.moved (u := U) (U := U.calling g mk a) (Vm.Alike.refl U.vm) qK, qD⟩, fun U hU hW => ⟨rfl, by rw [hU], by rw [hU]; exact hPc, va_K.moved hW.alike hKc, hDc.weaken (fun _ _ _ _ => trivial)⟩⟩ rfl rfl hl.1 rfl (lv_room (Nat.le_of_ble_eq_true rfl)) dX12_copyHall_72 ⟨Nat.le_of_ble_eq_true rfl, Nat.le_of_ble_eq_true rfl⟩) hS (fun q _ h => hFc q h) hFc (fun  u t H1 locs ht hvm hw hB hz1 hk1 hS => ?_)
  obtain ⟨g_6, hP1, hD1⟩ := hB
  rw [ht] at hP1
  obtain ⟨hP, hD⟩ := va_join (wr := [(m0, .inr (11, [.int 0, .ref mwidth, .ref mmany, .ref mcells, .ref mmoved, .ref mtape, .int 0, .int 0, .int 0, .int 0, .int 0, .long 0, .int 0, .int bp, .int 0, .int (-1), .ref mlines, .ref mhas, .ref mtold, .ref mlaw, .ref msuit, .ref mapart, .ref mact, .ref misKept, .ref mseen, .ref mhung, .int 0, .ref mgoal, .ref mleaps, .ref mqueue, .ref mrow, .int 0, .ref mwanted, .ref mfirst, .ref moften, .int 0, .int 0, .int 0, .int 0, .int 0, .int 0, .ref mlots, .ref mthen, .long 0])), (mlines, .inl (cyI, 5, .inl (fun _ => 0))), (mhas, .inl (cyI, 20, .inl g_1)), (mtold, .inl (cyI, 35, .inl g_2)), (mlaw, .inl (cyI, 120, .inl g_3)), (msuit, .inl (cyI, 245, .inl g_4)), (mapart, .inl (cyI, 35, .inl g_5))]) (w1 := [(mact, .inl (cyI, 400, .inl g_6))]) hP hD [1] [0, 2, 3, 4, 5, 6, 7] rfl rfl (by decide) (by decide) hk1 hFc hP1 hD1
  generalize H1 = H at hP hS ⊢
  have hP : va_P (dC, dI) vwCl [(m0, .inr (11, [.int 0, .ref mwidth, .ref mmany, .ref mcells, .ref mmoved, .ref mtape, .int 0, .int 0, .int 0, .int 0, .int 0, .long 0, .int 0, .int bp, .int 0, .int (-1), .ref mlines, .ref mhas, .ref mtold, .ref mlaw, .ref msuit, .ref mapart, .ref mact, .ref misKept, .ref mseen, .ref mhung, .int 0, .ref mgoal, .ref mleaps, .ref mqueue, .ref mrow, .int 0, .ref mwanted, .ref mfirst, .ref moften, .int 0, .int 0, .int 0, .int 0, .int 0, .int 0, .ref mlots, .ref mthen, .long 0])), (mlines, .inl (cyI, 5, .inl (fun _ => 0))), (mhas, .inl (cyI, 20, .inl g_1)), (mtold, .inl (cyI, 35, .inl g_2)), (mlaw, .inl (cyI, 120, .inl g_3)), (msuit, .inl (cyI, 245, .inl g_4)), (mapart, .inl (cyI, 35, .inl g_5)), (mact, .inl (cyI, 400, .inl g_6))] H := hP
  have hD : va_D A [(m0, .inr (11, [.int 0, .ref mwidth, .ref mmany, .ref mcells, .ref mmoved, .ref mtape, .int 0, .int 0, .int 0, .int 0, .int 0, .long 0, .int 0, .int bp, .int 0, .int (-1), .ref mlines, .ref mhas, .ref mtold, .ref mlaw, .ref msuit, .ref mapart, .ref mact, .ref misKept, .ref mseen, .ref mhung, .int 0, .ref mgoal, .ref mleaps, .ref mqueue, .ref mrow, .int 0, .ref mwanted, .ref mfirst, .ref moften, .int 0, .int 0, .int 0, .int 0, .int 0, .int 0, .ref mlots, .ref mthen, .long 0])), (mlines, .inl (cyI, 5, .inl (fun _ => 0))), (mhas, .inl (cyI, 20, .inl g_1)), (mtold, .inl (cyI, 35, .inl g_2)), (mlaw, .inl (cyI, 120, .inl g_3)), (msuit, .inl (cyI, 245, .inl g_4)), (mapart, .inl (cyI, 35, .inl g_5)), (mact, .inl (cyI, 400, .inl g_6))] := hD
  have hP9 := hP.sub (ws' := [(m0, .inr (11, [.int 0, .ref mwidth, .ref mmany, .ref mcells, .ref mmoved, .ref mtape, .int 0, .int 0, .int 0, .int 0, .int 0, .long 0, .int 0, .int bp, .int 0, .int (-1), .ref mlines, .ref mhas, .ref mtold, .ref mlaw, .ref msuit, .ref mapart, .ref mact, .ref misKept, .ref mseen, .ref mhung, .int 0, .ref mgoal, .ref mleaps, .ref mqueue, .ref mrow, .int 0, .ref mwanted, .ref mfirst, .ref moften, .int 0, .int 0, .int 0, .int 0, .int 0, .int 0, .ref mlots, .ref mthen, .long 0])), (mlines, .inl (cyI, 5, .inl (fun _ => 0)))]) [0, 1] rfl
  have hD9 := hD.sub (ws' := [(m0, .inr (11, [.int 0, .ref mwidth, .ref mmany, .ref mcells, .ref mmoved, .ref mtape, .int 0, .int 0, .int 0, .int 0, .int 0, .long 0, .int 0, .int bp, .int 0, .int (-1), .ref mlines, .ref mhas, .ref mtold, .ref mlaw, .ref msuit, .ref mapart, .ref mact, .ref misKept, .ref mseen, .ref mhung, .int 0, .ref mgoal, .ref mleaps, .ref mqueue, .ref mrow, .int 0, .ref mwanted, .ref mfirst, .ref moften, .int 0, .int 0, .int 0, .int 0, .int 0, .int 0, .ref mlots, .ref mthen, .long 0])), (mlines, .inl (cyI, 5, .inl (fun _ => 0)))]) [0, 1] (by decide) rfl
  exact W.vret hx hb hr (fun t ht hW => ⟨⟨(), rfl, trivial, ⟨by rw [ht]; exact hP9, hD9⟩⟩, hS.F ht⟩) hS.2.2 dX12_copyHall_75

/- X12_hall -/
set_option maxHeartbeats 4000000 in
set_option maxRecDepth 100000 in
theorem m_hall (l : Launch) (dC : Nat → ClassId) (dI : Nat → Nat → Nat) (cyI cyB cyJ cyZ cyH cyN : ClassId) (sz : Nat) (m0 mwidth mmany mcells mmoved mtape mlines mhas mtold mlaw msuit mapart mact misKept mseen mhung mgoal mleaps mqueue mrow mwanted mfirst moften mlots mthen : Nat) : Met l yX12_hall (wk yX12_hall cX12_hall 1 (some .int)) ({ frames := 4, cells := 0, slots := 0, locals := 124 }) (va_Pc [.ref m0] (fun U => U.heap.size = sz ∧ va_P (dC, dI) vwCl [(m0, .inr (11, [.int 0, .ref mwidth, .ref mmany, .ref mcells, .ref mmoved, .ref mtape, .int 0, .int 0, .int 0, .int 0, .int 0, .long 0, .int 0, .int 0, .int 0, .int (-1), .ref mlines, .ref mhas, .ref mtold, .ref mlaw, .ref msuit, .ref mapart, .ref mact, .ref misKept, .ref mseen, .ref mhung, .int 0, .ref mgoal, .ref mleaps, .ref mqueue, .ref mrow, .int 0, .ref mwanted, .ref mfirst, .ref moften, .int 0, .int 0, .int 0, .int 0, .int 0, .int 0, .ref mlots, .ref mthen, .long 0])), (mlines, .inl (cyI, 5, .inl (fun _ => 0))), (mhas, .inl (cyI, 20, .inl (fun _ => 0))), (mtold, .inl (cyI, 35, .inl (fun _ => 0))), (mlaw, .inl (cyI, 120, .inl (fun _ => 0))), (msuit, .inl (cyI, 245, .inl (fun _ => 0))), (mapart, .inl (cyI, 35, .inl (fun _ => 0))), (mact, .inl (cyI, 400, .inl (fun _ => 0)))] U.heap ∧ va_K (dC, dI) vwCl [(cyI, .int), (cyB, .byte), (cyJ, .long), (cyZ, .boolean), (cyH, .object RX2), (cyN, .array .long)] U ∧ va_D (fun _ => True) [(m0, .inr (11, [.int 0, .ref mwidth, .ref mmany, .ref mcells, .ref mmoved, .ref mtape, .int 0, .int 0, .int 0, .int 0, .int 0, .long 0, .int 0, .int 0, .int 0, .int (-1), .ref mlines, .ref mhas, .ref mtold, .ref mlaw, .ref msuit, .ref mapart, .ref mact, .ref misKept, .ref mseen, .ref mhung, .int 0, .ref mgoal, .ref mleaps, .ref mqueue, .ref mrow, .int 0, .ref mwanted, .ref mfirst, .ref moften, .int 0, .int 0, .int 0, .int 0, .int 0, .int 0, .ref mlots, .ref mthen, .long 0])), (mlines, .inl (cyI, 5, .inl (fun _ => 0))), (mhas, .inl (cyI, 20, .inl (fun _ => 0))), (mtold, .inl (cyI, 35, .inl (fun _ => 0))), (mlaw, .inl (cyI, 120, .inl (fun _ => 0))), (msuit, .inl (cyI, 245, .inl (fun _ => 0))), (mapart, .inl (cyI, 35, .inl (fun _ => 0))), (mact, .inl (cyI, 400, .inl (fun _ => 0)))])) (va_Qi (fun (r : Int32) (_ : Unit) => r = 0) (fun (_ : Unit) (_ : State) => True) (va_A [(m0, .inr (11, [.int 0, .ref mwidth, .ref mmany, .ref mcells, .ref mmoved, .ref mtape, .int 0, .int 0, .int 0, .int 0, .int 0, .long 0, .int 0, .int 0, .int 0, .int (-1), .ref mlines, .ref mhas, .ref mtold, .ref mlaw, .ref msuit, .ref mapart, .ref mact, .ref misKept, .ref mseen, .ref mhung, .int 0, .ref mgoal, .ref mleaps, .ref mqueue, .ref mrow, .int 0, .ref mwanted, .ref mfirst, .ref moften, .int 0, .int 0, .int 0, .int 0, .int 0, .int 0, .ref mlots, .ref mthen, .long 0])), (mlines, .inl (cyI, 5, .inl (fun _ => 0))), (mhas, .inl (cyI, 20, .inl (fun _ => 0))), (mtold, .inl (cyI, 35, .inl (fun _ => 0))), (mlaw, .inl (cyI, 120, .inl (fun _ => 0))), (msuit, .inl (cyI, 245, .inl (fun _ => 0))), (mapart, .inl (cyI, 35, .inl (fun _ => 0))), (mact, .inl (cyI, 400, .inl (fun _ => 0)))] sz)) 0 0 (va_A [(m0, .inr (11, [.int 0, .ref mwidth, .ref mmany, .ref mcells, .ref mmoved, .ref mtape, .int 0, .int 0, .int 0, .int 0, .int 0, .long 0, .int 0, .int 0, .int 0, .int (-1), .ref mlines, .ref mhas, .ref mtold, .ref mlaw, .ref msuit, .ref mapart, .ref mact, .ref misKept, .ref mseen, .ref mhung, .int 0, .ref mgoal, .ref mleaps, .ref mqueue, .ref mrow, .int 0, .ref mwanted, .ref mfirst, .ref moften, .int 0, .int 0, .int 0, .int 0, .int 0, .int 0, .ref mlots, .ref mthen, .long 0])), (mlines, .inl (cyI, 5, .inl (fun _ => 0))), (mhas, .inl (cyI, 20, .inl (fun _ => 0))), (mtold, .inl (cyI, 35, .inl (fun _ => 0))), (mlaw, .inl (cyI, 120, .inl (fun _ => 0))), (msuit, .inl (cyI, 245, .inl (fun _ => 0))), (mapart, .inl (cyI, 35, .inl (fun _ => 0))), (mact, .inl (cyI, 400, .inl (fun _ => 0)))] sz) := by
  refine Met.ofW (cc := cX12_hall) (maxL := 1) (ret := (some .int)) (by decide) rfl ?_
  intro p e s m args below meth c s₁ B hml hv
  obtain ⟨rfl, hsz, hP, hK, hD0⟩ := hv
  have hx := B.exec
  have hb := B.bytes
  have hr := B.returns
  have hts : ∀ w ∈ uU, w.before ([.ref m0] : List Value).toArray s = true := fun w h => atoms_spec (ws := wk yX12_hall cX12_hall 1 (some .int)) B.pre w (List.mem_cons_of_mem _ h)
  have hown : s.vm.findClass RX12 = some m.cls := findClass_of_methodNamed B.named
  have hlocks := B.notSynchronized
  subst hsz
  have hD := hD0.self (sz := s.heap.size)
  generalize hAe : va_A [(m0, .inr (11, [.int 0, .ref mwidth, .ref mmany, .ref mcells, .ref mmoved, .ref mtape, .int 0, .int 0, .int 0, .int 0, .int 0, .long 0, .int 0, .int 0, .int 0, .int (-1), .ref mlines, .ref mhas, .ref mtold, .ref mlaw, .ref msuit, .ref mapart, .ref mact, .ref misKept, .ref mseen, .ref mhung, .int 0, .ref mgoal, .ref mleaps, .ref mqueue, .ref mrow, .int 0, .ref mwanted, .ref mfirst, .ref moften, .int 0, .int 0, .int 0, .int 0, .int 0, .int 0, .ref mlots, .ref mthen, .long 0])), (mlines, .inl (cyI, 5, .inl (fun _ => 0))), (mhas, .inl (cyI, 20, .inl (fun _ => 0))), (mtold, .inl (cyI, 35, .inl (fun _ => 0))), (mlaw, .inl (cyI, 120, .inl (fun _ => 0))), (msuit, .inl (cyI, 245, .inl (fun _ => 0))), (mapart, .inl (cyI, 35, .inl (fun _ => 0))), (mact, .inl (cyI, 400, .inl (fun _ => 0)))] s.heap.size = A at hD ⊢
  have hA : ∀ q : Nat, s.heap.size ≤ q → A q := fun q h => by rw [← hAe]; exact Or.inr h
  have hS : va_S A s.heap s.heap [] := va_S.rf
  have hP : va_P (dC, dI) vwCl [(m0, .inr (11, [.int 0, .ref mwidth, .ref mmany, .ref mcells, .ref mmoved, .ref mtape, .int 0, .int 0, .int 0, .int 0, .int 0, .long 0, .int 0, .int 0, .int 0, .int (-1), .ref mlines, .ref mhas, .ref mtold, .ref mlaw, .ref msuit, .ref mapart, .ref mact, .ref misKept, .ref mseen, .ref mhung, .int 0, .ref mgoal, .ref mleaps, .ref mqueue, .ref mrow, .int 0, .ref mwanted, .ref mfirst, .ref moften, .int 0, .int 0, .int 0, .int 0, .int 0, .int 0, .ref mlots, .ref mthen, .long 0])), (mlines, .inl (cyI, 5, .inl (fun _ => 0))), (mhas, .inl (cyI, 20, .inl (fun _ => 0))), (mtold, .inl (cyI, 35, .inl (fun _ => 0))), (mlaw, .inl (cyI, 120, .inl (fun _ => 0))), (msuit, .inl (cyI, 245, .inl (fun _ => 0))), (mapart, .inl (cyI, 35, .inl (fun _ => 0))), (mact, .inl (cyI, 400, .inl (fun _ => 0)))] s.heap := hP
  have hl := lv_entry ([.ref m0]) (n := 1) (Nat.le_of_ble_eq_true rfl)
  rw [lg_entry_eq]
  generalize (lg_sl ([.ref m0]) ++ List.replicate (1 - (lg_sl ([.ref m0])).length) Slot.unset).toArray = ls at hl ⊢
  have hl : lv_has ls 1 [(0, .ref m0)] := hl
  obtain ⟨H, hHe⟩ : ∃ H, H = s.heap := ⟨_, rfl⟩
  have hP : va_P (dC, dI) vwCl [(m0, .inr (11, [.int 0, .ref mwidth, .ref mmany, .ref mcells, .ref mmoved, .ref mtape, .int 0, .int 0, .int 0, .int 0, .int 0, .long 0, .int 0, .int 0, .int 0, .int (-1), .ref mlines, .ref mhas, .ref mtold, .ref mlaw, .ref msuit, .ref mapart, .ref mact, .ref misKept, .ref mseen, .ref mhung, .int 0, .ref mgoal, .ref mleaps, .ref mqueue, .ref mrow, .int 0, .ref mwanted, .ref mfirst, .ref moften, .int 0, .int 0, .int 0, .int 0, .int 0, .int 0, .ref mlots, .ref mthen, .long 0])), (mlines, .inl (cyI, 5, .inl (fun _ => 0))), (mhas, .inl (cyI, 20, .inl (fun _ => 0))), (mtold, .inl (cyI, 35, .inl (fun _ => 0))), (mlaw, .inl (cyI, 120, .inl (fun _ => 0))), (msuit, .inl (cyI, 245, .inl (fun _ => 0))), (mapart, .inl (cyI, 35, .inl (fun _ => 0))), (mact, .inl (cyI, 400, .inl (fun _ => 0)))] H := by rw [hHe]; exact hP
  have hS : va_S A s.heap H [] := by rw [hHe]; exact hS
  refine cv_heap hHe ?_
  refine lv_aload_n hx hb dX12_hall_0 rfl (lv_at hl 0 rfl) ?_
  refine lv_iconst (v := 0) hx hb dX12_hall_1 (by decide) ?_
  refine va_put (D := (dC, dI)) (ci := 11) (v := .int 0) (ty := .int) (C := RX12) (T := TX12) (N := 44) hx hb hts uinX12 tyX12 tyX12_ok nmX12 hown hK hP hD hS 0 rfl rfl 0 (by decide) (hts _ wd_6_37) (fun _ h9 => h9) rfl (by decide +kernel) rfl rfl (Nat.le_of_ble_eq_true rfl) dX12_hall_2 (fun H locs hP hD hS => ?_)
  have hP : va_P (dC, dI) vwCl [(m0, .inr (11, [.int 0, .ref mwidth, .ref mmany, .ref mcells, .ref mmoved, .ref mtape, .int 0, .int 0, .int 0, .int 0, .int 0, .long 0, .int 0, .int 0, .int 0, .int (-1), .ref mlines, .ref mhas, .ref mtold, .ref mlaw, .ref msuit, .ref mapart, .ref mact, .ref misKept, .ref mseen, .ref mhung, .int 0, .ref mgoal, .ref mleaps, .ref mqueue, .ref mrow, .int 0, .ref mwanted, .ref mfirst, .ref moften, .int 0, .int 0, .int 0, .int 0, .int 0, .int 0, .ref mlots, .ref mthen, .long 0])), (mlines, .inl (cyI, 5, .inl (fun _ => 0))), (mhas, .inl (cyI, 20, .inl (fun _ => 0))), (mtold, .inl (cyI, 35, .inl (fun _ => 0))), (mlaw, .inl (cyI, 120, .inl (fun _ => 0))), (msuit, .inl (cyI, 245, .inl (fun _ => 0))), (mapart, .inl (cyI, 35, .inl (fun _ => 0))), (mact, .inl (cyI, 400, .inl (fun _ => 0)))] H := hP
  have hD : va_D A [(m0, .inr (11, [.int 0, .ref mwidth, .ref mmany, .ref mcells, .ref mmoved, .ref mtape, .int 0, .int 0, .int 0, .int 0, .int 0, .long 0, .int 0, .int 0, .int 0, .int (-1), .ref mlines, .ref mhas, .ref mtold, .ref mlaw, .ref msuit, .ref mapart, .ref mact, .ref misKept, .ref mseen, .ref mhung, .int 0, .ref mgoal, .ref mleaps, .ref mqueue, .ref mrow, .int 0, .ref mwanted, .ref mfirst, .ref moften, .int 0, .int 0, .int 0, .int 0, .int 0, .int 0, .ref mlots, .ref mthen, .long 0])), (mlines, .inl (cyI, 5, .inl (fun _ => 0))), (mhas, .inl (cyI, 20, .inl (fun _ => 0))), (mtold, .inl (cyI, 35, .inl (fun _ => 0))), (mlaw, .inl (cyI, 120, .inl (fun _ => 0))), (msuit, .inl (cyI, 245, .inl (fun _ => 0))), (mapart, .inl (cyI, 35, .inl (fun _ => 0))), (mact, .inl (cyI, 400, .inl (fun _ => 0)))] := hD
  refine lv_aload_n hx hb dX12_hall_5 rfl (lv_at hl 0 rfl) ?_
  have hPc := hP.sub (ws' := [(m0, .inr (11, [.int 0, .ref mwidth, .ref mmany, .ref mcells, .ref mmoved, .ref mtape, .int 0, .int 0, .int 0, .int 0, .int 0, .long 0, .int 0, .int 0, .int 0, .int (-1), .ref mlines, .ref mhas, .ref mtold, .ref mlaw, .ref msuit, .ref mapart, .ref mact, .ref misKept, .ref mseen, .ref mhung, .int 0, .ref mgoal, .ref mleaps, .ref mqueue, .ref mrow, .int 0, .ref mwanted, .ref mfirst, .ref moften, .int 0, .int 0, .int 0, .int 0, .int 0, .int 0, .ref mlots, .ref mthen, .long 0])), (mlines, .inl (cyI, 5, .inl (fun _ => 0))), (mhas, .inl (cyI, 20, .inl (fun _ => 0))), (msuit, .inl (cyI, 245, .inl (fun _ => 0))), (mtold, .inl (cyI, 35, .inl (fun _ => 0))), (mapart, .inl (cyI, 35, .inl (fun _ => 0)))]) [0, 1, 2, 5, 3, 6] rfl
  have hKc := hK.sub (tys' := [(cyI, .int), (cyB, .byte), (cyJ, .long), (cyZ, .boolean), (cyH, .object RX2), (cyN, .array .long)]) [0, 1, 2, 3, 4, 5] rfl
  have hDc := hD.sub (ws' := [(m0, .inr (11, [.int 0, .ref mwidth, .ref mmany, .ref mcells, .ref mmoved, .ref mtape, .int 0, .int 0, .int 0, .int 0, .int 0, .long 0, .int 0, .int 0, .int 0, .int (-1), .ref mlines, .ref mhas, .ref mtold, .ref mlaw, .ref msuit, .ref mapart, .ref mact, .ref misKept, .ref mseen, .ref mhung, .int 0, .ref mgoal, .ref mleaps, .ref mqueue, .ref mrow, .int 0, .ref mwanted, .ref mfirst, .ref moften, .int 0, .int 0, .int 0, .int 0, .int 0, .int 0, .ref mlots, .ref mthen, .long 0])), (mlines, .inl (cyI, 5, .inl (fun _ => 0))), (mhas, .inl (cyI, 20, .inl (fun _ => 0))), (msuit, .inl (cyI, 245, .inl (fun _ => 0))), (mtold, .inl (cyI, 35, .inl (fun _ => 0))), (mapart, .inl (cyI, 35, .inl (fun _ => 0)))]) [0, 1, 2, 5, 3, 6] (by decide) rfl
  have hFc := va_free (wc := [(m0, .inr (11, [.int 0, .ref mwidth, .ref mmany, .ref mcells, .ref mmoved, .ref mtape, .int 0, .int 0, .int 0, .int 0, .int 0, .long 0, .int 0, .int 0, .int 0, .int (-1), .ref mlines, .ref mhas, .ref mtold, .ref mlaw, .ref msuit, .ref mapart, .ref mact, .ref misKept, .ref mseen, .ref mhung, .int 0, .ref mgoal, .ref mleaps, .ref mqueue, .ref mrow, .int 0, .ref mwanted, .ref mfirst, .ref moften, .int 0, .int 0, .int 0, .int 0, .int 0, .int 0, .ref mlots, .ref mthen, .long 0])), (mlines, .inl (cyI, 5, .inl (fun _ => 0))), (mhas, .inl (cyI, 20, .inl (fun _ => 0))), (msuit, .inl (cyI, 245, .inl (fun _ => 0))), (mtold, .inl (cyI, 35, .inl (fun _ => 0))), (mapart, .inl (cyI, 35, .inl (fun _ => 0)))]) hD hS hA [0, 1, 2, 5, 3, 6] rfl
  refine va_callv (va_runV (As := []) (rest := []) ⟨hx, hb, hml, hown, hts⟩ (m_clears l dC dI cyI cyB cyJ cyZ cyH cyN H.size m0 mwidth mmany mcells mmoved mtape mlines mhas mtold mlaw msuit mapart mact misKept mseen mhung mgoal mleaps mqueue mrow mwanted mfirst moften mlots mthen) (cwV 0 hts (gdV wd_6_212 wd_6_214 wd_s3_8 wd_1_11 wd_6_215) rfl rfl rfl (by decide +kernel) ⟨Nat.le_of_ble_eq_true rfl, Nat.le_of_ble_eq_true rfl⟩) ⟨fun a U g mk q => by obtain ⟨q0, q1, qP, qK, qD⟩ := q; exact ⟨q0, q1, qP, va_K.moved (u := U) (U := U.calling g mk a) (Vm.Alike.refl U.vm) qK, qD⟩, va_recv hKc hPc (ci := 11) (q0 := 0) rfl rfl, fun U hU hW => ⟨rfl, by rw [hU], by rw [hU]; exact hPc, va_K.moved hW.alike hKc, hDc.weaken (fun _ _ _ _ => trivial)⟩⟩ rfl rfl hl.1 rfl (lv_room (Nat.le_of_ble_eq_true rfl)) dX12_hall_6 ⟨Nat.le_of_ble_eq_true rfl, Nat.le_of_ble_eq_true rfl⟩) hS (fun q _ h => hFc q h) hFc (fun  u t H1 locs ht hvm hw hB hz1 hk1 hS => ?_)
  obtain ⟨g0_1, g1_2, g2_3, hP1, hD1⟩ := hB
  rw [ht] at hP1
  obtain ⟨hP, hD⟩ := va_join (wr := [(mlaw, .inl (cyI, 120, .inl (fun _ => 0))), (mact, .inl (cyI, 400, .inl (fun _ => 0)))]) (w1 := [(m0, .inr (11, [.int 0, .ref mwidth, .ref mmany, .ref mcells, .ref mmoved, .ref mtape, .int 0, .int 0, .int 0, .int 0, .int 0, .long 0, .int 0, .int 0, .int 0, .int (-1), .ref mlines, .ref mhas, .ref mtold, .ref mlaw, .ref msuit, .ref mapart, .ref mact, .ref misKept, .ref mseen, .ref mhung, .int 0, .ref mgoal, .ref mleaps, .ref mqueue, .ref mrow, .int 0, .ref mwanted, .ref mfirst, .ref moften, .int 0, .int 0, .int 0, .int 0, .int 0, .int 0, .ref mlots, .ref mthen, .long 0])), (mlines, .inl (cyI, 5, .inl (fun _ => 0))), (mhas, .inl (cyI, 20, .inl (fun _ => 0))), (msuit, .inl (cyI, 245, .inl g0_1)), (mtold, .inl (cyI, 35, .inl g1_2)), (mapart, .inl (cyI, 35, .inl g2_3))]) hP hD [0, 1, 2, 5, 3, 6] [4, 7] rfl rfl (by decide) (by decide) hk1 hFc hP1 hD1
  generalize H1 = H at hP hS ⊢
  have hP : va_P (dC, dI) vwCl [(mlaw, .inl (cyI, 120, .inl (fun _ => 0))), (mact, .inl (cyI, 400, .inl (fun _ => 0))), (m0, .inr (11, [.int 0, .ref mwidth, .ref mmany, .ref mcells, .ref mmoved, .ref mtape, .int 0, .int 0, .int 0, .int 0, .int 0, .long 0, .int 0, .int 0, .int 0, .int (-1), .ref mlines, .ref mhas, .ref mtold, .ref mlaw, .ref msuit, .ref mapart, .ref mact, .ref misKept, .ref mseen, .ref mhung, .int 0, .ref mgoal, .ref mleaps, .ref mqueue, .ref mrow, .int 0, .ref mwanted, .ref mfirst, .ref moften, .int 0, .int 0, .int 0, .int 0, .int 0, .int 0, .ref mlots, .ref mthen, .long 0])), (mlines, .inl (cyI, 5, .inl (fun _ => 0))), (mhas, .inl (cyI, 20, .inl (fun _ => 0))), (msuit, .inl (cyI, 245, .inl g0_1)), (mtold, .inl (cyI, 35, .inl g1_2)), (mapart, .inl (cyI, 35, .inl g2_3))] H := hP
  have hD : va_D A [(mlaw, .inl (cyI, 120, .inl (fun _ => 0))), (mact, .inl (cyI, 400, .inl (fun _ => 0))), (m0, .inr (11, [.int 0, .ref mwidth, .ref mmany, .ref mcells, .ref mmoved, .ref mtape, .int 0, .int 0, .int 0, .int 0, .int 0, .long 0, .int 0, .int 0, .int 0, .int (-1), .ref mlines, .ref mhas, .ref mtold, .ref mlaw, .ref msuit, .ref mapart, .ref mact, .ref misKept, .ref mseen, .ref mhung, .int 0, .ref mgoal, .ref mleaps, .ref mqueue, .ref mrow, .int 0, .ref mwanted, .ref mfirst, .ref moften, .int 0, .int 0, .int 0, .int 0, .int 0, .int 0, .ref mlots, .ref mthen, .long 0])), (mlines, .inl (cyI, 5, .inl (fun _ => 0))), (mhas, .inl (cyI, 20, .inl (fun _ => 0))), (msuit, .inl (cyI, 245, .inl g0_1)), (mtold, .inl (cyI, 35, .inl g1_2)), (mapart, .inl (cyI, 35, .inl g2_3))] := hD
  refine lv_aload_n hx hb dX12_hall_9 rfl (lv_at hl 0 rfl) ?_
  have hPc := hP.sub (ws' := [(m0, .inr (11, [.int 0, .ref mwidth, .ref mmany, .ref mcells, .ref mmoved, .ref mtape, .int 0, .int 0, .int 0, .int 0, .int 0, .long 0, .int 0, .int 0, .int 0, .int (-1), .ref mlines, .ref mhas, .ref mtold, .ref mlaw, .ref msuit, .ref mapart, .ref mact, .ref misKept, .ref mseen, .ref mhung, .int 0, .ref mgoal, .ref mleaps, .ref mqueue, .ref mrow, .int 0, .ref mwanted, .ref mfirst, .ref moften, .int 0, .int 0, .int 0, .int 0, .int 0, .int 0, .ref mlots, .ref mthen, .long 0]))]) [2] rfl
  have hKc := hK.sub (tys' := [(cyI, .int), (cyB, .byte), (cyJ, .long), (cyZ, .boolean), (cyH, .object RX2), (cyN, .array .long)]) [0, 1, 2, 3, 4, 5] rfl
  have hDc := hD.sub (ws' := [(m0, .inr (11, [.int 0, .ref mwidth, .ref mmany, .ref mcells, .ref mmoved, .ref mtape, .int 0, .int 0, .int 0, .int 0, .int 0, .long 0, .int 0, .int 0, .int 0, .int (-1), .ref mlines, .ref mhas, .ref mtold, .ref mlaw, .ref msuit, .ref mapart, .ref mact, .ref misKept, .ref mseen, .ref mhung, .int 0, .ref mgoal, .ref mleaps, .ref mqueue, .ref mrow, .int 0, .ref mwanted, .ref mfirst, .ref moften, .int 0, .int 0, .int 0, .int 0, .int 0, .int 0, .ref mlots, .ref mthen, .long 0]))]) [2] (by decide) rfl
  have hFc := va_free (wc := [(m0, .inr (11, [.int 0, .ref mwidth, .ref mmany, .ref mcells, .ref mmoved, .ref mtape, .int 0, .int 0, .int 0, .int 0, .int 0, .long 0, .int 0, .int 0, .int 0, .int (-1), .ref mlines, .ref mhas, .ref mtold, .ref mlaw, .ref msuit, .ref mapart, .ref mact, .ref misKept, .ref mseen, .ref mhung, .int 0, .ref mgoal, .ref mleaps, .ref mqueue, .ref mrow, .int 0, .ref mwanted, .ref mfirst, .ref moften, .int 0, .int 0, .int 0, .int 0, .int 0, .int 0, .ref mlots, .ref mthen, .long 0]))]) hD hS hA [2] rfl
  refine va_callv (va_runV (As := []) (rest := []) ⟨hx, hb, hml, hown, hts⟩ (m_begins l dC dI cyI cyB cyJ cyZ cyH cyN H.size m0 mwidth mmany mcells mmoved mtape mlines mhas mtold mlaw msuit mapart mact misKept mseen mhung mgoal mleaps mqueue mrow mwanted mfirst moften mlots mthen 0) (cwV 0 hts (gdV wd_6_220 wd_6_222 wd_s3_10 wd_1_11 wd_6_223) rfl rfl rfl (by decide +kernel) ⟨Nat.le_of_ble_eq_true rfl, Nat.le_of_ble_eq_true rfl⟩) ⟨fun a U g mk q => by obtain ⟨q0, q1, qP, qK, qD⟩ := q; exact ⟨q0, q1, qP, va_K.moved (u := U) (U := U.calling g mk a) (Vm.Alike.refl U.vm) qK, qD⟩, va_recv hKc hPc (ci := 11) (q0 := 0) rfl rfl, fun U hU hW => ⟨rfl, by rw [hU], by rw [hU]; exact hPc, va_K.moved hW.alike hKc, hDc.weaken (fun _ _ _ _ => trivial)⟩⟩ rfl rfl hl.1 rfl (lv_room (Nat.le_of_ble_eq_true rfl)) dX12_hall_10 ⟨Nat.le_of_ble_eq_true rfl, Nat.le_of_ble_eq_true rfl⟩) hS (fun q _ h => hFc q h) hFc (fun  u t H1 locs ht hvm hw hB hz1 hk1 hS => ?_)
  obtain ⟨hP1, hD1⟩ := hB
  rw [ht] at hP1
  obtain ⟨hP, hD⟩ := va_join (wr := [(mlaw, .inl (cyI, 120, .inl (fun _ => 0))), (mact, .inl (cyI, 400, .inl (fun _ => 0))), (mlines, .inl (cyI, 5, .inl (fun _ => 0))), (mhas, .inl (cyI, 20, .inl (fun _ => 0))), (msuit, .inl (cyI, 245, .inl g0_1)), (mtold, .inl (cyI, 35, .inl g1_2)), (mapart, .inl (cyI, 35, .inl g2_3))]) (w1 := [(m0, .inr (11, [.int 0, .ref mwidth, .ref mmany, .ref mcells, .ref mmoved, .ref mtape, .int 0, .int 0, .int 0, .int 0, .int 0, .long 0, .int 0, .int (-1), .int 0, .int (-1), .ref mlines, .ref mhas, .ref mtold, .ref mlaw, .ref msuit, .ref mapart, .ref mact, .ref misKept, .ref mseen, .ref mhung, .int 0, .ref mgoal, .ref mleaps, .ref mqueue, .ref mrow, .int 0, .ref mwanted, .ref mfirst, .ref moften, .int 0, .int 0, .int 0, .int 0, .int 0, .int 0, .ref mlots, .ref mthen, .long 0]))]) hP hD [2] [0, 1, 3, 4, 5, 6, 7] rfl rfl (by decide) (by decide) hk1 hFc hP1 hD1
  generalize H1 = H at hP hS ⊢
  have hP : va_P (dC, dI) vwCl [(mlaw, .inl (cyI, 120, .inl (fun _ => 0))), (mact, .inl (cyI, 400, .inl (fun _ => 0))), (mlines, .inl (cyI, 5, .inl (fun _ => 0))), (mhas, .inl (cyI, 20, .inl (fun _ => 0))), (msuit, .inl (cyI, 245, .inl g0_1)), (mtold, .inl (cyI, 35, .inl g1_2)), (mapart, .inl (cyI, 35, .inl g2_3)), (m0, .inr (11, [.int 0, .ref mwidth, .ref mmany, .ref mcells, .ref mmoved, .ref mtape, .int 0, .int 0, .int 0, .int 0, .int 0, .long 0, .int 0, .int (-1), .int 0, .int (-1), .ref mlines, .ref mhas, .ref mtold, .ref mlaw, .ref msuit, .ref mapart, .ref mact, .ref misKept, .ref mseen, .ref mhung, .int 0, .ref mgoal, .ref mleaps, .ref mqueue, .ref mrow, .int 0, .ref mwanted, .ref mfirst, .ref moften, .int 0, .int 0, .int 0, .int 0, .int 0, .int 0, .ref mlots, .ref mthen, .long 0]))] H := hP
  have hD : va_D A [(mlaw, .inl (cyI, 120, .inl (fun _ => 0))), (mact, .inl (cyI, 400, .inl (fun _ => 0))), (mlines, .inl (cyI, 5, .inl (fun _ => 0))), (mhas, .inl (cyI, 20, .inl (fun _ => 0))), (msuit, .inl (cyI, 245, .inl g0_1)), (mtold, .inl (cyI, 35, .inl g1_2)), (mapart, .inl (cyI, 35, .inl g2_3)), (m0, .inr (11, [.int 0, .ref mwidth, .ref mmany, .ref mcells, .ref mmoved, .ref mtape, .int 0, .int 0, .int 0, .int 0, .int 0, .long 0, .int 0, .int (-1), .int 0, .int (-1), .ref mlines, .ref mhas, .ref mtold, .ref mlaw, .ref msuit, .ref mapart, .ref mact, .ref misKept, .ref mseen, .ref mhung, .int 0, .ref mgoal, .ref mleaps, .ref mqueue, .ref mrow, .int 0, .ref mwanted, .ref mfirst, .ref moften, .int 0, .int 0, .int 0, .int 0, .int 0, .int 0, .ref mlots, .ref mthen, .long 0]))] := hD
  refine lv_aload_n hx hb dX12_hall_13 rfl (lv_at hl 0 rfl) ?_
  have hPc := hP.sub (ws' := [(m0, .inr (11, [.int 0, .ref mwidth, .ref mmany, .ref mcells, .ref mmoved, .ref mtape, .int 0, .int 0, .int 0, .int 0, .int 0, .long 0, .int 0, .int (-1), .int 0, .int (-1), .ref mlines, .ref mhas, .ref mtold, .ref mlaw, .ref msuit, .ref mapart, .ref mact, .ref misKept, .ref mseen, .ref mhung, .int 0, .ref mgoal, .ref mleaps, .ref mqueue, .ref mrow, .int 0, .ref mwanted, .ref mfirst, .ref moften, .int 0, .int 0, .int 0, .int 0, .int 0, .int 0, .ref mlots, .ref mthen, .long 0]))]) [7] rfl
  have hKc := hK.sub (tys' := [(cyI, .int), (cyB, .byte), (cyJ, .long), (cyZ, .boolean), (cyH, .object RX2), (cyN, .array .long)]) [0, 1, 2, 3, 4, 5] rfl
  refine vp_callSi (va_Run.run (va_runV (As := []) (rest := []) ⟨hx, hb, hml, hown, hts⟩ (m_isGood l dC dI cyI cyB cyJ cyZ cyH cyN m0 mwidth mmany mcells mmoved mtape mlines mhas mtold mlaw msuit mapart mact misKept mseen mhung mgoal mleaps mqueue mrow mwanted mfirst moften mlots mthen) (cwV 0 hts (gdV wd_6_237 wd_6_239 wd_s3_13 wd_1_11 wd_7_0) rfl rfl rfl (by decide +kernel) ⟨Nat.le_of_ble_eq_true rfl, Nat.le_of_ble_eq_true rfl⟩) ⟨fun a U g mk q => by obtain ⟨q0, qP, qK⟩ := q; exact ⟨q0, qP, va_K.moved (u := U) (U := U.calling g mk a) (Vm.Alike.refl U.vm) qK⟩, va_recv hKc hPc (ci := 11) (q0 := 0) rfl rfl, fun U hU hW => ⟨rfl, by rw [hU]; exact hPc, va_K.moved hW.alike hKc⟩⟩ rfl rfl hl.1 rfl (lv_room (Nat.le_of_ble_eq_true rfl)) dX12_hall_14 ⟨Nat.le_of_ble_eq_true rfl, Nat.le_of_ble_eq_true rfl⟩)) (fun r_4 hw => ?_)
  subst hw
  refine lv_if_eq (tgt := 89) hx hb dX12_hall_17 (by decide) (fun c_5 => absurd c_5 (by decide)) (fun _ => ?_)
  refine lv_aload_n hx hb dX12_hall_20 rfl (lv_at hl 0 rfl) ?_
  refine va_get (D := (dC, dI)) (ci := 11) (v := .int 0) (C := RX12) (T := TX12) (N := 44) hx hb hts uinX12 hown hK hP 7 rfl rfl 8 (by decide) (hts _ wd_6_45) (fun _ h9 => h9) rfl dX12_hall_21 ?_
  refine lv_if_eq (tgt := 89) hx hb dX12_hall_24 (by decide) (fun _ => ?_) (fun c_6 => absurd c_6 (by decide))
  refine lv_aload_n hx hb dX12_hall_89 rfl (lv_at hl 0 rfl) ?_
  have hPc := hP.sub (ws' := [(m0, .inr (11, [.int 0, .ref mwidth, .ref mmany, .ref mcells, .ref mmoved, .ref mtape, .int 0, .int 0, .int 0, .int 0, .int 0, .long 0, .int 0, .int (-1), .int 0, .int (-1), .ref mlines, .ref mhas, .ref mtold, .ref mlaw, .ref msuit, .ref mapart, .ref mact, .ref misKept, .ref mseen, .ref mhung, .int 0, .ref mgoal, .ref mleaps, .ref mqueue, .ref mrow, .int 0, .ref mwanted, .ref mfirst, .ref moften, .int 0, .int 0, .int 0, .int 0, .int 0, .int 0, .ref mlots, .ref mthen, .long 0]))]) [7] rfl
  have hKc := hK.sub (tys' := [(cyI, .int), (cyB, .byte), (cyJ, .long), (cyZ, .boolean), (cyH, .object RX2), (cyN, .array .long)]) [0, 1, 2, 3, 4, 5] rfl
  have hDc := hD.sub (ws' := [(m0, .inr (11, [.int 0, .ref mwidth, .ref mmany, .ref mcells, .ref mmoved, .ref mtape, .int 0, .int 0, .int 0, .int 0, .int 0, .long 0, .int 0, .int (-1), .int 0, .int (-1), .ref mlines, .ref mhas, .ref mtold, .ref mlaw, .ref msuit, .ref mapart, .ref mact, .ref misKept, .ref mseen, .ref mhung, .int 0, .ref mgoal, .ref mleaps, .ref mqueue, .ref mrow, .int 0, .ref mwanted, .ref mfirst, .ref moften, .int 0, .int 0, .int 0, .int 0, .int 0, .int 0, .ref mlots, .ref mthen, .long 0]))]) [7] (by decide) rfl
  have hFc := va_free (wc := [(m0, .inr (11, [.int 0, .ref mwidth, .ref mmany, .ref mcells, .ref mmoved, .ref mtape, .int 0, .int 0, .int 0, .int 0, .int 0, .long 0, .int 0, .int (-1), .int 0, .int (-1), .ref mlines, .ref mhas, .ref mtold, .ref mlaw, .ref msuit, .ref mapart, .ref mact, .ref misKept, .ref mseen, .ref mhung, .int 0, .ref mgoal, .ref mleaps, .ref mqueue, .ref mrow, .int 0, .ref mwanted, .ref mfirst, .ref moften, .int 0, .int 0, .int 0, .int 0, .int 0, .int 0, .ref mlots, .ref mthen, .long 0]))]) hD hS hA [7] rfl
  refine va_callv (va_runV (As := []) (rest := []) ⟨hx, hb, hml, hown, hts⟩ (m_isOver l dC dI cyI cyB cyJ cyZ cyH cyN H.size m0 mwidth mmany mcells mmoved mtape mlines mhas mtold mlaw msuit mapart mact misKept mseen mhung mgoal mleaps mqueue mrow mwanted mfirst moften mlots mthen) (cwV 0 hts (gdV wd_7_63 wd_7_65 wd_s4_11 wd_1_11 wd_7_66) rfl rfl rfl (by decide +kernel) ⟨Nat.le_of_ble_eq_true rfl, Nat.le_of_ble_eq_true rfl⟩) ⟨fun a U g mk q => by obtain ⟨q0, q1, qP, qK, qD⟩ := q; exact ⟨q0, q1, qP, va_K.moved (u := U) (U := U.calling g mk a) (Vm.Alike.refl U.vm) qK, qD⟩, va_recv hKc hPc (ci := 11) (q0 := 0) rfl rfl, fun U hU hW => ⟨rfl, by rw [hU], by rw [hU]; exact hPc, va_K.moved hW.alike hKc, hDc.weaken (fun _ _ _ _ => trivial)⟩⟩ rfl rfl hl.1 rfl (lv_room (Nat.le_of_ble_eq_true rfl)) dX12_hall_90 ⟨Nat.le_of_ble_eq_true rfl, Nat.le_of_ble_eq_true rfl⟩) hS (fun q _ h => hFc q h) hFc (fun  u t H1 locs ht hvm hw hB hz1 hk1 hS => ?_)
  obtain ⟨hP1, hD1⟩ := hB
  rw [ht] at hP1
  obtain ⟨hP, hD⟩ := va_join (wr := [(mlaw, .inl (cyI, 120, .inl (fun _ => 0))), (mact, .inl (cyI, 400, .inl (fun _ => 0))), (mlines, .inl (cyI, 5, .inl (fun _ => 0))), (mhas, .inl (cyI, 20, .inl (fun _ => 0))), (msuit, .inl (cyI, 245, .inl g0_1)), (mtold, .inl (cyI, 35, .inl g1_2)), (mapart, .inl (cyI, 35, .inl g2_3))]) (w1 := [(m0, .inr (11, [.int 0, .ref mwidth, .ref mmany, .ref mcells, .ref mmoved, .ref mtape, .int 0, .int 0, .int 0, .int 0, .int 0, .long 0, .int 0, .int (-1), .int 0, .int (-1), .ref mlines, .ref mhas, .ref mtold, .ref mlaw, .ref msuit, .ref mapart, .ref mact, .ref misKept, .ref mseen, .ref mhung, .int 0, .ref mgoal, .ref mleaps, .ref mqueue, .ref mrow, .int 0, .ref mwanted, .ref mfirst, .ref moften, .int 0, .int 0, .int 0, .int 0, .int 0, .int 0, .ref mlots, .ref mthen, .long 0]))]) hP hD [7] [0, 1, 2, 3, 4, 5, 6] rfl rfl (by decide) (by decide) hk1 hFc hP1 hD1
  generalize H1 = H at hP hS ⊢
  have hP : va_P (dC, dI) vwCl [(mlaw, .inl (cyI, 120, .inl (fun _ => 0))), (mact, .inl (cyI, 400, .inl (fun _ => 0))), (mlines, .inl (cyI, 5, .inl (fun _ => 0))), (mhas, .inl (cyI, 20, .inl (fun _ => 0))), (msuit, .inl (cyI, 245, .inl g0_1)), (mtold, .inl (cyI, 35, .inl g1_2)), (mapart, .inl (cyI, 35, .inl g2_3)), (m0, .inr (11, [.int 0, .ref mwidth, .ref mmany, .ref mcells, .ref mmoved, .ref mtape, .int 0, .int 0, .int 0, .int 0, .int 0, .long 0, .int 0, .int (-1), .int 0, .int (-1), .ref mlines, .ref mhas, .ref mtold, .ref mlaw, .ref msuit, .ref mapart, .ref mact, .ref misKept, .ref mseen, .ref mhung, .int 0, .ref mgoal, .ref mleaps, .ref mqueue, .ref mrow, .int 0, .ref mwanted, .ref mfirst, .ref moften, .int 0, .int 0, .int 0, .int 0, .int 0, .int 0, .ref mlots, .ref mthen, .long 0]))] H := hP
  have hD : va_D A [(mlaw, .inl (cyI, 120, .inl (fun _ => 0))), (mact, .inl (cyI, 400, .inl (fun _ => 0))), (mlines, .inl (cyI, 5, .inl (fun _ => 0))), (mhas, .inl (cyI, 20, .inl (fun _ => 0))), (msuit, .inl (cyI, 245, .inl g0_1)), (mtold, .inl (cyI, 35, .inl g1_2)), (mapart, .inl (cyI, 35, .inl g2_3)), (m0, .inr (11, [.int 0, .ref mwidth, .ref mmany, .ref mcells, .ref mmoved, .ref mtape, .int 0, .int 0, .int 0, .int 0, .int 0, .long 0, .int 0, .int (-1), .int 0, .int (-1), .ref mlines, .ref mhas, .ref mtold, .ref mlaw, .ref msuit, .ref mapart, .ref mact, .ref misKept, .ref mseen, .ref mhung, .int 0, .ref mgoal, .ref mleaps, .ref mqueue, .ref mrow, .int 0, .ref mwanted, .ref mfirst, .ref moften, .int 0, .int 0, .int 0, .int 0, .int 0, .int 0, .ref mlots, .ref mthen, .long 0]))] := hD
  refine lv_aload_n hx hb dX12_hall_93 rfl (lv_at hl 0 rfl) ?_
  refine va_get (D := (dC, dI)) (ci := 11) (v := .int 0) (C := RX12) (T := TX12) (N := 44) hx hb hts uinX12 hown hK hP 7 rfl rfl 12 (by decide) (hts _ wd_6_49) (fun _ h9 => h9) rfl dX12_hall_94 ?_
  refine lv_if_eq (tgt := 103) hx hb dX12_hall_97 (by decide) (fun _ => ?_) (fun c_7 => absurd c_7 (by decide))
  refine lv_aload_n hx hb dX12_hall_103 rfl (lv_at hl 0 rfl) ?_
  refine lv_iconst (v := 2) hx hb dX12_hall_104 (by decide) ?_
  have hPc := hP.sub (ws' := [(m0, .inr (11, [.int 0, .ref mwidth, .ref mmany, .ref mcells, .ref mmoved, .ref mtape, .int 0, .int 0, .int 0, .int 0, .int 0, .long 0, .int 0, .int (-1), .int 0, .int (-1), .ref mlines, .ref mhas, .ref mtold, .ref mlaw, .ref msuit, .ref mapart, .ref mact, .ref misKept, .ref mseen, .ref mhung, .int 0, .ref mgoal, .ref mleaps, .ref mqueue, .ref mrow, .int 0, .ref mwanted, .ref mfirst, .ref moften, .int 0, .int 0, .int 0, .int 0, .int 0, .int 0, .ref mlots, .ref mthen, .long 0])), (mhas, .inl (cyI, 20, .inl (fun _ => 0)))]) [7, 3] rfl
  have hKc := hK.sub (tys' := [(cyI, .int), (cyB, .byte), (cyJ, .long), (cyZ, .boolean), (cyH, .object RX2), (cyN, .array .long)]) [0, 1, 2, 3, 4, 5] rfl
  refine vp_callSi (va_Run.run (va_runV (As := [.int 2]) (rest := []) ⟨hx, hb, hml, hown, hts⟩ (m_hasReadb l dC dI cyI cyB cyJ cyZ cyH cyN m0 mwidth mmany mcells mmoved mtape mlines mhas mtold mlaw msuit mapart mact misKept mseen mhung mgoal mleaps mqueue mrow mwanted mfirst moften mlots mthen (-1)) (cwV 1 hts (gdV wd_7_36 wd_7_38 wd_s4_6 wd_1_11 wd_7_39) rfl rfl rfl (by decide +kernel) ⟨Nat.le_of_ble_eq_true rfl, Nat.le_of_ble_eq_true rfl⟩) ⟨fun a U g mk q => by obtain ⟨q0, qP, qK⟩ := q; exact ⟨q0, qP, va_K.moved (u := U) (U := U.calling g mk a) (Vm.Alike.refl U.vm) qK⟩, va_recv hKc hPc (ci := 11) (q0 := 0) rfl rfl, fun U hU hW => ⟨rfl, by rw [hU]; exact hPc, va_K.moved hW.alike hKc⟩⟩ rfl rfl hl.1 rfl (lv_room (Nat.le_of_ble_eq_true rfl)) dX12_hall_105 ⟨Nat.le_of_ble_eq_true rfl, Nat.le_of_ble_eq_true rfl⟩)) (fun r_8 hw => ?_)
  subst hw
  refine lv_if_ne (tgt := 117) hx hb dX12_hall_108 (by decide) (fun c_9 => absurd c_9 (by decide)) (fun _ => ?_)
  refine lv_aload_n hx hb dX12_hall_111 rfl (lv_at hl 0 rfl) ?_
  refine lv_iconst (v := 2) hx hb dX12_hall_112 (by decide) ?_
  refine lv_iconst (v := 2) hx hb dX12_hall_113 (by decide) ?_
  have hPc := hP.sub (ws' := [(m0, .inr (11, [.int 0, .ref mwidth, .ref mmany, .ref mcells, .ref mmoved, .ref mtape, .int 0, .int 0, .int 0, .int 0, .int 0, .long 0, .int 0, .int (-1), .int 0, .int (-1), .ref mlines, .ref mhas, .ref mtold, .ref mlaw, .ref msuit, .ref mapart, .ref mact, .ref misKept, .ref mseen, .ref mhung, .int 0, .ref mgoal, .ref mleaps, .ref mqueue, .ref mrow, .int 0, .ref mwanted, .ref mfirst, .ref moften, .int 0, .int 0, .int 0, .int 0, .int 0, .int 0, .ref mlots, .ref mthen, .long 0])), (mhas, .inl (cyI, 20, .inl (fun _ => 0)))]) [7, 3] rfl
  have hKc := hK.sub (tys' := [(cyI, .int), (cyB, .byte), (cyJ, .long), (cyZ, .boolean), (cyH, .object RX2), (cyN, .array .long)]) [0, 1, 2, 3, 4, 5] rfl
  have hDc := hD.sub (ws' := [(m0, .inr (11, [.int 0, .ref mwidth, .ref mmany, .ref mcells, .ref mmoved, .ref mtape, .int 0, .int 0, .int 0, .int 0, .int 0, .long 0, .int 0, .int (-1), .int 0, .int (-1), .ref mlines, .ref mhas, .ref mtold, .ref mlaw, .ref msuit, .ref mapart, .ref mact, .ref misKept, .ref mseen, .ref mhung, .int 0, .ref mgoal, .ref mleaps, .ref mqueue, .ref mrow, .int 0, .ref mwanted, .ref mfirst, .ref moften, .int 0, .int 0, .int 0, .int 0, .int 0, .int 0, .ref mlots, .ref mthen, .long 0])), (mhas, .inl (cyI, 20, .inl (fun _ => 0)))]) [7, 3] (by decide) rfl
  have hFc := va_free (wc := [(m0, .inr (11, [.int 0, .ref mwidth, .ref mmany, .ref mcells, .ref mmoved, .ref mtape, .int 0, .int 0, .int 0, .int 0, .int 0, .long 0, .int 0, .int (-1), .int 0, .int (-1), .ref mlines, .ref mhas, .ref mtold, .ref mlaw, .ref msuit, .ref mapart, .ref mact, .ref misKept, .ref mseen, .ref mhung, .int 0, .ref mgoal, .ref mleaps, .ref mqueue, .ref mrow, .int 0, .ref mwanted, .ref mfirst, .ref moften, .int 0, .int 0, .int 0, .int 0, .int 0, .int 0, .ref mlots, .ref mthen, .long 0])), (mhas, .inl (cyI, 20, .inl (fun _ => 0)))]) hD hS hA [7, 3] rfl
  refine va_callv (va_runV (As := [.int 2, .int 2]) (rest := []) ⟨hx, hb, hml, hown, hts⟩ (m_tells2 l dC dI cyI cyB cyJ cyZ cyH cyN H.size m0 mwidth mmany mcells mmoved mtape mlines mhas mtold mlaw msuit mapart mact misKept mseen mhung mgoal mleaps mqueue mrow mwanted mfirst moften mlots mthen (-1)) (cwV 2 hts (gdV wd_6_216 wd_6_218 wd_s3_9 wd_1_11 wd_6_219) rfl rfl rfl (by decide +kernel) ⟨Nat.le_of_ble_eq_true rfl, Nat.le_of_ble_eq_true rfl⟩) ⟨fun a U g mk q => by obtain ⟨q0, q1, qP, qK, qD⟩ := q; exact ⟨q0, q1, qP, va_K.moved (u := U) (U := U.calling g mk a) (Vm.Alike.refl U.vm) qK, qD⟩, va_recv hKc hPc (ci := 11) (q0 := 0) rfl rfl, fun U hU hW => ⟨rfl, by rw [hU], by rw [hU]; exact hPc, va_K.moved hW.alike hKc, hDc.weaken (fun _ _ _ _ => trivial)⟩⟩ rfl rfl hl.1 rfl (lv_room (Nat.le_of_ble_eq_true rfl)) dX12_hall_114 ⟨Nat.le_of_ble_eq_true rfl, Nat.le_of_ble_eq_true rfl⟩) hS (fun q _ h => hFc q h) hFc (fun  u t H1 locs ht hvm hw hB hz1 hk1 hS => ?_)
  obtain ⟨g_10, hP1, hD1⟩ := hB
  rw [ht] at hP1
  obtain ⟨hP, hD⟩ := va_join (wr := [(mlaw, .inl (cyI, 120, .inl (fun _ => 0))), (mact, .inl (cyI, 400, .inl (fun _ => 0))), (mlines, .inl (cyI, 5, .inl (fun _ => 0))), (msuit, .inl (cyI, 245, .inl g0_1)), (mtold, .inl (cyI, 35, .inl g1_2)), (mapart, .inl (cyI, 35, .inl g2_3))]) (w1 := [(m0, .inr (11, [.int 0, .ref mwidth, .ref mmany, .ref mcells, .ref mmoved, .ref mtape, .int 0, .int 0, .int 0, .int 0, .int 0, .long 0, .int 0, .int (-1), .int 0, .int (-1), .ref mlines, .ref mhas, .ref mtold, .ref mlaw, .ref msuit, .ref mapart, .ref mact, .ref misKept, .ref mseen, .ref mhung, .int 0, .ref mgoal, .ref mleaps, .ref mqueue, .ref mrow, .int 0, .ref mwanted, .ref mfirst, .ref moften, .int 0, .int 0, .int 0, .int 0, .int 0, .int 0, .ref mlots, .ref mthen, .long 0])), (mhas, .inl (cyI, 20, .inl g_10))]) hP hD [7, 3] [0, 1, 2, 4, 5, 6] rfl rfl (by decide) (by decide) hk1 hFc hP1 hD1
  generalize H1 = H at hP hS ⊢
  have hP : va_P (dC, dI) vwCl [(mlaw, .inl (cyI, 120, .inl (fun _ => 0))), (mact, .inl (cyI, 400, .inl (fun _ => 0))), (mlines, .inl (cyI, 5, .inl (fun _ => 0))), (msuit, .inl (cyI, 245, .inl g0_1)), (mtold, .inl (cyI, 35, .inl g1_2)), (mapart, .inl (cyI, 35, .inl g2_3)), (m0, .inr (11, [.int 0, .ref mwidth, .ref mmany, .ref mcells, .ref mmoved, .ref mtape, .int 0, .int 0, .int 0, .int 0, .int 0, .long 0, .int 0, .int (-1), .int 0, .int (-1), .ref mlines, .ref mhas, .ref mtold, .ref mlaw, .ref msuit, .ref mapart, .ref mact, .ref misKept, .ref mseen, .ref mhung, .int 0, .ref mgoal, .ref mleaps, .ref mqueue, .ref mrow, .int 0, .ref mwanted, .ref mfirst, .ref moften, .int 0, .int 0, .int 0, .int 0, .int 0, .int 0, .ref mlots, .ref mthen, .long 0])), (mhas, .inl (cyI, 20, .inl g_10))] H := hP
  have hD : va_D A [(mlaw, .inl (cyI, 120, .inl (fun _ => 0))), (mact, .inl (cyI, 400, .inl (fun _ => 0))), (mlines, .inl (cyI, 5, .inl (fun _ => 0))), (msuit, .inl (cyI, 245, .inl g0_1)), (mtold, .inl (cyI, 35, .inl g1_2)), (mapart, .inl (cyI, 35, .inl g2_3)), (m0, .inr (11, [.int 0, .ref mwidth, .ref mmany, .ref mcells, .ref mmoved, .ref mtape, .int 0, .int 0, .int 0, .int 0, .int 0, .long 0, .int 0, .int (-1), .int 0, .int (-1), .ref mlines, .ref mhas, .ref mtold, .ref mlaw, .ref msuit, .ref mapart, .ref mact, .ref misKept, .ref mseen, .ref mhung, .int 0, .ref mgoal, .ref mleaps, .ref mqueue, .ref mrow, .int 0, .ref mwanted, .ref mfirst, .ref moften, .int 0, .int 0, .int 0, .int 0, .int 0, .int 0, .ref mlots, .ref mthen, .long 0])), (mhas, .inl (cyI, 20, .inl g_10))] := hD
  refine lv_aload_n hx hb dX12_hall_117 rfl (lv_at hl 0 rfl) ?_
  refine lv_iconst (v := 4) hx hb dX12_hall_118 (by decide) ?_
  refine lv_iconst (v := 0) hx hb dX12_hall_119 (by decide) ?_
  have hPc := hP.sub (ws' := [(m0, .inr (11, [.int 0, .ref mwidth, .ref mmany, .ref mcells, .ref mmoved, .ref mtape, .int 0, .int 0, .int 0, .int 0, .int 0, .long 0, .int 0, .int (-1), .int 0, .int (-1), .ref mlines, .ref mhas, .ref mtold, .ref mlaw, .ref msuit, .ref mapart, .ref mact, .ref misKept, .ref mseen, .ref mhung, .int 0, .ref mgoal, .ref mleaps, .ref mqueue, .ref mrow, .int 0, .ref mwanted, .ref mfirst, .ref moften, .int 0, .int 0, .int 0, .int 0, .int 0, .int 0, .ref mlots, .ref mthen, .long 0])), (mlines, .inl (cyI, 5, .inl (fun _ => 0))), (mhas, .inl (cyI, 20, .inl g_10)), (mtold, .inl (cyI, 35, .inl g1_2)), (mlaw, .inl (cyI, 120, .inl (fun _ => 0))), (msuit, .inl (cyI, 245, .inl g0_1)), (mapart, .inl (cyI, 35, .inl g2_3)), (mact, .inl (cyI, 400, .inl (fun _ => 0)))]) [6, 2, 7, 4, 0, 3, 5, 1] rfl
  have hKc := hK.sub (tys' := [(cyI, .int), (cyB, .byte), (cyJ, .long), (cyZ, .boolean), (cyH, .object RX2), (cyN, .array .long)]) [0, 1, 2, 3, 4, 5] rfl
  have hDc := hD.sub (ws' := [(m0, .inr (11, [.int 0, .ref mwidth, .ref mmany, .ref mcells, .ref mmoved, .ref mtape, .int 0, .int 0, .int 0, .int 0, .int 0, .long 0, .int 0, .int (-1), .int 0, .int (-1), .ref mlines, .ref mhas, .ref mtold, .ref mlaw, .ref msuit, .ref mapart, .ref mact, .ref misKept, .ref mseen, .ref mhung, .int 0, .ref mgoal, .ref mleaps, .ref mqueue, .ref mrow, .int 0, .ref mwanted, .ref mfirst, .ref moften, .int 0, .int 0, .int 0, .int 0, .int 0, .int 0, .ref mlots, .ref mthen, .long 0])), (mlines, .inl (cyI, 5, .inl (fun _ => 0))), (mhas, .inl (cyI, 20, .inl g_10)), (mtold, .inl (cyI, 35, .inl g1_2)), (mlaw, .inl (cyI, 120, .inl (fun _ => 0))), (msuit, .inl (cyI, 245, .inl g0_1)), (mapart, .inl (cyI, 35, .inl g2_3)), (mact, .inl (cyI, 400, .inl (fun _ => 0)))]) [6, 2, 7, 4, 0, 3, 5, 1] (by decide) rfl
  have hFc := va_free (wc := [(m0, .inr (11, [.int 0, .ref mwidth, .ref mmany, .ref mcells, .ref mmoved, .ref mtape, .int 0, .int 0, .int 0, .int 0, .int 0, .long 0, .int 0, .int (-1), .int 0, .int (-1), .ref mlines, .ref mhas, .ref mtold, .ref mlaw, .ref msuit, .ref mapart, .ref mact, .ref misKept, .ref mseen, .ref mhung, .int 0, .ref mgoal, .ref mleaps, .ref mqueue, .ref mrow, .int 0, .ref mwanted, .ref mfirst, .ref moften, .int 0, .int 0, .int 0, .int 0, .int 0, .int 0, .ref mlots, .ref mthen, .long 0])), (mlines, .inl (cyI, 5, .inl (fun _ => 0))), (mhas, .inl (cyI, 20, .inl g_10)), (mtold, .inl (cyI, 35, .inl g1_2)), (mlaw, .inl (cyI, 120, .inl (fun _ => 0))), (msuit, .inl (cyI, 245, .inl g0_1)), (mapart, .inl (cyI, 35, .inl g2_3)), (mact, .inl (cyI, 400, .inl (fun _ => 0)))]) hD hS hA [6, 2, 7, 4, 0, 3, 5, 1] rfl
  refine va_callv (va_runV (As := [.int 4, .int 0]) (rest := []) ⟨hx, hb, hml, hown, hts⟩ (m_copyHall_40 l dC dI cyI cyB cyJ cyZ cyH cyN H.size m0 mwidth mmany mcells mmoved mtape mlines mhas mtold mlaw msuit mapart mact misKept mseen mhung mgoal mleaps mqueue mrow mwanted mfirst moften mlots mthen (-1) g_10 g1_2 (fun _ => 0) g0_1 g2_3 (fun _ => 0)) (cwV 2 hts (gdV wd_7_67 wd_7_69 wd_s4_12 wd_1_11 wd_7_70) rfl rfl rfl (by decide +kernel) ⟨Nat.le_of_ble_eq_true rfl, Nat.le_of_ble_eq_true rfl⟩) ⟨fun a U g mk q => by obtain ⟨q0, q1, qP, qK, qD⟩ := q; exact ⟨q0, q1, qP, va_K.moved (u := U) (U := U.calling g mk a) (Vm.Alike.refl U.vm) qK, qD⟩, va_recv hKc hPc (ci := 11) (q0 := 0) rfl rfl, fun U hU hW => ⟨rfl, by rw [hU], by rw [hU]; exact hPc, va_K.moved hW.alike hKc, hDc.weaken (fun _ _ _ _ => trivial)⟩⟩ rfl rfl hl.1 rfl (lv_room (Nat.le_of_ble_eq_true rfl)) dX12_hall_120 ⟨Nat.le_of_ble_eq_true rfl, Nat.le_of_ble_eq_true rfl⟩) hS (fun q _ h => hFc q h) hFc (fun  u t H1 locs ht hvm hw hB hz1 hk1 hS => ?_)
  obtain ⟨hP1, hD1⟩ := hB
  rw [ht] at hP1
  obtain ⟨hP, hD⟩ := va_join (wr := []) (w1 := [(m0, .inr (11, [.int 0, .ref mwidth, .ref mmany, .ref mcells, .ref mmoved, .ref mtape, .int 0, .int 0, .int 0, .int 0, .int 0, .long 0, .int 0, .int (-1), .int 0, .int (-1), .ref mlines, .ref mhas, .ref mtold, .ref mlaw, .ref msuit, .ref mapart, .ref mact, .ref misKept, .ref mseen, .ref mhung, .int 0, .ref mgoal, .ref mleaps, .ref mqueue, .ref mrow, .int 0, .ref mwanted, .ref mfirst, .ref moften, .int 0, .int 0, .int 0, .int 0, .int 0, .int 0, .ref mlots, .ref mthen, .long 0])), (mlines, .inl (cyI, 5, .inl (fun _ => 0)))]) hP hD [6, 2, 7, 4, 0, 3, 5, 1] [] rfl rfl (by decide) (by decide) hk1 hFc hP1 hD1
  generalize H1 = H at hP hS ⊢
  have hP : va_P (dC, dI) vwCl [(m0, .inr (11, [.int 0, .ref mwidth, .ref mmany, .ref mcells, .ref mmoved, .ref mtape, .int 0, .int 0, .int 0, .int 0, .int 0, .long 0, .int 0, .int (-1), .int 0, .int (-1), .ref mlines, .ref mhas, .ref mtold, .ref mlaw, .ref msuit, .ref mapart, .ref mact, .ref misKept, .ref mseen, .ref mhung, .int 0, .ref mgoal, .ref mleaps, .ref mqueue, .ref mrow, .int 0, .ref mwanted, .ref mfirst, .ref moften, .int 0, .int 0, .int 0, .int 0, .int 0, .int 0, .ref mlots, .ref mthen, .long 0])), (mlines, .inl (cyI, 5, .inl (fun _ => 0)))] H := hP
  have hD : va_D A [(m0, .inr (11, [.int 0, .ref mwidth, .ref mmany, .ref mcells, .ref mmoved, .ref mtape, .int 0, .int 0, .int 0, .int 0, .int 0, .long 0, .int 0, .int (-1), .int 0, .int (-1), .ref mlines, .ref mhas, .ref mtold, .ref mlaw, .ref msuit, .ref mapart, .ref mact, .ref misKept, .ref mseen, .ref mhung, .int 0, .ref mgoal, .ref mleaps, .ref mqueue, .ref mrow, .int 0, .ref mwanted, .ref mfirst, .ref moften, .int 0, .int 0, .int 0, .int 0, .int 0, .int 0, .ref mlots, .ref mthen, .long 0])), (mlines, .inl (cyI, 5, .inl (fun _ => 0)))] := hD
  refine lv_aload_n hx hb dX12_hall_123 rfl (lv_at hl 0 rfl) ?_
  refine va_get (D := (dC, dI)) (ci := 11) (v := .ref mlines) (C := RX12) (T := TX12) (N := 44) hx hb hts uinX12 hown hK hP 0 rfl rfl 16 (by decide) (hts _ wd_6_53) (fun _ h9 => h9) rfl dX12_hall_124 ?_
  refine lv_iconst (v := 0) hx hb dX12_hall_127 (by decide) ?_
  refine va_iald hx hb hK hP 1 0 rfl rfl (vp_in_iff.mpr (by decide)) dX12_hall_128 ?_
  refine cv_topi (b := 0) (rfl) ?_
  exact W.iret (v := 0) hx hb hr (fun t ht hW => ⟨⟨0, (), rfl, rfl, trivial⟩, hS.F ht⟩) hS.2.2 dX12_hall_129

/- X12_image -/
set_option maxHeartbeats 4000000 in
set_option maxRecDepth 100000 in
theorem m_image (l : Launch) (dC : Nat → ClassId) (dI : Nat → Nat → Nat) (cyI cyB cyJ cyZ cyH cyN : ClassId) (sz : Nat) (m0 mwidth mmany mcells mmoved mtape mlines mhas mtold mlaw msuit mapart mact misKept mseen mhung mgoal mleaps mqueue mrow mwanted mfirst moften mlots mthen : Nat) (p0 : Int32) : Met l yX12_image (wk yX12_image cX12_image 2 (some .int)) ({ frames := 3, cells := 0, slots := 0, locals := 106 }) (va_Pc [.ref m0, .int p0] (fun U => U.heap.size = sz ∧ va_P (dC, dI) vwCl [(m0, .inr (11, [.int 0, .ref mwidth, .ref mmany, .ref mcells, .ref mmoved, .ref mtape, .int 0, .int 0, .int 0, .int 0, .int 0, .long 0, .int 0, .int 0, .int 0, .int (-1), .ref mlines, .ref mhas, .ref mtold, .ref mlaw, .ref msuit, .ref mapart, .ref mact, .ref misKept, .ref mseen, .ref mhung, .int 0, .ref mgoal, .ref mleaps, .ref mqueue, .ref mrow, .int 0, .ref mwanted, .ref mfirst, .ref moften, .int 0, .int 0, .int 0, .int 0, .int 0, .int 0, .ref mlots, .ref mthen, .long 0])), (mlines, .inl (cyI, 5, .inl (fun _ => 0))), (mhas, .inl (cyI, 20, .inl (fun _ => 0))), (mtold, .inl (cyI, 35, .inl (fun _ => 0))), (mlaw, .inl (cyI, 120, .inl (fun _ => 0))), (msuit, .inl (cyI, 245, .inl (fun _ => 0))), (mapart, .inl (cyI, 35, .inl (fun _ => 0))), (mact, .inl (cyI, 400, .inl (fun _ => 0))), (misKept, .inl (cyZ, 3, .inl (fun _ => 0)))] U.heap ∧ va_K (dC, dI) vwCl [(cyI, .int), (cyB, .byte), (cyJ, .long), (cyZ, .boolean), (cyH, .object RX2), (cyN, .array .long)] U ∧ va_D (fun _ => True) [(m0, .inr (11, [.int 0, .ref mwidth, .ref mmany, .ref mcells, .ref mmoved, .ref mtape, .int 0, .int 0, .int 0, .int 0, .int 0, .long 0, .int 0, .int 0, .int 0, .int (-1), .ref mlines, .ref mhas, .ref mtold, .ref mlaw, .ref msuit, .ref mapart, .ref mact, .ref misKept, .ref mseen, .ref mhung, .int 0, .ref mgoal, .ref mleaps, .ref mqueue, .ref mrow, .int 0, .ref mwanted, .ref mfirst, .ref moften, .int 0, .int 0, .int 0, .int 0, .int 0, .int 0, .ref mlots, .ref mthen, .long 0])), (mlines, .inl (cyI, 5, .inl (fun _ => 0))), (mhas, .inl (cyI, 20, .inl (fun _ => 0))), (mtold, .inl (cyI, 35, .inl (fun _ => 0))), (mlaw, .inl (cyI, 120, .inl (fun _ => 0))), (msuit, .inl (cyI, 245, .inl (fun _ => 0))), (mapart, .inl (cyI, 35, .inl (fun _ => 0))), (mact, .inl (cyI, 400, .inl (fun _ => 0))), (misKept, .inl (cyZ, 3, .inl (fun _ => 0)))])) (va_Qi (fun (r : Int32) (_ : Unit) => r = (if 0 ≤ p0.toInt ∧ p0.toInt ≤ 2 then 0 else (-2))) (fun (_ : Unit) (_ : State) => True) (va_A [(m0, .inr (11, [.int 0, .ref mwidth, .ref mmany, .ref mcells, .ref mmoved, .ref mtape, .int 0, .int 0, .int 0, .int 0, .int 0, .long 0, .int 0, .int 0, .int 0, .int (-1), .ref mlines, .ref mhas, .ref mtold, .ref mlaw, .ref msuit, .ref mapart, .ref mact, .ref misKept, .ref mseen, .ref mhung, .int 0, .ref mgoal, .ref mleaps, .ref mqueue, .ref mrow, .int 0, .ref mwanted, .ref mfirst, .ref moften, .int 0, .int 0, .int 0, .int 0, .int 0, .int 0, .ref mlots, .ref mthen, .long 0])), (mlines, .inl (cyI, 5, .inl (fun _ => 0))), (mhas, .inl (cyI, 20, .inl (fun _ => 0))), (mtold, .inl (cyI, 35, .inl (fun _ => 0))), (mlaw, .inl (cyI, 120, .inl (fun _ => 0))), (msuit, .inl (cyI, 245, .inl (fun _ => 0))), (mapart, .inl (cyI, 35, .inl (fun _ => 0))), (mact, .inl (cyI, 400, .inl (fun _ => 0))), (misKept, .inl (cyZ, 3, .inl (fun _ => 0)))] sz)) 0 0 (va_A [(m0, .inr (11, [.int 0, .ref mwidth, .ref mmany, .ref mcells, .ref mmoved, .ref mtape, .int 0, .int 0, .int 0, .int 0, .int 0, .long 0, .int 0, .int 0, .int 0, .int (-1), .ref mlines, .ref mhas, .ref mtold, .ref mlaw, .ref msuit, .ref mapart, .ref mact, .ref misKept, .ref mseen, .ref mhung, .int 0, .ref mgoal, .ref mleaps, .ref mqueue, .ref mrow, .int 0, .ref mwanted, .ref mfirst, .ref moften, .int 0, .int 0, .int 0, .int 0, .int 0, .int 0, .ref mlots, .ref mthen, .long 0])), (mlines, .inl (cyI, 5, .inl (fun _ => 0))), (mhas, .inl (cyI, 20, .inl (fun _ => 0))), (mtold, .inl (cyI, 35, .inl (fun _ => 0))), (mlaw, .inl (cyI, 120, .inl (fun _ => 0))), (msuit, .inl (cyI, 245, .inl (fun _ => 0))), (mapart, .inl (cyI, 35, .inl (fun _ => 0))), (mact, .inl (cyI, 400, .inl (fun _ => 0))), (misKept, .inl (cyZ, 3, .inl (fun _ => 0)))] sz) := by
  refine Met.ofW (cc := cX12_image) (maxL := 2) (ret := (some .int)) (by decide) rfl ?_
  intro p e s m args below meth c s₁ B hml hv
  obtain ⟨rfl, hsz, hP, hK, hD0⟩ := hv
  have hx := B.exec
  have hb := B.bytes
  have hr := B.returns
  have hts : ∀ w ∈ uU, w.before ([.ref m0, .int p0] : List Value).toArray s = true := fun w h => atoms_spec (ws := wk yX12_image cX12_image 2 (some .int)) B.pre w (List.mem_cons_of_mem _ h)
  have hown : s.vm.findClass RX12 = some m.cls := findClass_of_methodNamed B.named
  have hlocks := B.notSynchronized
  subst hsz
  have hD := hD0.self (sz := s.heap.size)
  generalize hAe : va_A [(m0, .inr (11, [.int 0, .ref mwidth, .ref mmany, .ref mcells, .ref mmoved, .ref mtape, .int 0, .int 0, .int 0, .int 0, .int 0, .long 0, .int 0, .int 0, .int 0, .int (-1), .ref mlines, .ref mhas, .ref mtold, .ref mlaw, .ref msuit, .ref mapart, .ref mact, .ref misKept, .ref mseen, .ref mhung, .int 0, .ref mgoal, .ref mleaps, .ref mqueue, .ref mrow, .int 0, .ref mwanted, .ref mfirst, .ref moften, .int 0, .int 0, .int 0, .int 0, .int 0, .int 0, .ref mlots, .ref mthen, .long 0])), (mlines, .inl (cyI, 5, .inl (fun _ => 0))), (mhas, .inl (cyI, 20, .inl (fun _ => 0))), (mtold, .inl (cyI, 35, .inl (fun _ => 0))), (mlaw, .inl (cyI, 120, .inl (fun _ => 0))), (msuit, .inl (cyI, 245, .inl (fun _ => 0))), (mapart, .inl (cyI, 35, .inl (fun _ => 0))), (mact, .inl (cyI, 400, .inl (fun _ => 0))), (misKept, .inl (cyZ, 3, .inl (fun _ => 0)))] s.heap.size = A at hD ⊢
  have hA : ∀ q : Nat, s.heap.size ≤ q → A q := fun q h => by rw [← hAe]; exact Or.inr h
  have hS : va_S A s.heap s.heap [] := va_S.rf
  have hP : va_P (dC, dI) vwCl [(m0, .inr (11, [.int 0, .ref mwidth, .ref mmany, .ref mcells, .ref mmoved, .ref mtape, .int 0, .int 0, .int 0, .int 0, .int 0, .long 0, .int 0, .int 0, .int 0, .int (-1), .ref mlines, .ref mhas, .ref mtold, .ref mlaw, .ref msuit, .ref mapart, .ref mact, .ref misKept, .ref mseen, .ref mhung, .int 0, .ref mgoal, .ref mleaps, .ref mqueue, .ref mrow, .int 0, .ref mwanted, .ref mfirst, .ref moften, .int 0, .int 0, .int 0, .int 0, .int 0, .int 0, .ref mlots, .ref mthen, .long 0])), (mlines, .inl (cyI, 5, .inl (fun _ => 0))), (mhas, .inl (cyI, 20, .inl (fun _ => 0))), (mtold, .inl (cyI, 35, .inl (fun _ => 0))), (mlaw, .inl (cyI, 120, .inl (fun _ => 0))), (msuit, .inl (cyI, 245, .inl (fun _ => 0))), (mapart, .inl (cyI, 35, .inl (fun _ => 0))), (mact, .inl (cyI, 400, .inl (fun _ => 0))), (misKept, .inl (cyZ, 3, .inl (fun _ => 0)))] s.heap := hP
  have hl := lv_entry ([.ref m0, .int p0]) (n := 2) (Nat.le_of_ble_eq_true rfl)
  rw [lg_entry_eq]
  generalize (lg_sl ([.ref m0, .int p0]) ++ List.replicate (2 - (lg_sl ([.ref m0, .int p0])).length) Slot.unset).toArray = ls at hl ⊢
  have hl : lv_has ls 2 [(0, .ref m0), (1, .int p0)] := hl
  obtain ⟨H, hHe⟩ : ∃ H, H = s.heap := ⟨_, rfl⟩
  have hP : va_P (dC, dI) vwCl [(m0, .inr (11, [.int 0, .ref mwidth, .ref mmany, .ref mcells, .ref mmoved, .ref mtape, .int 0, .int 0, .int 0, .int 0, .int 0, .long 0, .int 0, .int 0, .int 0, .int (-1), .ref mlines, .ref mhas, .ref mtold, .ref mlaw, .ref msuit, .ref mapart, .ref mact, .ref misKept, .ref mseen, .ref mhung, .int 0, .ref mgoal, .ref mleaps, .ref mqueue, .ref mrow, .int 0, .ref mwanted, .ref mfirst, .ref moften, .int 0, .int 0, .int 0, .int 0, .int 0, .int 0, .ref mlots, .ref mthen, .long 0])), (mlines, .inl (cyI, 5, .inl (fun _ => 0))), (mhas, .inl (cyI, 20, .inl (fun _ => 0))), (mtold, .inl (cyI, 35, .inl (fun _ => 0))), (mlaw, .inl (cyI, 120, .inl (fun _ => 0))), (msuit, .inl (cyI, 245, .inl (fun _ => 0))), (mapart, .inl (cyI, 35, .inl (fun _ => 0))), (mact, .inl (cyI, 400, .inl (fun _ => 0))), (misKept, .inl (cyZ, 3, .inl (fun _ => 0)))] H := by rw [hHe]; exact hP
  have hS : va_S A s.heap H [] := by rw [hHe]; exact hS
  refine cv_heap hHe ?_
  refine lv_aload_n hx hb dX12_image_0 rfl (lv_at hl 0 rfl) ?_
  refine lv_iconst (v := 0) hx hb dX12_image_1 (by decide) ?_
  refine va_put (D := (dC, dI)) (ci := 11) (v := .int 0) (ty := .int) (C := RX12) (T := TX12) (N := 44) hx hb hts uinX12 tyX12 tyX12_ok nmX12 hown hK hP hD hS 0 rfl rfl 0 (by decide) (hts _ wd_6_37) (fun _ h9 => h9) rfl (by decide +kernel) rfl rfl (Nat.le_of_ble_eq_true rfl) dX12_image_2 (fun H locs hP hD hS => ?_)
  have hP : va_P (dC, dI) vwCl [(m0, .inr (11, [.int 0, .ref mwidth, .ref mmany, .ref mcells, .ref mmoved, .ref mtape, .int 0, .int 0, .int 0, .int 0, .int 0, .long 0, .int 0, .int 0, .int 0, .int (-1), .ref mlines, .ref mhas, .ref mtold, .ref mlaw, .ref msuit, .ref mapart, .ref mact, .ref misKept, .ref mseen, .ref mhung, .int 0, .ref mgoal, .ref mleaps, .ref mqueue, .ref mrow, .int 0, .ref mwanted, .ref mfirst, .ref moften, .int 0, .int 0, .int 0, .int 0, .int 0, .int 0, .ref mlots, .ref mthen, .long 0])), (mlines, .inl (cyI, 5, .inl (fun _ => 0))), (mhas, .inl (cyI, 20, .inl (fun _ => 0))), (mtold, .inl (cyI, 35, .inl (fun _ => 0))), (mlaw, .inl (cyI, 120, .inl (fun _ => 0))), (msuit, .inl (cyI, 245, .inl (fun _ => 0))), (mapart, .inl (cyI, 35, .inl (fun _ => 0))), (mact, .inl (cyI, 400, .inl (fun _ => 0))), (misKept, .inl (cyZ, 3, .inl (fun _ => 0)))] H := hP
  have hD : va_D A [(m0, .inr (11, [.int 0, .ref mwidth, .ref mmany, .ref mcells, .ref mmoved, .ref mtape, .int 0, .int 0, .int 0, .int 0, .int 0, .long 0, .int 0, .int 0, .int 0, .int (-1), .ref mlines, .ref mhas, .ref mtold, .ref mlaw, .ref msuit, .ref mapart, .ref mact, .ref misKept, .ref mseen, .ref mhung, .int 0, .ref mgoal, .ref mleaps, .ref mqueue, .ref mrow, .int 0, .ref mwanted, .ref mfirst, .ref moften, .int 0, .int 0, .int 0, .int 0, .int 0, .int 0, .ref mlots, .ref mthen, .long 0])), (mlines, .inl (cyI, 5, .inl (fun _ => 0))), (mhas, .inl (cyI, 20, .inl (fun _ => 0))), (mtold, .inl (cyI, 35, .inl (fun _ => 0))), (mlaw, .inl (cyI, 120, .inl (fun _ => 0))), (msuit, .inl (cyI, 245, .inl (fun _ => 0))), (mapart, .inl (cyI, 35, .inl (fun _ => 0))), (mact, .inl (cyI, 400, .inl (fun _ => 0))), (misKept, .inl (cyZ, 3, .inl (fun _ => 0)))] := hD
  refine lv_iload_n hx hb dX12_image_5 rfl (lv_at hl 1 rfl) ?_
  obtain ⟨y_1, ey_1⟩ : ∃ z : Int64, z = p0.toInt64 := ⟨_, rfl⟩
  have fy_1 : y_1.toInt = p0.toInt := by rw [ey_1]; exact Int32.toInt_toInt64 _
  refine lv_i2l (v := y_1) hx hb dX12_image_6 ey_1.symm ?_
  refine lv_lconst (v := 0) hx hb dX12_image_7 (by decide) ?_
  refine lv_ldc2 (v := 2) hx hb hown (hts _ wd_9_4) dX12_image_8 ?_
  refine vp_callSi (va_Run.run (va_runS (As := [.long y_1, .long 0, .long 2]) (rest := []) ⟨hx, hb, hml, hown, hts⟩ (m_in l dC dI cyI cyB cyJ cyZ cyH cyN y_1 0 2) (va_cwS 3 hts (gdS wd_6_178 wd_6_179 wd_1_11 wd_6_180) rfl rfl rfl (by decide +kernel) ⟨Nat.le_of_ble_eq_true rfl, Nat.le_of_ble_eq_true rfl⟩) ⟨fun a U g mk q => q, fun U hU hW => ⟨rfl, trivial⟩⟩ rfl rfl hl.1 rfl (lv_room (Nat.le_of_ble_eq_true rfl)) dX12_image_11 ⟨Nat.le_of_ble_eq_true rfl, Nat.le_of_ble_eq_true rfl⟩)) (fun r_2 hw => ?_)
  by_cases c_3 : ((0 : Int64).toInt ≤ y_1.toInt ∧ y_1.toInt ≤ (2 : Int64).toInt)
  · rw [if_pos c_3] at hw; subst hw; have c_3 : (0 ≤ y_1.toInt ∧ y_1.toInt ≤ 2) := c_3
    refine lv_if_ne (tgt := 20) hx hb dX12_image_14 (by decide) (fun _ => ?_) (fun c_4 => absurd c_4 (by decide))
    rcases (show p0.toInt = 0 ∨ p0.toInt = 1 ∨ p0.toInt = 2 by omega) with c_5 | c_5 | c_5
    · obtain rfl : p0 = 0 := Int32.toInt_inj.mp c_5
      refine lv_aload_n hx hb dX12_image_20 rfl (lv_at hl 0 rfl) ?_
      refine lv_iconst (v := 0) hx hb dX12_image_21 (by decide) ?_
      refine lv_iconst (v := 1) hx hb dX12_image_22 (by decide) ?_
      refine lv_iload_n hx hb dX12_image_23 rfl (lv_at hl 1 rfl) ?_
      refine lv_iadd hx hb dX12_image_24 ?_
      refine cv_topi (b := 1) (by decide) ?_
      have hPc := hP.sub (ws' := [(m0, .inr (11, [.int 0, .ref mwidth, .ref mmany, .ref mcells, .ref mmoved, .ref mtape, .int 0, .int 0, .int 0, .int 0, .int 0, .long 0, .int 0, .int 0, .int 0, .int (-1), .ref mlines, .ref mhas, .ref mtold, .ref mlaw, .ref msuit, .ref mapart, .ref mact, .ref misKept, .ref mseen, .ref mhung, .int 0, .ref mgoal, .ref mleaps, .ref mqueue, .ref mrow, .int 0, .ref mwanted, .ref mfirst, .ref moften, .int 0, .int 0, .int 0, .int 0, .int 0, .int 0, .ref mlots, .ref mthen, .long 0])), (mlines, .inl (cyI, 5, .inl (fun _ => 0))), (mhas, .inl (cyI, 20, .inl (fun _ => 0))), (mtold, .inl (cyI, 35, .inl (fun _ => 0))), (mlaw, .inl (cyI, 120, .inl (fun _ => 0))), (msuit, .inl (cyI, 245, .inl (fun _ => 0))), (mapart, .inl (cyI, 35, .inl (fun _ => 0))), (mact, .inl (cyI, 400, .inl (fun _ => 0)))]) [0, 1, 2, 3, 4, 5, 6, 7] rfl
      have hKc := hK.sub (tys' := [(cyI, .int), (cyB, .byte), (cyJ, .long), (cyZ, .boolean), (cyH, .object RX2), (cyN, .array .long)]) [0, 1, 2, 3, 4, 5] rfl
      have hDc := hD.sub (ws' := [(m0, .inr (11, [.int 0, .ref mwidth, .ref mmany, .ref mcells, .ref mmoved, .ref mtape, .int 0, .int 0, .int 0, .int 0, .int 0, .long 0, .int 0, .int 0, .int 0, .int (-1), .ref mlines, .ref mhas, .ref mtold, .ref mlaw, .ref msuit, .ref mapart, .ref mact, .ref misKept, .ref mseen, .ref mhung, .int 0, .ref mgoal, .ref mleaps, .ref mqueue, .ref mrow, .int 0, .ref mwanted, .ref mfirst, .ref moften, .int 0, .int 0, .int 0, .int 0, .int 0, .int 0, .ref mlots, .ref mthen, .long 0])), (mlines, .inl (cyI, 5, .inl (fun _ => 0))), (mhas, .inl (cyI, 20, .inl (fun _ => 0))), (mtold, .inl (cyI, 35, .inl (fun _ => 0))), (mlaw, .inl (cyI, 120, .inl (fun _ => 0))), (msuit, .inl (cyI, 245, .inl (fun _ => 0))), (mapart, .inl (cyI, 35, .inl (fun _ => 0))), (mact, .inl (cyI, 400, .inl (fun _ => 0)))]) [0, 1, 2, 3, 4, 5, 6, 7] (by decide) rfl
      have hFc := va_free (wc := [(m0, .inr (11, [.int 0, .ref mwidth, .ref mmany, .ref mcells, .ref mmoved, .ref mtape, .int 0, .int 0, .int 0, .int 0, .int 0, .long 0, .int 0, .int 0, .int 0, .int (-1), .ref mlines, .ref mhas, .ref mtold, .ref mlaw, .ref msuit, .ref mapart, .ref mact, .ref misKept, .ref mseen, .ref mhung, .int 0, .ref mgoal, .ref mleaps, .ref mqueue, .ref mrow, .int 0, .ref mwanted, .ref mfirst, .ref moften, .int 0, .int 0, .int 0, .int 0, .int 0, .int 0, .ref mlots, .ref mthen, .long 0])), (mlines, .inl (cyI, 5, .inl (fun _ => 0))), (mhas, .inl (cyI, 20, .inl (fun _ => 0))), (mtold, .inl (cyI, 35, .inl (fun _ => 0))), (mlaw, .inl (cyI, 120, .inl (fun _ => 0))), (msuit, .inl (cyI, 245, .inl (fun _ => 0))), (mapart, .inl (cyI, 35, .inl (fun _ => 0))), (mact, .inl (cyI, 400, .inl (fun _ => 0)))]) hD hS hA [0, 1, 2, 3, 4, 5, 6, 7] rfl
      refine va_callv (va_runV (As := [.int 0, .int 1]) (rest := []) ⟨hx, hb, hml, hown, hts⟩ (m_copyHall_01 l dC dI cyI cyB cyJ cyZ cyH cyN H.size m0 mwidth mmany mcells mmoved mtape mlines mhas mtold mlaw msuit mapart mact misKept mseen mhung mgoal mleaps mqueue mrow mwanted mfirst moften mlots mthen 0 (fun _ => 0) (fun _ => 0) (fun _ => 0) (fun _ => 0) (fun _ => 0) (fun _ => 0)) (cwV 2 hts (gdV wd_7_67 wd_7_69 wd_s4_12 wd_1_11 wd_7_70) rfl rfl rfl (by decide +kernel) ⟨Nat.le_of_ble_eq_true rfl, Nat.le_of_ble_eq_true rfl⟩) ⟨fun a U g mk q => by obtain ⟨q0, q1, qP, qK, qD⟩ := q; exact ⟨q0, q1, qP, va_K.moved (u := U) (U := U.calling g mk a) (Vm.Alike.refl U.vm) qK, qD⟩, va_recv hKc hPc (ci := 11) (q0 := 0) rfl rfl, fun U hU hW => ⟨rfl, by rw [hU], by rw [hU]; exact hPc, va_K.moved hW.alike hKc, hDc.weaken (fun _ _ _ _ => trivial)⟩⟩ rfl rfl hl.1 rfl (lv_room (Nat.le_of_ble_eq_true rfl)) dX12_image_25 ⟨Nat.le_of_ble_eq_true rfl, Nat.le_of_ble_eq_true rfl⟩) hS (fun q _ h => hFc q h) hFc (fun  u t H1 locs ht hvm hw hB hz1 hk1 hS => ?_)
      obtain ⟨hP1, hD1⟩ := hB
      rw [ht] at hP1
      obtain ⟨hP, hD⟩ := va_join (wr := [(misKept, .inl (cyZ, 3, .inl (fun _ => 0)))]) (w1 := [(m0, .inr (11, [.int 0, .ref mwidth, .ref mmany, .ref mcells, .ref mmoved, .ref mtape, .int 0, .int 0, .int 0, .int 0, .int 0, .long 0, .int 0, .int 0, .int 0, .int (-1), .ref mlines, .ref mhas, .ref mtold, .ref mlaw, .ref msuit, .ref mapart, .ref mact, .ref misKept, .ref mseen, .ref mhung, .int 0, .ref mgoal, .ref mleaps, .ref mqueue, .ref mrow, .int 0, .ref mwanted, .ref mfirst, .ref moften, .int 0, .int 0, .int 0, .int 0, .int 0, .int 0, .ref mlots, .ref mthen, .long 0])), (mlines, .inl (cyI, 5, .inl (fun _ => 0)))]) hP hD [0, 1, 2, 3, 4, 5, 6, 7] [8] rfl rfl (by decide) (by decide) hk1 hFc hP1 hD1
      generalize H1 = H at hP hS ⊢
      have hP : va_P (dC, dI) vwCl [(misKept, .inl (cyZ, 3, .inl (fun _ => 0))), (m0, .inr (11, [.int 0, .ref mwidth, .ref mmany, .ref mcells, .ref mmoved, .ref mtape, .int 0, .int 0, .int 0, .int 0, .int 0, .long 0, .int 0, .int 0, .int 0, .int (-1), .ref mlines, .ref mhas, .ref mtold, .ref mlaw, .ref msuit, .ref mapart, .ref mact, .ref misKept, .ref mseen, .ref mhung, .int 0, .ref mgoal, .ref mleaps, .ref mqueue, .ref mrow, .int 0, .ref mwanted, .ref mfirst, .ref moften, .int 0, .int 0, .int 0, .int 0, .int 0, .int 0, .ref mlots, .ref mthen, .long 0])), (mlines, .inl (cyI, 5, .inl (fun _ => 0)))] H := hP
      have hD : va_D A [(misKept, .inl (cyZ, 3, .inl (fun _ => 0))), (m0, .inr (11, [.int 0, .ref mwidth, .ref mmany, .ref mcells, .ref mmoved, .ref mtape, .int 0, .int 0, .int 0, .int 0, .int 0, .long 0, .int 0, .int 0, .int 0, .int (-1), .ref mlines, .ref mhas, .ref mtold, .ref mlaw, .ref msuit, .ref mapart, .ref mact, .ref misKept, .ref mseen, .ref mhung, .int 0, .ref mgoal, .ref mleaps, .ref mqueue, .ref mrow, .int 0, .ref mwanted, .ref mfirst, .ref moften, .int 0, .int 0, .int 0, .int 0, .int 0, .int 0, .ref mlots, .ref mthen, .long 0])), (mlines, .inl (cyI, 5, .inl (fun _ => 0)))] := hD
      refine lv_aload_n hx hb dX12_image_28 rfl (lv_at hl 0 rfl) ?_
      refine va_get (D := (dC, dI)) (ci := 11) (v := .ref misKept) (C := RX12) (T := TX12) (N := 44) hx hb hts uinX12 hown hK hP 1 rfl rfl 23 (by decide) (hts _ wd_6_60) (fun _ h9 => h9) rfl dX12_image_29 ?_
      refine lv_iload_n hx hb dX12_image_32 rfl (lv_at hl 1 rfl) ?_
      refine lv_iconst (v := 1) hx hb dX12_image_33 (by decide) ?_
      refine va_zast hx hb hK hP hD hS 0 3 rfl rfl (vp_in_iff.mpr (by decide)) dX12_image_34 (fun H locs hP hD hS => ?_)
      obtain ⟨f_6, ef_6⟩ : ∃ z9 : Nat → Int32, z9 = upd (fun _ => 0) (0 : Int32).toNatClampNeg (vp_nar .boolean 1) := ⟨_, rfl⟩
      rw [← ef_6] at hP hD
      have hP : va_P (dC, dI) vwCl [(misKept, .inl (cyZ, 3, .inl f_6)), (m0, .inr (11, [.int 0, .ref mwidth, .ref mmany, .ref mcells, .ref mmoved, .ref mtape, .int 0, .int 0, .int 0, .int 0, .int 0, .long 0, .int 0, .int 0, .int 0, .int (-1), .ref mlines, .ref mhas, .ref mtold, .ref mlaw, .ref msuit, .ref mapart, .ref mact, .ref misKept, .ref mseen, .ref mhung, .int 0, .ref mgoal, .ref mleaps, .ref mqueue, .ref mrow, .int 0, .ref mwanted, .ref mfirst, .ref moften, .int 0, .int 0, .int 0, .int 0, .int 0, .int 0, .ref mlots, .ref mthen, .long 0])), (mlines, .inl (cyI, 5, .inl (fun _ => 0)))] H := hP
      have hD : va_D A [(misKept, .inl (cyZ, 3, .inl f_6)), (m0, .inr (11, [.int 0, .ref mwidth, .ref mmany, .ref mcells, .ref mmoved, .ref mtape, .int 0, .int 0, .int 0, .int 0, .int 0, .long 0, .int 0, .int 0, .int 0, .int (-1), .ref mlines, .ref mhas, .ref mtold, .ref mlaw, .ref msuit, .ref mapart, .ref mact, .ref misKept, .ref mseen, .ref mhung, .int 0, .ref mgoal, .ref mleaps, .ref mqueue, .ref mrow, .int 0, .ref mwanted, .ref mfirst, .ref moften, .int 0, .int 0, .int 0, .int 0, .int 0, .int 0, .ref mlots, .ref mthen, .long 0])), (mlines, .inl (cyI, 5, .inl (fun _ => 0)))] := hD
      refine lv_iconst (v := 0) hx hb dX12_image_35 (by decide) ?_
      exact W.iret (v := 0) hx hb hr (fun t ht hW => ⟨⟨0, (), rfl, (by first | (rw [if_pos (by omega)]; done) | (rw [if_neg (by omega)]; done) | (rw [if_neg (by omega), if_pos (by omega)]; done) | (rw [if_neg (by omega), if_neg (by omega)]; done)), trivial⟩, hS.F ht⟩) hS.2.2 dX12_image_36
    · obtain rfl : p0 = 1 := Int32.toInt_inj.mp c_5
      refine lv_aload_n hx hb dX12_image_20 rfl (lv_at hl 0 rfl) ?_
      refine lv_iconst (v := 0) hx hb dX12_image_21 (by decide) ?_
      refine lv_iconst (v := 1) hx hb dX12_image_22 (by decide) ?_
      refine lv_iload_n hx hb dX12_image_23 rfl (lv_at hl 1 rfl) ?_
      refine lv_iadd hx hb dX12_image_24 ?_
      refine cv_topi (b := 2) (by decide) ?_
      have hPc := hP.sub (ws' := [(m0, .inr (11, [.int 0, .ref mwidth, .ref mmany, .ref mcells, .ref mmoved, .ref mtape, .int 0, .int 0, .int 0, .int 0, .int 0, .long 0, .int 0, .int 0, .int 0, .int (-1), .ref mlines, .ref mhas, .ref mtold, .ref mlaw, .ref msuit, .ref mapart, .ref mact, .ref misKept, .ref mseen, .ref mhung, .int 0, .ref mgoal, .ref mleaps, .ref mqueue, .ref mrow, .int 0, .ref mwanted, .ref mfirst, .ref moften, .int 0, .int 0, .int 0, .int 0, .int 0, .int 0, .ref mlots, .ref mthen, .long 0])), (mlines, .inl (cyI, 5, .inl (fun _ => 0))), (mhas, .inl (cyI, 20, .inl (fun _ => 0))), (mtold, .inl (cyI, 35, .inl (fun _ => 0))), (mlaw, .inl (cyI, 120, .inl (fun _ => 0))), (msuit, .inl (cyI, 245, .inl (fun _ => 0))), (mapart, .inl (cyI, 35, .inl (fun _ => 0))), (mact, .inl (cyI, 400, .inl (fun _ => 0)))]) [0, 1, 2, 3, 4, 5, 6, 7] rfl
      have hKc := hK.sub (tys' := [(cyI, .int), (cyB, .byte), (cyJ, .long), (cyZ, .boolean), (cyH, .object RX2), (cyN, .array .long)]) [0, 1, 2, 3, 4, 5] rfl
      have hDc := hD.sub (ws' := [(m0, .inr (11, [.int 0, .ref mwidth, .ref mmany, .ref mcells, .ref mmoved, .ref mtape, .int 0, .int 0, .int 0, .int 0, .int 0, .long 0, .int 0, .int 0, .int 0, .int (-1), .ref mlines, .ref mhas, .ref mtold, .ref mlaw, .ref msuit, .ref mapart, .ref mact, .ref misKept, .ref mseen, .ref mhung, .int 0, .ref mgoal, .ref mleaps, .ref mqueue, .ref mrow, .int 0, .ref mwanted, .ref mfirst, .ref moften, .int 0, .int 0, .int 0, .int 0, .int 0, .int 0, .ref mlots, .ref mthen, .long 0])), (mlines, .inl (cyI, 5, .inl (fun _ => 0))), (mhas, .inl (cyI, 20, .inl (fun _ => 0))), (mtold, .inl (cyI, 35, .inl (fun _ => 0))), (mlaw, .inl (cyI, 120, .inl (fun _ => 0))), (msuit, .inl (cyI, 245, .inl (fun _ => 0))), (mapart, .inl (cyI, 35, .inl (fun _ => 0))), (mact, .inl (cyI, 400, .inl (fun _ => 0)))]) [0, 1, 2, 3, 4, 5, 6, 7] (by decide) rfl
      have hFc := va_free (wc := [(m0, .inr (11, [.int 0, .ref mwidth, .ref mmany, .ref mcells, .ref mmoved, .ref mtape, .int 0, .int 0, .int 0, .int 0, .int 0, .long 0, .int 0, .int 0, .int 0, .int (-1), .ref mlines, .ref mhas, .ref mtold, .ref mlaw, .ref msuit, .ref mapart, .ref mact, .ref misKept, .ref mseen, .ref mhung, .int 0, .ref mgoal, .ref mleaps, .ref mqueue, .ref mrow, .int 0, .ref mwanted, .ref mfirst, .ref moften, .int 0, .int 0, .int 0, .int 0, .int 0, .int 0, .ref mlots, .ref mthen, .long 0])), (mlines, .inl (cyI, 5, .inl (fun _ => 0))), (mhas, .inl (cyI, 20, .inl (fun _ => 0))), (mtold, .inl (cyI, 35, .inl (fun _ => 0))), (mlaw, .inl (cyI, 120, .inl (fun _ => 0))), (msuit, .inl (cyI, 245, .inl (fun _ => 0))), (mapart, .inl (cyI, 35, .inl (fun _ => 0))), (mact, .inl (cyI, 400, .inl (fun _ => 0)))]) hD hS hA [0, 1, 2, 3, 4, 5, 6, 7] rfl
      refine va_callv (va_runV (As := [.int 0, .int 2]) (rest := []) ⟨hx, hb, hml, hown, hts⟩ (m_copyHall_02 l dC dI cyI cyB cyJ cyZ cyH cyN H.size m0 mwidth mmany mcells mmoved mtape mlines mhas mtold mlaw msuit mapart mact misKept mseen mhung mgoal mleaps mqueue mrow mwanted mfirst moften mlots mthen 0 (fun _ => 0) (fun _ => 0) (fun _ => 0) (fun _ => 0) (fun _ => 0) (fun _ => 0)) (cwV 2 hts (gdV wd_7_67 wd_7_69 wd_s4_12 wd_1_11 wd_7_70) rfl rfl rfl (by decide +kernel) ⟨Nat.le_of_ble_eq_true rfl, Nat.le_of_ble_eq_true rfl⟩) ⟨fun a U g mk q => by obtain ⟨q0, q1, qP, qK, qD⟩ := q; exact ⟨q0, q1, qP, va_K.moved (u := U) (U := U.calling g mk a) (Vm.Alike.refl U.vm) qK, qD⟩, va_recv hKc hPc (ci := 11) (q0 := 0) rfl rfl, fun U hU hW => ⟨rfl, by rw [hU], by rw [hU]; exact hPc, va_K.moved hW.alike hKc, hDc.weaken (fun _ _ _ _ => trivial)⟩⟩ rfl rfl hl.1 rfl (lv_room (Nat.le_of_ble_eq_true rfl)) dX12_image_25 ⟨Nat.le_of_ble_eq_true rfl, Nat.le_of_ble_eq_true rfl⟩) hS (fun q _ h => hFc q h) hFc (fun  u t H1 locs ht hvm hw hB hz1 hk1 hS => ?_)
      obtain ⟨hP1, hD1⟩ := hB
      rw [ht] at hP1
      obtain ⟨hP, hD⟩ := va_join (wr := [(misKept, .inl (cyZ, 3, .inl (fun _ => 0)))]) (w1 := [(m0, .inr (11, [.int 0, .ref mwidth, .ref mmany, .ref mcells, .ref mmoved, .ref mtape, .int 0, .int 0, .int 0, .int 0, .int 0, .long 0, .int 0, .int 0, .int 0, .int (-1), .ref mlines, .ref mhas, .ref mtold, .ref mlaw, .ref msuit, .ref mapart, .ref mact, .ref misKept, .ref mseen, .ref mhung, .int 0, .ref mgoal, .ref mleaps, .ref mqueue, .ref mrow, .int 0, .ref mwanted, .ref mfirst, .ref moften, .int 0, .int 0, .int 0, .int 0, .int 0, .int 0, .ref mlots, .ref mthen, .long 0])), (mlines, .inl (cyI, 5, .inl (fun _ => 0)))]) hP hD [0, 1, 2, 3, 4, 5, 6, 7] [8] rfl rfl (by decide) (by decide) hk1 hFc hP1 hD1
      generalize H1 = H at hP hS ⊢
      have hP : va_P (dC, dI) vwCl [(misKept, .inl (cyZ, 3, .inl (fun _ => 0))), (m0, .inr (11, [.int 0, .ref mwidth, .ref mmany, .ref mcells, .ref mmoved, .ref mtape, .int 0, .int 0, .int 0, .int 0, .int 0, .long 0, .int 0, .int 0, .int 0, .int (-1), .ref mlines, .ref mhas, .ref mtold, .ref mlaw, .ref msuit, .ref mapart, .ref mact, .ref misKept, .ref mseen, .ref mhung, .int 0, .ref mgoal, .ref mleaps, .ref mqueue, .ref mrow, .int 0, .ref mwanted, .ref mfirst, .ref moften, .int 0, .int 0, .int 0, .int 0, .int 0, .int 0, .ref mlots, .ref mthen, .long 0])), (mlines, .inl (cyI, 5, .inl (fun _ => 0)))] H := hP
      have hD : va_D A [(misKept, .inl (cyZ, 3, .inl (fun _ => 0))), (m0, .inr (11, [.int 0, .ref mwidth, .ref mmany, .ref mcells, .ref mmoved, .ref mtape, .int 0, .int 0, .int 0, .int 0, .int 0, .long 0, .int 0, .int 0, .int 0, .int (-1), .ref mlines, .ref mhas, .ref mtold, .ref mlaw, .ref msuit, .ref mapart, .ref mact, .ref misKept, .ref mseen, .ref mhung, .int 0, .ref mgoal, .ref mleaps, .ref mqueue, .ref mrow, .int 0, .ref mwanted, .ref mfirst, .ref moften, .int 0, .int 0, .int 0, .int 0, .int 0, .int 0, .ref mlots, .ref mthen, .long 0])), (mlines, .inl (cyI, 5, .inl (fun _ => 0)))] := hD
      refine lv_aload_n hx hb dX12_image_28 rfl (lv_at hl 0 rfl) ?_
      refine va_get (D := (dC, dI)) (ci := 11) (v := .ref misKept) (C := RX12) (T := TX12) (N := 44) hx hb hts uinX12 hown hK hP 1 rfl rfl 23 (by decide) (hts _ wd_6_60) (fun _ h9 => h9) rfl dX12_image_29 ?_
      refine lv_iload_n hx hb dX12_image_32 rfl (lv_at hl 1 rfl) ?_
      refine lv_iconst (v := 1) hx hb dX12_image_33 (by decide) ?_
      refine va_zast hx hb hK hP hD hS 0 3 rfl rfl (vp_in_iff.mpr (by decide)) dX12_image_34 (fun H locs hP hD hS => ?_)
      obtain ⟨f_7, ef_7⟩ : ∃ z9 : Nat → Int32, z9 = upd (fun _ => 0) (1 : Int32).toNatClampNeg (vp_nar .boolean 1) := ⟨_, rfl⟩
      rw [← ef_7] at hP hD
      have hP : va_P (dC, dI) vwCl [(misKept, .inl (cyZ, 3, .inl f_7)), (m0, .inr (11, [.int 0, .ref mwidth, .ref mmany, .ref mcells, .ref mmoved, .ref mtape, .int 0, .int 0, .int 0, .int 0, .int 0, .long 0, .int 0, .int 0, .int 0, .int (-1), .ref mlines, .ref mhas, .ref mtold, .ref mlaw, .ref msuit, .ref mapart, .ref mact, .ref misKept, .ref mseen, .ref mhung, .int 0, .ref mgoal, .ref mleaps, .ref mqueue, .ref mrow, .int 0, .ref mwanted, .ref mfirst, .ref moften, .int 0, .int 0, .int 0, .int 0, .int 0, .int 0, .ref mlots, .ref mthen, .long 0])), (mlines, .inl (cyI, 5, .inl (fun _ => 0)))] H := hP
      have hD : va_D A [(misKept, .inl (cyZ, 3, .inl f_7)), (m0, .inr (11, [.int 0, .ref mwidth, .ref mmany, .ref mcells, .ref mmoved, .ref mtape, .int 0, .int 0, .int 0, .int 0, .int 0, .long 0, .int 0, .int 0, .int 0, .int (-1), .ref mlines, .ref mhas, .ref mtold, .ref mlaw, .ref msuit, .ref mapart, .ref mact, .ref misKept, .ref mseen, .ref mhung, .int 0, .ref mgoal, .ref mleaps, .ref mqueue, .ref mrow, .int 0, .ref mwanted, .ref mfirst, .ref moften, .int 0, .int 0, .int 0, .int 0, .int 0, .int 0, .ref mlots, .ref mthen, .long 0])), (mlines, .inl (cyI, 5, .inl (fun _ => 0)))] := hD
      refine lv_iconst (v := 0) hx hb dX12_image_35 (by decide) ?_
      exact W.iret (v := 0) hx hb hr (fun t ht hW => ⟨⟨0, (), rfl, (by first | (rw [if_pos (by omega)]; done) | (rw [if_neg (by omega)]; done) | (rw [if_neg (by omega), if_pos (by omega)]; done) | (rw [if_neg (by omega), if_neg (by omega)]; done)), trivial⟩, hS.F ht⟩) hS.2.2 dX12_image_36
    · obtain rfl : p0 = 2 := Int32.toInt_inj.mp c_5
      refine lv_aload_n hx hb dX12_image_20 rfl (lv_at hl 0 rfl) ?_
      refine lv_iconst (v := 0) hx hb dX12_image_21 (by decide) ?_
      refine lv_iconst (v := 1) hx hb dX12_image_22 (by decide) ?_
      refine lv_iload_n hx hb dX12_image_23 rfl (lv_at hl 1 rfl) ?_
      refine lv_iadd hx hb dX12_image_24 ?_
      refine cv_topi (b := 3) (by decide) ?_
      have hPc := hP.sub (ws' := [(m0, .inr (11, [.int 0, .ref mwidth, .ref mmany, .ref mcells, .ref mmoved, .ref mtape, .int 0, .int 0, .int 0, .int 0, .int 0, .long 0, .int 0, .int 0, .int 0, .int (-1), .ref mlines, .ref mhas, .ref mtold, .ref mlaw, .ref msuit, .ref mapart, .ref mact, .ref misKept, .ref mseen, .ref mhung, .int 0, .ref mgoal, .ref mleaps, .ref mqueue, .ref mrow, .int 0, .ref mwanted, .ref mfirst, .ref moften, .int 0, .int 0, .int 0, .int 0, .int 0, .int 0, .ref mlots, .ref mthen, .long 0])), (mlines, .inl (cyI, 5, .inl (fun _ => 0))), (mhas, .inl (cyI, 20, .inl (fun _ => 0))), (mtold, .inl (cyI, 35, .inl (fun _ => 0))), (mlaw, .inl (cyI, 120, .inl (fun _ => 0))), (msuit, .inl (cyI, 245, .inl (fun _ => 0))), (mapart, .inl (cyI, 35, .inl (fun _ => 0))), (mact, .inl (cyI, 400, .inl (fun _ => 0)))]) [0, 1, 2, 3, 4, 5, 6, 7] rfl
      have hKc := hK.sub (tys' := [(cyI, .int), (cyB, .byte), (cyJ, .long), (cyZ, .boolean), (cyH, .object RX2), (cyN, .array .long)]) [0, 1, 2, 3, 4, 5] rfl
      have hDc := hD.sub (ws' := [(m0, .inr (11, [.int 0, .ref mwidth, .ref mmany, .ref mcells, .ref mmoved, .ref mtape, .int 0, .int 0, .int 0, .int 0, .int 0, .long 0, .int 0, .int 0, .int 0, .int (-1), .ref mlines, .ref mhas, .ref mtold, .ref mlaw, .ref msuit, .ref mapart, .ref mact, .ref misKept, .ref mseen, .ref mhung, .int 0, .ref mgoal, .ref mleaps, .ref mqueue, .ref mrow, .int 0, .ref mwanted, .ref mfirst, .ref moften, .int 0, .int 0, .int 0, .int 0, .int 0, .int 0, .ref mlots, .ref mthen, .long 0])), (mlines, .inl (cyI, 5, .inl (fun _ => 0))), (mhas, .inl (cyI, 20, .inl (fun _ => 0))), (mtold, .inl (cyI, 35, .inl (fun _ => 0))), (mlaw, .inl (cyI, 120, .inl (fun _ => 0))), (msuit, .inl (cyI, 245, .inl (fun _ => 0))), (mapart, .inl (cyI, 35, .inl (fun _ => 0))), (mact, .inl (cyI, 400, .inl (fun _ => 0)))]) [0, 1, 2, 3, 4, 5, 6, 7] (by decide) rfl
      have hFc := va_free (wc := [(m0, .inr (11, [.int 0, .ref mwidth, .ref mmany, .ref mcells, .ref mmoved, .ref mtape, .int 0, .int 0, .int 0, .int 0, .int 0, .long 0, .int 0, .int 0, .int 0, .int (-1), .ref mlines, .ref mhas, .ref mtold, .ref mlaw, .ref msuit, .ref mapart, .ref mact, .ref misKept, .ref mseen, .ref mhung, .int 0, .ref mgoal, .ref mleaps, .ref mqueue, .ref mrow, .int 0, .ref mwanted, .ref mfirst, .ref moften, .int 0, .int 0, .int 0, .int 0, .int 0, .int 0, .ref mlots, .ref mthen, .long 0])), (mlines, .inl (cyI, 5, .inl (fun _ => 0))), (mhas, .inl (cyI, 20, .inl (fun _ => 0))), (mtold, .inl (cyI, 35, .inl (fun _ => 0))), (mlaw, .inl (cyI, 120, .inl (fun _ => 0))), (msuit, .inl (cyI, 245, .inl (fun _ => 0))), (mapart, .inl (cyI, 35, .inl (fun _ => 0))), (mact, .inl (cyI, 400, .inl (fun _ => 0)))]) hD hS hA [0, 1, 2, 3, 4, 5, 6, 7] rfl
      refine va_callv (va_runV (As := [.int 0, .int 3]) (rest := []) ⟨hx, hb, hml, hown, hts⟩ (m_copyHall_03 l dC dI cyI cyB cyJ cyZ cyH cyN H.size m0 mwidth mmany mcells mmoved mtape mlines mhas mtold mlaw msuit mapart mact misKept mseen mhung mgoal mleaps mqueue mrow mwanted mfirst moften mlots mthen 0 (fun _ => 0) (fun _ => 0) (fun _ => 0) (fun _ => 0) (fun _ => 0) (fun _ => 0)) (cwV 2 hts (gdV wd_7_67 wd_7_69 wd_s4_12 wd_1_11 wd_7_70) rfl rfl rfl (by decide +kernel) ⟨Nat.le_of_ble_eq_true rfl, Nat.le_of_ble_eq_true rfl⟩) ⟨fun a U g mk q => by obtain ⟨q0, q1, qP, qK, qD⟩ := q; exact ⟨q0, q1, qP, va_K.moved (u := U) (U := U.calling g mk a) (Vm.Alike.refl U.vm) qK, qD⟩, va_recv hKc hPc (ci := 11) (q0 := 0) rfl rfl, fun U hU hW => ⟨rfl, by rw [hU], by rw [hU]; exact hPc, va_K.moved hW.alike hKc, hDc.weaken (fun _ _ _ _ => trivial)⟩⟩ rfl rfl hl.1 rfl (lv_room (Nat.le_of_ble_eq_true rfl)) dX12_image_25 ⟨Nat.le_of_ble_eq_true rfl, Nat.le_of_ble_eq_true rfl⟩) hS (fun q _ h => hFc q h) hFc (fun  u t H1 locs ht hvm hw hB hz1 hk1 hS => ?_)
      obtain ⟨hP1, hD1⟩ := hB
      rw [ht] at hP1
      obtain ⟨hP, hD⟩ := va_join (wr := [(misKept, .inl (cyZ, 3, .inl (fun _ => 0)))]) (w1 := [(m0, .inr (11, [.int 0, .ref mwidth, .ref mmany, .ref mcells, .ref mmoved, .ref mtape, .int 0, .int 0, .int 0, .int 0, .int 0, .long 0, .int 0, .int 0, .int 0, .int (-1), .ref mlines, .ref mhas, .ref mtold, .ref mlaw, .ref msuit, .ref mapart, .ref mact, .ref misKept, .ref mseen, .ref mhung, .int 0, .ref mgoal, .ref mleaps, .ref mqueue, .ref mrow, .int 0, .ref mwanted, .ref mfirst, .ref moften, .int 0, .int 0, .int 0, .int 0, .int 0, .int 0, .ref mlots, .ref mthen, .long 0])), (mlines, .inl (cyI, 5, .inl (fun _ => 0)))]) hP hD [0, 1, 2, 3, 4, 5, 6, 7] [8] rfl rfl (by decide) (by decide) hk1 hFc hP1 hD1
      generalize H1 = H at hP hS ⊢
      have hP : va_P (dC, dI) vwCl [(misKept, .inl (cyZ, 3, .inl (fun _ => 0))), (m0, .inr (11, [.int 0, .ref mwidth, .ref mmany, .ref mcells, .ref mmoved, .ref mtape, .int 0, .int 0, .int 0, .int 0, .int 0, .long 0, .int 0, .int 0, .int 0, .int (-1), .ref mlines, .ref mhas, .ref mtold, .ref mlaw, .ref msuit, .ref mapart, .ref mact, .ref misKept, .ref mseen, .ref mhung, .int 0, .ref mgoal, .ref mleaps, .ref mqueue, .ref mrow, .int 0, .ref mwanted, .ref mfirst, .ref moften, .int 0, .int 0, .int 0, .int 0, .int 0, .int 0, .ref mlots, .ref mthen, .long 0])), (mlines, .inl (cyI, 5, .inl (fun _ => 0)))] H := hP
      have hD : va_D A [(misKept, .inl (cyZ, 3, .inl (fun _ => 0))), (m0, .inr (11, [.int 0, .ref mwidth, .ref mmany, .ref mcells, .ref mmoved, .ref mtape, .int 0, .int 0, .int 0, .int 0, .int 0, .long 0, .int 0, .int 0, .int 0, .int (-1), .ref mlines, .ref mhas, .ref mtold, .ref mlaw, .ref msuit, .ref mapart, .ref mact, .ref misKept, .ref mseen, .ref mhung, .int 0, .ref mgoal, .ref mleaps, .ref mqueue, .ref mrow, .int 0, .ref mwanted, .ref mfirst, .ref moften, .int 0, .int 0, .int 0, .int 0, .int 0, .int 0, .ref mlots, .ref mthen, .long 0])), (mlines, .inl (cyI, 5, .inl (fun _ => 0)))] := hD
      refine lv_aload_n hx hb dX12_image_28 rfl (lv_at hl 0 rfl) ?_
      refine va_get (D := (dC, dI)) (ci := 11) (v := .ref misKept) (C := RX12) (T := TX12) (N := 44) hx hb hts uinX12 hown hK hP 1 rfl rfl 23 (by decide) (hts _ wd_6_60) (fun _ h9 => h9) rfl dX12_image_29 ?_
      refine lv_iload_n hx hb dX12_image_32 rfl (lv_at hl 1 rfl) ?_
      refine lv_iconst (v := 1) hx hb dX12_image_33 (by decide) ?_
      refine va_zast hx hb hK hP hD hS 0 3 rfl rfl (vp_in_iff.mpr (by decide)) dX12_image_34 (fun H locs hP hD hS => ?_)
      obtain ⟨f_8, ef_8⟩ : ∃ z9 : Nat → Int32, z9 = upd (fun _ => 0) (2 : Int32).toNatClampNeg (vp_nar .boolean 1) := ⟨_, rfl⟩
      rw [← ef_8] at hP hD
      have hP : va_P (dC, dI) vwCl [(misKept, .inl (cyZ, 3, .inl f_8)), (m0, .inr (11, [.int 0, .ref mwidth, .ref mmany, .ref mcells, .ref mmoved, .ref mtape, .int 0, .int 0, .int 0, .int 0, .int 0, .long 0, .int 0, .int 0, .int 0, .int (-1), .ref mlines, .ref mhas, .ref mtold, .ref mlaw, .ref msuit, .ref mapart, .ref mact, .ref misKept, .ref mseen, .ref mhung, .int 0, .ref mgoal, .ref mleaps, .ref mqueue, .ref mrow, .int 0, .ref mwanted, .ref mfirst, .ref moften, .int 0, .int 0, .int 0, .int 0, .int 0, .int 0, .ref mlots, .ref mthen, .long 0])), (mlines, .inl (cyI, 5, .inl (fun _ => 0)))] H := hP
      have hD : va_D A [(misKept, .inl (cyZ, 3, .inl f_8)), (m0, .inr (11, [.int 0, .ref mwidth, .ref mmany, .ref mcells, .ref mmoved, .ref mtape, .int 0, .int 0, .int 0, .int 0, .int 0, .long 0, .int 0, .int 0, .int 0, .int (-1), .ref mlines, .ref mhas, .ref mtold, .ref mlaw, .ref msuit, .ref mapart, .ref mact, .ref misKept, .ref mseen, .ref mhung, .int 0, .ref mgoal, .ref mleaps, .ref mqueue, .ref mrow, .int 0, .ref mwanted, .ref mfirst, .ref moften, .int 0, .int 0, .int 0, .int 0, .int 0, .int 0, .ref mlots, .ref mthen, .long 0])), (mlines, .inl (cyI, 5, .inl (fun _ => 0)))] := hD
      refine lv_iconst (v := 0) hx hb dX12_image_35 (by decide) ?_
      exact W.iret (v := 0) hx hb hr (fun t ht hW => ⟨⟨0, (), rfl, (by first | (rw [if_pos (by omega)]; done) | (rw [if_neg (by omega)]; done) | (rw [if_neg (by omega), if_pos (by omega)]; done) | (rw [if_neg (by omega), if_neg (by omega)]; done)), trivial⟩, hS.F ht⟩) hS.2.2 dX12_image_36
  · rw [if_neg c_3] at hw; subst hw; have c_3 : ¬ (0 ≤ y_1.toInt ∧ y_1.toInt ≤ 2) := c_3
    refine lv_if_ne (tgt := 20) hx hb dX12_image_14 (by decide) (fun c_9 => absurd c_9 (by decide)) (fun _ => ?_)
    refine lv_bipush (v := (-2)) hx hb dX12_image_17 (by decide) ?_
    exact W.iret (v := (-2)) hx hb hr (fun t ht hW => ⟨⟨(-2), (), rfl, (by first | (rw [if_pos (by omega)]; done) | (rw [if_neg (by omega)]; done) | (rw [if_neg (by omega), if_pos (by omega)]; done) | (rw [if_neg (by omega), if_neg (by omega)]; done)), trivial⟩, hS.F ht⟩) hS.2.2 dX12_image_19

/- X12_row -/
set_option maxHeartbeats 4000000 in
set_option maxRecDepth 100000 in
theorem m_row (l : Launch) (dC : Nat → ClassId) (dI : Nat → Nat → Nat) (cyI cyB cyJ cyZ cyH cyN : ClassId) (sz : Nat) (m0 mwidth mmany mcells mmoved mtape mlines mhas mtold mlaw msuit mapart mact misKept mseen mhung mgoal mleaps mqueue mrow mwanted mfirst moften mlots mthen : Nat) (wF : Nat → Int32) (p0 p1 p2 : Int32) : Met l yX12_row (wk yX12_row cX12_row 5 (some .int)) ({ frames := 3, cells := 0, slots := 0, locals := 105 }) (va_Pc [.ref m0, .int p0, .int p1, .int p2] (fun U => U.heap.size = sz ∧ va_P (dC, dI) vwCl [(m0, .inr (11, [.int 0, .ref mwidth, .ref mmany, .ref mcells, .ref mmoved, .ref mtape, .int 0, .int 0, .int 0, .int 0, .int 0, .long 0, .int 0, .int 0, .int 0, .int (-1), .ref mlines, .ref mhas, .ref mtold, .ref mlaw, .ref msuit, .ref mapart, .ref mact, .ref misKept, .ref mseen, .ref mhung, .int 0, .ref mgoal, .ref mleaps, .ref mqueue, .ref mrow, .int 0, .ref mwanted, .ref mfirst, .ref moften, .int 0, .int 0, .int 0, .int 0, .int 0, .int 0, .ref mlots, .ref mthen, .long 0])), (mwidth, .inl (cyI, 4, .inl wF)), (mmany, .inl (cyI, 4, .inl (fun _ => 0))), (mcells, .inl (cyJ, 240, .inr (.inl (fun _ => 0))))] U.heap ∧ va_K (dC, dI) vwCl [(cyI, .int), (cyB, .byte), (cyJ, .long), (cyZ, .boolean), (cyH, .object RX2), (cyN, .array .long)] U ∧ va_D (fun _ => True) [(m0, .inr (11, [.int 0, .ref mwidth, .ref mmany, .ref mcells, .ref mmoved, .ref mtape, .int 0, .int 0, .int 0, .int 0, .int 0, .long 0, .int 0, .int 0, .int 0, .int (-1), .ref mlines, .ref mhas, .ref mtold, .ref mlaw, .ref msuit, .ref mapart, .ref mact, .ref misKept, .ref mseen, .ref mhung, .int 0, .ref mgoal, .ref mleaps, .ref mqueue, .ref mrow, .int 0, .ref mwanted, .ref mfirst, .ref moften, .int 0, .int 0, .int 0, .int 0, .int 0, .int 0, .ref mlots, .ref mthen, .long 0])), (mwidth, .inl (cyI, 4, .inl wF)), (mmany, .inl (cyI, 4, .inl (fun _ => 0))), (mcells, .inl (cyJ, 240, .inr (.inl (fun _ => 0))))])) (va_Qi (fun (r : Int32) (_ : Unit) => r = (if ¬ ((0 ≤ p0.toInt ∧ p0.toInt < 4) ∧ (0 ≤ p1.toInt ∧ p1.toInt < 4) ∧ p2.toInt ≤ 60) then (-2) else if p2.toInt < 0 then (-3) else 0)) (fun (_ : Unit) (_ : State) => True) (va_A [(m0, .inr (11, [.int 0, .ref mwidth, .ref mmany, .ref mcells, .ref mmoved, .ref mtape, .int 0, .int 0, .int 0, .int 0, .int 0, .long 0, .int 0, .int 0, .int 0, .int (-1), .ref mlines, .ref mhas, .ref mtold, .ref mlaw, .ref msuit, .ref mapart, .ref mact, .ref misKept, .ref mseen, .ref mhung, .int 0, .ref mgoal, .ref mleaps, .ref mqueue, .ref mrow, .int 0, .ref mwanted, .ref mfirst, .ref moften, .int 0, .int 0, .int 0, .int 0, .int 0, .int 0, .ref mlots, .ref mthen, .long 0])), (mwidth, .inl (cyI, 4, .inl wF)), (mmany, .inl (cyI, 4, .inl (fun _ => 0))), (mcells, .inl (cyJ, 240, .inr (.inl (fun _ => 0))))] sz)) 0 0 (va_A [(m0, .inr (11, [.int 0, .ref mwidth, .ref mmany, .ref mcells, .ref mmoved, .ref mtape, .int 0, .int 0, .int 0, .int 0, .int 0, .long 0, .int 0, .int 0, .int 0, .int (-1), .ref mlines, .ref mhas, .ref mtold, .ref mlaw, .ref msuit, .ref mapart, .ref mact, .ref misKept, .ref mseen, .ref mhung, .int 0, .ref mgoal, .ref mleaps, .ref mqueue, .ref mrow, .int 0, .ref mwanted, .ref mfirst, .ref moften, .int 0, .int 0, .int 0, .int 0, .int 0, .int 0, .ref mlots, .ref mthen, .long 0])), (mwidth, .inl (cyI, 4, .inl wF)), (mmany, .inl (cyI, 4, .inl (fun _ => 0))), (mcells, .inl (cyJ, 240, .inr (.inl (fun _ => 0))))] sz) := by
  refine Met.ofW (cc := cX12_row) (maxL := 5) (ret := (some .int)) (by decide) rfl ?_
  intro p e s m args below meth c s₁ B hml hv
  obtain ⟨rfl, hsz, hP, hK, hD0⟩ := hv
  have hx := B.exec
  have hb := B.bytes
  have hr := B.returns
  have hts : ∀ w ∈ uU, w.before ([.ref m0, .int p0, .int p1, .int p2] : List Value).toArray s = true := fun w h => atoms_spec (ws := wk yX12_row cX12_row 5 (some .int)) B.pre w (List.mem_cons_of_mem _ h)
  have hown : s.vm.findClass RX12 = some m.cls := findClass_of_methodNamed B.named
  have hlocks := B.notSynchronized
  subst hsz
  have hD := hD0.self (sz := s.heap.size)
  generalize hAe : va_A [(m0, .inr (11, [.int 0, .ref mwidth, .ref mmany, .ref mcells, .ref mmoved, .ref mtape, .int 0, .int 0, .int 0, .int 0, .int 0, .long 0, .int 0, .int 0, .int 0, .int (-1), .ref mlines, .ref mhas, .ref mtold, .ref mlaw, .ref msuit, .ref mapart, .ref mact, .ref misKept, .ref mseen, .ref mhung, .int 0, .ref mgoal, .ref mleaps, .ref mqueue, .ref mrow, .int 0, .ref mwanted, .ref mfirst, .ref moften, .int 0, .int 0, .int 0, .int 0, .int 0, .int 0, .ref mlots, .ref mthen, .long 0])), (mwidth, .inl (cyI, 4, .inl wF)), (mmany, .inl (cyI, 4, .inl (fun _ => 0))), (mcells, .inl (cyJ, 240, .inr (.inl (fun _ => 0))))] s.heap.size = A at hD ⊢
  have hA : ∀ q : Nat, s.heap.size ≤ q → A q := fun q h => by rw [← hAe]; exact Or.inr h
  have hS : va_S A s.heap s.heap [] := va_S.rf
  have hP : va_P (dC, dI) vwCl [(m0, .inr (11, [.int 0, .ref mwidth, .ref mmany, .ref mcells, .ref mmoved, .ref mtape, .int 0, .int 0, .int 0, .int 0, .int 0, .long 0, .int 0, .int 0, .int 0, .int (-1), .ref mlines, .ref mhas, .ref mtold, .ref mlaw, .ref msuit, .ref mapart, .ref mact, .ref misKept, .ref mseen, .ref mhung, .int 0, .ref mgoal, .ref mleaps, .ref mqueue, .ref mrow, .int 0, .ref mwanted, .ref mfirst, .ref moften, .int 0, .int 0, .int 0, .int 0, .int 0, .int 0, .ref mlots, .ref mthen, .long 0])), (mwidth, .inl (cyI, 4, .inl wF)), (mmany, .inl (cyI, 4, .inl (fun _ => 0))), (mcells, .inl (cyJ, 240, .inr (.inl (fun _ => 0))))] s.heap := hP
  have hl := lv_entry ([.ref m0, .int p0, .int p1, .int p2]) (n := 5) (Nat.le_of_ble_eq_true rfl)
  rw [lg_entry_eq]
  generalize (lg_sl ([.ref m0, .int p0, .int p1, .int p2]) ++ List.replicate (5 - (lg_sl ([.ref m0, .int p0, .int p1, .int p2])).length) Slot.unset).toArray = ls at hl ⊢
  have hl : lv_has ls 5 [(0, .ref m0), (1, .int p0), (2, .int p1), (3, .int p2)] := hl
  obtain ⟨H, hHe⟩ : ∃ H, H = s.heap := ⟨_, rfl⟩
  have hP : va_P (dC, dI) vwCl [(m0, .inr (11, [.int 0, .ref mwidth, .ref mmany, .ref mcells, .ref mmoved, .ref mtape, .int 0, .int 0, .int 0, .int 0, .int 0, .long 0, .int 0, .int 0, .int 0, .int (-1), .ref mlines, .ref mhas, .ref mtold, .ref mlaw, .ref msuit, .ref mapart, .ref mact, .ref misKept, .ref mseen, .ref mhung, .int 0, .ref mgoal, .ref mleaps, .ref mqueue, .ref mrow, .int 0, .ref mwanted, .ref mfirst, .ref moften, .int 0, .int 0, .int 0, .int 0, .int 0, .int 0, .ref mlots, .ref mthen, .long 0])), (mwidth, .inl (cyI, 4, .inl wF)), (mmany, .inl (cyI, 4, .inl (fun _ => 0))), (mcells, .inl (cyJ, 240, .inr (.inl (fun _ => 0))))] H := by rw [hHe]; exact hP
  have hS : va_S A s.heap H [] := by rw [hHe]; exact hS
  refine cv_heap hHe ?_
  refine lv_aload_n hx hb dX12_row_0 rfl (lv_at hl 0 rfl) ?_
  refine lv_iconst (v := 0) hx hb dX12_row_1 (by decide) ?_
  refine va_put (D := (dC, dI)) (ci := 11) (v := .int 0) (ty := .int) (C := RX12) (T := TX12) (N := 44) hx hb hts uinX12 tyX12 tyX12_ok nmX12 hown hK hP hD hS 0 rfl rfl 0 (by decide) (hts _ wd_6_37) (fun _ h9 => h9) rfl (by decide +kernel) rfl rfl (Nat.le_of_ble_eq_true rfl) dX12_row_2 (fun H locs hP hD hS => ?_)
  have hP : va_P (dC, dI) vwCl [(m0, .inr (11, [.int 0, .ref mwidth, .ref mmany, .ref mcells, .ref mmoved, .ref mtape, .int 0, .int 0, .int 0, .int 0, .int 0, .long 0, .int 0, .int 0, .int 0, .int (-1), .ref mlines, .ref mhas, .ref mtold, .ref mlaw, .ref msuit, .ref mapart, .ref mact, .ref misKept, .ref mseen, .ref mhung, .int 0, .ref mgoal, .ref mleaps, .ref mqueue, .ref mrow, .int 0, .ref mwanted, .ref mfirst, .ref moften, .int 0, .int 0, .int 0, .int 0, .int 0, .int 0, .ref mlots, .ref mthen, .long 0])), (mwidth, .inl (cyI, 4, .inl wF)), (mmany, .inl (cyI, 4, .inl (fun _ => 0))), (mcells, .inl (cyJ, 240, .inr (.inl (fun _ => 0))))] H := hP
  have hD : va_D A [(m0, .inr (11, [.int 0, .ref mwidth, .ref mmany, .ref mcells, .ref mmoved, .ref mtape, .int 0, .int 0, .int 0, .int 0, .int 0, .long 0, .int 0, .int 0, .int 0, .int (-1), .ref mlines, .ref mhas, .ref mtold, .ref mlaw, .ref msuit, .ref mapart, .ref mact, .ref misKept, .ref mseen, .ref mhung, .int 0, .ref mgoal, .ref mleaps, .ref mqueue, .ref mrow, .int 0, .ref mwanted, .ref mfirst, .ref moften, .int 0, .int 0, .int 0, .int 0, .int 0, .int 0, .ref mlots, .ref mthen, .long 0])), (mwidth, .inl (cyI, 4, .inl wF)), (mmany, .inl (cyI, 4, .inl (fun _ => 0))), (mcells, .inl (cyJ, 240, .inr (.inl (fun _ => 0))))] := hD
  refine lv_iload_n hx hb dX12_row_5 rfl (lv_at hl 1 rfl) ?_
  refine vp_callSi (va_Run.run (va_runS (As := [.int p0]) (rest := []) ⟨hx, hb, hml, hown, hts⟩ (m_isSlot l dC dI cyI cyB cyJ cyZ cyH cyN p0) (va_cwS 1 hts (gdS wd_6_174 wd_6_175 wd_1_11 wd_6_176) rfl rfl rfl (by decide +kernel) ⟨Nat.le_of_ble_eq_true rfl, Nat.le_of_ble_eq_true rfl⟩) ⟨fun a U g mk q => q, fun U hU hW => ⟨rfl, trivial⟩⟩ rfl rfl hl.1 rfl (lv_room (Nat.le_of_ble_eq_true rfl)) dX12_row_6 ⟨Nat.le_of_ble_eq_true rfl, Nat.le_of_ble_eq_true rfl⟩)) (fun r_1 hw => ?_)
  by_cases c_2 : (0 ≤ p0.toInt ∧ p0.toInt < 4)
  · rw [if_pos c_2] at hw; subst hw; have c_2 : (0 ≤ p0.toInt ∧ p0.toInt < 4) := c_2
    refine lv_if_eq (tgt := 30) hx hb dX12_row_9 (by decide) (fun c_3 => absurd c_3 (by decide)) (fun _ => ?_)
    refine lv_iload_n hx hb dX12_row_12 rfl (lv_at hl 2 rfl) ?_
    obtain ⟨y_4, ey_4⟩ : ∃ z : Int64, z = p1.toInt64 := ⟨_, rfl⟩
    have fy_4 : y_4.toInt = p1.toInt := by rw [ey_4]; exact Int32.toInt_toInt64 _
    refine lv_i2l (v := y_4) hx hb dX12_row_13 ey_4.symm ?_
    refine lv_lconst (v := 0) hx hb dX12_row_14 (by decide) ?_
    refine lv_ldc2 (v := 3) hx hb hown (hts _ wd_6_177) dX12_row_15 ?_
    refine vp_callSi (va_Run.run (va_runS (As := [.long y_4, .long 0, .long 3]) (rest := []) ⟨hx, hb, hml, hown, hts⟩ (m_in l dC dI cyI cyB cyJ cyZ cyH cyN y_4 0 3) (va_cwS 3 hts (gdS wd_6_178 wd_6_179 wd_1_11 wd_6_180) rfl rfl rfl (by decide +kernel) ⟨Nat.le_of_ble_eq_true rfl, Nat.le_of_ble_eq_true rfl⟩) ⟨fun a U g mk q => q, fun U hU hW => ⟨rfl, trivial⟩⟩ rfl rfl hl.1 rfl (lv_room (Nat.le_of_ble_eq_true rfl)) dX12_row_18 ⟨Nat.le_of_ble_eq_true rfl, Nat.le_of_ble_eq_true rfl⟩)) (fun r_5 hw => ?_)
    by_cases c_6 : ((0 : Int64).toInt ≤ y_4.toInt ∧ y_4.toInt ≤ (3 : Int64).toInt)
    · rw [if_pos c_6] at hw; subst hw; have c_6 : (0 ≤ y_4.toInt ∧ y_4.toInt ≤ 3) := c_6
      refine lv_if_eq (tgt := 30) hx hb dX12_row_21 (by decide) (fun c_7 => absurd c_7 (by decide)) (fun _ => ?_)
      refine lv_iload_n hx hb dX12_row_24 rfl (lv_at hl 3 rfl) ?_
      refine lv_bipush (v := 60) hx hb dX12_row_25 (by decide) ?_
      refine lv_icmp_le (tgt := 33) hx hb dX12_row_27 (by decide) (fun c_8 => ?_) (fun c_8 => ?_)
      · have c_8 : p2.toInt ≤ 60 := cv_le c_8
        refine lv_iload_n hx hb dX12_row_33 rfl (lv_at hl 3 rfl) ?_
        refine lv_if_ge (tgt := 40) hx hb dX12_row_34 (by decide) (fun c_9 => ?_) (fun c_9 => ?_)
        · have c_9 : 0 ≤ p2.toInt := cv_le c_9
          obtain ⟨N, hN, rfl⟩ : ∃ j : Nat, j < 2 ^ 31 ∧ p2 = nI j := cv_of (by omega)
          have hN9 : (nI N).toInt = (N : Int) := nI_toInt hN
          refine lv_aload_n hx hb dX12_row_40 rfl (lv_at hl 0 rfl) ?_
          refine va_get (D := (dC, dI)) (ci := 11) (v := .ref mwidth) (C := RX12) (T := TX12) (N := 44) hx hb hts uinX12 hown hK hP 0 rfl rfl 1 (by decide) (hts _ wd_6_38) (fun _ h9 => h9) rfl dX12_row_41 ?_
          refine lv_iload_n hx hb dX12_row_44 rfl (lv_at hl 1 rfl) ?_
          refine lv_iload_n hx hb dX12_row_45 rfl (lv_at hl 2 rfl) ?_
          refine va_iast hx hb hK hP hD hS 1 0 rfl rfl (vp_in_iff.mpr (by omega)) dX12_row_46 (fun H locs hP hD hS => ?_)
          obtain ⟨f_10, ef_10⟩ : ∃ z9 : Nat → Int32, z9 = upd wF p0.toNatClampNeg p1 := ⟨_, rfl⟩
          rw [← ef_10] at hP hD
          have hP : va_P (dC, dI) vwCl [(m0, .inr (11, [.int 0, .ref mwidth, .ref mmany, .ref mcells, .ref mmoved, .ref mtape, .int 0, .int 0, .int 0, .int 0, .int 0, .long 0, .int 0, .int 0, .int 0, .int (-1), .ref mlines, .ref mhas, .ref mtold, .ref mlaw, .ref msuit, .ref mapart, .ref mact, .ref misKept, .ref mseen, .ref mhung, .int 0, .ref mgoal, .ref mleaps, .ref mqueue, .ref mrow, .int 0, .ref mwanted, .ref mfirst, .ref moften, .int 0, .int 0, .int 0, .int 0, .int 0, .int 0, .ref mlots, .ref mthen, .long 0])), (mwidth, .inl (cyI, 4, .inl f_10)), (mmany, .inl (cyI, 4, .inl (fun _ => 0))), (mcells, .inl (cyJ, 240, .inr (.inl (fun _ => 0))))] H := hP
          have hD : va_D A [(m0, .inr (11, [.int 0, .ref mwidth, .ref mmany, .ref mcells, .ref mmoved, .ref mtape, .int 0, .int 0, .int 0, .int 0, .int 0, .long 0, .int 0, .int 0, .int 0, .int (-1), .ref mlines, .ref mhas, .ref mtold, .ref mlaw, .ref msuit, .ref mapart, .ref mact, .ref misKept, .ref mseen, .ref mhung, .int 0, .ref mgoal, .ref mleaps, .ref mqueue, .ref mrow, .int 0, .ref mwanted, .ref mfirst, .ref moften, .int 0, .int 0, .int 0, .int 0, .int 0, .int 0, .ref mlots, .ref mthen, .long 0])), (mwidth, .inl (cyI, 4, .inl f_10)), (mmany, .inl (cyI, 4, .inl (fun _ => 0))), (mcells, .inl (cyJ, 240, .inr (.inl (fun _ => 0))))] := hD
          refine lv_aload_n hx hb dX12_row_47 rfl (lv_at hl 0 rfl) ?_
          refine va_get (D := (dC, dI)) (ci := 11) (v := .ref mmany) (C := RX12) (T := TX12) (N := 44) hx hb hts uinX12 hown hK hP 0 rfl rfl 2 (by decide) (hts _ wd_6_39) (fun _ h9 => h9) rfl dX12_row_48 ?_
          refine lv_iload_n hx hb dX12_row_51 rfl (lv_at hl 1 rfl) ?_
          refine lv_iload_n hx hb dX12_row_52 rfl (lv_at hl 3 rfl) ?_
          refine va_iast hx hb hK hP hD hS 2 0 rfl rfl (vp_in_iff.mpr (by omega)) dX12_row_53 (fun H locs hP hD hS => ?_)
          obtain ⟨f_11, ef_11⟩ : ∃ z9 : Nat → Int32, z9 = upd (fun _ => 0) p0.toNatClampNeg (nI N) := ⟨_, rfl⟩
          rw [← ef_11] at hP hD
          have hP : va_P (dC, dI) vwCl [(m0, .inr (11, [.int 0, .ref mwidth, .ref mmany, .ref mcells, .ref mmoved, .ref mtape, .int 0, .int 0, .int 0, .int 0, .int 0, .long 0, .int 0, .int 0, .int 0, .int (-1), .ref mlines, .ref mhas, .ref mtold, .ref mlaw, .ref msuit, .ref mapart, .ref mact, .ref misKept, .ref mseen, .ref mhung, .int 0, .ref mgoal, .ref mleaps, .ref mqueue, .ref mrow, .int 0, .ref mwanted, .ref mfirst, .ref moften, .int 0, .int 0, .int 0, .int 0, .int 0, .int 0, .ref mlots, .ref mthen, .long 0])), (mwidth, .inl (cyI, 4, .inl f_10)), (mmany, .inl (cyI, 4, .inl f_11)), (mcells, .inl (cyJ, 240, .inr (.inl (fun _ => 0))))] H := hP
          have hD : va_D A [(m0, .inr (11, [.int 0, .ref mwidth, .ref mmany, .ref mcells, .ref mmoved, .ref mtape, .int 0, .int 0, .int 0, .int 0, .int 0, .long 0, .int 0, .int 0, .int 0, .int (-1), .ref mlines, .ref mhas, .ref mtold, .ref mlaw, .ref msuit, .ref mapart, .ref mact, .ref misKept, .ref mseen, .ref mhung, .int 0, .ref mgoal, .ref mleaps, .ref mqueue, .ref mrow, .int 0, .ref mwanted, .ref mfirst, .ref moften, .int 0, .int 0, .int 0, .int 0, .int 0, .int 0, .ref mlots, .ref mthen, .long 0])), (mwidth, .inl (cyI, 4, .inl f_10)), (mmany, .inl (cyI, 4, .inl f_11)), (mcells, .inl (cyJ, 240, .inr (.inl (fun _ => 0))))] := hD
          refine lv_iconst (v := 0) hx hb dX12_row_54 (by decide) ?_
          refine lv_istore (lv' := [(4, .int 0), (0, .ref m0), (1, .int p0), (2, .int p1), (3, .int (nI N))]) hx hb dX12_row_55 hl (by decide) rfl (fun ls hl => ?_)
          have key : ∀ (Q : State → Prop) (R : Room), (∀ (H : Heap) (locs : List Loc) (ls : Array Slot), va_P (dC, dI) vwCl [(m0, .inr (11, [.int 0, .ref mwidth, .ref mmany, .ref mcells, .ref mmoved, .ref mtape, .int 0, .int 0, .int 0, .int 0, .int 0, .long 0, .int 0, .int 0, .int 0, .int (-1), .ref mlines, .ref mhas, .ref mtold, .ref mlaw, .ref msuit, .ref mapart, .ref mact, .ref misKept, .ref mseen, .ref mhung, .int 0, .ref mgoal, .ref mleaps, .ref mqueue, .ref mrow, .int 0, .ref mwanted, .ref mfirst, .ref moften, .int 0, .int 0, .int 0, .int 0, .int 0, .int 0, .ref mlots, .ref mthen, .long 0])), (mwidth, .inl (cyI, 4, .inl f_10)), (mmany, .inl (cyI, 4, .inl f_11)), (mcells, .inl (cyJ, 240, .inr (.inl (fun _ => 0))))] H → va_D A [(m0, .inr (11, [.int 0, .ref mwidth, .ref mmany, .ref mcells, .ref mmoved, .ref mtape, .int 0, .int 0, .int 0, .int 0, .int 0, .long 0, .int 0, .int 0, .int 0, .int (-1), .ref mlines, .ref mhas, .ref mtold, .ref mlaw, .ref msuit, .ref mapart, .ref mact, .ref misKept, .ref mseen, .ref mhung, .int 0, .ref mgoal, .ref mleaps, .ref mqueue, .ref mrow, .int 0, .ref mwanted, .ref mfirst, .ref moften, .int 0, .int 0, .int 0, .int 0, .int 0, .int 0, .ref mlots, .ref mthen, .long 0])), (mwidth, .inl (cyI, 4, .inl f_10)), (mmany, .inl (cyI, 4, .inl f_11)), (mcells, .inl (cyJ, 240, .inr (.inl (fun _ => 0))))] → va_S A s.heap H locs → lv_has ls 5 [(4, .int (nI N)), (0, .ref m0), (1, .int p0), (2, .int p1), (3, .int (nI N))] → W p l e R s m ([.ref m0, .int p0, .int p1, .int (nI N)] : List Value).toArray below meth c H locs 0 0 Q (F0 m 82 ls [])) → ∀ (n k : Nat) (H : Heap) (locs : List Loc) (ls : Array Slot), k + n = N → va_P (dC, dI) vwCl [(m0, .inr (11, [.int 0, .ref mwidth, .ref mmany, .ref mcells, .ref mmoved, .ref mtape, .int 0, .int 0, .int 0, .int 0, .int 0, .long 0, .int 0, .int 0, .int 0, .int (-1), .ref mlines, .ref mhas, .ref mtold, .ref mlaw, .ref msuit, .ref mapart, .ref mact, .ref misKept, .ref mseen, .ref mhung, .int 0, .ref mgoal, .ref mleaps, .ref mqueue, .ref mrow, .int 0, .ref mwanted, .ref mfirst, .ref moften, .int 0, .int 0, .int 0, .int 0, .int 0, .int 0, .ref mlots, .ref mthen, .long 0])), (mwidth, .inl (cyI, 4, .inl f_10)), (mmany, .inl (cyI, 4, .inl f_11)), (mcells, .inl (cyJ, 240, .inr (.inl (fun _ => 0))))] H → va_D A [(m0, .inr (11, [.int 0, .ref mwidth, .ref mmany, .ref mcells, .ref mmoved, .ref mtape, .int 0, .int 0, .int 0, .int 0, .int 0, .long 0, .int 0, .int 0, .int 0, .int (-1), .ref mlines, .ref mhas, .ref mtold, .ref mlaw, .ref msuit, .ref mapart, .ref mact, .ref misKept, .ref mseen, .ref mhung, .int 0, .ref mgoal, .ref mleaps, .ref mqueue, .ref mrow, .int 0, .ref mwanted, .ref mfirst, .ref moften, .int 0, .int 0, .int 0, .int 0, .int 0, .int 0, .ref mlots, .ref mthen, .long 0])), (mwidth, .inl (cyI, 4, .inl f_10)), (mmany, .inl (cyI, 4, .inl f_11)), (mcells, .inl (cyJ, 240, .inr (.inl (fun _ => 0))))] → va_S A s.heap H locs → lv_has ls 5 [(4, .int (nI k)), (0, .ref m0), (1, .int p0), (2, .int p1), (3, .int (nI N))] → W p l e R s m ([.ref m0, .int p0, .int p1, .int (nI N)] : List Value).toArray below meth c H locs 0 0 Q (F0 m 57 ls []) := by
            intro Q R kx n
            induction n with
            | zero =>
              intro k H locs ls hn hP hD hS hl
              have hkN : k = N := by omega
              have hl : lv_has ls 5 [(4, .int (nI N)), (0, .ref m0), (1, .int p0), (2, .int p1), (3, .int (nI N))] := by rw [hkN] at hl; exact hl
              refine lv_iload hx hb dX12_row_57 (lv_at hl 0 rfl) ?_
              refine lv_iload_n hx hb dX12_row_59 rfl (lv_at hl 4 rfl) ?_
              refine lv_icmp_ge (tgt := 82) hx hb dX12_row_60 (by decide) (fun _ => ?_) (fun c_12 => absurd (show (nI N).toInt < (nI N).toInt from cv_nle c_12) (by omega))
              exact kx _ _ _ hP hD hS (lv_sub hl [0, 1, 2, 3, 4] rfl)
            | succ n ih =>
              intro k H locs ls hn hP hD hS hl
              have hk9 : (nI k).toInt = (k : Int) := nI_toInt (by omega)
              refine lv_iload hx hb dX12_row_57 (lv_at hl 0 rfl) ?_
              refine lv_iload_n hx hb dX12_row_59 rfl (lv_at hl 4 rfl) ?_
              refine lv_icmp_ge (tgt := 82) hx hb dX12_row_60 (by decide) (fun c_13 => absurd (show (nI N).toInt ≤ (nI k).toInt from cv_le c_13) (by omega)) (fun _ => ?_)
              refine lv_aload_n hx hb dX12_row_63 rfl (lv_at hl 1 rfl) ?_
              refine va_get (D := (dC, dI)) (ci := 11) (v := .ref mcells) (C := RX12) (T := TX12) (N := 44) hx hb hts uinX12 hown hK hP 0 rfl rfl 3 (by decide) (hts _ wd_6_40) (fun _ h9 => h9) rfl dX12_row_64 ?_
              refine lv_bipush (v := 60) hx hb dX12_row_67 (by decide) ?_
              refine lv_iload_n hx hb dX12_row_69 rfl (lv_at hl 2 rfl) ?_
              refine lv_imul hx hb dX12_row_70 ?_
              refine lv_topi (fun x_14 ex_14 => ?_)
              have fx_14 : x_14.toInt = 60 * p0.toInt := by rw [ex_14]; exact cv_mulI (by rw [show (60 : Int32).toInt = 60 from rfl]; omega) (by rw [show (60 : Int32).toInt = 60 from rfl]; omega)
              refine lv_iload hx hb dX12_row_71 (lv_at hl 0 rfl) ?_
              refine lv_iadd hx hb dX12_row_73 ?_
              refine lv_topi (fun x_15 ex_15 => ?_)
              have fx_15 : x_15.toInt = x_14.toInt + (nI k).toInt := by rw [ex_15]; exact cv_addI (by omega) (by omega)
              refine lv_lconst (v := 0) hx hb dX12_row_74 (by decide) ?_
              refine va_last hx hb hK hP hD hS 3 2 rfl rfl (vp_in_iff.mpr (by omega)) dX12_row_75 (fun H locs hP hD hS => ?_)
              rw [cv_updL0] at hP hD
              have hP : va_P (dC, dI) vwCl [(m0, .inr (11, [.int 0, .ref mwidth, .ref mmany, .ref mcells, .ref mmoved, .ref mtape, .int 0, .int 0, .int 0, .int 0, .int 0, .long 0, .int 0, .int 0, .int 0, .int (-1), .ref mlines, .ref mhas, .ref mtold, .ref mlaw, .ref msuit, .ref mapart, .ref mact, .ref misKept, .ref mseen, .ref mhung, .int 0, .ref mgoal, .ref mleaps, .ref mqueue, .ref mrow, .int 0, .ref mwanted, .ref mfirst, .ref moften, .int 0, .int 0, .int 0, .int 0, .int 0, .int 0, .ref mlots, .ref mthen, .long 0])), (mwidth, .inl (cyI, 4, .inl f_10)), (mmany, .inl (cyI, 4, .inl f_11)), (mcells, .inl (cyJ, 240, .inr (.inl (fun _ => 0))))] H := hP
              have hD : va_D A [(m0, .inr (11, [.int 0, .ref mwidth, .ref mmany, .ref mcells, .ref mmoved, .ref mtape, .int 0, .int 0, .int 0, .int 0, .int 0, .long 0, .int 0, .int 0, .int 0, .int (-1), .ref mlines, .ref mhas, .ref mtold, .ref mlaw, .ref msuit, .ref mapart, .ref mact, .ref misKept, .ref mseen, .ref mhung, .int 0, .ref mgoal, .ref mleaps, .ref mqueue, .ref mrow, .int 0, .ref mwanted, .ref mfirst, .ref moften, .int 0, .int 0, .int 0, .int 0, .int 0, .int 0, .ref mlots, .ref mthen, .long 0])), (mwidth, .inl (cyI, 4, .inl f_10)), (mmany, .inl (cyI, 4, .inl f_11)), (mcells, .inl (cyJ, 240, .inr (.inl (fun _ => 0))))] := hD
              obtain ⟨x_16, ex_16⟩ : ∃ y : Int32, y = (nI k) + 1 := ⟨_, rfl⟩
              refine lv_iinc (v := x_16) (lv' := [(4, .int x_16), (0, .ref m0), (1, .int p0), (2, .int p1), (3, .int (nI N))]) hx hb dX12_row_76 hl (k := 0) rfl (by rw [ex_16]; rfl) (by decide) rfl (fun ls hl => ?_)
              refine lv_goto (tgt := 57) hx hb dX12_row_79 (by decide) ?_
              have hl : lv_has ls 5 [(4, .int (nI (k + 1))), (0, .ref m0), (1, .int p0), (2, .int p1), (3, .int (nI N))] := by rw [← nI_1, ← ex_16]; exact hl
              exact ih (k + 1) _ _ _ (by omega) hP hD hS (lv_sub hl [0, 1, 2, 3, 4] rfl)
          refine key _ _ (fun H locs ls hP hD hS hl => ?_) N 0 _ _ _ (by omega) hP hD hS hl
          refine lv_iconst (v := 0) hx hb dX12_row_82 (by decide) ?_
          exact W.iret (v := 0) hx hb hr (fun t ht hW => ⟨⟨0, (), rfl, (by first | (rw [if_pos (by omega)]; done) | (rw [if_neg (by omega)]; done) | (rw [if_neg (by omega), if_pos (by omega)]; done) | (rw [if_neg (by omega), if_neg (by omega)]; done)), trivial⟩, hS.F ht⟩) hS.2.2 dX12_row_83
        · have c_9 : p2.toInt < 0 := cv_nle c_9
          refine lv_bipush (v := (-3)) hx hb dX12_row_37 (by decide) ?_
          exact W.iret (v := (-3)) hx hb hr (fun t ht hW => ⟨⟨(-3), (), rfl, (by first | (rw [if_pos (by omega)]; done) | (rw [if_neg (by omega)]; done) | (rw [if_neg (by omega), if_pos (by omega)]; done) | (rw [if_neg (by omega), if_neg (by omega)]; done)), trivial⟩, hS.F ht⟩) hS.2.2 dX12_row_39
      · have c_8 : 60 < p2.toInt := cv_nle c_8
        refine lv_bipush (v := (-2)) hx hb dX12_row_30 (by decide) ?_
        exact W.iret (v := (-2)) hx hb hr (fun t ht hW => ⟨⟨(-2), (), rfl, (by first | (rw [if_pos (by omega)]; done) | (rw [if_neg (by omega)]; done) | (rw [if_neg (by omega), if_pos (by omega)]; done) | (rw [if_neg (by omega), if_neg (by omega)]; done)), trivial⟩, hS.F ht⟩) hS.2.2 dX12_row_32
    · rw [if_neg c_6] at hw; subst hw; have c_6 : ¬ (0 ≤ y_4.toInt ∧ y_4.toInt ≤ 3) := c_6
      refine lv_if_eq (tgt := 30) hx hb dX12_row_21 (by decide) (fun _ => ?_) (fun c_17 => absurd c_17 (by decide))
      refine lv_bipush (v := (-2)) hx hb dX12_row_30 (by decide) ?_
      exact W.iret (v := (-2)) hx hb hr (fun t ht hW => ⟨⟨(-2), (), rfl, (by first | (rw [if_pos (by omega)]; done) | (rw [if_neg (by omega)]; done) | (rw [if_neg (by omega), if_pos (by omega)]; done) | (rw [if_neg (by omega), if_neg (by omega)]; done)), trivial⟩, hS.F ht⟩) hS.2.2 dX12_row_32
  · rw [if_neg c_2] at hw; subst hw; have c_2 : ¬ (0 ≤ p0.toInt ∧ p0.toInt < 4) := c_2
    refine lv_if_eq (tgt := 30) hx hb dX12_row_9 (by decide) (fun _ => ?_) (fun c_18 => absurd c_18 (by decide))
    refine lv_bipush (v := (-2)) hx hb dX12_row_30 (by decide) ?_
    exact W.iret (v := (-2)) hx hb hr (fun t ht hW => ⟨⟨(-2), (), rfl, (by first | (rw [if_pos (by omega)]; done) | (rw [if_neg (by omega)]; done) | (rw [if_neg (by omega), if_pos (by omega)]; done) | (rw [if_neg (by omega), if_neg (by omega)]; done)), trivial⟩, hS.F ht⟩) hS.2.2 dX12_row_32

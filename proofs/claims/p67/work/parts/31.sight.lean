/- X6_learn -/
set_option maxHeartbeats 4000000 in
set_option maxRecDepth 100000 in
theorem n_learn (l : Launch) (dC : Nat → ClassId) (dI : Nat → Nat → Nat) (cyI cyB cyJ cyZ cyH cyN : ClassId) (sz : Nat) (v0 v_hung : Nat) (v_pl v_kn v_un v_tr : Int32) (v_f : Nat → Int32) (p0 p1 : Int32) (g0 : rg (-1) 6 7 v_f) (g1 : 0 ≤ v_pl.toInt ∧ v_pl.toInt ≤ 7) (g2 : 0 ≤ v_kn.toInt ∧ v_kn.toInt ≤ 127) (g3 : 0 ≤ v_tr.toInt ∧ v_tr.toInt ≤ 1) (g4 : 0 ≤ p0.toInt ∧ p0.toInt ≤ 6) (g5 : 0 ≤ p1.toInt ∧ p1.toInt ≤ 6) (g6 : v_un.toInt = v_pl.toInt - cb v_kn v_pl.toInt.toNat) (g7 : p1.toInt < v_pl.toInt) : Met l yX6_learn (wk yX6_learn cX6_learn 3 none) ({ frames := 1, cells := 0, slots := 0, locals := 60 }) (va_Pc [.ref v0, .int p0, .int p1] (fun U => U.heap.size = sz ∧ va_P (dC, dI) vwCl [(v0, .inr (5, [.ref v_hung, .int v_pl, .int v_kn, .int v_un, .int v_tr])), (v_hung, .inl (cyI, 7, .inl v_f))] U.heap ∧ va_K (dC, dI) vwCl [(cyI, .int), (cyB, .byte), (cyJ, .long), (cyZ, .boolean), (cyH, .object RX2), (cyN, .array .long)] U ∧ va_D (fun _ => True) [(v0, .inr (5, [.ref v_hung, .int v_pl, .int v_kn, .int v_un, .int v_tr])), (v_hung, .inl (cyI, 7, .inl v_f))])) (va_Qv (fun _ : Unit => True) (fun (_ : Unit) (t : State) => ∃ z0 : Int32, ∃ z1 : Int32, ∃ z2 : Int32, ∃ y3 : Nat → Int32, (0 ≤ z0.toInt ∧ z0.toInt ≤ 127) ∧ ((-1) ≤ z1.toInt ∧ z1.toInt ≤ 7) ∧ (0 ≤ z2.toInt ∧ z2.toInt ≤ 1) ∧ (rg (-1) 6 7 y3) ∧ (z1.toInt = v_pl.toInt - cb z0 v_pl.toInt.toNat) ∧ va_P (dC, dI) vwCl [(v0, .inr (5, [.ref v_hung, .int v_pl, .int z0, .int z1, .int z2])), (v_hung, .inl (cyI, 7, .inl y3))] t.heap ∧ va_D (va_A [(v0, .inr (5, [.ref v_hung, .int v_pl, .int v_kn, .int v_un, .int v_tr])), (v_hung, .inl (cyI, 7, .inl v_f))] sz) [(v0, .inr (5, [.ref v_hung, .int v_pl, .int z0, .int z1, .int z2])), (v_hung, .inl (cyI, 7, .inl y3))]) (va_A [(v0, .inr (5, [.ref v_hung, .int v_pl, .int v_kn, .int v_un, .int v_tr])), (v_hung, .inl (cyI, 7, .inl v_f))] sz)) 0 0 (va_A [(v0, .inr (5, [.ref v_hung, .int v_pl, .int v_kn, .int v_un, .int v_tr])), (v_hung, .inl (cyI, 7, .inl v_f))] sz) := by
  refine Met.ofW (cc := cX6_learn) (maxL := 3) (ret := none) (by decide) rfl ?_
  intro p e s m args below meth c s₁ B hml hv
  obtain ⟨rfl, hsz, hP, hK, hD0⟩ := hv
  have hx := B.exec
  have hb := B.bytes
  have hr := B.returns
  have hts : ∀ w ∈ uU, w.before ([.ref v0, .int p0, .int p1] : List Value).toArray s = true := fun w h => atoms_spec (ws := wk yX6_learn cX6_learn 3 none) B.pre w (List.mem_cons_of_mem _ h)
  have hown : s.vm.findClass RX6 = some m.cls := findClass_of_methodNamed B.named
  have hlocks := B.notSynchronized
  subst hsz
  have hD := hD0.self (sz := s.heap.size)
  generalize hAe : va_A [(v0, .inr (5, [.ref v_hung, .int v_pl, .int v_kn, .int v_un, .int v_tr])), (v_hung, .inl (cyI, 7, .inl v_f))] s.heap.size = A at hD ⊢
  have hA : ∀ q : Nat, s.heap.size ≤ q → A q := fun q h => by rw [← hAe]; exact Or.inr h
  have hS : va_S A s.heap s.heap [] := va_S.rf
  have hP : va_P (dC, dI) vwCl [(v0, .inr (5, [.ref v_hung, .int v_pl, .int v_kn, .int v_un, .int v_tr])), (v_hung, .inl (cyI, 7, .inl v_f))] s.heap := hP
  have hl := lv_entry ([.ref v0, .int p0, .int p1]) (n := 3) (Nat.le_of_ble_eq_true rfl)
  rw [lg_entry_eq]
  generalize (lg_sl ([.ref v0, .int p0, .int p1]) ++ List.replicate (3 - (lg_sl ([.ref v0, .int p0, .int p1])).length) Slot.unset).toArray = ls at hl ⊢
  have hl : lv_has ls 3 [(0, .ref v0), (1, .int p0), (2, .int p1)] := hl
  obtain ⟨H, hHe⟩ : ∃ H, H = s.heap := ⟨_, rfl⟩
  have hP : va_P (dC, dI) vwCl [(v0, .inr (5, [.ref v_hung, .int v_pl, .int v_kn, .int v_un, .int v_tr])), (v_hung, .inl (cyI, 7, .inl v_f))] H := by rw [hHe]; exact hP
  have hS : va_S A s.heap H [] := by rw [hHe]; exact hS
  refine cv_heap hHe ?_
  obtain ⟨Q9, hQ9⟩ : ∃ Q9 : State → Prop, Q9 = MQ below (va_Qv (fun _ : Unit => True) (fun (_ : Unit) (t : State) => ∃ z0 : Int32, ∃ z1 : Int32, ∃ z2 : Int32, ∃ y3 : Nat → Int32, (0 ≤ z0.toInt ∧ z0.toInt ≤ 127) ∧ ((-1) ≤ z1.toInt ∧ z1.toInt ≤ 7) ∧ (0 ≤ z2.toInt ∧ z2.toInt ≤ 1) ∧ (rg (-1) 6 7 y3) ∧ (z1.toInt = v_pl.toInt - cb z0 v_pl.toInt.toNat) ∧ va_P (dC, dI) vwCl [(v0, .inr (5, [.ref v_hung, .int v_pl, .int z0, .int z1, .int z2])), (v_hung, .inl (cyI, 7, .inl y3))] t.heap ∧ va_D A [(v0, .inr (5, [.ref v_hung, .int v_pl, .int z0, .int z1, .int z2])), (v_hung, .inl (cyI, 7, .inl y3))]) A) ([.ref v0, .int p0, .int p1] : List Value).toArray s 0 0 A := ⟨_, rfl⟩
  rw [← hQ9]
  have hun9 := cb_le v_kn v_pl.toInt.toNat
  refine lv_aload_n hx hb dX6_learn_0 rfl (lv_at hl 0 rfl) ?_
  refine va_get (D := (dC, dI)) (ci := 5) (v := .ref v_hung) (C := RX6) (T := TX6) (N := 5) hx hb hts uinX6 hown hK hP 0 rfl rfl 0 (by decide) (hts _ wd_1_218) (fun _ h9 => h9) rfl dX6_learn_1 ?_
  refine lv_iload_n hx hb dX6_learn_4 rfl (lv_at hl 1 rfl) ?_
  refine va_iald hx hb hK hP 1 0 rfl rfl (vp_in_iff.mpr (by omega)) dX6_learn_5 ?_
  refine lv_topi (fun x_1 ex_1 => ?_)
  have fx_1 : (-1) ≤ x_1.toInt ∧ x_1.toInt ≤ 6 := by rw [ex_1]; exact g0 _ (cv_ix (by omega) (by omega))
  refine lv_iload_n hx hb dX6_learn_6 rfl (lv_at hl 2 rfl) ?_
  refine lv_icmp_ne (tgt := 11) hx hb dX6_learn_7 (by decide) (fun c_2 => ?_) (fun c_2 => ?_)
  · have c_2 : x_1.toInt ≠ p1.toInt := cv_ne c_2
    refine lv_aload_n hx hb dX6_learn_11 rfl (lv_at hl 0 rfl) ?_
    refine va_get (D := (dC, dI)) (ci := 5) (v := .ref v_hung) (C := RX6) (T := TX6) (N := 5) hx hb hts uinX6 hown hK hP 0 rfl rfl 0 (by decide) (hts _ wd_1_218) (fun _ h9 => h9) rfl dX6_learn_12 ?_
    refine lv_iload_n hx hb dX6_learn_15 rfl (lv_at hl 1 rfl) ?_
    refine va_iald hx hb hK hP 1 0 rfl rfl (vp_in_iff.mpr (by omega)) dX6_learn_16 ?_
    refine lv_topi (fun x_3 ex_3 => ?_)
    have fx_3 : (-1) ≤ x_3.toInt ∧ x_3.toInt ≤ 6 := by rw [ex_3]; exact g0 _ (cv_ix (by omega) (by omega))
    refine lv_iconst (v := (-1)) hx hb dX6_learn_17 (by decide) ?_
    refine lv_icmp_ne (tgt := 32) hx hb dX6_learn_18 (by decide) (fun c_4 => ?_) (fun c_4 => ?_)
    · have c_4 : x_3.toInt ≠ (-1) := cv_ne c_4
      refine lv_aload_n hx hb dX6_learn_32 rfl (lv_at hl 0 rfl) ?_
      refine lv_iconst (v := 0) hx hb dX6_learn_33 (by decide) ?_
      refine va_put (D := (dC, dI)) (ci := 5) (v := .int 0) (ty := .boolean) (C := RX6) (T := TX6) (N := 5) hx hb hts uinX6 tyX6 tyX6_ok nmX6 hown hK hP hD hS 0 rfl rfl 4 (by decide) (hts _ wd_1_222) (fun _ h9 => h9) rfl (by decide +kernel) rfl rfl (Nat.le_of_ble_eq_true rfl) dX6_learn_34 (fun H locs hP hD hS => ?_)
      have hP : va_P (dC, dI) vwCl [(v0, .inr (5, [.ref v_hung, .int v_pl, .int v_kn, .int v_un, .int 0])), (v_hung, .inl (cyI, 7, .inl v_f))] H := hP
      have hD : va_D A [(v0, .inr (5, [.ref v_hung, .int v_pl, .int v_kn, .int v_un, .int 0])), (v_hung, .inl (cyI, 7, .inl v_f))] := hD
      rw [hQ9]
      have hP9 := hP.sub (ws' := [(v0, .inr (5, [.ref v_hung, .int v_pl, .int v_kn, .int v_un, .int 0])), (v_hung, .inl (cyI, 7, .inl v_f))]) [0, 1] rfl
      have hD9 := hD.sub (ws' := [(v0, .inr (5, [.ref v_hung, .int v_pl, .int v_kn, .int v_un, .int 0])), (v_hung, .inl (cyI, 7, .inl v_f))]) [0, 1] (by decide) rfl
      exact W.vret hx hb hr (fun t ht hW => ⟨⟨(), rfl, trivial, ⟨v_kn, v_un, 0, v_f, (by omega), (by omega), (by decide), g0, g6, by rw [ht]; exact hP9, hD9⟩⟩, hS.F ht⟩) hS.2.2 dX6_learn_37
    · have c_4 : x_3.toInt = (-1) := cv_eq c_4
      refine lv_aload_n hx hb dX6_learn_21 rfl (lv_at hl 0 rfl) ?_
      refine va_get (D := (dC, dI)) (ci := 5) (v := .int v_kn) (C := RX6) (T := TX6) (N := 5) hx hb hts uinX6 hown hK hP 0 rfl rfl 2 (by decide) (hts _ wd_1_220) (fun _ h9 => h9) rfl dX6_learn_22 ?_
      refine lv_iload_n hx hb dX6_learn_25 rfl (lv_at hl 2 rfl) ?_
      refine lv_ishr hx hb dX6_learn_26 ?_
      refine lv_topi (fun x_5 ex_5 => ?_)
      have fx_5 : 0 ≤ x_5.toInt ∧ x_5.toInt ≤ v_kn.toInt := by rw [ex_5]; exact cv_shr (by omega)
      refine lv_iconst (v := 1) hx hb dX6_learn_27 (by decide) ?_
      refine lv_iand hx hb dX6_learn_28 ?_
      refine lv_topi (fun x_6 ex_6 => ?_)
      have fx_6 : 0 ≤ x_6.toInt ∧ x_6.toInt ≤ 1 := by rw [ex_6]; exact cv_andR (by decide) (by decide)
      refine lv_if_eq (tgt := 38) hx hb dX6_learn_29 (by decide) (fun c_7 => ?_) (fun c_7 => ?_)
      · have c_7 : x_6.toInt = 0 := cv_eq c_7
        refine lv_aload_n hx hb dX6_learn_38 rfl (lv_at hl 0 rfl) ?_
        refine va_get (D := (dC, dI)) (ci := 5) (v := .ref v_hung) (C := RX6) (T := TX6) (N := 5) hx hb hts uinX6 hown hK hP 0 rfl rfl 0 (by decide) (hts _ wd_1_218) (fun _ h9 => h9) rfl dX6_learn_39 ?_
        refine lv_iload_n hx hb dX6_learn_42 rfl (lv_at hl 1 rfl) ?_
        refine lv_iload_n hx hb dX6_learn_43 rfl (lv_at hl 2 rfl) ?_
        refine va_iast hx hb hK hP hD hS 1 0 rfl rfl (vp_in_iff.mpr (by omega)) dX6_learn_44 (fun H locs hP hD hS => ?_)
        obtain ⟨f_8, ef_8⟩ : ∃ z9 : Nat → Int32, z9 = upd v_f p0.toNatClampNeg p1 := ⟨_, rfl⟩
        rw [← ef_8] at hP hD
        have hP : va_P (dC, dI) vwCl [(v0, .inr (5, [.ref v_hung, .int v_pl, .int v_kn, .int v_un, .int v_tr])), (v_hung, .inl (cyI, 7, .inl f_8))] H := hP
        have hD : va_D A [(v0, .inr (5, [.ref v_hung, .int v_pl, .int v_kn, .int v_un, .int v_tr])), (v_hung, .inl (cyI, 7, .inl f_8))] := hD
        have hf_8 : rg (-1) 6 7 f_8 := by rw [ef_8]; exact rg_upd (g0) ⟨by omega, by omega⟩
        refine lv_aload_n hx hb dX6_learn_45 rfl (lv_at hl 0 rfl) ?_
        refine lv_dup hx hb dX6_learn_46 rfl ?_
        refine va_get (D := (dC, dI)) (ci := 5) (v := .int v_kn) (C := RX6) (T := TX6) (N := 5) hx hb hts uinX6 hown hK hP 0 rfl rfl 2 (by decide) (hts _ wd_1_220) (fun _ h9 => h9) rfl dX6_learn_47 ?_
        refine lv_iconst (v := 1) hx hb dX6_learn_50 (by decide) ?_
        refine lv_iload_n hx hb dX6_learn_51 rfl (lv_at hl 2 rfl) ?_
        refine lv_ishl hx hb dX6_learn_52 ?_
        refine lv_topi (fun x_9 ex_9 => ?_)
        have fx_9 : 1 ≤ x_9.toInt ∧ x_9.toInt ≤ 64 := by rw [ex_9]; have q := cv_shl1 (y := p1) 0 6 (by decide) (by decide) (by omega) (by omega); omega
        refine lv_ior hx hb dX6_learn_53 ?_
        refine lv_topi (fun x_10 ex_10 => ?_)
        have fx_10 : 0 ≤ x_10.toInt ∧ x_10.toInt ≤ 127 := by rw [ex_10]; have q := cv_or (x := v_kn) (y := x_9) 7 (by decide) (by omega) (by omega) (by omega) (by omega); omega
        refine va_put (D := (dC, dI)) (ci := 5) (v := .int x_10) (ty := .int) (C := RX6) (T := TX6) (N := 5) hx hb hts uinX6 tyX6 tyX6_ok nmX6 hown hK hP hD hS 0 rfl rfl 2 (by decide) (hts _ wd_1_220) (fun _ h9 => h9) rfl (by decide +kernel) rfl rfl (Nat.le_of_ble_eq_true rfl) dX6_learn_54 (fun H locs hP hD hS => ?_)
        have hP : va_P (dC, dI) vwCl [(v0, .inr (5, [.ref v_hung, .int v_pl, .int x_10, .int v_un, .int v_tr])), (v_hung, .inl (cyI, 7, .inl f_8))] H := hP
        have hD : va_D A [(v0, .inr (5, [.ref v_hung, .int v_pl, .int x_10, .int v_un, .int v_tr])), (v_hung, .inl (cyI, 7, .inl f_8))] := hD
        refine lv_aload_n hx hb dX6_learn_57 rfl (lv_at hl 0 rfl) ?_
        refine lv_dup hx hb dX6_learn_58 rfl ?_
        refine va_get (D := (dC, dI)) (ci := 5) (v := .int v_un) (C := RX6) (T := TX6) (N := 5) hx hb hts uinX6 hown hK hP 0 rfl rfl 3 (by decide) (hts _ wd_1_221) (fun _ h9 => h9) rfl dX6_learn_59 ?_
        refine lv_iconst (v := 1) hx hb dX6_learn_62 (by decide) ?_
        refine lv_isub hx hb dX6_learn_63 ?_
        refine lv_topi (fun x_11 ex_11 => ?_)
        have fx_11 : x_11.toInt = v_un.toInt - 1 := by rw [ex_11]; exact cv_subI (by have : (1 : Int32).toInt = 1 := rfl; omega) (by have : (1 : Int32).toInt = 1 := rfl; omega)
        refine va_put (D := (dC, dI)) (ci := 5) (v := .int x_11) (ty := .int) (C := RX6) (T := TX6) (N := 5) hx hb hts uinX6 tyX6 tyX6_ok nmX6 hown hK hP hD hS 0 rfl rfl 3 (by decide) (hts _ wd_1_221) (fun _ h9 => h9) rfl (by decide +kernel) rfl rfl (Nat.le_of_ble_eq_true rfl) dX6_learn_64 (fun H locs hP hD hS => ?_)
        have hP : va_P (dC, dI) vwCl [(v0, .inr (5, [.ref v_hung, .int v_pl, .int x_10, .int x_11, .int v_tr])), (v_hung, .inl (cyI, 7, .inl f_8))] H := hP
        have hD : va_D A [(v0, .inr (5, [.ref v_hung, .int v_pl, .int x_10, .int x_11, .int v_tr])), (v_hung, .inl (cyI, 7, .inl f_8))] := hD
        rw [hQ9]
        have hP9 := hP.sub (ws' := [(v0, .inr (5, [.ref v_hung, .int v_pl, .int x_10, .int x_11, .int v_tr])), (v_hung, .inl (cyI, 7, .inl f_8))]) [0, 1] rfl
        have hD9 := hD.sub (ws' := [(v0, .inr (5, [.ref v_hung, .int v_pl, .int x_10, .int x_11, .int v_tr])), (v_hung, .inl (cyI, 7, .inl f_8))]) [0, 1] (by decide) rfl
        exact W.vret hx hb hr (fun t ht hW => ⟨⟨(), rfl, trivial, ⟨x_10, x_11, v_tr, f_8, (by omega), (by omega), (by omega), hf_8, (cb_put g6 (by assumption) (by assumption) (by assumption) (by assumption) (by assumption) (by omega) (by omega) (by omega) (by omega) (by omega)), by rw [ht]; exact hP9, hD9⟩⟩, hS.F ht⟩) hS.2.2 dX6_learn_67
      · have c_7 : x_6.toInt ≠ 0 := cv_ne c_7
        refine lv_aload_n hx hb dX6_learn_32 rfl (lv_at hl 0 rfl) ?_
        refine lv_iconst (v := 0) hx hb dX6_learn_33 (by decide) ?_
        refine va_put (D := (dC, dI)) (ci := 5) (v := .int 0) (ty := .boolean) (C := RX6) (T := TX6) (N := 5) hx hb hts uinX6 tyX6 tyX6_ok nmX6 hown hK hP hD hS 0 rfl rfl 4 (by decide) (hts _ wd_1_222) (fun _ h9 => h9) rfl (by decide +kernel) rfl rfl (Nat.le_of_ble_eq_true rfl) dX6_learn_34 (fun H locs hP hD hS => ?_)
        have hP : va_P (dC, dI) vwCl [(v0, .inr (5, [.ref v_hung, .int v_pl, .int v_kn, .int v_un, .int 0])), (v_hung, .inl (cyI, 7, .inl v_f))] H := hP
        have hD : va_D A [(v0, .inr (5, [.ref v_hung, .int v_pl, .int v_kn, .int v_un, .int 0])), (v_hung, .inl (cyI, 7, .inl v_f))] := hD
        rw [hQ9]
        have hP9 := hP.sub (ws' := [(v0, .inr (5, [.ref v_hung, .int v_pl, .int v_kn, .int v_un, .int 0])), (v_hung, .inl (cyI, 7, .inl v_f))]) [0, 1] rfl
        have hD9 := hD.sub (ws' := [(v0, .inr (5, [.ref v_hung, .int v_pl, .int v_kn, .int v_un, .int 0])), (v_hung, .inl (cyI, 7, .inl v_f))]) [0, 1] (by decide) rfl
        exact W.vret hx hb hr (fun t ht hW => ⟨⟨(), rfl, trivial, ⟨v_kn, v_un, 0, v_f, (by omega), (by omega), (by decide), g0, g6, by rw [ht]; exact hP9, hD9⟩⟩, hS.F ht⟩) hS.2.2 dX6_learn_37
  · have c_2 : x_1.toInt = p1.toInt := cv_eq c_2
    rw [hQ9]
    have hP9 := hP.sub (ws' := [(v0, .inr (5, [.ref v_hung, .int v_pl, .int v_kn, .int v_un, .int v_tr])), (v_hung, .inl (cyI, 7, .inl v_f))]) [0, 1] rfl
    have hD9 := hD.sub (ws' := [(v0, .inr (5, [.ref v_hung, .int v_pl, .int v_kn, .int v_un, .int v_tr])), (v_hung, .inl (cyI, 7, .inl v_f))]) [0, 1] (by decide) rfl
    exact W.vret hx hb hr (fun t ht hW => ⟨⟨(), rfl, trivial, ⟨v_kn, v_un, v_tr, v_f, (by omega), (by omega), (by omega), g0, g6, by rw [ht]; exact hP9, hD9⟩⟩, hS.F ht⟩) hS.2.2 dX6_learn_10

/- X6_placeToAsk -/
set_option maxHeartbeats 4000000 in
set_option maxRecDepth 100000 in
theorem n_placeToAsk (l : Launch) (dC : Nat → ClassId) (dI : Nat → Nat → Nat) (cyI cyB cyJ cyZ cyH cyN : ClassId) (v0 v_hung : Nat) (v_pl v_kn v_un v_tr : Int32) (v_f : Nat → Int32) (g0 : rg (-1) 6 7 v_f) (g1 : 0 ≤ v_pl.toInt ∧ v_pl.toInt ≤ 7) (g2 : 0 ≤ v_kn.toInt ∧ v_kn.toInt ≤ 127) (g3 : 0 ≤ v_tr.toInt ∧ v_tr.toInt ≤ 1) : Met l yX6_placeToAsk (wk yX6_placeToAsk cX6_placeToAsk 1 (some .int)) ({ frames := 2, cells := 0, slots := 0, locals := 83 }) (va_Pc [.ref v0] (fun U => va_P (dC, dI) vwCl [(v0, .inr (5, [.ref v_hung, .int v_pl, .int v_kn, .int v_un, .int v_tr])), (v_hung, .inl (cyI, 7, .inl v_f))] U.heap ∧ va_K (dC, dI) vwCl [(cyI, .int), (cyB, .byte), (cyJ, .long), (cyZ, .boolean), (cyH, .object RX2), (cyN, .array .long)] U)) (vp_Si (fun r : Int32 => (-1) ≤ r.toInt ∧ r.toInt ≤ 6)) 0 0 (fun _ => False) := by
  refine Met.ofW (cc := cX6_placeToAsk) (maxL := 1) (ret := (some .int)) (by decide) rfl ?_
  intro p e s m args below meth c s₁ B hml hv
  obtain ⟨rfl, hP, hK⟩ := hv
  have hx := B.exec
  have hb := B.bytes
  have hr := B.returns
  have hts : ∀ w ∈ uU, w.before ([.ref v0] : List Value).toArray s = true := fun w h => atoms_spec (ws := wk yX6_placeToAsk cX6_placeToAsk 1 (some .int)) B.pre w (List.mem_cons_of_mem _ h)
  have hown : s.vm.findClass RX6 = some m.cls := findClass_of_methodNamed B.named
  have hlocks := B.notSynchronized
  have hl := lv_entry ([.ref v0]) (n := 1) (Nat.le_of_ble_eq_true rfl)
  rw [lg_entry_eq]
  generalize (lg_sl ([.ref v0]) ++ List.replicate (1 - (lg_sl ([.ref v0])).length) Slot.unset).toArray = ls at hl ⊢
  have hl : lv_has ls 1 [(0, .ref v0)] := hl
  obtain ⟨Q9, hQ9⟩ : ∃ Q9 : State → Prop, Q9 = MQ below (vp_Si (fun r : Int32 => (-1) ≤ r.toInt ∧ r.toInt ≤ 6)) ([.ref v0] : List Value).toArray s 0 0 (fun _ => False) := ⟨_, rfl⟩
  rw [← hQ9]
  refine lv_aload_n hx hb dX6_placeToAsk_0 rfl (lv_at hl 0 rfl) ?_
  refine va_get (D := (dC, dI)) (ci := 5) (v := .int v_tr) (C := RX6) (T := TX6) (N := 5) hx hb hts uinX6 hown hK hP 0 rfl rfl 4 (by decide) (hts _ wd_1_222) (fun _ h9 => h9) rfl dX6_placeToAsk_1 ?_
  refine lv_if_eq (tgt := 15) hx hb dX6_placeToAsk_4 (by decide) (fun c_1 => ?_) (fun c_1 => ?_)
  · have c_1 : v_tr.toInt = 0 := cv_eq c_1
    refine lv_iconst (v := (-1)) hx hb dX6_placeToAsk_15 (by decide) ?_
    rw [hQ9]
    exact W.iret (v := (-1)) hx hb hr (fun t ht hW => ⟨(-1), rfl, (by decide), ht⟩) (fun q h => by cases h) dX6_placeToAsk_16
  · have c_1 : v_tr.toInt ≠ 0 := cv_ne c_1
    refine lv_aload_n hx hb dX6_placeToAsk_7 rfl (lv_at hl 0 rfl) ?_
    refine va_get (D := (dC, dI)) (ci := 5) (v := .int v_un) (C := RX6) (T := TX6) (N := 5) hx hb hts uinX6 hown hK hP 0 rfl rfl 3 (by decide) (hts _ wd_1_221) (fun _ h9 => h9) rfl dX6_placeToAsk_8 ?_
    refine lv_iconst (v := 2) hx hb dX6_placeToAsk_11 (by decide) ?_
    refine lv_icmp_ge (tgt := 17) hx hb dX6_placeToAsk_12 (by decide) (fun c_2 => ?_) (fun c_2 => ?_)
    · have c_2 : 2 ≤ v_un.toInt := cv_le c_2
      refine lv_aload_n hx hb dX6_placeToAsk_17 rfl (lv_at hl 0 rfl) ?_
      refine va_get (D := (dC, dI)) (ci := 5) (v := .ref v_hung) (C := RX6) (T := TX6) (N := 5) hx hb hts uinX6 hown hK hP 0 rfl rfl 0 (by decide) (hts _ wd_1_218) (fun _ h9 => h9) rfl dX6_placeToAsk_18 ?_
      refine lv_aload_n hx hb dX6_placeToAsk_21 rfl (lv_at hl 0 rfl) ?_
      refine va_get (D := (dC, dI)) (ci := 5) (v := .int v_pl) (C := RX6) (T := TX6) (N := 5) hx hb hts uinX6 hown hK hP 0 rfl rfl 1 (by decide) (hts _ wd_1_219) (fun _ h9 => h9) rfl dX6_placeToAsk_22 ?_
      refine lv_iconst (v := (-1)) hx hb dX6_placeToAsk_25 (by decide) ?_
      have hPc := hP.sub (ws' := [(v_hung, .inl (cyI, 7, .inl v_f))]) [1] rfl
      have hKc := hK.sub (tys' := [(cyI, .int), (cyB, .byte), (cyJ, .long), (cyZ, .boolean), (cyH, .object RX2), (cyN, .array .long)]) [0, 1, 2, 3, 4, 5] rfl
      refine vp_callSi (va_Run.run (va_runS (As := [.ref v_hung, .int v_pl, .int (-1)]) (rest := []) ⟨hx, hb, hml, hown, hts⟩ (n_placeIn l dC dI cyI cyB cyJ cyZ cyH cyN v_hung v_f v_pl (-1) (by omega)) (va_cwS 3 hts (gdS wd_4_218 wd_3_81 wd_1_19 wd_3_82) rfl rfl rfl (by decide +kernel) ⟨Nat.le_of_ble_eq_true rfl, Nat.le_of_ble_eq_true rfl⟩) ⟨fun a U g mk q => by obtain ⟨q0, qP, qK⟩ := q; exact ⟨q0, qP, va_K.moved (u := U) (U := U.calling g mk a) (Vm.Alike.refl U.vm) qK⟩, fun U hU hW => ⟨rfl, by rw [hU]; exact hPc, va_K.moved hW.alike hKc⟩⟩ rfl rfl hl.1 rfl (lv_room (Nat.le_of_ble_eq_true rfl)) dX6_placeToAsk_26 ⟨Nat.le_of_ble_eq_true rfl, Nat.le_of_ble_eq_true rfl⟩)) (fun r_3 hw => ?_)
      have hrr_3 := hw
      rw [hQ9]
      exact W.iret (v := r_3) hx hb hr (fun t ht hW => ⟨r_3, rfl, (by omega), ht⟩) (fun q h => by cases h) dX6_placeToAsk_29
    · have c_2 : v_un.toInt < 2 := cv_nle c_2
      refine lv_iconst (v := (-1)) hx hb dX6_placeToAsk_15 (by decide) ?_
      rw [hQ9]
      exact W.iret (v := (-1)) hx hb hr (fun t ht hW => ⟨(-1), rfl, (by decide), ht⟩) (fun q h => by cases h) dX6_placeToAsk_16

/- X6_leastRowHead -/
set_option maxHeartbeats 4000000 in
set_option maxRecDepth 100000 in
theorem n_vleastRowHead (l : Launch) (dC : Nat → ClassId) (dI : Nat → Nat → Nat) (cyI cyB cyJ cyZ cyH cyN : ClassId) (v0 v_hung : Nat) (v_pl v_kn v_un v_tr : Int32) (v_f : Nat → Int32) (p0 : Int32) (g0 : rg (-1) 6 7 v_f) (g1 : 0 ≤ v_pl.toInt ∧ v_pl.toInt ≤ 7) (g2 : 0 ≤ v_kn.toInt ∧ v_kn.toInt ≤ 127) (g3 : 0 ≤ v_tr.toInt ∧ v_tr.toInt ≤ 1) (g4 : 0 ≤ p0.toInt ∧ p0.toInt ≤ 6) : Met l yX6_leastRowHead (wk yX6_leastRowHead cX6_leastRowHead 4 (some .int)) ({ frames := 2, cells := 0, slots := 0, locals := 80 }) (va_Pc [.ref v0, .int p0] (fun U => va_P (dC, dI) vwCl [(v0, .inr (5, [.ref v_hung, .int v_pl, .int v_kn, .int v_un, .int v_tr])), (v_hung, .inl (cyI, 7, .inl v_f))] U.heap ∧ va_K (dC, dI) vwCl [(cyI, .int), (cyB, .byte), (cyJ, .long), (cyZ, .boolean), (cyH, .object RX2), (cyN, .array .long)] U)) (vp_Si (fun r : Int32 => True)) 0 0 (fun _ => False) := by
  refine Met.ofW (cc := cX6_leastRowHead) (maxL := 4) (ret := (some .int)) (by decide) rfl ?_
  intro p e s m args below meth c s₁ B hml hv
  obtain ⟨rfl, hP, hK⟩ := hv
  have hx := B.exec
  have hb := B.bytes
  have hr := B.returns
  have hts : ∀ w ∈ uU, w.before ([.ref v0, .int p0] : List Value).toArray s = true := fun w h => atoms_spec (ws := wk yX6_leastRowHead cX6_leastRowHead 4 (some .int)) B.pre w (List.mem_cons_of_mem _ h)
  have hown : s.vm.findClass RX6 = some m.cls := findClass_of_methodNamed B.named
  have hlocks := B.notSynchronized
  have hl := lv_entry ([.ref v0, .int p0]) (n := 4) (Nat.le_of_ble_eq_true rfl)
  rw [lg_entry_eq]
  generalize (lg_sl ([.ref v0, .int p0]) ++ List.replicate (4 - (lg_sl ([.ref v0, .int p0])).length) Slot.unset).toArray = ls at hl ⊢
  have hl : lv_has ls 4 [(0, .ref v0), (1, .int p0)] := hl
  obtain ⟨Q9, hQ9⟩ : ∃ Q9 : State → Prop, Q9 = MQ below (vp_Si (fun r : Int32 => True)) ([.ref v0, .int p0] : List Value).toArray s 0 0 (fun _ => False) := ⟨_, rfl⟩
  rw [← hQ9]
  refine lv_aload_n hx hb dX6_leastRowHead_0 rfl (lv_at hl 0 rfl) ?_
  refine va_get (D := (dC, dI)) (ci := 5) (v := .int v_tr) (C := RX6) (T := TX6) (N := 5) hx hb hts uinX6 hown hK hP 0 rfl rfl 4 (by decide) (hts _ wd_1_222) (fun _ h9 => h9) rfl dX6_leastRowHead_1 ?_
  refine lv_if_ne (tgt := 9) hx hb dX6_leastRowHead_4 (by decide) (fun c_1 => ?_) (fun c_1 => ?_)
  · have c_1 : v_tr.toInt ≠ 0 := cv_ne c_1
    refine lv_aload_n hx hb dX6_leastRowHead_9 rfl (lv_at hl 0 rfl) ?_
    refine va_get (D := (dC, dI)) (ci := 5) (v := .ref v_hung) (C := RX6) (T := TX6) (N := 5) hx hb hts uinX6 hown hK hP 0 rfl rfl 0 (by decide) (hts _ wd_1_218) (fun _ h9 => h9) rfl dX6_leastRowHead_10 ?_
    refine lv_iload_n hx hb dX6_leastRowHead_13 rfl (lv_at hl 1 rfl) ?_
    refine va_iald hx hb hK hP 1 0 rfl rfl (vp_in_iff.mpr (by omega)) dX6_leastRowHead_14 ?_
    refine lv_topi (fun x_2 ex_2 => ?_)
    have fx_2 : (-1) ≤ x_2.toInt ∧ x_2.toInt ≤ 6 := by rw [ex_2]; exact g0 _ (cv_ix (by omega) (by omega))
    refine lv_iconst (v := (-1)) hx hb dX6_leastRowHead_15 (by decide) ?_
    refine lv_icmp_eq (tgt := 26) hx hb dX6_leastRowHead_16 (by decide) (fun c_3 => ?_) (fun c_3 => ?_)
    · have c_3 : x_2.toInt = (-1) := cv_eq c_3
      refine lv_iconst (v := 1) hx hb dX6_leastRowHead_26 (by decide) ?_
      refine lv_aload_n hx hb dX6_leastRowHead_27 rfl (lv_at hl 0 rfl) ?_
      refine va_get (D := (dC, dI)) (ci := 5) (v := .int v_pl) (C := RX6) (T := TX6) (N := 5) hx hb hts uinX6 hown hK hP 0 rfl rfl 1 (by decide) (hts _ wd_1_219) (fun _ h9 => h9) rfl dX6_leastRowHead_28 ?_
      refine lv_ishl hx hb dX6_leastRowHead_31 ?_
      refine lv_topi (fun x_4 ex_4 => ?_)
      have fx_4 : 1 ≤ x_4.toInt ∧ x_4.toInt ≤ 128 := by rw [ex_4]; have q := cv_shl1 (y := v_pl) 0 7 (by decide) (by decide) (by omega) (by omega); omega
      refine lv_iconst (v := 1) hx hb dX6_leastRowHead_32 (by decide) ?_
      refine lv_isub hx hb dX6_leastRowHead_33 ?_
      refine lv_topi (fun x_5 ex_5 => ?_)
      have fx_5 : x_5.toInt = x_4.toInt - 1 := by rw [ex_5]; exact cv_subI (by have : (1 : Int32).toInt = 1 := rfl; omega) (by have : (1 : Int32).toInt = 1 := rfl; omega)
      refine lv_aload_n hx hb dX6_leastRowHead_34 rfl (lv_at hl 0 rfl) ?_
      refine va_get (D := (dC, dI)) (ci := 5) (v := .int v_kn) (C := RX6) (T := TX6) (N := 5) hx hb hts uinX6 hown hK hP 0 rfl rfl 2 (by decide) (hts _ wd_1_220) (fun _ h9 => h9) rfl dX6_leastRowHead_35 ?_
      refine lv_iconst (v := (-1)) hx hb dX6_leastRowHead_38 (by decide) ?_
      refine lv_ixor hx hb dX6_leastRowHead_39 ?_
      refine lv_topi (fun x_6 ex_6 => ?_)
      refine lv_iand hx hb dX6_leastRowHead_40 ?_
      refine lv_topi (fun x_7 ex_7 => ?_)
      have fx_7 : 0 ≤ x_7.toInt ∧ x_7.toInt ≤ 127 := by rw [ex_7]; exact cv_andL (by omega) (by omega)
      refine lv_istore_n (lv' := [(2, .int x_7), (0, .ref v0), (1, .int p0)]) hx hb dX6_leastRowHead_41 rfl hl (by decide) rfl (fun ls hl => ?_)
      refine lv_iconst (v := 0) hx hb dX6_leastRowHead_42 (by decide) ?_
      refine lv_istore_n (lv' := [(3, .int 0), (2, .int x_7), (0, .ref v0), (1, .int p0)]) hx hb dX6_leastRowHead_43 rfl hl (by decide) rfl (fun ls hl => ?_)
      have key_10 : ∀ (nkey_10 : Nat) (u_8 : Int32) (u_9 : Int32) (ls : Array Slot), (0 ≤ u_8.toInt ∧ u_8.toInt ≤ 6) → (0 ≤ u_9.toInt ∧ u_9.toInt ≤ 127) → lv_has ls 4 [(3, .int u_8), (2, .int u_9), (0, .ref v0), (1, .int p0)] → (p0.toInt - u_8.toInt).toNat < nkey_10 → W p l e ({ frames := 2, cells := 0, slots := 0, locals := 80 }) s m ([.ref v0, .int p0] : List Value).toArray below meth c s.heap [] 0 0 Q9 (F0 m 44 ls []) := by
        intro nkey_10
        induction nkey_10 with
        | zero => intro u_8 u_9 ls hu_8 hu_9 hl hnkey_10; exact absurd hnkey_10 (Nat.not_lt_zero _)
        | succ nkey_10 ihkey_10 =>
          intro u_8 u_9 ls hu_8 hu_9 hl hnkey_10
          refine lv_iload_n hx hb dX6_leastRowHead_44 rfl (lv_at hl 0 rfl) ?_
          refine lv_iload_n hx hb dX6_leastRowHead_45 rfl (lv_at hl 3 rfl) ?_
          refine lv_icmp_ge (tgt := 71) hx hb dX6_leastRowHead_46 (by decide) (fun c_11 => ?_) (fun c_11 => ?_)
          · have c_11 : p0.toInt ≤ u_8.toInt := cv_le c_11
            refine lv_iload_n hx hb dX6_leastRowHead_71 rfl (lv_at hl 1 rfl) ?_
            refine lv_iload_n hx hb dX6_leastRowHead_72 rfl (lv_at hl 1 rfl) ?_
            refine lv_ineg hx hb dX6_leastRowHead_73 ?_
            refine lv_topi (fun x_12 ex_12 => ?_)
            have fx_12 : x_12.toInt = -u_9.toInt := by rw [ex_12]; exact cv_negI (by omega)
            refine lv_iand hx hb dX6_leastRowHead_74 ?_
            refine lv_topi (fun x_13 ex_13 => ?_)
            have fx_13 : 0 ≤ x_13.toInt ∧ x_13.toInt ≤ 127 := by rw [ex_13]; exact cv_andL (by omega) (by omega)
            refine lv_iconst (v := 1) hx hb dX6_leastRowHead_75 (by decide) ?_
            refine lv_isub hx hb dX6_leastRowHead_76 ?_
            refine lv_topi (fun x_14 ex_14 => ?_)
            have fx_14 : x_14.toInt = x_13.toInt - 1 := by rw [ex_14]; exact cv_subI (by have : (1 : Int32).toInt = 1 := rfl; omega) (by have : (1 : Int32).toInt = 1 := rfl; omega)
            refine vp_callSi (va_Run.run (va_runS (As := [.int x_14]) (rest := []) ⟨hx, hb, hml, hown, hts⟩ (n_bitCount l dC dI cyI cyB cyJ cyZ cyH cyN x_14) (va_cwS 1 hts (gdS wd_4_209 wd_3_141 wd_1_20 wd_3_142) rfl rfl rfl (by decide +kernel) ⟨Nat.le_of_ble_eq_true rfl, Nat.le_of_ble_eq_true rfl⟩) ⟨fun a U g mk q => q, fun U hU hW => ⟨rfl, trivial⟩⟩ rfl rfl hl.1 rfl (lv_room (Nat.le_of_ble_eq_true rfl)) dX6_leastRowHead_77 ⟨Nat.le_of_ble_eq_true rfl, Nat.le_of_ble_eq_true rfl⟩)) (fun r_15 hw => ?_)
            have hrr_15 := hw
            rw [hQ9]
            exact W.iret (v := r_15) hx hb hr (fun t ht hW => ⟨r_15, rfl, trivial, ht⟩) (fun q h => by cases h) dX6_leastRowHead_80
          · have c_11 : u_8.toInt < p0.toInt := cv_nle c_11
            refine lv_aload_n hx hb dX6_leastRowHead_49 rfl (lv_at hl 2 rfl) ?_
            refine va_get (D := (dC, dI)) (ci := 5) (v := .ref v_hung) (C := RX6) (T := TX6) (N := 5) hx hb hts uinX6 hown hK hP 0 rfl rfl 0 (by decide) (hts _ wd_1_218) (fun _ h9 => h9) rfl dX6_leastRowHead_50 ?_
            refine lv_iload_n hx hb dX6_leastRowHead_53 rfl (lv_at hl 0 rfl) ?_
            refine va_iald hx hb hK hP 1 0 rfl rfl (vp_in_iff.mpr (by omega)) dX6_leastRowHead_54 ?_
            refine lv_topi (fun x_16 ex_16 => ?_)
            have fx_16 : (-1) ≤ x_16.toInt ∧ x_16.toInt ≤ 6 := by rw [ex_16]; exact g0 _ (cv_ix (by omega) (by omega))
            refine lv_iconst (v := (-1)) hx hb dX6_leastRowHead_55 (by decide) ?_
            have join_18 : ∀ (u_17 : Int32) (ls : Array Slot), (0 ≤ u_17.toInt ∧ u_17.toInt ≤ 127) → lv_has ls 4 [(3, .int u_8), (2, .int u_17), (0, .ref v0), (1, .int p0)] → W p l e ({ frames := 2, cells := 0, slots := 0, locals := 80 }) s m ([.ref v0, .int p0] : List Value).toArray below meth c s.heap [] 0 0 Q9 (F0 m 65 ls []) := by
              intro u_17 ls hu_17 hl
              obtain ⟨x_19, ex_19⟩ : ∃ y : Int32, y = u_8 + 1 := ⟨_, rfl⟩
              refine lv_iinc (v := x_19) (lv' := [(3, .int x_19), (2, .int u_17), (0, .ref v0), (1, .int p0)]) hx hb dX6_leastRowHead_65 hl (k := 0) rfl (by rw [ex_19]; rfl) (by decide) rfl (fun ls hl => ?_)
              have fx_19 : x_19.toInt = u_8.toInt + 1 := by rw [ex_19]; exact cv_addI (by have : (1 : Int32).toInt = 1 := rfl; omega) (by have : (1 : Int32).toInt = 1 := rfl; omega)
              refine lv_goto (tgt := 44) hx hb dX6_leastRowHead_68 (by decide) ?_
              exact ihkey_10 x_19 u_17 _ (by omega) (by omega) (lv_sub hl [0, 1, 2, 3] rfl) (by omega)
            refine lv_icmp_ne (tgt := 65) hx hb dX6_leastRowHead_56 (by decide) (fun c_20 => ?_) (fun c_20 => ?_)
            · have c_20 : x_16.toInt ≠ (-1) := cv_ne c_20
              exact join_18 u_9 _ (by omega) (lv_sub hl [0, 1, 2, 3] rfl)
            · have c_20 : x_16.toInt = (-1) := cv_eq c_20
              refine lv_iload_n hx hb dX6_leastRowHead_59 rfl (lv_at hl 1 rfl) ?_
              refine lv_iload_n hx hb dX6_leastRowHead_60 rfl (lv_at hl 1 rfl) ?_
              refine lv_iconst (v := 1) hx hb dX6_leastRowHead_61 (by decide) ?_
              refine lv_isub hx hb dX6_leastRowHead_62 ?_
              refine lv_topi (fun x_21 ex_21 => ?_)
              have fx_21 : x_21.toInt = u_9.toInt - 1 := by rw [ex_21]; exact cv_subI (by have : (1 : Int32).toInt = 1 := rfl; omega) (by have : (1 : Int32).toInt = 1 := rfl; omega)
              refine lv_iand hx hb dX6_leastRowHead_63 ?_
              refine lv_topi (fun x_22 ex_22 => ?_)
              have fx_22 : 0 ≤ x_22.toInt ∧ x_22.toInt ≤ 127 := by rw [ex_22]; exact cv_andL (by omega) (by omega)
              refine lv_istore_n (lv' := [(2, .int x_22), (3, .int u_8), (0, .ref v0), (1, .int p0)]) hx hb dX6_leastRowHead_64 rfl hl (by decide) rfl (fun ls hl => ?_)
              exact join_18 x_22 _ (by omega) (lv_sub hl [1, 0, 2, 3] rfl)
      exact key_10 _ 0 x_7 _ (by decide) (by omega) (lv_sub hl [0, 1, 2, 3] rfl) (Nat.lt_succ_self _)
    · have c_3 : x_2.toInt ≠ (-1) := cv_ne c_3
      refine lv_aload_n hx hb dX6_leastRowHead_19 rfl (lv_at hl 0 rfl) ?_
      refine va_get (D := (dC, dI)) (ci := 5) (v := .ref v_hung) (C := RX6) (T := TX6) (N := 5) hx hb hts uinX6 hown hK hP 0 rfl rfl 0 (by decide) (hts _ wd_1_218) (fun _ h9 => h9) rfl dX6_leastRowHead_20 ?_
      refine lv_iload_n hx hb dX6_leastRowHead_23 rfl (lv_at hl 1 rfl) ?_
      refine va_iald hx hb hK hP 1 0 rfl rfl (vp_in_iff.mpr (by omega)) dX6_leastRowHead_24 ?_
      refine lv_topi (fun x_23 ex_23 => ?_)
      have fx_23 : (-1) ≤ x_23.toInt ∧ x_23.toInt ≤ 6 := by rw [ex_23]; exact g0 _ (cv_ix (by omega) (by omega))
      rw [hQ9]
      exact W.iret (v := x_23) hx hb hr (fun t ht hW => ⟨x_23, rfl, trivial, ht⟩) (fun q h => by cases h) dX6_leastRowHead_25
  · have c_1 : v_tr.toInt = 0 := cv_eq c_1
    refine lv_iconst (v := (-1)) hx hb dX6_leastRowHead_7 (by decide) ?_
    rw [hQ9]
    exact W.iret (v := (-1)) hx hb hr (fun t ht hW => ⟨(-1), rfl, trivial, ht⟩) (fun q h => by cases h) dX6_leastRowHead_8

/- X10_passSign -/
set_option maxHeartbeats 4000000 in
set_option maxRecDepth 100000 in
theorem n_passSign (l : Launch) (dC : Nat → ClassId) (dI : Nat → Nat → Nat) (cyI cyB cyJ cyZ cyH cyN : ClassId) (sz : Nat) (t0 tBytes : Nat) (tsz tfa tfp tnx tki tst tsp tva tac : Int32) (t_f : Nat → Int32) (g0 : 0 ≤ tsz.toInt ∧ tsz.toInt ≤ 800) (g1 : 0 ≤ tnx.toInt ∧ tnx.toInt ≤ 800) (g2 : 0 ≤ tst.toInt ∧ tst.toInt ≤ 800) (g3 : 0 ≤ tsp.toInt ∧ tsp.toInt ≤ 800) (g4 : 0 ≤ tva.toInt ∧ tva.toInt ≤ 1000000) (g5 : 0 ≤ tac.toInt ∧ tac.toInt ≤ 1000000) : Met l yX10_passSign (wk yX10_passSign cX10_passSign 1 (some .boolean)) ({ frames := 3, cells := 0, slots := 0, locals := 100 }) (va_Pc [.ref t0] (fun U => U.heap.size = sz ∧ va_P (dC, dI) vwCl [(t0, .inr (9, [.ref tBytes, .int tsz, .int tfa, .int tfp, .int tnx, .int tki, .int tst, .int tsp, .int tva, .int tac])), (tBytes, .inl (cyB, 800, .inl t_f))] U.heap ∧ va_K (dC, dI) vwCl [(cyI, .int), (cyB, .byte), (cyJ, .long), (cyZ, .boolean), (cyH, .object RX2), (cyN, .array .long)] U ∧ va_D (fun _ => True) [(t0, .inr (9, [.ref tBytes, .int tsz, .int tfa, .int tfp, .int tnx, .int tki, .int tst, .int tsp, .int tva, .int tac])), (tBytes, .inl (cyB, 800, .inl t_f))])) (va_Qi (fun (r : Int32) (_ : Unit) => 0 ≤ r.toInt ∧ r.toInt ≤ 1) (fun (_ : Unit) (t : State) => ∃ z0 : Int32, ∃ z1 : Int32, ∃ z2 : Int32, ∃ z3 : Int32, ∃ z4 : Int32, ∃ z5 : Int32, ∃ z6 : Int32, (0 ≤ z2.toInt ∧ z2.toInt ≤ 800) ∧ (0 ≤ z4.toInt ∧ z4.toInt ≤ 800) ∧ (0 ≤ z5.toInt ∧ z5.toInt ≤ 800) ∧ ((-2147483648) ≤ z6.toInt ∧ z6.toInt ≤ 1000000) ∧ va_P (dC, dI) vwCl [(t0, .inr (9, [.ref tBytes, .int tsz, .int z0, .int z1, .int z2, .int z3, .int z4, .int z5, .int z6, .int tac])), (tBytes, .inl (cyB, 800, .inl t_f))] t.heap ∧ va_D (va_A [(t0, .inr (9, [.ref tBytes, .int tsz, .int tfa, .int tfp, .int tnx, .int tki, .int tst, .int tsp, .int tva, .int tac])), (tBytes, .inl (cyB, 800, .inl t_f))] sz) [(t0, .inr (9, [.ref tBytes, .int tsz, .int z0, .int z1, .int z2, .int z3, .int z4, .int z5, .int z6, .int tac])), (tBytes, .inl (cyB, 800, .inl t_f))]) (va_A [(t0, .inr (9, [.ref tBytes, .int tsz, .int tfa, .int tfp, .int tnx, .int tki, .int tst, .int tsp, .int tva, .int tac])), (tBytes, .inl (cyB, 800, .inl t_f))] sz)) 0 0 (va_A [(t0, .inr (9, [.ref tBytes, .int tsz, .int tfa, .int tfp, .int tnx, .int tki, .int tst, .int tsp, .int tva, .int tac])), (tBytes, .inl (cyB, 800, .inl t_f))] sz) := by
  refine Met.ofW (cc := cX10_passSign) (maxL := 1) (ret := (some .boolean)) (by decide) rfl ?_
  intro p e s m args below meth c s₁ B hml hv
  obtain ⟨rfl, hsz, hP, hK, hD0⟩ := hv
  have hx := B.exec
  have hb := B.bytes
  have hr := B.returns
  have hts : ∀ w ∈ uU, w.before ([.ref t0] : List Value).toArray s = true := fun w h => atoms_spec (ws := wk yX10_passSign cX10_passSign 1 (some .boolean)) B.pre w (List.mem_cons_of_mem _ h)
  have hown : s.vm.findClass RX10 = some m.cls := findClass_of_methodNamed B.named
  have hlocks := B.notSynchronized
  subst hsz
  have hD := hD0.self (sz := s.heap.size)
  generalize hAe : va_A [(t0, .inr (9, [.ref tBytes, .int tsz, .int tfa, .int tfp, .int tnx, .int tki, .int tst, .int tsp, .int tva, .int tac])), (tBytes, .inl (cyB, 800, .inl t_f))] s.heap.size = A at hD ⊢
  have hA : ∀ q : Nat, s.heap.size ≤ q → A q := fun q h => by rw [← hAe]; exact Or.inr h
  have hS : va_S A s.heap s.heap [] := va_S.rf
  have hP : va_P (dC, dI) vwCl [(t0, .inr (9, [.ref tBytes, .int tsz, .int tfa, .int tfp, .int tnx, .int tki, .int tst, .int tsp, .int tva, .int tac])), (tBytes, .inl (cyB, 800, .inl t_f))] s.heap := hP
  have hl := lv_entry ([.ref t0]) (n := 1) (Nat.le_of_ble_eq_true rfl)
  rw [lg_entry_eq]
  generalize (lg_sl ([.ref t0]) ++ List.replicate (1 - (lg_sl ([.ref t0])).length) Slot.unset).toArray = ls at hl ⊢
  have hl : lv_has ls 1 [(0, .ref t0)] := hl
  obtain ⟨H, hHe⟩ : ∃ H, H = s.heap := ⟨_, rfl⟩
  have hP : va_P (dC, dI) vwCl [(t0, .inr (9, [.ref tBytes, .int tsz, .int tfa, .int tfp, .int tnx, .int tki, .int tst, .int tsp, .int tva, .int tac])), (tBytes, .inl (cyB, 800, .inl t_f))] H := by rw [hHe]; exact hP
  have hS : va_S A s.heap H [] := by rw [hHe]; exact hS
  refine cv_heap hHe ?_
  obtain ⟨Q9, hQ9⟩ : ∃ Q9 : State → Prop, Q9 = MQ below (va_Qi (fun (r : Int32) (_ : Unit) => 0 ≤ r.toInt ∧ r.toInt ≤ 1) (fun (_ : Unit) (t : State) => ∃ z0 : Int32, ∃ z1 : Int32, ∃ z2 : Int32, ∃ z3 : Int32, ∃ z4 : Int32, ∃ z5 : Int32, ∃ z6 : Int32, (0 ≤ z2.toInt ∧ z2.toInt ≤ 800) ∧ (0 ≤ z4.toInt ∧ z4.toInt ≤ 800) ∧ (0 ≤ z5.toInt ∧ z5.toInt ≤ 800) ∧ ((-2147483648) ≤ z6.toInt ∧ z6.toInt ≤ 1000000) ∧ va_P (dC, dI) vwCl [(t0, .inr (9, [.ref tBytes, .int tsz, .int z0, .int z1, .int z2, .int z3, .int z4, .int z5, .int z6, .int tac])), (tBytes, .inl (cyB, 800, .inl t_f))] t.heap ∧ va_D A [(t0, .inr (9, [.ref tBytes, .int tsz, .int z0, .int z1, .int z2, .int z3, .int z4, .int z5, .int z6, .int tac])), (tBytes, .inl (cyB, 800, .inl t_f))]) A) ([.ref t0] : List Value).toArray s 0 0 A := ⟨_, rfl⟩
  rw [← hQ9]
  refine lv_aload_n hx hb dX10_passSign_0 rfl (lv_at hl 0 rfl) ?_
  refine va_get (D := (dC, dI)) (ci := 9) (v := .int tki) (C := RX10) (T := TX10) (N := 10) hx hb hts uinX10 hown hK hP 0 rfl rfl 5 (by decide) (hts _ wd_1_44) (fun _ h9 => h9) rfl dX10_passSign_1 ?_
  refine lv_iconst (v := 3) hx hb dX10_passSign_4 (by decide) ?_
  refine lv_icmp_eq (tgt := 14) hx hb dX10_passSign_5 (by decide) (fun c_1 => ?_) (fun c_1 => ?_)
  · have c_1 : tki.toInt = 3 := cv_eq c_1
    refine lv_aload_n hx hb dX10_passSign_14 rfl (lv_at hl 0 rfl) ?_
    have hPc := hP.sub (ws' := [(t0, .inr (9, [.ref tBytes, .int tsz, .int tfa, .int tfp, .int tnx, .int tki, .int tst, .int tsp, .int tva, .int tac])), (tBytes, .inl (cyB, 800, .inl t_f))]) [0, 1] rfl
    have hKc := hK.sub (tys' := [(cyI, .int), (cyB, .byte), (cyJ, .long), (cyZ, .boolean), (cyH, .object RX2), (cyN, .array .long)]) [0, 1, 2, 3, 4, 5] rfl
    have hDc := hD.sub (ws' := [(t0, .inr (9, [.ref tBytes, .int tsz, .int tfa, .int tfp, .int tnx, .int tki, .int tst, .int tsp, .int tva, .int tac])), (tBytes, .inl (cyB, 800, .inl t_f))]) [0, 1] (by decide) rfl
    have hFc := va_free (wc := [(t0, .inr (9, [.ref tBytes, .int tsz, .int tfa, .int tfp, .int tnx, .int tki, .int tst, .int tsp, .int tva, .int tac])), (tBytes, .inl (cyB, 800, .inl t_f))]) hD hS hA [0, 1] rfl
    refine va_callv (va_runV (As := []) (rest := []) ⟨hx, hb, hml, hown, hts⟩ (n_readToken l dC dI cyI cyB cyJ cyZ cyH cyN H.size t0 tBytes tsz tfa tfp tnx tki tst tsp tva tac t_f (by omega) (by omega) (by omega) (by omega) (by omega) (by omega)) (cwV 0 hts (gdV wd_2_142 wd_2_144 wd_s1_0 wd_1_2 wd_2_145) rfl rfl rfl (by decide +kernel) ⟨Nat.le_of_ble_eq_true rfl, Nat.le_of_ble_eq_true rfl⟩) ⟨fun a U g mk q => by obtain ⟨q0, q1, qP, qK, qD⟩ := q; exact ⟨q0, q1, qP, va_K.moved (u := U) (U := U.calling g mk a) (Vm.Alike.refl U.vm) qK, qD⟩, va_recv hKc hPc (ci := 9) (q0 := 0) rfl rfl, fun U hU hW => ⟨rfl, by rw [hU], by rw [hU]; exact hPc, va_K.moved hW.alike hKc, hDc.weaken (fun _ _ _ _ => trivial)⟩⟩ rfl rfl hl.1 rfl (lv_room (Nat.le_of_ble_eq_true rfl)) dX10_passSign_15 ⟨Nat.le_of_ble_eq_true rfl, Nat.le_of_ble_eq_true rfl⟩) hS (fun q _ h => hFc q h) hFc (fun  u t H1 locs ht hvm hw hB hz1 hk1 hS => ?_)
    obtain ⟨z0_2, z1_3, z2_4, z3_5, z4_6, hp_7, hp_8, hp_9, hp_10, hp_11, hP1, hD1⟩ := hB
    rw [ht] at hP1
    obtain ⟨hP, hD⟩ := va_join (wr := []) (w1 := [(t0, .inr (9, [.ref tBytes, .int tsz, .int tfa, .int tfp, .int z0_2, .int z1_3, .int z2_4, .int z3_5, .int z4_6, .int tac])), (tBytes, .inl (cyB, 800, .inl t_f))]) hP hD [0, 1] [] rfl rfl (by decide) (by decide) hk1 hFc hP1 hD1
    generalize H1 = H at hP hS ⊢
    have hP : va_P (dC, dI) vwCl [(t0, .inr (9, [.ref tBytes, .int tsz, .int tfa, .int tfp, .int z0_2, .int z1_3, .int z2_4, .int z3_5, .int z4_6, .int tac])), (tBytes, .inl (cyB, 800, .inl t_f))] H := hP
    have hD : va_D A [(t0, .inr (9, [.ref tBytes, .int tsz, .int tfa, .int tfp, .int z0_2, .int z1_3, .int z2_4, .int z3_5, .int z4_6, .int tac])), (tBytes, .inl (cyB, 800, .inl t_f))] := hD
    refine lv_iconst (v := 1) hx hb dX10_passSign_18 (by decide) ?_
    rw [hQ9]
    have hP9 := hP.sub (ws' := [(t0, .inr (9, [.ref tBytes, .int tsz, .int tfa, .int tfp, .int z0_2, .int z1_3, .int z2_4, .int z3_5, .int z4_6, .int tac])), (tBytes, .inl (cyB, 800, .inl t_f))]) [0, 1] rfl
    have hD9 := hD.sub (ws' := [(t0, .inr (9, [.ref tBytes, .int tsz, .int tfa, .int tfp, .int z0_2, .int z1_3, .int z2_4, .int z3_5, .int z4_6, .int tac])), (tBytes, .inl (cyB, 800, .inl t_f))]) [0, 1] (by decide) rfl
    exact W.zret (v := 1) (ty := .boolean) hx hb hr rfl (fun t ht hW => ⟨⟨1, (), rfl, (by decide), ⟨tfa, tfp, z0_2, z1_3, z2_4, z3_5, z4_6, (by omega), (by omega), (by omega), ⟨cv_lo, by omega⟩, by rw [ht]; exact hP9, hD9⟩⟩, hS.F ht⟩) hS.2.2 dX10_passSign_19
  · have c_1 : tki.toInt ≠ 3 := cv_ne c_1
    refine lv_aload_n hx hb dX10_passSign_8 rfl (lv_at hl 0 rfl) ?_
    refine lv_iconst (v := 1) hx hb dX10_passSign_9 (by decide) ?_
    have hPc := hP.sub (ws' := [(t0, .inr (9, [.ref tBytes, .int tsz, .int tfa, .int tfp, .int tnx, .int tki, .int tst, .int tsp, .int tva, .int tac])), (tBytes, .inl (cyB, 800, .inl t_f))]) [0, 1] rfl
    have hKc := hK.sub (tys' := [(cyI, .int), (cyB, .byte), (cyJ, .long), (cyZ, .boolean), (cyH, .object RX2), (cyN, .array .long)]) [0, 1, 2, 3, 4, 5] rfl
    have hDc := hD.sub (ws' := [(t0, .inr (9, [.ref tBytes, .int tsz, .int tfa, .int tfp, .int tnx, .int tki, .int tst, .int tsp, .int tva, .int tac])), (tBytes, .inl (cyB, 800, .inl t_f))]) [0, 1] (by decide) rfl
    have hFc := va_free (wc := [(t0, .inr (9, [.ref tBytes, .int tsz, .int tfa, .int tfp, .int tnx, .int tki, .int tst, .int tsp, .int tva, .int tac])), (tBytes, .inl (cyB, 800, .inl t_f))]) hD hS hA [0, 1] rfl
    refine va_calli (va_runV (As := [.int 1]) (rest := []) ⟨hx, hb, hml, hown, hts⟩ (n_refuse l dC dI cyI cyB cyJ cyZ cyH cyN H.size t0 tBytes tsz tfa tfp tnx tki tst tsp tva tac t_f 1 (by omega) (by omega) (by omega) (by omega) (by omega) (by omega)) (cwV 1 hts (gdV wd_2_224 wd_2_226 wd_s1_5 wd_1_2 wd_2_227) rfl rfl rfl (by decide +kernel) ⟨Nat.le_of_ble_eq_true rfl, Nat.le_of_ble_eq_true rfl⟩) ⟨fun a U g mk q => by obtain ⟨q0, q1, qP, qK, qD⟩ := q; exact ⟨q0, q1, qP, va_K.moved (u := U) (U := U.calling g mk a) (Vm.Alike.refl U.vm) qK, qD⟩, va_recv hKc hPc (ci := 9) (q0 := 0) rfl rfl, fun U hU hW => ⟨rfl, by rw [hU], by rw [hU]; exact hPc, va_K.moved hW.alike hKc, hDc.weaken (fun _ _ _ _ => trivial)⟩⟩ rfl rfl hl.1 rfl (lv_room (Nat.le_of_ble_eq_true rfl)) dX10_passSign_10 ⟨Nat.le_of_ble_eq_true rfl, Nat.le_of_ble_eq_true rfl⟩) hS (fun q _ h => hFc q h) hFc (fun r_12 u t H1 locs ht hvm hw hB hz1 hk1 hS => ?_)
    obtain ⟨z0_13, z1_14, hp_15, hP1, hD1⟩ := hB
    rw [ht] at hP1
    obtain ⟨hP, hD⟩ := va_join (wr := []) (w1 := [(t0, .inr (9, [.ref tBytes, .int tsz, .int z0_13, .int z1_14, .int tnx, .int tki, .int tst, .int tsp, .int tva, .int tac])), (tBytes, .inl (cyB, 800, .inl t_f))]) hP hD [0, 1] [] rfl rfl (by decide) (by decide) hk1 hFc hP1 hD1
    generalize H1 = H at hP hS ⊢
    have hP : va_P (dC, dI) vwCl [(t0, .inr (9, [.ref tBytes, .int tsz, .int z0_13, .int z1_14, .int tnx, .int tki, .int tst, .int tsp, .int tva, .int tac])), (tBytes, .inl (cyB, 800, .inl t_f))] H := hP
    have hD : va_D A [(t0, .inr (9, [.ref tBytes, .int tsz, .int z0_13, .int z1_14, .int tnx, .int tki, .int tst, .int tsp, .int tva, .int tac])), (tBytes, .inl (cyB, 800, .inl t_f))] := hD
    subst hw
    rw [hQ9]
    have hP9 := hP.sub (ws' := [(t0, .inr (9, [.ref tBytes, .int tsz, .int z0_13, .int z1_14, .int tnx, .int tki, .int tst, .int tsp, .int tva, .int tac])), (tBytes, .inl (cyB, 800, .inl t_f))]) [0, 1] rfl
    have hD9 := hD.sub (ws' := [(t0, .inr (9, [.ref tBytes, .int tsz, .int z0_13, .int z1_14, .int tnx, .int tki, .int tst, .int tsp, .int tva, .int tac])), (tBytes, .inl (cyB, 800, .inl t_f))]) [0, 1] (by decide) rfl
    exact W.zret (v := 0) (ty := .boolean) hx hb hr rfl (fun t ht hW => ⟨⟨0, (), rfl, (by decide), ⟨z0_13, z1_14, tnx, tki, tst, tsp, tva, (by omega), (by omega), (by omega), ⟨cv_lo, by omega⟩, by rw [ht]; exact hP9, hD9⟩⟩, hS.F ht⟩) hS.2.2 dX10_passSign_13

/- X6_rowsLeft -/
set_option maxHeartbeats 4000000 in
set_option maxRecDepth 100000 in
theorem n_rowsLeft (l : Launch) (dC : Nat → ClassId) (dI : Nat → Nat → Nat) (cyI cyB cyJ cyZ cyH cyN : ClassId) (tR tF : Nat) (aK aV : Nat → Nat) (v0 v_hung : Nat) (v_pl v_kn v_un v_tr : Int32) (v_f : Nat → Int32) (g0 : rg (-1) 6 7 v_f) (g1 : 0 ≤ v_pl.toInt ∧ v_pl.toInt ≤ 7) (g2 : 0 ≤ v_kn.toInt ∧ v_kn.toInt ≤ 127) (g3 : 0 ≤ v_tr.toInt ∧ v_tr.toInt ≤ 1) (g4 : v_un.toInt = v_pl.toInt - cb v_kn v_pl.toInt.toNat) : Met l yX6_rowsLeft (wk yX6_rowsLeft cX6_rowsLeft 1 (some .int)) ({ frames := 1, cells := 0, slots := 0, locals := 60 }) (va_Pc [.ref v0] (fun U => va_P (dC, dI) vwCl [(v0, .inr (5, [.ref v_hung, .int v_pl, .int v_kn, .int v_un, .int v_tr])), (v_hung, .inl (cyI, 7, .inl v_f))] U.heap ∧ va_K (dC, dI) vwCl [(cyI, .int), (cyB, .byte), (cyJ, .long), (cyZ, .boolean), (cyH, .object RX2), (cyN, .array .long)] U ∧ cv_FX tR tF aK aV (fun _ => False) U U.heap)) (vp_Si (fun r : Int32 => True)) 0 0 (fun _ => False) := by
  refine Met.ofW (cc := cX6_rowsLeft) (maxL := 1) (ret := (some .int)) (by decide) rfl ?_
  intro p e s m args below meth c s₁ B hml hv
  obtain ⟨rfl, hP, hK, hFX⟩ := hv
  have hx := B.exec
  have hb := B.bytes
  have hr := B.returns
  have hts : ∀ w ∈ uU, w.before ([.ref v0] : List Value).toArray s = true := fun w h => atoms_spec (ws := wk yX6_rowsLeft cX6_rowsLeft 1 (some .int)) B.pre w (List.mem_cons_of_mem _ h)
  have hown : s.vm.findClass RX6 = some m.cls := findClass_of_methodNamed B.named
  have hlocks := B.notSynchronized
  have hl := lv_entry ([.ref v0]) (n := 1) (Nat.le_of_ble_eq_true rfl)
  rw [lg_entry_eq]
  generalize (lg_sl ([.ref v0]) ++ List.replicate (1 - (lg_sl ([.ref v0])).length) Slot.unset).toArray = ls at hl ⊢
  have hl : lv_has ls 1 [(0, .ref v0)] := hl
  obtain ⟨Q9, hQ9⟩ : ∃ Q9 : State → Prop, Q9 = MQ below (vp_Si (fun r : Int32 => True)) ([.ref v0] : List Value).toArray s 0 0 (fun _ => False) := ⟨_, rfl⟩
  rw [← hQ9]
  have hun9 := cb_le v_kn v_pl.toInt.toNat
  refine lv_aload_n hx hb dX6_rowsLeft_0 rfl (lv_at hl 0 rfl) ?_
  refine va_get (D := (dC, dI)) (ci := 5) (v := .int v_tr) (C := RX6) (T := TX6) (N := 5) hx hb hts uinX6 hown hK hP 0 rfl rfl 4 (by decide) (hts _ wd_1_222) (fun _ h9 => h9) rfl dX6_rowsLeft_1 ?_
  have join_2 : ∀ (u_1 : Int32) (ls : Array Slot), (0 ≤ u_1.toInt ∧ u_1.toInt ≤ 5040) → lv_has ls 1 [(0, .ref v0)] → W p l e ({ frames := 1, cells := 0, slots := 0, locals := 60 }) s m ([.ref v0] : List Value).toArray below meth c s.heap [] 0 0 Q9 (F0 m 19 ls [.int u_1]) := by
    intro u_1 ls hu_1 hl
    rw [hQ9]
    exact W.iret (v := u_1) hx hb hr (fun t ht hW => ⟨u_1, rfl, trivial, ht⟩) (fun q h => by cases h) dX6_rowsLeft_19
  refine lv_if_eq (tgt := 18) hx hb dX6_rowsLeft_4 (by decide) (fun c_3 => ?_) (fun c_3 => ?_)
  · have c_3 : v_tr.toInt = 0 := cv_eq c_3
    refine lv_iconst (v := 0) hx hb dX6_rowsLeft_18 (by decide) ?_
    exact join_2 0 _ (by decide) (lv_sub hl [0] rfl)
  · have c_3 : v_tr.toInt ≠ 0 := cv_ne c_3
    refine va_getsN hx hb hFX.2.2.1 va_S.rf hown (va_Nw.use rfl hFX.2.2.2.2.2.1) (fun _ h9 => h9) dX6_rowsLeft_7 ?_
    refine lv_aload_n hx hb dX6_rowsLeft_10 rfl (lv_at hl 0 rfl) ?_
    refine va_get (D := (dC, dI)) (ci := 5) (v := .int v_un) (C := RX6) (T := TX6) (N := 5) hx hb hts uinX6 hown hK hP 0 rfl rfl 3 (by decide) (hts _ wd_1_221) (fun _ h9 => h9) rfl dX6_rowsLeft_11 ?_
    refine va_ti hx hb hFX.2.2.2.1 va_S.rf (v := .int (fxF.getD v_un.toNatClampNeg 0)) (vp_in_iff.mpr (by omega)) rfl dX6_rowsLeft_14 ?_
    refine lv_topi (fun x_4 ex_4 => ?_)
    have fx_4 : 1 ≤ x_4.toInt ∧ x_4.toInt ≤ 5040 := by rw [ex_4]; exact fx_ff (by omega) (by omega)
    refine lv_goto (tgt := 19) hx hb dX6_rowsLeft_15 (by decide) ?_
    exact join_2 x_4 _ (by omega) (lv_sub hl [0] rfl)

/- X6_rowsLeftIfAsked -/
set_option maxHeartbeats 4000000 in
set_option maxRecDepth 100000 in
theorem n_rowsLeftIfAsked (l : Launch) (dC : Nat → ClassId) (dI : Nat → Nat → Nat) (cyI cyB cyJ cyZ cyH cyN : ClassId) (tR tF : Nat) (aK aV : Nat → Nat) (v0 v_hung : Nat) (v_pl v_kn v_un v_tr : Int32) (v_f : Nat → Int32) (g0 : rg (-1) 6 7 v_f) (g1 : 0 ≤ v_pl.toInt ∧ v_pl.toInt ≤ 7) (g2 : 0 ≤ v_kn.toInt ∧ v_kn.toInt ≤ 127) (g3 : 0 ≤ v_tr.toInt ∧ v_tr.toInt ≤ 1) (g4 : v_un.toInt = v_pl.toInt - cb v_kn v_pl.toInt.toNat) : Met l yX6_rowsLeftIfAsked (wk yX6_rowsLeftIfAsked cX6_rowsLeftIfAsked 1 (some .int)) ({ frames := 2, cells := 0, slots := 0, locals := 80 }) (va_Pc [.ref v0] (fun U => va_P (dC, dI) vwCl [(v0, .inr (5, [.ref v_hung, .int v_pl, .int v_kn, .int v_un, .int v_tr])), (v_hung, .inl (cyI, 7, .inl v_f))] U.heap ∧ va_K (dC, dI) vwCl [(cyI, .int), (cyB, .byte), (cyJ, .long), (cyZ, .boolean), (cyH, .object RX2), (cyN, .array .long)] U ∧ cv_FX tR tF aK aV (fun _ => False) U U.heap)) (vp_Si (fun r : Int32 => True)) 0 0 (fun _ => False) := by
  refine Met.ofW (cc := cX6_rowsLeftIfAsked) (maxL := 1) (ret := (some .int)) (by decide) rfl ?_
  intro p e s m args below meth c s₁ B hml hv
  obtain ⟨rfl, hP, hK, hFX⟩ := hv
  have hx := B.exec
  have hb := B.bytes
  have hr := B.returns
  have hts : ∀ w ∈ uU, w.before ([.ref v0] : List Value).toArray s = true := fun w h => atoms_spec (ws := wk yX6_rowsLeftIfAsked cX6_rowsLeftIfAsked 1 (some .int)) B.pre w (List.mem_cons_of_mem _ h)
  have hown : s.vm.findClass RX6 = some m.cls := findClass_of_methodNamed B.named
  have hlocks := B.notSynchronized
  have hl := lv_entry ([.ref v0]) (n := 1) (Nat.le_of_ble_eq_true rfl)
  rw [lg_entry_eq]
  generalize (lg_sl ([.ref v0]) ++ List.replicate (1 - (lg_sl ([.ref v0])).length) Slot.unset).toArray = ls at hl ⊢
  have hl : lv_has ls 1 [(0, .ref v0)] := hl
  obtain ⟨Q9, hQ9⟩ : ∃ Q9 : State → Prop, Q9 = MQ below (vp_Si (fun r : Int32 => True)) ([.ref v0] : List Value).toArray s 0 0 (fun _ => False) := ⟨_, rfl⟩
  rw [← hQ9]
  have hun9 := cb_le v_kn v_pl.toInt.toNat
  refine lv_aload_n hx hb dX6_rowsLeftIfAsked_0 rfl (lv_at hl 0 rfl) ?_
  refine va_get (D := (dC, dI)) (ci := 5) (v := .int v_tr) (C := RX6) (T := TX6) (N := 5) hx hb hts uinX6 hown hK hP 0 rfl rfl 4 (by decide) (hts _ wd_1_222) (fun _ h9 => h9) rfl dX6_rowsLeftIfAsked_1 ?_
  have join_2 : ∀ (u_1 : Int32) (ls : Array Slot), lv_has ls 1 [(0, .ref v0)] → W p l e ({ frames := 2, cells := 0, slots := 0, locals := 80 }) s m ([.ref v0] : List Value).toArray below meth c s.heap [] 0 0 Q9 (F0 m 32 ls [.int u_1]) := by
    intro u_1 ls hl
    rw [hQ9]
    exact W.iret (v := u_1) hx hb hr (fun t ht hW => ⟨u_1, rfl, trivial, ht⟩) (fun q h => by cases h) dX6_rowsLeftIfAsked_32
  refine lv_if_eq (tgt := 28) hx hb dX6_rowsLeftIfAsked_4 (by decide) (fun c_3 => ?_) (fun c_3 => ?_)
  · have c_3 : v_tr.toInt = 0 := cv_eq c_3
    refine lv_aload_n hx hb dX6_rowsLeftIfAsked_28 rfl (lv_at hl 0 rfl) ?_
    have hPc := hP.sub (ws' := [(v0, .inr (5, [.ref v_hung, .int v_pl, .int v_kn, .int v_un, .int v_tr])), (v_hung, .inl (cyI, 7, .inl v_f))]) [0, 1] rfl
    have hKc := hK.sub (tys' := [(cyI, .int), (cyB, .byte), (cyJ, .long), (cyZ, .boolean), (cyH, .object RX2), (cyN, .array .long)]) [0, 1, 2, 3, 4, 5] rfl
    refine vp_callSi (va_Run.run (va_runV (As := []) (rest := []) ⟨hx, hb, hml, hown, hts⟩ (n_rowsLeft l dC dI cyI cyB cyJ cyZ cyH cyN tR tF aK aV v0 v_hung v_pl v_kn v_un v_tr v_f g0 (by omega) (by omega) (by omega) g4) (cwV 0 hts (gdV wd_4_227 wd_4_196 wd_4_197 wd_1_6 wd_4_198) rfl rfl rfl (by decide +kernel) ⟨Nat.le_of_ble_eq_true rfl, Nat.le_of_ble_eq_true rfl⟩) ⟨fun a U g mk q => by obtain ⟨q0, qP, qK, qF⟩ := q; exact ⟨q0, qP, va_K.moved (u := U) (U := U.calling g mk a) (Vm.Alike.refl U.vm) qK, cv_FX.same qF rfl rfl⟩, va_recv hKc hPc (ci := 5) (q0 := 0) rfl rfl, fun U hU hW => ⟨rfl, by rw [hU]; exact hPc, va_K.moved hW.alike hKc, cv_FX.go hFX hW va_S.rf (fun _ h9 => h9.elim) hU⟩⟩ rfl rfl hl.1 rfl (lv_room (Nat.le_of_ble_eq_true rfl)) dX6_rowsLeftIfAsked_29 ⟨Nat.le_of_ble_eq_true rfl, Nat.le_of_ble_eq_true rfl⟩)) (fun r_4 hw => ?_)
    exact join_2 r_4 _ (lv_sub hl [0] rfl)
  · have c_3 : v_tr.toInt ≠ 0 := cv_ne c_3
    refine lv_aload_n hx hb dX6_rowsLeftIfAsked_7 rfl (lv_at hl 0 rfl) ?_
    refine va_get (D := (dC, dI)) (ci := 5) (v := .int v_un) (C := RX6) (T := TX6) (N := 5) hx hb hts uinX6 hown hK hP 0 rfl rfl 3 (by decide) (hts _ wd_1_221) (fun _ h9 => h9) rfl dX6_rowsLeftIfAsked_8 ?_
    refine lv_iconst (v := 2) hx hb dX6_rowsLeftIfAsked_11 (by decide) ?_
    refine lv_icmp_lt (tgt := 28) hx hb dX6_rowsLeftIfAsked_12 (by decide) (fun c_5 => ?_) (fun c_5 => ?_)
    · have c_5 : v_un.toInt < 2 := cv_lt c_5
      refine lv_aload_n hx hb dX6_rowsLeftIfAsked_28 rfl (lv_at hl 0 rfl) ?_
      have hPc := hP.sub (ws' := [(v0, .inr (5, [.ref v_hung, .int v_pl, .int v_kn, .int v_un, .int v_tr])), (v_hung, .inl (cyI, 7, .inl v_f))]) [0, 1] rfl
      have hKc := hK.sub (tys' := [(cyI, .int), (cyB, .byte), (cyJ, .long), (cyZ, .boolean), (cyH, .object RX2), (cyN, .array .long)]) [0, 1, 2, 3, 4, 5] rfl
      refine vp_callSi (va_Run.run (va_runV (As := []) (rest := []) ⟨hx, hb, hml, hown, hts⟩ (n_rowsLeft l dC dI cyI cyB cyJ cyZ cyH cyN tR tF aK aV v0 v_hung v_pl v_kn v_un v_tr v_f g0 (by omega) (by omega) (by omega) g4) (cwV 0 hts (gdV wd_4_227 wd_4_196 wd_4_197 wd_1_6 wd_4_198) rfl rfl rfl (by decide +kernel) ⟨Nat.le_of_ble_eq_true rfl, Nat.le_of_ble_eq_true rfl⟩) ⟨fun a U g mk q => by obtain ⟨q0, qP, qK, qF⟩ := q; exact ⟨q0, qP, va_K.moved (u := U) (U := U.calling g mk a) (Vm.Alike.refl U.vm) qK, cv_FX.same qF rfl rfl⟩, va_recv hKc hPc (ci := 5) (q0 := 0) rfl rfl, fun U hU hW => ⟨rfl, by rw [hU]; exact hPc, va_K.moved hW.alike hKc, cv_FX.go hFX hW va_S.rf (fun _ h9 => h9.elim) hU⟩⟩ rfl rfl hl.1 rfl (lv_room (Nat.le_of_ble_eq_true rfl)) dX6_rowsLeftIfAsked_29 ⟨Nat.le_of_ble_eq_true rfl, Nat.le_of_ble_eq_true rfl⟩)) (fun r_6 hw => ?_)
      exact join_2 r_6 _ (lv_sub hl [0] rfl)
    · have c_5 : 2 ≤ v_un.toInt := cv_nlt c_5
      refine va_getsN hx hb hFX.2.2.1 va_S.rf hown (va_Nw.use rfl hFX.2.2.2.2.2.1) (fun _ h9 => h9) dX6_rowsLeftIfAsked_15 ?_
      refine lv_aload_n hx hb dX6_rowsLeftIfAsked_18 rfl (lv_at hl 0 rfl) ?_
      refine va_get (D := (dC, dI)) (ci := 5) (v := .int v_un) (C := RX6) (T := TX6) (N := 5) hx hb hts uinX6 hown hK hP 0 rfl rfl 3 (by decide) (hts _ wd_1_221) (fun _ h9 => h9) rfl dX6_rowsLeftIfAsked_19 ?_
      refine lv_iconst (v := 1) hx hb dX6_rowsLeftIfAsked_22 (by decide) ?_
      refine lv_isub hx hb dX6_rowsLeftIfAsked_23 ?_
      refine lv_topi (fun x_7 ex_7 => ?_)
      have fx_7 : x_7.toInt = v_un.toInt - 1 := by rw [ex_7]; exact cv_subI (by have : (1 : Int32).toInt = 1 := rfl; omega) (by have : (1 : Int32).toInt = 1 := rfl; omega)
      refine va_ti hx hb hFX.2.2.2.1 va_S.rf (v := .int (fxF.getD x_7.toNatClampNeg 0)) (vp_in_iff.mpr (by omega)) rfl dX6_rowsLeftIfAsked_24 ?_
      refine lv_topi (fun x_8 ex_8 => ?_)
      have fx_8 : 1 ≤ x_8.toInt ∧ x_8.toInt ≤ 5040 := by rw [ex_8]; exact fx_ff (by omega) (by omega)
      refine lv_goto (tgt := 32) hx hb dX6_rowsLeftIfAsked_25 (by decide) ?_
      exact join_2 x_8 _ (lv_sub hl [0] rfl)

/- J7_fill_53178 -/
set_option maxHeartbeats 4000000 in
set_option maxRecDepth 100000 in
theorem n_fillNone (l : Launch) (dC : Nat → ClassId) (dI : Nat → Nat → Nat) (cyI cyB cyJ cyZ cyH cyN : ClassId) (sz : Nat) (r0 : Nat) (f0 : Nat → Int32) : Met l yJ7_fill_53178 (wk yJ7_fill_53178 cJ7_fill_53178 4 none) ({ frames := 1, cells := 0, slots := 0, locals := 60 }) (va_Pc [.ref r0, .int (-1)] (fun U => U.heap.size = sz ∧ va_P (dC, dI) vwCl [(r0, .inl (cyI, 7, .inl f0))] U.heap ∧ va_K (dC, dI) vwCl [(cyI, .int), (cyB, .byte), (cyJ, .long), (cyZ, .boolean), (cyH, .object RX2), (cyN, .array .long)] U ∧ va_D (fun _ => True) [(r0, .inl (cyI, 7, .inl f0))])) (va_Qv (fun _ : Unit => True) (fun (_ : Unit) (t : State) => ∃ y0 : Nat → Int32, (rg (-1) 6 7 y0) ∧ va_P (dC, dI) vwCl [(r0, .inl (cyI, 7, .inl y0))] t.heap ∧ va_D (va_A [(r0, .inl (cyI, 7, .inl f0))] sz) [(r0, .inl (cyI, 7, .inl y0))]) (va_A [(r0, .inl (cyI, 7, .inl f0))] sz)) 0 0 (va_A [(r0, .inl (cyI, 7, .inl f0))] sz) := by
  refine Met.ofW (cc := cJ7_fill_53178) (maxL := 4) (ret := none) (by decide) rfl ?_
  intro p e s m args below meth c s₁ B hml hv
  obtain ⟨rfl, hsz, hP, hK, hD0⟩ := hv
  have hx := B.exec
  have hb := B.bytes
  have hr := B.returns
  have hts : ∀ w ∈ uU, w.before ([.ref r0, .int (-1)] : List Value).toArray s = true := fun w h => atoms_spec (ws := wk yJ7_fill_53178 cJ7_fill_53178 4 none) B.pre w (List.mem_cons_of_mem _ h)
  have hown : s.vm.findClass RJ7 = some m.cls := findClass_of_methodNamed B.named
  have hlocks := B.notSynchronized
  subst hsz
  have hD := hD0.self (sz := s.heap.size)
  generalize hAe : va_A [(r0, .inl (cyI, 7, .inl f0))] s.heap.size = A at hD ⊢
  have hA : ∀ q : Nat, s.heap.size ≤ q → A q := fun q h => by rw [← hAe]; exact Or.inr h
  have hS : va_S A s.heap s.heap [] := va_S.rf
  have hP : va_P (dC, dI) vwCl [(r0, .inl (cyI, 7, .inl f0))] s.heap := hP
  have hl := lv_entry ([.ref r0, .int (-1)]) (n := 4) (Nat.le_of_ble_eq_true rfl)
  rw [lg_entry_eq]
  generalize (lg_sl ([.ref r0, .int (-1)]) ++ List.replicate (4 - (lg_sl ([.ref r0, .int (-1)])).length) Slot.unset).toArray = ls at hl ⊢
  have hl : lv_has ls 4 [(0, .ref r0), (1, .int (-1))] := hl
  obtain ⟨H, hHe⟩ : ∃ H, H = s.heap := ⟨_, rfl⟩
  have hP : va_P (dC, dI) vwCl [(r0, .inl (cyI, 7, .inl f0))] H := by rw [hHe]; exact hP
  have hS : va_S A s.heap H [] := by rw [hHe]; exact hS
  refine cv_heap hHe ?_
  obtain ⟨Q9, hQ9⟩ : ∃ Q9 : State → Prop, Q9 = MQ below (va_Qv (fun _ : Unit => True) (fun (_ : Unit) (t : State) => ∃ y0 : Nat → Int32, (rg (-1) 6 7 y0) ∧ va_P (dC, dI) vwCl [(r0, .inl (cyI, 7, .inl y0))] t.heap ∧ va_D A [(r0, .inl (cyI, 7, .inl y0))]) A) ([.ref r0, .int (-1)] : List Value).toArray s 0 0 A := ⟨_, rfl⟩
  rw [← hQ9]
  refine lv_iconst (v := 0) hx hb dJ7_fill_53178_0 (by decide) ?_
  refine lv_istore_n (lv' := [(2, .int 0), (0, .ref r0), (1, .int (-1))]) hx hb dJ7_fill_53178_1 rfl hl (by decide) rfl (fun ls hl => ?_)
  refine lv_aload_n hx hb dJ7_fill_53178_2 rfl (lv_at hl 1 rfl) ?_
  refine va_alen hx hb hK hP 0 0 rfl (ty := .int) rfl (v := 7) rfl dJ7_fill_53178_3 ?_
  refine lv_istore_n (lv' := [(3, .int 7), (2, .int 0), (0, .ref r0), (1, .int (-1))]) hx hb dJ7_fill_53178_4 rfl hl (by decide) rfl (fun ls hl => ?_)
  have key_3 : ∀ (nkey_3 : Nat) (u_1 : Int32) (f_2 : Nat → Int32) (H : Heap) (locs : List Loc) (ls : Array Slot), (0 ≤ u_1.toInt ∧ u_1.toInt ≤ 7) → (rg (-1) 6 u_1.toInt.toNat f_2) → va_P (dC, dI) vwCl [(r0, .inl (cyI, 7, .inl f_2))] H → va_D A [(r0, .inl (cyI, 7, .inl f_2))] → va_S A s.heap H locs → lv_has ls 4 [(3, .int 7), (2, .int u_1), (0, .ref r0), (1, .int (-1))] → (7 - u_1.toInt).toNat < nkey_3 → W p l e ({ frames := 1, cells := 0, slots := 0, locals := 60 }) s m ([.ref r0, .int (-1)] : List Value).toArray below meth c H locs 0 0 Q9 (F0 m 5 ls []) := by
    intro nkey_3
    induction nkey_3 with
    | zero => intro u_1 f_2 H locs ls hu_1 hrg9 hP hD hS hl hnkey_3; exact absurd hnkey_3 (Nat.not_lt_zero _)
    | succ nkey_3 ihkey_3 =>
      intro u_1 f_2 H locs ls hu_1 hrg9 hP hD hS hl hnkey_3
      refine lv_iload_n hx hb dJ7_fill_53178_5 rfl (lv_at hl 1 rfl) ?_
      refine lv_iload_n hx hb dJ7_fill_53178_6 rfl (lv_at hl 0 rfl) ?_
      refine lv_icmp_ge (tgt := 20) hx hb dJ7_fill_53178_7 (by decide) (fun c_4 => ?_) (fun c_4 => ?_)
      · have c_4 : 7 ≤ u_1.toInt := cv_le c_4
        rw [hQ9]
        have hP9 := hP.sub (ws' := [(r0, .inl (cyI, 7, .inl f_2))]) [0] rfl
        have hD9 := hD.sub (ws' := [(r0, .inl (cyI, 7, .inl f_2))]) [0] (by decide) rfl
        exact W.vret hx hb hr (fun t ht hW => ⟨⟨(), rfl, trivial, ⟨f_2, (rg_fewer hrg9 (by omega)), by rw [ht]; exact hP9, hD9⟩⟩, hS.F ht⟩) hS.2.2 dJ7_fill_53178_20
      · have c_4 : u_1.toInt < 7 := cv_nle c_4
        refine lv_aload_n hx hb dJ7_fill_53178_10 rfl (lv_at hl 2 rfl) ?_
        refine lv_iload_n hx hb dJ7_fill_53178_11 rfl (lv_at hl 1 rfl) ?_
        refine lv_iload_n hx hb dJ7_fill_53178_12 rfl (lv_at hl 3 rfl) ?_
        refine va_iast hx hb hK hP hD hS 0 0 rfl rfl (vp_in_iff.mpr (by omega)) dJ7_fill_53178_13 (fun H locs hP hD hS => ?_)
        obtain ⟨f_5, ef_5⟩ : ∃ z9 : Nat → Int32, z9 = upd f_2 u_1.toNatClampNeg (-1) := ⟨_, rfl⟩
        rw [← ef_5] at hP hD
        have hP : va_P (dC, dI) vwCl [(r0, .inl (cyI, 7, .inl f_5))] H := hP
        have hD : va_D A [(r0, .inl (cyI, 7, .inl f_5))] := hD
        obtain ⟨x_6, ex_6⟩ : ∃ y : Int32, y = u_1 + 1 := ⟨_, rfl⟩
        refine lv_iinc (v := x_6) (lv' := [(2, .int x_6), (3, .int 7), (0, .ref r0), (1, .int (-1))]) hx hb dJ7_fill_53178_14 hl (k := 1) rfl (by rw [ex_6]; rfl) (by decide) rfl (fun ls hl => ?_)
        have fx_6 : x_6.toInt = u_1.toInt + 1 := by rw [ex_6]; exact cv_addI (by have : (1 : Int32).toInt = 1 := rfl; omega) (by have : (1 : Int32).toInt = 1 := rfl; omega)
        refine lv_goto (tgt := 5) hx hb dJ7_fill_53178_17 (by decide) ?_
        exact ihkey_3 x_6 f_5 _ _ _ (by omega) (rg_push hrg9 (by assumption) (by decide) (by omega) (by omega)) hP hD hS (lv_sub hl [1, 0, 2, 3] rfl) (by omega)
  exact key_3 _ 0 f0 _ _ _ (by decide) (fun _ h9 => absurd h9 (Nat.not_lt_zero _)) hP hD hS (lv_sub hl [0, 1, 2, 3] rfl) (Nat.lt_succ_self _)

/- X6_areSuch -/
set_option maxHeartbeats 4000000 in
set_option maxRecDepth 100000 in
theorem n_areSuch0 (l : Launch) (dC : Nat → ClassId) (dI : Nat → Nat → Nat) (cyI cyB cyJ cyZ cyH cyN : ClassId) (sl0 sNum sLen sWid sMade n0 n1 n2 n3 : Nat) (nF : Nat → Option Nat) (s_fm s_fl s_fw : Nat → Int32) (s_n0 s_n1 s_n2 s_n3 : Nat → Int64) (h0 a_first a_now a_lawPlace a_lawOther a_lawEach a_lawFrom a_foes a_suitTable a_acts : Nat) (a_pl a_li a_le a_lc a_ac a_ng : Int32) (a_f_first a_f_now a_f_lawPlace a_f_lawOther a_f_lawEach a_f_lawFrom a_f_foes a_f_suitTable a_f_acts : Nat → Int32) (g0 : rg 0 1 4 s_fm) (g1 : rg 0 60 4 s_fl) (g2 : rg 0 3 4 s_fw) (g3 : rg 0 6 7 a_f_first) (g4 : rg 0 6 7 a_f_now) (g5 : rg 0 6 6 a_f_lawPlace) (g6 : rg 0 6 6 a_f_lawOther) (g7 : ra 40 a_f_acts) (g8 : 0 ≤ a_pl.toInt ∧ a_pl.toInt ≤ 7) (g9 : 0 ≤ a_lc.toInt ∧ a_lc.toInt ≤ 6) (g10 : 0 ≤ a_ac.toInt ∧ a_ac.toInt ≤ 40) (g11 : nF 0 = some n0) (g12 : nF 1 = some n1) (g13 : nF 2 = some n2) (g14 : nF 3 = some n3) : Met l yX6_areSuch (wk yX6_areSuch cX6_areSuch 9 (some .boolean)) ({ frames := 1, cells := 0, slots := 0, locals := 60 }) (va_Pc [.ref h0, .ref sl0, .int 0] (fun U => va_P (dC, dI) vwCl [(sl0, .inr (7, [.ref sNum, .ref sLen, .ref sWid, .ref sMade])), (sMade, .inl (cyZ, 4, .inl s_fm)), (sLen, .inl (cyI, 4, .inl s_fl)), (sWid, .inl (cyI, 4, .inl s_fw)), (sNum, .inl (cyN, 4, .inr (.inr (.inr (.inr nF))))), (n0, .inl (cyJ, 60, .inr (.inl s_n0))), (n1, .inl (cyJ, 60, .inr (.inl s_n1))), (n2, .inl (cyJ, 60, .inr (.inl s_n2))), (n3, .inl (cyJ, 60, .inr (.inl s_n3))), (h0, .inr (2, [.int a_pl, .int a_li, .int a_le, .int a_lc, .int a_ac, .int a_ng, .ref a_first, .ref a_now, .ref a_lawPlace, .ref a_lawOther, .ref a_lawEach, .ref a_lawFrom, .ref a_foes, .ref a_suitTable, .ref a_acts])), (a_first, .inl (cyI, 7, .inl a_f_first)), (a_now, .inl (cyI, 7, .inl a_f_now)), (a_lawPlace, .inl (cyI, 6, .inl a_f_lawPlace)), (a_lawOther, .inl (cyI, 6, .inl a_f_lawOther)), (a_lawEach, .inl (cyI, 6, .inl a_f_lawEach)), (a_lawFrom, .inl (cyI, 6, .inl a_f_lawFrom)), (a_foes, .inl (cyI, 7, .inl a_f_foes)), (a_suitTable, .inl (cyI, 49, .inl a_f_suitTable)), (a_acts, .inl (cyI, 40, .inl a_f_acts))] U.heap ∧ va_K (dC, dI) vwCl [(cyI, .int), (cyB, .byte), (cyJ, .long), (cyZ, .boolean), (cyH, .object RX2), (cyN, .array .long)] U)) (vp_Si (fun r : Int32 => (0 ≤ r.toInt ∧ r.toInt ≤ 1) ∧ (r.toInt = 1 → sn a_pl.toInt (s_fl 0).toInt s_n0))) 0 0 (fun _ => False) := by
  refine Met.ofW (cc := cX6_areSuch) (maxL := 9) (ret := (some .boolean)) (by decide) rfl ?_
  intro p e s m args below meth c s₁ B hml hv
  obtain ⟨rfl, hP, hK⟩ := hv
  have hx := B.exec
  have hb := B.bytes
  have hr := B.returns
  have hts : ∀ w ∈ uU, w.before ([.ref h0, .ref sl0, .int 0] : List Value).toArray s = true := fun w h => atoms_spec (ws := wk yX6_areSuch cX6_areSuch 9 (some .boolean)) B.pre w (List.mem_cons_of_mem _ h)
  have hown : s.vm.findClass RX6 = some m.cls := findClass_of_methodNamed B.named
  have hlocks := B.notSynchronized
  have hl := lv_entry ([.ref h0, .ref sl0, .int 0]) (n := 9) (Nat.le_of_ble_eq_true rfl)
  rw [lg_entry_eq]
  generalize (lg_sl ([.ref h0, .ref sl0, .int 0]) ++ List.replicate (9 - (lg_sl ([.ref h0, .ref sl0, .int 0])).length) Slot.unset).toArray = ls at hl ⊢
  have hl : lv_has ls 9 [(0, .ref h0), (1, .ref sl0), (2, .int 0)] := hl
  obtain ⟨Q9, hQ9⟩ : ∃ Q9 : State → Prop, Q9 = MQ below (vp_Si (fun r : Int32 => (0 ≤ r.toInt ∧ r.toInt ≤ 1) ∧ (r.toInt = 1 → sn a_pl.toInt (s_fl 0).toInt s_n0))) ([.ref h0, .ref sl0, .int 0] : List Value).toArray s 0 0 (fun _ => False) := ⟨_, rfl⟩
  rw [← hQ9]
  refine lv_aload_n hx hb dX6_areSuch_0 rfl (lv_at hl 1 rfl) ?_
  refine va_get (D := (dC, dI)) (ci := 7) (v := .ref sLen) (C := RX8) (T := TX8) (N := 4) hx hb hts uinX8 hown hK hP 0 rfl rfl 1 (by decide) (hts _ wd_1_169) (fun _ h9 => h9) rfl dX6_areSuch_1 ?_
  refine lv_iload_n hx hb dX6_areSuch_4 rfl (lv_at hl 2 rfl) ?_
  refine va_iald hx hb hK hP 2 0 rfl rfl (vp_in_iff.mpr (by decide)) dX6_areSuch_5 ?_
  refine lv_topi (fun x_1 ex_1 => ?_)
  have qx_1 : x_1.toInt = (s_fl 0).toInt := by rw [ex_1]; rfl
  have fx_1 : 0 ≤ x_1.toInt ∧ x_1.toInt ≤ 60 := by rw [ex_1]; exact g1 _ (cv_ix (by decide) (by decide))
  refine lv_istore_n (lv' := [(3, .int x_1), (0, .ref h0), (1, .ref sl0), (2, .int 0)]) hx hb dX6_areSuch_6 rfl hl (by decide) rfl (fun ls hl => ?_)
  refine lv_iload_n hx hb dX6_areSuch_7 rfl (lv_at hl 0 rfl) ?_
  refine lv_iconst (v := 3) hx hb dX6_areSuch_8 (by decide) ?_
  refine lv_irem hx hb dX6_areSuch_9 (by decide) ?_
  refine lv_topi (fun x_2 ex_2 => ?_)
  have fx_2 : x_2.toInt = x_1.toInt % 3 := by rw [ex_2]; exact cv_remI (by omega) (by decide)
  refine lv_if_eq (tgt := 15) hx hb dX6_areSuch_10 (by decide) (fun c_3 => ?_) (fun c_3 => ?_)
  · have c_3 : x_2.toInt = 0 := cv_eq c_3
    refine lv_aload_n hx hb dX6_areSuch_15 rfl (lv_at hl 2 rfl) ?_
    refine va_get (D := (dC, dI)) (ci := 7) (v := .ref sNum) (C := RX8) (T := TX8) (N := 4) hx hb hts uinX8 hown hK hP 0 rfl rfl 0 (by decide) (hts _ wd_1_166) (fun _ h9 => h9) rfl dX6_areSuch_16 ?_
    refine lv_iload_n hx hb dX6_areSuch_19 rfl (lv_at hl 3 rfl) ?_
    refine cv_aldA hx hb hK hP 4 5 rfl rfl (vp_in_iff.mpr (by decide)) dX6_areSuch_20 ?_
    refine cv_topr (b := .ref n0) (by rw [show (0 : Int32).toNatClampNeg = 0 from rfl, g11]; rfl) ?_
    refine lv_astore (lv' := [(4, .ref n0), (3, .int x_1), (0, .ref h0), (1, .ref sl0), (2, .int 0)]) hx hb dX6_areSuch_21 hl (by decide) rfl (fun ls hl => ?_)
    refine lv_iconst (v := 0) hx hb dX6_areSuch_23 (by decide) ?_
    refine lv_istore (lv' := [(5, .int 0), (4, .ref n0), (3, .int x_1), (0, .ref h0), (1, .ref sl0), (2, .int 0)]) hx hb dX6_areSuch_24 hl (by decide) rfl (fun ls hl => ?_)
    have key_5 : ∀ (nkey_5 : Nat) (u_4 : Int32) (ls : Array Slot), (0 ≤ u_4.toInt ∧ u_4.toInt ≤ 63) → (u_4.toInt % 3 = 0) → (sn a_pl.toInt u_4.toInt s_n0) → lv_has ls 9 [(5, .int u_4), (4, .ref n0), (3, .int x_1), (0, .ref h0), (1, .ref sl0), (2, .int 0)] → (x_1.toInt - u_4.toInt).toNat < nkey_5 → W p l e ({ frames := 1, cells := 0, slots := 0, locals := 60 }) s m ([.ref h0, .ref sl0, .int 0] : List Value).toArray below meth c s.heap [] 0 0 Q9 (F0 m 26 ls []) := by
      intro nkey_5
      induction nkey_5 with
      | zero => intro u_4 ls hu_4 hm9 hsn9 hl hnkey_5; exact absurd hnkey_5 (Nat.not_lt_zero _)
      | succ nkey_5 ihkey_5 =>
        intro u_4 ls hu_4 hm9 hsn9 hl hnkey_5
        refine lv_iload hx hb dX6_areSuch_26 (lv_at hl 0 rfl) ?_
        refine lv_iload_n hx hb dX6_areSuch_28 rfl (lv_at hl 2 rfl) ?_
        refine lv_icmp_ge (tgt := 154) hx hb dX6_areSuch_29 (by decide) (fun c_6 => ?_) (fun c_6 => ?_)
        · have c_6 : x_1.toInt ≤ u_4.toInt := cv_le c_6
          refine lv_iconst (v := 1) hx hb dX6_areSuch_154 (by decide) ?_
          rw [hQ9]
          exact W.zret (v := 1) (ty := .boolean) hx hb hr rfl (fun t ht hW => ⟨1, rfl, ⟨by decide, fun _ => sn_mono hsn9 (by omega)⟩, ht⟩) (fun q h => by cases h) dX6_areSuch_155
        · have c_6 : u_4.toInt < x_1.toInt := cv_nle c_6
          refine lv_aload hx hb dX6_areSuch_32 (lv_at hl 1 rfl) ?_
          refine lv_iload hx hb dX6_areSuch_34 (lv_at hl 0 rfl) ?_
          refine va_lald hx hb hK hP 5 2 rfl rfl (vp_in_iff.mpr (by omega)) dX6_areSuch_36 ?_
          refine lv_topl (fun x_7 ex_7 => ?_)
          refine lv_lconst (v := 0) hx hb dX6_areSuch_37 (by decide) ?_
          refine W.lcmp hx hb dX6_areSuch_38 ?_
          refine lv_if_lt (tgt := 60) hx hb dX6_areSuch_39 (by decide) (fun c_8 => ?_) (fun c_8 => ?_)
          · have c_8 : x_7.toInt < 0 := cv_clt c_8
            refine lv_iconst (v := 0) hx hb dX6_areSuch_60 (by decide) ?_
            refine lv_istore (lv' := [(6, .int 0), (5, .int u_4), (4, .ref n0), (3, .int x_1), (0, .ref h0), (1, .ref sl0), (2, .int 0)]) hx hb dX6_areSuch_61 hl (by decide) rfl (fun ls hl => ?_)
            refine lv_aload hx hb dX6_areSuch_63 (lv_at hl 2 rfl) ?_
            refine lv_iload hx hb dX6_areSuch_65 (lv_at hl 1 rfl) ?_
            refine lv_iconst (v := 1) hx hb dX6_areSuch_67 (by decide) ?_
            refine lv_iadd hx hb dX6_areSuch_68 ?_
            refine lv_topi (fun x_9 ex_9 => ?_)
            have fx_9 : x_9.toInt = u_4.toInt + 1 := by rw [ex_9]; exact cv_addI (by have : (1 : Int32).toInt = 1 := rfl; omega) (by have : (1 : Int32).toInt = 1 := rfl; omega)
            refine va_lald hx hb hK hP 5 2 rfl rfl (vp_in_iff.mpr (by omega)) dX6_areSuch_69 ?_
            refine lv_topl (fun x_10 ex_10 => ?_)
            refine lv_lconst (v := 0) hx hb dX6_areSuch_70 (by decide) ?_
            refine W.lcmp hx hb dX6_areSuch_71 ?_
            refine lv_if_lt (tgt := 93) hx hb dX6_areSuch_72 (by decide) (fun c_11 => ?_) (fun c_11 => ?_)
            · have c_11 : x_10.toInt < 0 := cv_clt c_11
              refine lv_iconst (v := 0) hx hb dX6_areSuch_93 (by decide) ?_
              refine lv_istore (lv' := [(7, .int 0), (6, .int 0), (5, .int u_4), (4, .ref n0), (3, .int x_1), (0, .ref h0), (1, .ref sl0), (2, .int 0)]) hx hb dX6_areSuch_94 hl (by decide) rfl (fun ls hl => ?_)
              refine lv_aload hx hb dX6_areSuch_96 (lv_at hl 3 rfl) ?_
              refine lv_iload hx hb dX6_areSuch_98 (lv_at hl 2 rfl) ?_
              refine lv_iconst (v := 2) hx hb dX6_areSuch_100 (by decide) ?_
              refine lv_iadd hx hb dX6_areSuch_101 ?_
              refine lv_topi (fun x_12 ex_12 => ?_)
              have fx_12 : x_12.toInt = u_4.toInt + 2 := by rw [ex_12]; exact cv_addI (by have : (2 : Int32).toInt = 2 := rfl; omega) (by have : (2 : Int32).toInt = 2 := rfl; omega)
              refine va_lald hx hb hK hP 5 2 rfl rfl (vp_in_iff.mpr (by omega)) dX6_areSuch_102 ?_
              refine lv_topl (fun x_13 ex_13 => ?_)
              refine lv_lconst (v := 0) hx hb dX6_areSuch_103 (by decide) ?_
              refine W.lcmp hx hb dX6_areSuch_104 ?_
              refine lv_if_lt (tgt := 128) hx hb dX6_areSuch_105 (by decide) (fun c_14 => ?_) (fun c_14 => ?_)
              · have c_14 : x_13.toInt < 0 := cv_clt c_14
                refine lv_iconst (v := 0) hx hb dX6_areSuch_128 (by decide) ?_
                refine lv_istore (lv' := [(8, .int 0), (7, .int 0), (6, .int 0), (5, .int u_4), (4, .ref n0), (3, .int x_1), (0, .ref h0), (1, .ref sl0), (2, .int 0)]) hx hb dX6_areSuch_129 hl (by decide) rfl (fun ls hl => ?_)
                refine lv_iload hx hb dX6_areSuch_131 (lv_at hl 2 rfl) ?_
                refine lv_if_eq (tgt := 146) hx hb dX6_areSuch_133 (by decide) (fun _ => ?_) (fun c_15 => absurd c_15 (by decide))
                refine lv_iconst (v := 0) hx hb dX6_areSuch_146 (by decide) ?_
                rw [hQ9]
                exact W.zret (v := 0) (ty := .boolean) hx hb hr rfl (fun t ht hW => ⟨0, rfl, ⟨by decide, fun h9 => absurd h9 (by decide)⟩, ht⟩) (fun q h => by cases h) dX6_areSuch_147
              · have c_14 : 0 ≤ x_13.toInt := cv_cnlt c_14
                refine lv_aload hx hb dX6_areSuch_108 (lv_at hl 3 rfl) ?_
                refine lv_iload hx hb dX6_areSuch_110 (lv_at hl 2 rfl) ?_
                refine lv_iconst (v := 2) hx hb dX6_areSuch_112 (by decide) ?_
                refine lv_iadd hx hb dX6_areSuch_113 ?_
                refine lv_topi (fun x_16 ex_16 => ?_)
                have fx_16 : x_16.toInt = u_4.toInt + 2 := by rw [ex_16]; exact cv_addI (by have : (2 : Int32).toInt = 2 := rfl; omega) (by have : (2 : Int32).toInt = 2 := rfl; omega)
                refine va_lald hx hb hK hP 5 2 rfl rfl (vp_in_iff.mpr (by omega)) dX6_areSuch_114 ?_
                refine cv_topl (b := x_13) (by rw [ex_13, ex_16, ex_12]) ?_
                refine lv_aload_n hx hb dX6_areSuch_115 rfl (lv_at hl 5 rfl) ?_
                refine va_get (D := (dC, dI)) (ci := 2) (v := .int a_pl) (C := RX2) (T := TX2) (N := 15) hx hb hts uinX2 hown hK hP 9 rfl rfl 0 (by decide) (hts _ wd_1_82) (fun _ h9 => h9) rfl dX6_areSuch_116 ?_
                obtain ⟨y_17, ey_17⟩ : ∃ z : Int64, z = a_pl.toInt64 := ⟨_, rfl⟩
                have fy_17 : y_17.toInt = a_pl.toInt := by rw [ey_17]; exact Int32.toInt_toInt64 _
                refine lv_i2l (v := y_17) hx hb dX6_areSuch_119 ey_17.symm ?_
                refine W.lcmp hx hb dX6_areSuch_120 ?_
                refine lv_if_ge (tgt := 128) hx hb dX6_areSuch_121 (by decide) (fun c_18 => ?_) (fun c_18 => ?_)
                · have c_18 : y_17.toInt ≤ x_13.toInt := cv_cge c_18
                  refine lv_iconst (v := 0) hx hb dX6_areSuch_128 (by decide) ?_
                  refine lv_istore (lv' := [(8, .int 0), (7, .int 0), (6, .int 0), (5, .int u_4), (4, .ref n0), (3, .int x_1), (0, .ref h0), (1, .ref sl0), (2, .int 0)]) hx hb dX6_areSuch_129 hl (by decide) rfl (fun ls hl => ?_)
                  refine lv_iload hx hb dX6_areSuch_131 (lv_at hl 2 rfl) ?_
                  refine lv_if_eq (tgt := 146) hx hb dX6_areSuch_133 (by decide) (fun _ => ?_) (fun c_19 => absurd c_19 (by decide))
                  refine lv_iconst (v := 0) hx hb dX6_areSuch_146 (by decide) ?_
                  rw [hQ9]
                  exact W.zret (v := 0) (ty := .boolean) hx hb hr rfl (fun t ht hW => ⟨0, rfl, ⟨by decide, fun h9 => absurd h9 (by decide)⟩, ht⟩) (fun q h => by cases h) dX6_areSuch_147
                · have c_18 : x_13.toInt < y_17.toInt := cv_cnge c_18
                  refine lv_iconst (v := 1) hx hb dX6_areSuch_124 (by decide) ?_
                  refine lv_goto (tgt := 129) hx hb dX6_areSuch_125 (by decide) ?_
                  refine lv_istore (lv' := [(8, .int 1), (7, .int 0), (6, .int 0), (5, .int u_4), (4, .ref n0), (3, .int x_1), (0, .ref h0), (1, .ref sl0), (2, .int 0)]) hx hb dX6_areSuch_129 hl (by decide) rfl (fun ls hl => ?_)
                  refine lv_iload hx hb dX6_areSuch_131 (lv_at hl 2 rfl) ?_
                  refine lv_if_eq (tgt := 146) hx hb dX6_areSuch_133 (by decide) (fun _ => ?_) (fun c_20 => absurd c_20 (by decide))
                  refine lv_iconst (v := 0) hx hb dX6_areSuch_146 (by decide) ?_
                  rw [hQ9]
                  exact W.zret (v := 0) (ty := .boolean) hx hb hr rfl (fun t ht hW => ⟨0, rfl, ⟨by decide, fun h9 => absurd h9 (by decide)⟩, ht⟩) (fun q h => by cases h) dX6_areSuch_147
            · have c_11 : 0 ≤ x_10.toInt := cv_cnlt c_11
              refine lv_aload hx hb dX6_areSuch_75 (lv_at hl 2 rfl) ?_
              refine lv_iload hx hb dX6_areSuch_77 (lv_at hl 1 rfl) ?_
              refine lv_iconst (v := 1) hx hb dX6_areSuch_79 (by decide) ?_
              refine lv_iadd hx hb dX6_areSuch_80 ?_
              refine lv_topi (fun x_21 ex_21 => ?_)
              have fx_21 : x_21.toInt = u_4.toInt + 1 := by rw [ex_21]; exact cv_addI (by have : (1 : Int32).toInt = 1 := rfl; omega) (by have : (1 : Int32).toInt = 1 := rfl; omega)
              refine va_lald hx hb hK hP 5 2 rfl rfl (vp_in_iff.mpr (by omega)) dX6_areSuch_81 ?_
              refine cv_topl (b := x_10) (by rw [ex_10, ex_21, ex_9]) ?_
              refine lv_ldc2 (v := 999) hx hb hown (hts _ wd_4_184) dX6_areSuch_82 ?_
              refine W.lcmp hx hb dX6_areSuch_85 ?_
              refine lv_if_gt (tgt := 93) hx hb dX6_areSuch_86 (by decide) (fun c_22 => ?_) (fun c_22 => ?_)
              · have c_22 : 999 < x_10.toInt := cv_cgt c_22
                refine lv_iconst (v := 0) hx hb dX6_areSuch_93 (by decide) ?_
                refine lv_istore (lv' := [(7, .int 0), (6, .int 0), (5, .int u_4), (4, .ref n0), (3, .int x_1), (0, .ref h0), (1, .ref sl0), (2, .int 0)]) hx hb dX6_areSuch_94 hl (by decide) rfl (fun ls hl => ?_)
                refine lv_aload hx hb dX6_areSuch_96 (lv_at hl 3 rfl) ?_
                refine lv_iload hx hb dX6_areSuch_98 (lv_at hl 2 rfl) ?_
                refine lv_iconst (v := 2) hx hb dX6_areSuch_100 (by decide) ?_
                refine lv_iadd hx hb dX6_areSuch_101 ?_
                refine lv_topi (fun x_23 ex_23 => ?_)
                have fx_23 : x_23.toInt = u_4.toInt + 2 := by rw [ex_23]; exact cv_addI (by have : (2 : Int32).toInt = 2 := rfl; omega) (by have : (2 : Int32).toInt = 2 := rfl; omega)
                refine va_lald hx hb hK hP 5 2 rfl rfl (vp_in_iff.mpr (by omega)) dX6_areSuch_102 ?_
                refine lv_topl (fun x_24 ex_24 => ?_)
                refine lv_lconst (v := 0) hx hb dX6_areSuch_103 (by decide) ?_
                refine W.lcmp hx hb dX6_areSuch_104 ?_
                refine lv_if_lt (tgt := 128) hx hb dX6_areSuch_105 (by decide) (fun c_25 => ?_) (fun c_25 => ?_)
                · have c_25 : x_24.toInt < 0 := cv_clt c_25
                  refine lv_iconst (v := 0) hx hb dX6_areSuch_128 (by decide) ?_
                  refine lv_istore (lv' := [(8, .int 0), (7, .int 0), (6, .int 0), (5, .int u_4), (4, .ref n0), (3, .int x_1), (0, .ref h0), (1, .ref sl0), (2, .int 0)]) hx hb dX6_areSuch_129 hl (by decide) rfl (fun ls hl => ?_)
                  refine lv_iload hx hb dX6_areSuch_131 (lv_at hl 2 rfl) ?_
                  refine lv_if_eq (tgt := 146) hx hb dX6_areSuch_133 (by decide) (fun _ => ?_) (fun c_26 => absurd c_26 (by decide))
                  refine lv_iconst (v := 0) hx hb dX6_areSuch_146 (by decide) ?_
                  rw [hQ9]
                  exact W.zret (v := 0) (ty := .boolean) hx hb hr rfl (fun t ht hW => ⟨0, rfl, ⟨by decide, fun h9 => absurd h9 (by decide)⟩, ht⟩) (fun q h => by cases h) dX6_areSuch_147
                · have c_25 : 0 ≤ x_24.toInt := cv_cnlt c_25
                  refine lv_aload hx hb dX6_areSuch_108 (lv_at hl 3 rfl) ?_
                  refine lv_iload hx hb dX6_areSuch_110 (lv_at hl 2 rfl) ?_
                  refine lv_iconst (v := 2) hx hb dX6_areSuch_112 (by decide) ?_
                  refine lv_iadd hx hb dX6_areSuch_113 ?_
                  refine lv_topi (fun x_27 ex_27 => ?_)
                  have fx_27 : x_27.toInt = u_4.toInt + 2 := by rw [ex_27]; exact cv_addI (by have : (2 : Int32).toInt = 2 := rfl; omega) (by have : (2 : Int32).toInt = 2 := rfl; omega)
                  refine va_lald hx hb hK hP 5 2 rfl rfl (vp_in_iff.mpr (by omega)) dX6_areSuch_114 ?_
                  refine cv_topl (b := x_24) (by rw [ex_24, ex_27, ex_23]) ?_
                  refine lv_aload_n hx hb dX6_areSuch_115 rfl (lv_at hl 5 rfl) ?_
                  refine va_get (D := (dC, dI)) (ci := 2) (v := .int a_pl) (C := RX2) (T := TX2) (N := 15) hx hb hts uinX2 hown hK hP 9 rfl rfl 0 (by decide) (hts _ wd_1_82) (fun _ h9 => h9) rfl dX6_areSuch_116 ?_
                  obtain ⟨y_28, ey_28⟩ : ∃ z : Int64, z = a_pl.toInt64 := ⟨_, rfl⟩
                  have fy_28 : y_28.toInt = a_pl.toInt := by rw [ey_28]; exact Int32.toInt_toInt64 _
                  refine lv_i2l (v := y_28) hx hb dX6_areSuch_119 ey_28.symm ?_
                  refine W.lcmp hx hb dX6_areSuch_120 ?_
                  refine lv_if_ge (tgt := 128) hx hb dX6_areSuch_121 (by decide) (fun c_29 => ?_) (fun c_29 => ?_)
                  · have c_29 : y_28.toInt ≤ x_24.toInt := cv_cge c_29
                    refine lv_iconst (v := 0) hx hb dX6_areSuch_128 (by decide) ?_
                    refine lv_istore (lv' := [(8, .int 0), (7, .int 0), (6, .int 0), (5, .int u_4), (4, .ref n0), (3, .int x_1), (0, .ref h0), (1, .ref sl0), (2, .int 0)]) hx hb dX6_areSuch_129 hl (by decide) rfl (fun ls hl => ?_)
                    refine lv_iload hx hb dX6_areSuch_131 (lv_at hl 2 rfl) ?_
                    refine lv_if_eq (tgt := 146) hx hb dX6_areSuch_133 (by decide) (fun _ => ?_) (fun c_30 => absurd c_30 (by decide))
                    refine lv_iconst (v := 0) hx hb dX6_areSuch_146 (by decide) ?_
                    rw [hQ9]
                    exact W.zret (v := 0) (ty := .boolean) hx hb hr rfl (fun t ht hW => ⟨0, rfl, ⟨by decide, fun h9 => absurd h9 (by decide)⟩, ht⟩) (fun q h => by cases h) dX6_areSuch_147
                  · have c_29 : x_24.toInt < y_28.toInt := cv_cnge c_29
                    refine lv_iconst (v := 1) hx hb dX6_areSuch_124 (by decide) ?_
                    refine lv_goto (tgt := 129) hx hb dX6_areSuch_125 (by decide) ?_
                    refine lv_istore (lv' := [(8, .int 1), (7, .int 0), (6, .int 0), (5, .int u_4), (4, .ref n0), (3, .int x_1), (0, .ref h0), (1, .ref sl0), (2, .int 0)]) hx hb dX6_areSuch_129 hl (by decide) rfl (fun ls hl => ?_)
                    refine lv_iload hx hb dX6_areSuch_131 (lv_at hl 2 rfl) ?_
                    refine lv_if_eq (tgt := 146) hx hb dX6_areSuch_133 (by decide) (fun _ => ?_) (fun c_31 => absurd c_31 (by decide))
                    refine lv_iconst (v := 0) hx hb dX6_areSuch_146 (by decide) ?_
                    rw [hQ9]
                    exact W.zret (v := 0) (ty := .boolean) hx hb hr rfl (fun t ht hW => ⟨0, rfl, ⟨by decide, fun h9 => absurd h9 (by decide)⟩, ht⟩) (fun q h => by cases h) dX6_areSuch_147
              · have c_22 : x_10.toInt ≤ 999 := cv_cngt c_22
                refine lv_iconst (v := 1) hx hb dX6_areSuch_89 (by decide) ?_
                refine lv_goto (tgt := 94) hx hb dX6_areSuch_90 (by decide) ?_
                refine lv_istore (lv' := [(7, .int 1), (6, .int 0), (5, .int u_4), (4, .ref n0), (3, .int x_1), (0, .ref h0), (1, .ref sl0), (2, .int 0)]) hx hb dX6_areSuch_94 hl (by decide) rfl (fun ls hl => ?_)
                refine lv_aload hx hb dX6_areSuch_96 (lv_at hl 3 rfl) ?_
                refine lv_iload hx hb dX6_areSuch_98 (lv_at hl 2 rfl) ?_
                refine lv_iconst (v := 2) hx hb dX6_areSuch_100 (by decide) ?_
                refine lv_iadd hx hb dX6_areSuch_101 ?_
                refine lv_topi (fun x_32 ex_32 => ?_)
                have fx_32 : x_32.toInt = u_4.toInt + 2 := by rw [ex_32]; exact cv_addI (by have : (2 : Int32).toInt = 2 := rfl; omega) (by have : (2 : Int32).toInt = 2 := rfl; omega)
                refine va_lald hx hb hK hP 5 2 rfl rfl (vp_in_iff.mpr (by omega)) dX6_areSuch_102 ?_
                refine lv_topl (fun x_33 ex_33 => ?_)
                refine lv_lconst (v := 0) hx hb dX6_areSuch_103 (by decide) ?_
                refine W.lcmp hx hb dX6_areSuch_104 ?_
                refine lv_if_lt (tgt := 128) hx hb dX6_areSuch_105 (by decide) (fun c_34 => ?_) (fun c_34 => ?_)
                · have c_34 : x_33.toInt < 0 := cv_clt c_34
                  refine lv_iconst (v := 0) hx hb dX6_areSuch_128 (by decide) ?_
                  refine lv_istore (lv' := [(8, .int 0), (7, .int 1), (6, .int 0), (5, .int u_4), (4, .ref n0), (3, .int x_1), (0, .ref h0), (1, .ref sl0), (2, .int 0)]) hx hb dX6_areSuch_129 hl (by decide) rfl (fun ls hl => ?_)
                  refine lv_iload hx hb dX6_areSuch_131 (lv_at hl 2 rfl) ?_
                  refine lv_if_eq (tgt := 146) hx hb dX6_areSuch_133 (by decide) (fun _ => ?_) (fun c_35 => absurd c_35 (by decide))
                  refine lv_iconst (v := 0) hx hb dX6_areSuch_146 (by decide) ?_
                  rw [hQ9]
                  exact W.zret (v := 0) (ty := .boolean) hx hb hr rfl (fun t ht hW => ⟨0, rfl, ⟨by decide, fun h9 => absurd h9 (by decide)⟩, ht⟩) (fun q h => by cases h) dX6_areSuch_147
                · have c_34 : 0 ≤ x_33.toInt := cv_cnlt c_34
                  refine lv_aload hx hb dX6_areSuch_108 (lv_at hl 3 rfl) ?_
                  refine lv_iload hx hb dX6_areSuch_110 (lv_at hl 2 rfl) ?_
                  refine lv_iconst (v := 2) hx hb dX6_areSuch_112 (by decide) ?_
                  refine lv_iadd hx hb dX6_areSuch_113 ?_
                  refine lv_topi (fun x_36 ex_36 => ?_)
                  have fx_36 : x_36.toInt = u_4.toInt + 2 := by rw [ex_36]; exact cv_addI (by have : (2 : Int32).toInt = 2 := rfl; omega) (by have : (2 : Int32).toInt = 2 := rfl; omega)
                  refine va_lald hx hb hK hP 5 2 rfl rfl (vp_in_iff.mpr (by omega)) dX6_areSuch_114 ?_
                  refine cv_topl (b := x_33) (by rw [ex_33, ex_36, ex_32]) ?_
                  refine lv_aload_n hx hb dX6_areSuch_115 rfl (lv_at hl 5 rfl) ?_
                  refine va_get (D := (dC, dI)) (ci := 2) (v := .int a_pl) (C := RX2) (T := TX2) (N := 15) hx hb hts uinX2 hown hK hP 9 rfl rfl 0 (by decide) (hts _ wd_1_82) (fun _ h9 => h9) rfl dX6_areSuch_116 ?_
                  obtain ⟨y_37, ey_37⟩ : ∃ z : Int64, z = a_pl.toInt64 := ⟨_, rfl⟩
                  have fy_37 : y_37.toInt = a_pl.toInt := by rw [ey_37]; exact Int32.toInt_toInt64 _
                  refine lv_i2l (v := y_37) hx hb dX6_areSuch_119 ey_37.symm ?_
                  refine W.lcmp hx hb dX6_areSuch_120 ?_
                  refine lv_if_ge (tgt := 128) hx hb dX6_areSuch_121 (by decide) (fun c_38 => ?_) (fun c_38 => ?_)
                  · have c_38 : y_37.toInt ≤ x_33.toInt := cv_cge c_38
                    refine lv_iconst (v := 0) hx hb dX6_areSuch_128 (by decide) ?_
                    refine lv_istore (lv' := [(8, .int 0), (7, .int 1), (6, .int 0), (5, .int u_4), (4, .ref n0), (3, .int x_1), (0, .ref h0), (1, .ref sl0), (2, .int 0)]) hx hb dX6_areSuch_129 hl (by decide) rfl (fun ls hl => ?_)
                    refine lv_iload hx hb dX6_areSuch_131 (lv_at hl 2 rfl) ?_
                    refine lv_if_eq (tgt := 146) hx hb dX6_areSuch_133 (by decide) (fun _ => ?_) (fun c_39 => absurd c_39 (by decide))
                    refine lv_iconst (v := 0) hx hb dX6_areSuch_146 (by decide) ?_
                    rw [hQ9]
                    exact W.zret (v := 0) (ty := .boolean) hx hb hr rfl (fun t ht hW => ⟨0, rfl, ⟨by decide, fun h9 => absurd h9 (by decide)⟩, ht⟩) (fun q h => by cases h) dX6_areSuch_147
                  · have c_38 : x_33.toInt < y_37.toInt := cv_cnge c_38
                    refine lv_iconst (v := 1) hx hb dX6_areSuch_124 (by decide) ?_
                    refine lv_goto (tgt := 129) hx hb dX6_areSuch_125 (by decide) ?_
                    refine lv_istore (lv' := [(8, .int 1), (7, .int 1), (6, .int 0), (5, .int u_4), (4, .ref n0), (3, .int x_1), (0, .ref h0), (1, .ref sl0), (2, .int 0)]) hx hb dX6_areSuch_129 hl (by decide) rfl (fun ls hl => ?_)
                    refine lv_iload hx hb dX6_areSuch_131 (lv_at hl 2 rfl) ?_
                    refine lv_if_eq (tgt := 146) hx hb dX6_areSuch_133 (by decide) (fun _ => ?_) (fun c_40 => absurd c_40 (by decide))
                    refine lv_iconst (v := 0) hx hb dX6_areSuch_146 (by decide) ?_
                    rw [hQ9]
                    exact W.zret (v := 0) (ty := .boolean) hx hb hr rfl (fun t ht hW => ⟨0, rfl, ⟨by decide, fun h9 => absurd h9 (by decide)⟩, ht⟩) (fun q h => by cases h) dX6_areSuch_147
          · have c_8 : 0 ≤ x_7.toInt := cv_cnlt c_8
            refine lv_aload hx hb dX6_areSuch_42 (lv_at hl 1 rfl) ?_
            refine lv_iload hx hb dX6_areSuch_44 (lv_at hl 0 rfl) ?_
            refine va_lald hx hb hK hP 5 2 rfl rfl (vp_in_iff.mpr (by omega)) dX6_areSuch_46 ?_
            refine cv_topl (b := x_7) ex_7.symm ?_
            refine lv_aload_n hx hb dX6_areSuch_47 rfl (lv_at hl 3 rfl) ?_
            refine va_get (D := (dC, dI)) (ci := 2) (v := .int a_pl) (C := RX2) (T := TX2) (N := 15) hx hb hts uinX2 hown hK hP 9 rfl rfl 0 (by decide) (hts _ wd_1_82) (fun _ h9 => h9) rfl dX6_areSuch_48 ?_
            obtain ⟨y_41, ey_41⟩ : ∃ z : Int64, z = a_pl.toInt64 := ⟨_, rfl⟩
            have fy_41 : y_41.toInt = a_pl.toInt := by rw [ey_41]; exact Int32.toInt_toInt64 _
            refine lv_i2l (v := y_41) hx hb dX6_areSuch_51 ey_41.symm ?_
            refine W.lcmp hx hb dX6_areSuch_52 ?_
            refine lv_if_ge (tgt := 60) hx hb dX6_areSuch_53 (by decide) (fun c_42 => ?_) (fun c_42 => ?_)
            · have c_42 : y_41.toInt ≤ x_7.toInt := cv_cge c_42
              refine lv_iconst (v := 0) hx hb dX6_areSuch_60 (by decide) ?_
              refine lv_istore (lv' := [(6, .int 0), (5, .int u_4), (4, .ref n0), (3, .int x_1), (0, .ref h0), (1, .ref sl0), (2, .int 0)]) hx hb dX6_areSuch_61 hl (by decide) rfl (fun ls hl => ?_)
              refine lv_aload hx hb dX6_areSuch_63 (lv_at hl 2 rfl) ?_
              refine lv_iload hx hb dX6_areSuch_65 (lv_at hl 1 rfl) ?_
              refine lv_iconst (v := 1) hx hb dX6_areSuch_67 (by decide) ?_
              refine lv_iadd hx hb dX6_areSuch_68 ?_
              refine lv_topi (fun x_43 ex_43 => ?_)
              have fx_43 : x_43.toInt = u_4.toInt + 1 := by rw [ex_43]; exact cv_addI (by have : (1 : Int32).toInt = 1 := rfl; omega) (by have : (1 : Int32).toInt = 1 := rfl; omega)
              refine va_lald hx hb hK hP 5 2 rfl rfl (vp_in_iff.mpr (by omega)) dX6_areSuch_69 ?_
              refine lv_topl (fun x_44 ex_44 => ?_)
              refine lv_lconst (v := 0) hx hb dX6_areSuch_70 (by decide) ?_
              refine W.lcmp hx hb dX6_areSuch_71 ?_
              refine lv_if_lt (tgt := 93) hx hb dX6_areSuch_72 (by decide) (fun c_45 => ?_) (fun c_45 => ?_)
              · have c_45 : x_44.toInt < 0 := cv_clt c_45
                refine lv_iconst (v := 0) hx hb dX6_areSuch_93 (by decide) ?_
                refine lv_istore (lv' := [(7, .int 0), (6, .int 0), (5, .int u_4), (4, .ref n0), (3, .int x_1), (0, .ref h0), (1, .ref sl0), (2, .int 0)]) hx hb dX6_areSuch_94 hl (by decide) rfl (fun ls hl => ?_)
                refine lv_aload hx hb dX6_areSuch_96 (lv_at hl 3 rfl) ?_
                refine lv_iload hx hb dX6_areSuch_98 (lv_at hl 2 rfl) ?_
                refine lv_iconst (v := 2) hx hb dX6_areSuch_100 (by decide) ?_
                refine lv_iadd hx hb dX6_areSuch_101 ?_
                refine lv_topi (fun x_46 ex_46 => ?_)
                have fx_46 : x_46.toInt = u_4.toInt + 2 := by rw [ex_46]; exact cv_addI (by have : (2 : Int32).toInt = 2 := rfl; omega) (by have : (2 : Int32).toInt = 2 := rfl; omega)
                refine va_lald hx hb hK hP 5 2 rfl rfl (vp_in_iff.mpr (by omega)) dX6_areSuch_102 ?_
                refine lv_topl (fun x_47 ex_47 => ?_)
                refine lv_lconst (v := 0) hx hb dX6_areSuch_103 (by decide) ?_
                refine W.lcmp hx hb dX6_areSuch_104 ?_
                refine lv_if_lt (tgt := 128) hx hb dX6_areSuch_105 (by decide) (fun c_48 => ?_) (fun c_48 => ?_)
                · have c_48 : x_47.toInt < 0 := cv_clt c_48
                  refine lv_iconst (v := 0) hx hb dX6_areSuch_128 (by decide) ?_
                  refine lv_istore (lv' := [(8, .int 0), (7, .int 0), (6, .int 0), (5, .int u_4), (4, .ref n0), (3, .int x_1), (0, .ref h0), (1, .ref sl0), (2, .int 0)]) hx hb dX6_areSuch_129 hl (by decide) rfl (fun ls hl => ?_)
                  refine lv_iload hx hb dX6_areSuch_131 (lv_at hl 2 rfl) ?_
                  refine lv_if_eq (tgt := 146) hx hb dX6_areSuch_133 (by decide) (fun _ => ?_) (fun c_49 => absurd c_49 (by decide))
                  refine lv_iconst (v := 0) hx hb dX6_areSuch_146 (by decide) ?_
                  rw [hQ9]
                  exact W.zret (v := 0) (ty := .boolean) hx hb hr rfl (fun t ht hW => ⟨0, rfl, ⟨by decide, fun h9 => absurd h9 (by decide)⟩, ht⟩) (fun q h => by cases h) dX6_areSuch_147
                · have c_48 : 0 ≤ x_47.toInt := cv_cnlt c_48
                  refine lv_aload hx hb dX6_areSuch_108 (lv_at hl 3 rfl) ?_
                  refine lv_iload hx hb dX6_areSuch_110 (lv_at hl 2 rfl) ?_
                  refine lv_iconst (v := 2) hx hb dX6_areSuch_112 (by decide) ?_
                  refine lv_iadd hx hb dX6_areSuch_113 ?_
                  refine lv_topi (fun x_50 ex_50 => ?_)
                  have fx_50 : x_50.toInt = u_4.toInt + 2 := by rw [ex_50]; exact cv_addI (by have : (2 : Int32).toInt = 2 := rfl; omega) (by have : (2 : Int32).toInt = 2 := rfl; omega)
                  refine va_lald hx hb hK hP 5 2 rfl rfl (vp_in_iff.mpr (by omega)) dX6_areSuch_114 ?_
                  refine cv_topl (b := x_47) (by rw [ex_47, ex_50, ex_46]) ?_
                  refine lv_aload_n hx hb dX6_areSuch_115 rfl (lv_at hl 5 rfl) ?_
                  refine va_get (D := (dC, dI)) (ci := 2) (v := .int a_pl) (C := RX2) (T := TX2) (N := 15) hx hb hts uinX2 hown hK hP 9 rfl rfl 0 (by decide) (hts _ wd_1_82) (fun _ h9 => h9) rfl dX6_areSuch_116 ?_
                  obtain ⟨y_51, ey_51⟩ : ∃ z : Int64, z = a_pl.toInt64 := ⟨_, rfl⟩
                  have fy_51 : y_51.toInt = a_pl.toInt := by rw [ey_51]; exact Int32.toInt_toInt64 _
                  refine lv_i2l (v := y_51) hx hb dX6_areSuch_119 ey_51.symm ?_
                  refine W.lcmp hx hb dX6_areSuch_120 ?_
                  refine lv_if_ge (tgt := 128) hx hb dX6_areSuch_121 (by decide) (fun c_52 => ?_) (fun c_52 => ?_)
                  · have c_52 : y_51.toInt ≤ x_47.toInt := cv_cge c_52
                    refine lv_iconst (v := 0) hx hb dX6_areSuch_128 (by decide) ?_
                    refine lv_istore (lv' := [(8, .int 0), (7, .int 0), (6, .int 0), (5, .int u_4), (4, .ref n0), (3, .int x_1), (0, .ref h0), (1, .ref sl0), (2, .int 0)]) hx hb dX6_areSuch_129 hl (by decide) rfl (fun ls hl => ?_)
                    refine lv_iload hx hb dX6_areSuch_131 (lv_at hl 2 rfl) ?_
                    refine lv_if_eq (tgt := 146) hx hb dX6_areSuch_133 (by decide) (fun _ => ?_) (fun c_53 => absurd c_53 (by decide))
                    refine lv_iconst (v := 0) hx hb dX6_areSuch_146 (by decide) ?_
                    rw [hQ9]
                    exact W.zret (v := 0) (ty := .boolean) hx hb hr rfl (fun t ht hW => ⟨0, rfl, ⟨by decide, fun h9 => absurd h9 (by decide)⟩, ht⟩) (fun q h => by cases h) dX6_areSuch_147
                  · have c_52 : x_47.toInt < y_51.toInt := cv_cnge c_52
                    refine lv_iconst (v := 1) hx hb dX6_areSuch_124 (by decide) ?_
                    refine lv_goto (tgt := 129) hx hb dX6_areSuch_125 (by decide) ?_
                    refine lv_istore (lv' := [(8, .int 1), (7, .int 0), (6, .int 0), (5, .int u_4), (4, .ref n0), (3, .int x_1), (0, .ref h0), (1, .ref sl0), (2, .int 0)]) hx hb dX6_areSuch_129 hl (by decide) rfl (fun ls hl => ?_)
                    refine lv_iload hx hb dX6_areSuch_131 (lv_at hl 2 rfl) ?_
                    refine lv_if_eq (tgt := 146) hx hb dX6_areSuch_133 (by decide) (fun _ => ?_) (fun c_54 => absurd c_54 (by decide))
                    refine lv_iconst (v := 0) hx hb dX6_areSuch_146 (by decide) ?_
                    rw [hQ9]
                    exact W.zret (v := 0) (ty := .boolean) hx hb hr rfl (fun t ht hW => ⟨0, rfl, ⟨by decide, fun h9 => absurd h9 (by decide)⟩, ht⟩) (fun q h => by cases h) dX6_areSuch_147
              · have c_45 : 0 ≤ x_44.toInt := cv_cnlt c_45
                refine lv_aload hx hb dX6_areSuch_75 (lv_at hl 2 rfl) ?_
                refine lv_iload hx hb dX6_areSuch_77 (lv_at hl 1 rfl) ?_
                refine lv_iconst (v := 1) hx hb dX6_areSuch_79 (by decide) ?_
                refine lv_iadd hx hb dX6_areSuch_80 ?_
                refine lv_topi (fun x_55 ex_55 => ?_)
                have fx_55 : x_55.toInt = u_4.toInt + 1 := by rw [ex_55]; exact cv_addI (by have : (1 : Int32).toInt = 1 := rfl; omega) (by have : (1 : Int32).toInt = 1 := rfl; omega)
                refine va_lald hx hb hK hP 5 2 rfl rfl (vp_in_iff.mpr (by omega)) dX6_areSuch_81 ?_
                refine cv_topl (b := x_44) (by rw [ex_44, ex_55, ex_43]) ?_
                refine lv_ldc2 (v := 999) hx hb hown (hts _ wd_4_184) dX6_areSuch_82 ?_
                refine W.lcmp hx hb dX6_areSuch_85 ?_
                refine lv_if_gt (tgt := 93) hx hb dX6_areSuch_86 (by decide) (fun c_56 => ?_) (fun c_56 => ?_)
                · have c_56 : 999 < x_44.toInt := cv_cgt c_56
                  refine lv_iconst (v := 0) hx hb dX6_areSuch_93 (by decide) ?_
                  refine lv_istore (lv' := [(7, .int 0), (6, .int 0), (5, .int u_4), (4, .ref n0), (3, .int x_1), (0, .ref h0), (1, .ref sl0), (2, .int 0)]) hx hb dX6_areSuch_94 hl (by decide) rfl (fun ls hl => ?_)
                  refine lv_aload hx hb dX6_areSuch_96 (lv_at hl 3 rfl) ?_
                  refine lv_iload hx hb dX6_areSuch_98 (lv_at hl 2 rfl) ?_
                  refine lv_iconst (v := 2) hx hb dX6_areSuch_100 (by decide) ?_
                  refine lv_iadd hx hb dX6_areSuch_101 ?_
                  refine lv_topi (fun x_57 ex_57 => ?_)
                  have fx_57 : x_57.toInt = u_4.toInt + 2 := by rw [ex_57]; exact cv_addI (by have : (2 : Int32).toInt = 2 := rfl; omega) (by have : (2 : Int32).toInt = 2 := rfl; omega)
                  refine va_lald hx hb hK hP 5 2 rfl rfl (vp_in_iff.mpr (by omega)) dX6_areSuch_102 ?_
                  refine lv_topl (fun x_58 ex_58 => ?_)
                  refine lv_lconst (v := 0) hx hb dX6_areSuch_103 (by decide) ?_
                  refine W.lcmp hx hb dX6_areSuch_104 ?_
                  refine lv_if_lt (tgt := 128) hx hb dX6_areSuch_105 (by decide) (fun c_59 => ?_) (fun c_59 => ?_)
                  · have c_59 : x_58.toInt < 0 := cv_clt c_59
                    refine lv_iconst (v := 0) hx hb dX6_areSuch_128 (by decide) ?_
                    refine lv_istore (lv' := [(8, .int 0), (7, .int 0), (6, .int 0), (5, .int u_4), (4, .ref n0), (3, .int x_1), (0, .ref h0), (1, .ref sl0), (2, .int 0)]) hx hb dX6_areSuch_129 hl (by decide) rfl (fun ls hl => ?_)
                    refine lv_iload hx hb dX6_areSuch_131 (lv_at hl 2 rfl) ?_
                    refine lv_if_eq (tgt := 146) hx hb dX6_areSuch_133 (by decide) (fun _ => ?_) (fun c_60 => absurd c_60 (by decide))
                    refine lv_iconst (v := 0) hx hb dX6_areSuch_146 (by decide) ?_
                    rw [hQ9]
                    exact W.zret (v := 0) (ty := .boolean) hx hb hr rfl (fun t ht hW => ⟨0, rfl, ⟨by decide, fun h9 => absurd h9 (by decide)⟩, ht⟩) (fun q h => by cases h) dX6_areSuch_147
                  · have c_59 : 0 ≤ x_58.toInt := cv_cnlt c_59
                    refine lv_aload hx hb dX6_areSuch_108 (lv_at hl 3 rfl) ?_
                    refine lv_iload hx hb dX6_areSuch_110 (lv_at hl 2 rfl) ?_
                    refine lv_iconst (v := 2) hx hb dX6_areSuch_112 (by decide) ?_
                    refine lv_iadd hx hb dX6_areSuch_113 ?_
                    refine lv_topi (fun x_61 ex_61 => ?_)
                    have fx_61 : x_61.toInt = u_4.toInt + 2 := by rw [ex_61]; exact cv_addI (by have : (2 : Int32).toInt = 2 := rfl; omega) (by have : (2 : Int32).toInt = 2 := rfl; omega)
                    refine va_lald hx hb hK hP 5 2 rfl rfl (vp_in_iff.mpr (by omega)) dX6_areSuch_114 ?_
                    refine cv_topl (b := x_58) (by rw [ex_58, ex_61, ex_57]) ?_
                    refine lv_aload_n hx hb dX6_areSuch_115 rfl (lv_at hl 5 rfl) ?_
                    refine va_get (D := (dC, dI)) (ci := 2) (v := .int a_pl) (C := RX2) (T := TX2) (N := 15) hx hb hts uinX2 hown hK hP 9 rfl rfl 0 (by decide) (hts _ wd_1_82) (fun _ h9 => h9) rfl dX6_areSuch_116 ?_
                    obtain ⟨y_62, ey_62⟩ : ∃ z : Int64, z = a_pl.toInt64 := ⟨_, rfl⟩
                    have fy_62 : y_62.toInt = a_pl.toInt := by rw [ey_62]; exact Int32.toInt_toInt64 _
                    refine lv_i2l (v := y_62) hx hb dX6_areSuch_119 ey_62.symm ?_
                    refine W.lcmp hx hb dX6_areSuch_120 ?_
                    refine lv_if_ge (tgt := 128) hx hb dX6_areSuch_121 (by decide) (fun c_63 => ?_) (fun c_63 => ?_)
                    · have c_63 : y_62.toInt ≤ x_58.toInt := cv_cge c_63
                      refine lv_iconst (v := 0) hx hb dX6_areSuch_128 (by decide) ?_
                      refine lv_istore (lv' := [(8, .int 0), (7, .int 0), (6, .int 0), (5, .int u_4), (4, .ref n0), (3, .int x_1), (0, .ref h0), (1, .ref sl0), (2, .int 0)]) hx hb dX6_areSuch_129 hl (by decide) rfl (fun ls hl => ?_)
                      refine lv_iload hx hb dX6_areSuch_131 (lv_at hl 2 rfl) ?_
                      refine lv_if_eq (tgt := 146) hx hb dX6_areSuch_133 (by decide) (fun _ => ?_) (fun c_64 => absurd c_64 (by decide))
                      refine lv_iconst (v := 0) hx hb dX6_areSuch_146 (by decide) ?_
                      rw [hQ9]
                      exact W.zret (v := 0) (ty := .boolean) hx hb hr rfl (fun t ht hW => ⟨0, rfl, ⟨by decide, fun h9 => absurd h9 (by decide)⟩, ht⟩) (fun q h => by cases h) dX6_areSuch_147
                    · have c_63 : x_58.toInt < y_62.toInt := cv_cnge c_63
                      refine lv_iconst (v := 1) hx hb dX6_areSuch_124 (by decide) ?_
                      refine lv_goto (tgt := 129) hx hb dX6_areSuch_125 (by decide) ?_
                      refine lv_istore (lv' := [(8, .int 1), (7, .int 0), (6, .int 0), (5, .int u_4), (4, .ref n0), (3, .int x_1), (0, .ref h0), (1, .ref sl0), (2, .int 0)]) hx hb dX6_areSuch_129 hl (by decide) rfl (fun ls hl => ?_)
                      refine lv_iload hx hb dX6_areSuch_131 (lv_at hl 2 rfl) ?_
                      refine lv_if_eq (tgt := 146) hx hb dX6_areSuch_133 (by decide) (fun _ => ?_) (fun c_65 => absurd c_65 (by decide))
                      refine lv_iconst (v := 0) hx hb dX6_areSuch_146 (by decide) ?_
                      rw [hQ9]
                      exact W.zret (v := 0) (ty := .boolean) hx hb hr rfl (fun t ht hW => ⟨0, rfl, ⟨by decide, fun h9 => absurd h9 (by decide)⟩, ht⟩) (fun q h => by cases h) dX6_areSuch_147
                · have c_56 : x_44.toInt ≤ 999 := cv_cngt c_56
                  refine lv_iconst (v := 1) hx hb dX6_areSuch_89 (by decide) ?_
                  refine lv_goto (tgt := 94) hx hb dX6_areSuch_90 (by decide) ?_
                  refine lv_istore (lv' := [(7, .int 1), (6, .int 0), (5, .int u_4), (4, .ref n0), (3, .int x_1), (0, .ref h0), (1, .ref sl0), (2, .int 0)]) hx hb dX6_areSuch_94 hl (by decide) rfl (fun ls hl => ?_)
                  refine lv_aload hx hb dX6_areSuch_96 (lv_at hl 3 rfl) ?_
                  refine lv_iload hx hb dX6_areSuch_98 (lv_at hl 2 rfl) ?_
                  refine lv_iconst (v := 2) hx hb dX6_areSuch_100 (by decide) ?_
                  refine lv_iadd hx hb dX6_areSuch_101 ?_
                  refine lv_topi (fun x_66 ex_66 => ?_)
                  have fx_66 : x_66.toInt = u_4.toInt + 2 := by rw [ex_66]; exact cv_addI (by have : (2 : Int32).toInt = 2 := rfl; omega) (by have : (2 : Int32).toInt = 2 := rfl; omega)
                  refine va_lald hx hb hK hP 5 2 rfl rfl (vp_in_iff.mpr (by omega)) dX6_areSuch_102 ?_
                  refine lv_topl (fun x_67 ex_67 => ?_)
                  refine lv_lconst (v := 0) hx hb dX6_areSuch_103 (by decide) ?_
                  refine W.lcmp hx hb dX6_areSuch_104 ?_
                  refine lv_if_lt (tgt := 128) hx hb dX6_areSuch_105 (by decide) (fun c_68 => ?_) (fun c_68 => ?_)
                  · have c_68 : x_67.toInt < 0 := cv_clt c_68
                    refine lv_iconst (v := 0) hx hb dX6_areSuch_128 (by decide) ?_
                    refine lv_istore (lv' := [(8, .int 0), (7, .int 1), (6, .int 0), (5, .int u_4), (4, .ref n0), (3, .int x_1), (0, .ref h0), (1, .ref sl0), (2, .int 0)]) hx hb dX6_areSuch_129 hl (by decide) rfl (fun ls hl => ?_)
                    refine lv_iload hx hb dX6_areSuch_131 (lv_at hl 2 rfl) ?_
                    refine lv_if_eq (tgt := 146) hx hb dX6_areSuch_133 (by decide) (fun _ => ?_) (fun c_69 => absurd c_69 (by decide))
                    refine lv_iconst (v := 0) hx hb dX6_areSuch_146 (by decide) ?_
                    rw [hQ9]
                    exact W.zret (v := 0) (ty := .boolean) hx hb hr rfl (fun t ht hW => ⟨0, rfl, ⟨by decide, fun h9 => absurd h9 (by decide)⟩, ht⟩) (fun q h => by cases h) dX6_areSuch_147
                  · have c_68 : 0 ≤ x_67.toInt := cv_cnlt c_68
                    refine lv_aload hx hb dX6_areSuch_108 (lv_at hl 3 rfl) ?_
                    refine lv_iload hx hb dX6_areSuch_110 (lv_at hl 2 rfl) ?_
                    refine lv_iconst (v := 2) hx hb dX6_areSuch_112 (by decide) ?_
                    refine lv_iadd hx hb dX6_areSuch_113 ?_
                    refine lv_topi (fun x_70 ex_70 => ?_)
                    have fx_70 : x_70.toInt = u_4.toInt + 2 := by rw [ex_70]; exact cv_addI (by have : (2 : Int32).toInt = 2 := rfl; omega) (by have : (2 : Int32).toInt = 2 := rfl; omega)
                    refine va_lald hx hb hK hP 5 2 rfl rfl (vp_in_iff.mpr (by omega)) dX6_areSuch_114 ?_
                    refine cv_topl (b := x_67) (by rw [ex_67, ex_70, ex_66]) ?_
                    refine lv_aload_n hx hb dX6_areSuch_115 rfl (lv_at hl 5 rfl) ?_
                    refine va_get (D := (dC, dI)) (ci := 2) (v := .int a_pl) (C := RX2) (T := TX2) (N := 15) hx hb hts uinX2 hown hK hP 9 rfl rfl 0 (by decide) (hts _ wd_1_82) (fun _ h9 => h9) rfl dX6_areSuch_116 ?_
                    obtain ⟨y_71, ey_71⟩ : ∃ z : Int64, z = a_pl.toInt64 := ⟨_, rfl⟩
                    have fy_71 : y_71.toInt = a_pl.toInt := by rw [ey_71]; exact Int32.toInt_toInt64 _
                    refine lv_i2l (v := y_71) hx hb dX6_areSuch_119 ey_71.symm ?_
                    refine W.lcmp hx hb dX6_areSuch_120 ?_
                    refine lv_if_ge (tgt := 128) hx hb dX6_areSuch_121 (by decide) (fun c_72 => ?_) (fun c_72 => ?_)
                    · have c_72 : y_71.toInt ≤ x_67.toInt := cv_cge c_72
                      refine lv_iconst (v := 0) hx hb dX6_areSuch_128 (by decide) ?_
                      refine lv_istore (lv' := [(8, .int 0), (7, .int 1), (6, .int 0), (5, .int u_4), (4, .ref n0), (3, .int x_1), (0, .ref h0), (1, .ref sl0), (2, .int 0)]) hx hb dX6_areSuch_129 hl (by decide) rfl (fun ls hl => ?_)
                      refine lv_iload hx hb dX6_areSuch_131 (lv_at hl 2 rfl) ?_
                      refine lv_if_eq (tgt := 146) hx hb dX6_areSuch_133 (by decide) (fun _ => ?_) (fun c_73 => absurd c_73 (by decide))
                      refine lv_iconst (v := 0) hx hb dX6_areSuch_146 (by decide) ?_
                      rw [hQ9]
                      exact W.zret (v := 0) (ty := .boolean) hx hb hr rfl (fun t ht hW => ⟨0, rfl, ⟨by decide, fun h9 => absurd h9 (by decide)⟩, ht⟩) (fun q h => by cases h) dX6_areSuch_147
                    · have c_72 : x_67.toInt < y_71.toInt := cv_cnge c_72
                      refine lv_iconst (v := 1) hx hb dX6_areSuch_124 (by decide) ?_
                      refine lv_goto (tgt := 129) hx hb dX6_areSuch_125 (by decide) ?_
                      refine lv_istore (lv' := [(8, .int 1), (7, .int 1), (6, .int 0), (5, .int u_4), (4, .ref n0), (3, .int x_1), (0, .ref h0), (1, .ref sl0), (2, .int 0)]) hx hb dX6_areSuch_129 hl (by decide) rfl (fun ls hl => ?_)
                      refine lv_iload hx hb dX6_areSuch_131 (lv_at hl 2 rfl) ?_
                      refine lv_if_eq (tgt := 146) hx hb dX6_areSuch_133 (by decide) (fun _ => ?_) (fun c_74 => absurd c_74 (by decide))
                      refine lv_iconst (v := 0) hx hb dX6_areSuch_146 (by decide) ?_
                      rw [hQ9]
                      exact W.zret (v := 0) (ty := .boolean) hx hb hr rfl (fun t ht hW => ⟨0, rfl, ⟨by decide, fun h9 => absurd h9 (by decide)⟩, ht⟩) (fun q h => by cases h) dX6_areSuch_147
            · have c_42 : x_7.toInt < y_41.toInt := cv_cnge c_42
              refine lv_iconst (v := 1) hx hb dX6_areSuch_56 (by decide) ?_
              refine lv_goto (tgt := 61) hx hb dX6_areSuch_57 (by decide) ?_
              refine lv_istore (lv' := [(6, .int 1), (5, .int u_4), (4, .ref n0), (3, .int x_1), (0, .ref h0), (1, .ref sl0), (2, .int 0)]) hx hb dX6_areSuch_61 hl (by decide) rfl (fun ls hl => ?_)
              refine lv_aload hx hb dX6_areSuch_63 (lv_at hl 2 rfl) ?_
              refine lv_iload hx hb dX6_areSuch_65 (lv_at hl 1 rfl) ?_
              refine lv_iconst (v := 1) hx hb dX6_areSuch_67 (by decide) ?_
              refine lv_iadd hx hb dX6_areSuch_68 ?_
              refine lv_topi (fun x_75 ex_75 => ?_)
              have fx_75 : x_75.toInt = u_4.toInt + 1 := by rw [ex_75]; exact cv_addI (by have : (1 : Int32).toInt = 1 := rfl; omega) (by have : (1 : Int32).toInt = 1 := rfl; omega)
              refine va_lald hx hb hK hP 5 2 rfl rfl (vp_in_iff.mpr (by omega)) dX6_areSuch_69 ?_
              refine lv_topl (fun x_76 ex_76 => ?_)
              refine lv_lconst (v := 0) hx hb dX6_areSuch_70 (by decide) ?_
              refine W.lcmp hx hb dX6_areSuch_71 ?_
              refine lv_if_lt (tgt := 93) hx hb dX6_areSuch_72 (by decide) (fun c_77 => ?_) (fun c_77 => ?_)
              · have c_77 : x_76.toInt < 0 := cv_clt c_77
                refine lv_iconst (v := 0) hx hb dX6_areSuch_93 (by decide) ?_
                refine lv_istore (lv' := [(7, .int 0), (6, .int 1), (5, .int u_4), (4, .ref n0), (3, .int x_1), (0, .ref h0), (1, .ref sl0), (2, .int 0)]) hx hb dX6_areSuch_94 hl (by decide) rfl (fun ls hl => ?_)
                refine lv_aload hx hb dX6_areSuch_96 (lv_at hl 3 rfl) ?_
                refine lv_iload hx hb dX6_areSuch_98 (lv_at hl 2 rfl) ?_
                refine lv_iconst (v := 2) hx hb dX6_areSuch_100 (by decide) ?_
                refine lv_iadd hx hb dX6_areSuch_101 ?_
                refine lv_topi (fun x_78 ex_78 => ?_)
                have fx_78 : x_78.toInt = u_4.toInt + 2 := by rw [ex_78]; exact cv_addI (by have : (2 : Int32).toInt = 2 := rfl; omega) (by have : (2 : Int32).toInt = 2 := rfl; omega)
                refine va_lald hx hb hK hP 5 2 rfl rfl (vp_in_iff.mpr (by omega)) dX6_areSuch_102 ?_
                refine lv_topl (fun x_79 ex_79 => ?_)
                refine lv_lconst (v := 0) hx hb dX6_areSuch_103 (by decide) ?_
                refine W.lcmp hx hb dX6_areSuch_104 ?_
                refine lv_if_lt (tgt := 128) hx hb dX6_areSuch_105 (by decide) (fun c_80 => ?_) (fun c_80 => ?_)
                · have c_80 : x_79.toInt < 0 := cv_clt c_80
                  refine lv_iconst (v := 0) hx hb dX6_areSuch_128 (by decide) ?_
                  refine lv_istore (lv' := [(8, .int 0), (7, .int 0), (6, .int 1), (5, .int u_4), (4, .ref n0), (3, .int x_1), (0, .ref h0), (1, .ref sl0), (2, .int 0)]) hx hb dX6_areSuch_129 hl (by decide) rfl (fun ls hl => ?_)
                  refine lv_iload hx hb dX6_areSuch_131 (lv_at hl 2 rfl) ?_
                  refine lv_if_eq (tgt := 146) hx hb dX6_areSuch_133 (by decide) (fun c_81 => absurd c_81 (by decide)) (fun _ => ?_)
                  refine lv_iload hx hb dX6_areSuch_136 (lv_at hl 1 rfl) ?_
                  refine lv_if_eq (tgt := 146) hx hb dX6_areSuch_138 (by decide) (fun _ => ?_) (fun c_82 => absurd c_82 (by decide))
                  refine lv_iconst (v := 0) hx hb dX6_areSuch_146 (by decide) ?_
                  rw [hQ9]
                  exact W.zret (v := 0) (ty := .boolean) hx hb hr rfl (fun t ht hW => ⟨0, rfl, ⟨by decide, fun h9 => absurd h9 (by decide)⟩, ht⟩) (fun q h => by cases h) dX6_areSuch_147
                · have c_80 : 0 ≤ x_79.toInt := cv_cnlt c_80
                  refine lv_aload hx hb dX6_areSuch_108 (lv_at hl 3 rfl) ?_
                  refine lv_iload hx hb dX6_areSuch_110 (lv_at hl 2 rfl) ?_
                  refine lv_iconst (v := 2) hx hb dX6_areSuch_112 (by decide) ?_
                  refine lv_iadd hx hb dX6_areSuch_113 ?_
                  refine lv_topi (fun x_83 ex_83 => ?_)
                  have fx_83 : x_83.toInt = u_4.toInt + 2 := by rw [ex_83]; exact cv_addI (by have : (2 : Int32).toInt = 2 := rfl; omega) (by have : (2 : Int32).toInt = 2 := rfl; omega)
                  refine va_lald hx hb hK hP 5 2 rfl rfl (vp_in_iff.mpr (by omega)) dX6_areSuch_114 ?_
                  refine cv_topl (b := x_79) (by rw [ex_79, ex_83, ex_78]) ?_
                  refine lv_aload_n hx hb dX6_areSuch_115 rfl (lv_at hl 5 rfl) ?_
                  refine va_get (D := (dC, dI)) (ci := 2) (v := .int a_pl) (C := RX2) (T := TX2) (N := 15) hx hb hts uinX2 hown hK hP 9 rfl rfl 0 (by decide) (hts _ wd_1_82) (fun _ h9 => h9) rfl dX6_areSuch_116 ?_
                  obtain ⟨y_84, ey_84⟩ : ∃ z : Int64, z = a_pl.toInt64 := ⟨_, rfl⟩
                  have fy_84 : y_84.toInt = a_pl.toInt := by rw [ey_84]; exact Int32.toInt_toInt64 _
                  refine lv_i2l (v := y_84) hx hb dX6_areSuch_119 ey_84.symm ?_
                  refine W.lcmp hx hb dX6_areSuch_120 ?_
                  refine lv_if_ge (tgt := 128) hx hb dX6_areSuch_121 (by decide) (fun c_85 => ?_) (fun c_85 => ?_)
                  · have c_85 : y_84.toInt ≤ x_79.toInt := cv_cge c_85
                    refine lv_iconst (v := 0) hx hb dX6_areSuch_128 (by decide) ?_
                    refine lv_istore (lv' := [(8, .int 0), (7, .int 0), (6, .int 1), (5, .int u_4), (4, .ref n0), (3, .int x_1), (0, .ref h0), (1, .ref sl0), (2, .int 0)]) hx hb dX6_areSuch_129 hl (by decide) rfl (fun ls hl => ?_)
                    refine lv_iload hx hb dX6_areSuch_131 (lv_at hl 2 rfl) ?_
                    refine lv_if_eq (tgt := 146) hx hb dX6_areSuch_133 (by decide) (fun c_86 => absurd c_86 (by decide)) (fun _ => ?_)
                    refine lv_iload hx hb dX6_areSuch_136 (lv_at hl 1 rfl) ?_
                    refine lv_if_eq (tgt := 146) hx hb dX6_areSuch_138 (by decide) (fun _ => ?_) (fun c_87 => absurd c_87 (by decide))
                    refine lv_iconst (v := 0) hx hb dX6_areSuch_146 (by decide) ?_
                    rw [hQ9]
                    exact W.zret (v := 0) (ty := .boolean) hx hb hr rfl (fun t ht hW => ⟨0, rfl, ⟨by decide, fun h9 => absurd h9 (by decide)⟩, ht⟩) (fun q h => by cases h) dX6_areSuch_147
                  · have c_85 : x_79.toInt < y_84.toInt := cv_cnge c_85
                    refine lv_iconst (v := 1) hx hb dX6_areSuch_124 (by decide) ?_
                    refine lv_goto (tgt := 129) hx hb dX6_areSuch_125 (by decide) ?_
                    refine lv_istore (lv' := [(8, .int 1), (7, .int 0), (6, .int 1), (5, .int u_4), (4, .ref n0), (3, .int x_1), (0, .ref h0), (1, .ref sl0), (2, .int 0)]) hx hb dX6_areSuch_129 hl (by decide) rfl (fun ls hl => ?_)
                    refine lv_iload hx hb dX6_areSuch_131 (lv_at hl 2 rfl) ?_
                    refine lv_if_eq (tgt := 146) hx hb dX6_areSuch_133 (by decide) (fun c_88 => absurd c_88 (by decide)) (fun _ => ?_)
                    refine lv_iload hx hb dX6_areSuch_136 (lv_at hl 1 rfl) ?_
                    refine lv_if_eq (tgt := 146) hx hb dX6_areSuch_138 (by decide) (fun _ => ?_) (fun c_89 => absurd c_89 (by decide))
                    refine lv_iconst (v := 0) hx hb dX6_areSuch_146 (by decide) ?_
                    rw [hQ9]
                    exact W.zret (v := 0) (ty := .boolean) hx hb hr rfl (fun t ht hW => ⟨0, rfl, ⟨by decide, fun h9 => absurd h9 (by decide)⟩, ht⟩) (fun q h => by cases h) dX6_areSuch_147
              · have c_77 : 0 ≤ x_76.toInt := cv_cnlt c_77
                refine lv_aload hx hb dX6_areSuch_75 (lv_at hl 2 rfl) ?_
                refine lv_iload hx hb dX6_areSuch_77 (lv_at hl 1 rfl) ?_
                refine lv_iconst (v := 1) hx hb dX6_areSuch_79 (by decide) ?_
                refine lv_iadd hx hb dX6_areSuch_80 ?_
                refine lv_topi (fun x_90 ex_90 => ?_)
                have fx_90 : x_90.toInt = u_4.toInt + 1 := by rw [ex_90]; exact cv_addI (by have : (1 : Int32).toInt = 1 := rfl; omega) (by have : (1 : Int32).toInt = 1 := rfl; omega)
                refine va_lald hx hb hK hP 5 2 rfl rfl (vp_in_iff.mpr (by omega)) dX6_areSuch_81 ?_
                refine cv_topl (b := x_76) (by rw [ex_76, ex_90, ex_75]) ?_
                refine lv_ldc2 (v := 999) hx hb hown (hts _ wd_4_184) dX6_areSuch_82 ?_
                refine W.lcmp hx hb dX6_areSuch_85 ?_
                refine lv_if_gt (tgt := 93) hx hb dX6_areSuch_86 (by decide) (fun c_91 => ?_) (fun c_91 => ?_)
                · have c_91 : 999 < x_76.toInt := cv_cgt c_91
                  refine lv_iconst (v := 0) hx hb dX6_areSuch_93 (by decide) ?_
                  refine lv_istore (lv' := [(7, .int 0), (6, .int 1), (5, .int u_4), (4, .ref n0), (3, .int x_1), (0, .ref h0), (1, .ref sl0), (2, .int 0)]) hx hb dX6_areSuch_94 hl (by decide) rfl (fun ls hl => ?_)
                  refine lv_aload hx hb dX6_areSuch_96 (lv_at hl 3 rfl) ?_
                  refine lv_iload hx hb dX6_areSuch_98 (lv_at hl 2 rfl) ?_
                  refine lv_iconst (v := 2) hx hb dX6_areSuch_100 (by decide) ?_
                  refine lv_iadd hx hb dX6_areSuch_101 ?_
                  refine lv_topi (fun x_92 ex_92 => ?_)
                  have fx_92 : x_92.toInt = u_4.toInt + 2 := by rw [ex_92]; exact cv_addI (by have : (2 : Int32).toInt = 2 := rfl; omega) (by have : (2 : Int32).toInt = 2 := rfl; omega)
                  refine va_lald hx hb hK hP 5 2 rfl rfl (vp_in_iff.mpr (by omega)) dX6_areSuch_102 ?_
                  refine lv_topl (fun x_93 ex_93 => ?_)
                  refine lv_lconst (v := 0) hx hb dX6_areSuch_103 (by decide) ?_
                  refine W.lcmp hx hb dX6_areSuch_104 ?_
                  refine lv_if_lt (tgt := 128) hx hb dX6_areSuch_105 (by decide) (fun c_94 => ?_) (fun c_94 => ?_)
                  · have c_94 : x_93.toInt < 0 := cv_clt c_94
                    refine lv_iconst (v := 0) hx hb dX6_areSuch_128 (by decide) ?_
                    refine lv_istore (lv' := [(8, .int 0), (7, .int 0), (6, .int 1), (5, .int u_4), (4, .ref n0), (3, .int x_1), (0, .ref h0), (1, .ref sl0), (2, .int 0)]) hx hb dX6_areSuch_129 hl (by decide) rfl (fun ls hl => ?_)
                    refine lv_iload hx hb dX6_areSuch_131 (lv_at hl 2 rfl) ?_
                    refine lv_if_eq (tgt := 146) hx hb dX6_areSuch_133 (by decide) (fun c_95 => absurd c_95 (by decide)) (fun _ => ?_)
                    refine lv_iload hx hb dX6_areSuch_136 (lv_at hl 1 rfl) ?_
                    refine lv_if_eq (tgt := 146) hx hb dX6_areSuch_138 (by decide) (fun _ => ?_) (fun c_96 => absurd c_96 (by decide))
                    refine lv_iconst (v := 0) hx hb dX6_areSuch_146 (by decide) ?_
                    rw [hQ9]
                    exact W.zret (v := 0) (ty := .boolean) hx hb hr rfl (fun t ht hW => ⟨0, rfl, ⟨by decide, fun h9 => absurd h9 (by decide)⟩, ht⟩) (fun q h => by cases h) dX6_areSuch_147
                  · have c_94 : 0 ≤ x_93.toInt := cv_cnlt c_94
                    refine lv_aload hx hb dX6_areSuch_108 (lv_at hl 3 rfl) ?_
                    refine lv_iload hx hb dX6_areSuch_110 (lv_at hl 2 rfl) ?_
                    refine lv_iconst (v := 2) hx hb dX6_areSuch_112 (by decide) ?_
                    refine lv_iadd hx hb dX6_areSuch_113 ?_
                    refine lv_topi (fun x_97 ex_97 => ?_)
                    have fx_97 : x_97.toInt = u_4.toInt + 2 := by rw [ex_97]; exact cv_addI (by have : (2 : Int32).toInt = 2 := rfl; omega) (by have : (2 : Int32).toInt = 2 := rfl; omega)
                    refine va_lald hx hb hK hP 5 2 rfl rfl (vp_in_iff.mpr (by omega)) dX6_areSuch_114 ?_
                    refine cv_topl (b := x_93) (by rw [ex_93, ex_97, ex_92]) ?_
                    refine lv_aload_n hx hb dX6_areSuch_115 rfl (lv_at hl 5 rfl) ?_
                    refine va_get (D := (dC, dI)) (ci := 2) (v := .int a_pl) (C := RX2) (T := TX2) (N := 15) hx hb hts uinX2 hown hK hP 9 rfl rfl 0 (by decide) (hts _ wd_1_82) (fun _ h9 => h9) rfl dX6_areSuch_116 ?_
                    obtain ⟨y_98, ey_98⟩ : ∃ z : Int64, z = a_pl.toInt64 := ⟨_, rfl⟩
                    have fy_98 : y_98.toInt = a_pl.toInt := by rw [ey_98]; exact Int32.toInt_toInt64 _
                    refine lv_i2l (v := y_98) hx hb dX6_areSuch_119 ey_98.symm ?_
                    refine W.lcmp hx hb dX6_areSuch_120 ?_
                    refine lv_if_ge (tgt := 128) hx hb dX6_areSuch_121 (by decide) (fun c_99 => ?_) (fun c_99 => ?_)
                    · have c_99 : y_98.toInt ≤ x_93.toInt := cv_cge c_99
                      refine lv_iconst (v := 0) hx hb dX6_areSuch_128 (by decide) ?_
                      refine lv_istore (lv' := [(8, .int 0), (7, .int 0), (6, .int 1), (5, .int u_4), (4, .ref n0), (3, .int x_1), (0, .ref h0), (1, .ref sl0), (2, .int 0)]) hx hb dX6_areSuch_129 hl (by decide) rfl (fun ls hl => ?_)
                      refine lv_iload hx hb dX6_areSuch_131 (lv_at hl 2 rfl) ?_
                      refine lv_if_eq (tgt := 146) hx hb dX6_areSuch_133 (by decide) (fun c_100 => absurd c_100 (by decide)) (fun _ => ?_)
                      refine lv_iload hx hb dX6_areSuch_136 (lv_at hl 1 rfl) ?_
                      refine lv_if_eq (tgt := 146) hx hb dX6_areSuch_138 (by decide) (fun _ => ?_) (fun c_101 => absurd c_101 (by decide))
                      refine lv_iconst (v := 0) hx hb dX6_areSuch_146 (by decide) ?_
                      rw [hQ9]
                      exact W.zret (v := 0) (ty := .boolean) hx hb hr rfl (fun t ht hW => ⟨0, rfl, ⟨by decide, fun h9 => absurd h9 (by decide)⟩, ht⟩) (fun q h => by cases h) dX6_areSuch_147
                    · have c_99 : x_93.toInt < y_98.toInt := cv_cnge c_99
                      refine lv_iconst (v := 1) hx hb dX6_areSuch_124 (by decide) ?_
                      refine lv_goto (tgt := 129) hx hb dX6_areSuch_125 (by decide) ?_
                      refine lv_istore (lv' := [(8, .int 1), (7, .int 0), (6, .int 1), (5, .int u_4), (4, .ref n0), (3, .int x_1), (0, .ref h0), (1, .ref sl0), (2, .int 0)]) hx hb dX6_areSuch_129 hl (by decide) rfl (fun ls hl => ?_)
                      refine lv_iload hx hb dX6_areSuch_131 (lv_at hl 2 rfl) ?_
                      refine lv_if_eq (tgt := 146) hx hb dX6_areSuch_133 (by decide) (fun c_102 => absurd c_102 (by decide)) (fun _ => ?_)
                      refine lv_iload hx hb dX6_areSuch_136 (lv_at hl 1 rfl) ?_
                      refine lv_if_eq (tgt := 146) hx hb dX6_areSuch_138 (by decide) (fun _ => ?_) (fun c_103 => absurd c_103 (by decide))
                      refine lv_iconst (v := 0) hx hb dX6_areSuch_146 (by decide) ?_
                      rw [hQ9]
                      exact W.zret (v := 0) (ty := .boolean) hx hb hr rfl (fun t ht hW => ⟨0, rfl, ⟨by decide, fun h9 => absurd h9 (by decide)⟩, ht⟩) (fun q h => by cases h) dX6_areSuch_147
                · have c_91 : x_76.toInt ≤ 999 := cv_cngt c_91
                  refine lv_iconst (v := 1) hx hb dX6_areSuch_89 (by decide) ?_
                  refine lv_goto (tgt := 94) hx hb dX6_areSuch_90 (by decide) ?_
                  refine lv_istore (lv' := [(7, .int 1), (6, .int 1), (5, .int u_4), (4, .ref n0), (3, .int x_1), (0, .ref h0), (1, .ref sl0), (2, .int 0)]) hx hb dX6_areSuch_94 hl (by decide) rfl (fun ls hl => ?_)
                  refine lv_aload hx hb dX6_areSuch_96 (lv_at hl 3 rfl) ?_
                  refine lv_iload hx hb dX6_areSuch_98 (lv_at hl 2 rfl) ?_
                  refine lv_iconst (v := 2) hx hb dX6_areSuch_100 (by decide) ?_
                  refine lv_iadd hx hb dX6_areSuch_101 ?_
                  refine lv_topi (fun x_104 ex_104 => ?_)
                  have fx_104 : x_104.toInt = u_4.toInt + 2 := by rw [ex_104]; exact cv_addI (by have : (2 : Int32).toInt = 2 := rfl; omega) (by have : (2 : Int32).toInt = 2 := rfl; omega)
                  refine va_lald hx hb hK hP 5 2 rfl rfl (vp_in_iff.mpr (by omega)) dX6_areSuch_102 ?_
                  refine lv_topl (fun x_105 ex_105 => ?_)
                  refine lv_lconst (v := 0) hx hb dX6_areSuch_103 (by decide) ?_
                  refine W.lcmp hx hb dX6_areSuch_104 ?_
                  refine lv_if_lt (tgt := 128) hx hb dX6_areSuch_105 (by decide) (fun c_106 => ?_) (fun c_106 => ?_)
                  · have c_106 : x_105.toInt < 0 := cv_clt c_106
                    refine lv_iconst (v := 0) hx hb dX6_areSuch_128 (by decide) ?_
                    refine lv_istore (lv' := [(8, .int 0), (7, .int 1), (6, .int 1), (5, .int u_4), (4, .ref n0), (3, .int x_1), (0, .ref h0), (1, .ref sl0), (2, .int 0)]) hx hb dX6_areSuch_129 hl (by decide) rfl (fun ls hl => ?_)
                    refine lv_iload hx hb dX6_areSuch_131 (lv_at hl 2 rfl) ?_
                    refine lv_if_eq (tgt := 146) hx hb dX6_areSuch_133 (by decide) (fun c_107 => absurd c_107 (by decide)) (fun _ => ?_)
                    refine lv_iload hx hb dX6_areSuch_136 (lv_at hl 1 rfl) ?_
                    refine lv_if_eq (tgt := 146) hx hb dX6_areSuch_138 (by decide) (fun c_108 => absurd c_108 (by decide)) (fun _ => ?_)
                    refine lv_iload hx hb dX6_areSuch_141 (lv_at hl 0 rfl) ?_
                    refine lv_if_ne (tgt := 148) hx hb dX6_areSuch_143 (by decide) (fun c_109 => absurd c_109 (by decide)) (fun _ => ?_)
                    refine lv_iconst (v := 0) hx hb dX6_areSuch_146 (by decide) ?_
                    rw [hQ9]
                    exact W.zret (v := 0) (ty := .boolean) hx hb hr rfl (fun t ht hW => ⟨0, rfl, ⟨by decide, fun h9 => absurd h9 (by decide)⟩, ht⟩) (fun q h => by cases h) dX6_areSuch_147
                  · have c_106 : 0 ≤ x_105.toInt := cv_cnlt c_106
                    refine lv_aload hx hb dX6_areSuch_108 (lv_at hl 3 rfl) ?_
                    refine lv_iload hx hb dX6_areSuch_110 (lv_at hl 2 rfl) ?_
                    refine lv_iconst (v := 2) hx hb dX6_areSuch_112 (by decide) ?_
                    refine lv_iadd hx hb dX6_areSuch_113 ?_
                    refine lv_topi (fun x_110 ex_110 => ?_)
                    have fx_110 : x_110.toInt = u_4.toInt + 2 := by rw [ex_110]; exact cv_addI (by have : (2 : Int32).toInt = 2 := rfl; omega) (by have : (2 : Int32).toInt = 2 := rfl; omega)
                    refine va_lald hx hb hK hP 5 2 rfl rfl (vp_in_iff.mpr (by omega)) dX6_areSuch_114 ?_
                    refine cv_topl (b := x_105) (by rw [ex_105, ex_110, ex_104]) ?_
                    refine lv_aload_n hx hb dX6_areSuch_115 rfl (lv_at hl 5 rfl) ?_
                    refine va_get (D := (dC, dI)) (ci := 2) (v := .int a_pl) (C := RX2) (T := TX2) (N := 15) hx hb hts uinX2 hown hK hP 9 rfl rfl 0 (by decide) (hts _ wd_1_82) (fun _ h9 => h9) rfl dX6_areSuch_116 ?_
                    obtain ⟨y_111, ey_111⟩ : ∃ z : Int64, z = a_pl.toInt64 := ⟨_, rfl⟩
                    have fy_111 : y_111.toInt = a_pl.toInt := by rw [ey_111]; exact Int32.toInt_toInt64 _
                    refine lv_i2l (v := y_111) hx hb dX6_areSuch_119 ey_111.symm ?_
                    refine W.lcmp hx hb dX6_areSuch_120 ?_
                    refine lv_if_ge (tgt := 128) hx hb dX6_areSuch_121 (by decide) (fun c_112 => ?_) (fun c_112 => ?_)
                    · have c_112 : y_111.toInt ≤ x_105.toInt := cv_cge c_112
                      refine lv_iconst (v := 0) hx hb dX6_areSuch_128 (by decide) ?_
                      refine lv_istore (lv' := [(8, .int 0), (7, .int 1), (6, .int 1), (5, .int u_4), (4, .ref n0), (3, .int x_1), (0, .ref h0), (1, .ref sl0), (2, .int 0)]) hx hb dX6_areSuch_129 hl (by decide) rfl (fun ls hl => ?_)
                      refine lv_iload hx hb dX6_areSuch_131 (lv_at hl 2 rfl) ?_
                      refine lv_if_eq (tgt := 146) hx hb dX6_areSuch_133 (by decide) (fun c_113 => absurd c_113 (by decide)) (fun _ => ?_)
                      refine lv_iload hx hb dX6_areSuch_136 (lv_at hl 1 rfl) ?_
                      refine lv_if_eq (tgt := 146) hx hb dX6_areSuch_138 (by decide) (fun c_114 => absurd c_114 (by decide)) (fun _ => ?_)
                      refine lv_iload hx hb dX6_areSuch_141 (lv_at hl 0 rfl) ?_
                      refine lv_if_ne (tgt := 148) hx hb dX6_areSuch_143 (by decide) (fun c_115 => absurd c_115 (by decide)) (fun _ => ?_)
                      refine lv_iconst (v := 0) hx hb dX6_areSuch_146 (by decide) ?_
                      rw [hQ9]
                      exact W.zret (v := 0) (ty := .boolean) hx hb hr rfl (fun t ht hW => ⟨0, rfl, ⟨by decide, fun h9 => absurd h9 (by decide)⟩, ht⟩) (fun q h => by cases h) dX6_areSuch_147
                    · have c_112 : x_105.toInt < y_111.toInt := cv_cnge c_112
                      refine lv_iconst (v := 1) hx hb dX6_areSuch_124 (by decide) ?_
                      refine lv_goto (tgt := 129) hx hb dX6_areSuch_125 (by decide) ?_
                      refine lv_istore (lv' := [(8, .int 1), (7, .int 1), (6, .int 1), (5, .int u_4), (4, .ref n0), (3, .int x_1), (0, .ref h0), (1, .ref sl0), (2, .int 0)]) hx hb dX6_areSuch_129 hl (by decide) rfl (fun ls hl => ?_)
                      refine lv_iload hx hb dX6_areSuch_131 (lv_at hl 2 rfl) ?_
                      refine lv_if_eq (tgt := 146) hx hb dX6_areSuch_133 (by decide) (fun c_116 => absurd c_116 (by decide)) (fun _ => ?_)
                      refine lv_iload hx hb dX6_areSuch_136 (lv_at hl 1 rfl) ?_
                      refine lv_if_eq (tgt := 146) hx hb dX6_areSuch_138 (by decide) (fun c_117 => absurd c_117 (by decide)) (fun _ => ?_)
                      refine lv_iload hx hb dX6_areSuch_141 (lv_at hl 0 rfl) ?_
                      refine lv_if_ne (tgt := 148) hx hb dX6_areSuch_143 (by decide) (fun _ => ?_) (fun c_118 => absurd c_118 (by decide))
                      obtain ⟨x_119, ex_119⟩ : ∃ y : Int32, y = u_4 + 3 := ⟨_, rfl⟩
                      refine lv_iinc (v := x_119) (lv' := [(5, .int x_119), (8, .int 1), (7, .int 1), (6, .int 1), (4, .ref n0), (3, .int x_1), (0, .ref h0), (1, .ref sl0), (2, .int 0)]) hx hb dX6_areSuch_148 hl (k := 3) rfl (by rw [ex_119]; rfl) (by decide) rfl (fun ls hl => ?_)
                      have fx_119 : x_119.toInt = u_4.toInt + 3 := by rw [ex_119]; exact cv_addI (by have : (3 : Int32).toInt = 3 := rfl; omega) (by have : (3 : Int32).toInt = 3 := rfl; omega)
                      refine lv_goto (tgt := 26) hx hb dX6_areSuch_151 (by decide) ?_
                      exact ihkey_5 x_119 _ (by omega) (by omega) (sn_step hsn9 hm9 ex_7 ex_76 ex_105 (by omega) (by omega) (by omega) (by omega) (by omega) (by omega) (by omega)) (lv_sub hl [0, 4, 5, 6, 7, 8] rfl) (by omega)
    exact key_5 _ 0 _ (by decide) (by decide) sn_zero (lv_sub hl [0, 1, 2, 3, 4, 5] rfl) (Nat.lt_succ_self _)
  · have c_3 : x_2.toInt ≠ 0 := cv_ne c_3
    refine lv_iconst (v := 0) hx hb dX6_areSuch_13 (by decide) ?_
    rw [hQ9]
    exact W.zret (v := 0) (ty := .boolean) hx hb hr rfl (fun t ht hW => ⟨0, rfl, ⟨by decide, fun h9 => absurd h9 (by decide)⟩, ht⟩) (fun q h => by cases h) dX6_areSuch_14

/- X6_areSuch -/
set_option maxHeartbeats 4000000 in
set_option maxRecDepth 100000 in
theorem n_areSuch1 (l : Launch) (dC : Nat → ClassId) (dI : Nat → Nat → Nat) (cyI cyB cyJ cyZ cyH cyN : ClassId) (sl0 sNum sLen sWid sMade n0 n1 n2 n3 : Nat) (nF : Nat → Option Nat) (s_fm s_fl s_fw : Nat → Int32) (s_n0 s_n1 s_n2 s_n3 : Nat → Int64) (h0 a_first a_now a_lawPlace a_lawOther a_lawEach a_lawFrom a_foes a_suitTable a_acts : Nat) (a_pl a_li a_le a_lc a_ac a_ng : Int32) (a_f_first a_f_now a_f_lawPlace a_f_lawOther a_f_lawEach a_f_lawFrom a_f_foes a_f_suitTable a_f_acts : Nat → Int32) (g0 : rg 0 1 4 s_fm) (g1 : rg 0 60 4 s_fl) (g2 : rg 0 3 4 s_fw) (g3 : rg 0 6 7 a_f_first) (g4 : rg 0 6 7 a_f_now) (g5 : rg 0 6 6 a_f_lawPlace) (g6 : rg 0 6 6 a_f_lawOther) (g7 : ra 40 a_f_acts) (g8 : 0 ≤ a_pl.toInt ∧ a_pl.toInt ≤ 7) (g9 : 0 ≤ a_lc.toInt ∧ a_lc.toInt ≤ 6) (g10 : 0 ≤ a_ac.toInt ∧ a_ac.toInt ≤ 40) (g11 : nF 0 = some n0) (g12 : nF 1 = some n1) (g13 : nF 2 = some n2) (g14 : nF 3 = some n3) : Met l yX6_areSuch (wk yX6_areSuch cX6_areSuch 9 (some .boolean)) ({ frames := 1, cells := 0, slots := 0, locals := 60 }) (va_Pc [.ref h0, .ref sl0, .int 1] (fun U => va_P (dC, dI) vwCl [(sl0, .inr (7, [.ref sNum, .ref sLen, .ref sWid, .ref sMade])), (sMade, .inl (cyZ, 4, .inl s_fm)), (sLen, .inl (cyI, 4, .inl s_fl)), (sWid, .inl (cyI, 4, .inl s_fw)), (sNum, .inl (cyN, 4, .inr (.inr (.inr (.inr nF))))), (n0, .inl (cyJ, 60, .inr (.inl s_n0))), (n1, .inl (cyJ, 60, .inr (.inl s_n1))), (n2, .inl (cyJ, 60, .inr (.inl s_n2))), (n3, .inl (cyJ, 60, .inr (.inl s_n3))), (h0, .inr (2, [.int a_pl, .int a_li, .int a_le, .int a_lc, .int a_ac, .int a_ng, .ref a_first, .ref a_now, .ref a_lawPlace, .ref a_lawOther, .ref a_lawEach, .ref a_lawFrom, .ref a_foes, .ref a_suitTable, .ref a_acts])), (a_first, .inl (cyI, 7, .inl a_f_first)), (a_now, .inl (cyI, 7, .inl a_f_now)), (a_lawPlace, .inl (cyI, 6, .inl a_f_lawPlace)), (a_lawOther, .inl (cyI, 6, .inl a_f_lawOther)), (a_lawEach, .inl (cyI, 6, .inl a_f_lawEach)), (a_lawFrom, .inl (cyI, 6, .inl a_f_lawFrom)), (a_foes, .inl (cyI, 7, .inl a_f_foes)), (a_suitTable, .inl (cyI, 49, .inl a_f_suitTable)), (a_acts, .inl (cyI, 40, .inl a_f_acts))] U.heap ∧ va_K (dC, dI) vwCl [(cyI, .int), (cyB, .byte), (cyJ, .long), (cyZ, .boolean), (cyH, .object RX2), (cyN, .array .long)] U)) (vp_Si (fun r : Int32 => (0 ≤ r.toInt ∧ r.toInt ≤ 1) ∧ (r.toInt = 1 → sn a_pl.toInt (s_fl 1).toInt s_n1))) 0 0 (fun _ => False) := by
  refine Met.ofW (cc := cX6_areSuch) (maxL := 9) (ret := (some .boolean)) (by decide) rfl ?_
  intro p e s m args below meth c s₁ B hml hv
  obtain ⟨rfl, hP, hK⟩ := hv
  have hx := B.exec
  have hb := B.bytes
  have hr := B.returns
  have hts : ∀ w ∈ uU, w.before ([.ref h0, .ref sl0, .int 1] : List Value).toArray s = true := fun w h => atoms_spec (ws := wk yX6_areSuch cX6_areSuch 9 (some .boolean)) B.pre w (List.mem_cons_of_mem _ h)
  have hown : s.vm.findClass RX6 = some m.cls := findClass_of_methodNamed B.named
  have hlocks := B.notSynchronized
  have hl := lv_entry ([.ref h0, .ref sl0, .int 1]) (n := 9) (Nat.le_of_ble_eq_true rfl)
  rw [lg_entry_eq]
  generalize (lg_sl ([.ref h0, .ref sl0, .int 1]) ++ List.replicate (9 - (lg_sl ([.ref h0, .ref sl0, .int 1])).length) Slot.unset).toArray = ls at hl ⊢
  have hl : lv_has ls 9 [(0, .ref h0), (1, .ref sl0), (2, .int 1)] := hl
  obtain ⟨Q9, hQ9⟩ : ∃ Q9 : State → Prop, Q9 = MQ below (vp_Si (fun r : Int32 => (0 ≤ r.toInt ∧ r.toInt ≤ 1) ∧ (r.toInt = 1 → sn a_pl.toInt (s_fl 1).toInt s_n1))) ([.ref h0, .ref sl0, .int 1] : List Value).toArray s 0 0 (fun _ => False) := ⟨_, rfl⟩
  rw [← hQ9]
  refine lv_aload_n hx hb dX6_areSuch_0 rfl (lv_at hl 1 rfl) ?_
  refine va_get (D := (dC, dI)) (ci := 7) (v := .ref sLen) (C := RX8) (T := TX8) (N := 4) hx hb hts uinX8 hown hK hP 0 rfl rfl 1 (by decide) (hts _ wd_1_169) (fun _ h9 => h9) rfl dX6_areSuch_1 ?_
  refine lv_iload_n hx hb dX6_areSuch_4 rfl (lv_at hl 2 rfl) ?_
  refine va_iald hx hb hK hP 2 0 rfl rfl (vp_in_iff.mpr (by decide)) dX6_areSuch_5 ?_
  refine lv_topi (fun x_1 ex_1 => ?_)
  have qx_1 : x_1.toInt = (s_fl 1).toInt := by rw [ex_1]; rfl
  have fx_1 : 0 ≤ x_1.toInt ∧ x_1.toInt ≤ 60 := by rw [ex_1]; exact g1 _ (cv_ix (by decide) (by decide))
  refine lv_istore_n (lv' := [(3, .int x_1), (0, .ref h0), (1, .ref sl0), (2, .int 1)]) hx hb dX6_areSuch_6 rfl hl (by decide) rfl (fun ls hl => ?_)
  refine lv_iload_n hx hb dX6_areSuch_7 rfl (lv_at hl 0 rfl) ?_
  refine lv_iconst (v := 3) hx hb dX6_areSuch_8 (by decide) ?_
  refine lv_irem hx hb dX6_areSuch_9 (by decide) ?_
  refine lv_topi (fun x_2 ex_2 => ?_)
  have fx_2 : x_2.toInt = x_1.toInt % 3 := by rw [ex_2]; exact cv_remI (by omega) (by decide)
  refine lv_if_eq (tgt := 15) hx hb dX6_areSuch_10 (by decide) (fun c_3 => ?_) (fun c_3 => ?_)
  · have c_3 : x_2.toInt = 0 := cv_eq c_3
    refine lv_aload_n hx hb dX6_areSuch_15 rfl (lv_at hl 2 rfl) ?_
    refine va_get (D := (dC, dI)) (ci := 7) (v := .ref sNum) (C := RX8) (T := TX8) (N := 4) hx hb hts uinX8 hown hK hP 0 rfl rfl 0 (by decide) (hts _ wd_1_166) (fun _ h9 => h9) rfl dX6_areSuch_16 ?_
    refine lv_iload_n hx hb dX6_areSuch_19 rfl (lv_at hl 3 rfl) ?_
    refine cv_aldA hx hb hK hP 4 5 rfl rfl (vp_in_iff.mpr (by decide)) dX6_areSuch_20 ?_
    refine cv_topr (b := .ref n1) (by rw [show (1 : Int32).toNatClampNeg = 1 from rfl, g12]; rfl) ?_
    refine lv_astore (lv' := [(4, .ref n1), (3, .int x_1), (0, .ref h0), (1, .ref sl0), (2, .int 1)]) hx hb dX6_areSuch_21 hl (by decide) rfl (fun ls hl => ?_)
    refine lv_iconst (v := 0) hx hb dX6_areSuch_23 (by decide) ?_
    refine lv_istore (lv' := [(5, .int 0), (4, .ref n1), (3, .int x_1), (0, .ref h0), (1, .ref sl0), (2, .int 1)]) hx hb dX6_areSuch_24 hl (by decide) rfl (fun ls hl => ?_)
    have key_5 : ∀ (nkey_5 : Nat) (u_4 : Int32) (ls : Array Slot), (0 ≤ u_4.toInt ∧ u_4.toInt ≤ 63) → (u_4.toInt % 3 = 0) → (sn a_pl.toInt u_4.toInt s_n1) → lv_has ls 9 [(5, .int u_4), (4, .ref n1), (3, .int x_1), (0, .ref h0), (1, .ref sl0), (2, .int 1)] → (x_1.toInt - u_4.toInt).toNat < nkey_5 → W p l e ({ frames := 1, cells := 0, slots := 0, locals := 60 }) s m ([.ref h0, .ref sl0, .int 1] : List Value).toArray below meth c s.heap [] 0 0 Q9 (F0 m 26 ls []) := by
      intro nkey_5
      induction nkey_5 with
      | zero => intro u_4 ls hu_4 hm9 hsn9 hl hnkey_5; exact absurd hnkey_5 (Nat.not_lt_zero _)
      | succ nkey_5 ihkey_5 =>
        intro u_4 ls hu_4 hm9 hsn9 hl hnkey_5
        refine lv_iload hx hb dX6_areSuch_26 (lv_at hl 0 rfl) ?_
        refine lv_iload_n hx hb dX6_areSuch_28 rfl (lv_at hl 2 rfl) ?_
        refine lv_icmp_ge (tgt := 154) hx hb dX6_areSuch_29 (by decide) (fun c_6 => ?_) (fun c_6 => ?_)
        · have c_6 : x_1.toInt ≤ u_4.toInt := cv_le c_6
          refine lv_iconst (v := 1) hx hb dX6_areSuch_154 (by decide) ?_
          rw [hQ9]
          exact W.zret (v := 1) (ty := .boolean) hx hb hr rfl (fun t ht hW => ⟨1, rfl, ⟨by decide, fun _ => sn_mono hsn9 (by omega)⟩, ht⟩) (fun q h => by cases h) dX6_areSuch_155
        · have c_6 : u_4.toInt < x_1.toInt := cv_nle c_6
          refine lv_aload hx hb dX6_areSuch_32 (lv_at hl 1 rfl) ?_
          refine lv_iload hx hb dX6_areSuch_34 (lv_at hl 0 rfl) ?_
          refine va_lald hx hb hK hP 6 2 rfl rfl (vp_in_iff.mpr (by omega)) dX6_areSuch_36 ?_
          refine lv_topl (fun x_7 ex_7 => ?_)
          refine lv_lconst (v := 0) hx hb dX6_areSuch_37 (by decide) ?_
          refine W.lcmp hx hb dX6_areSuch_38 ?_
          refine lv_if_lt (tgt := 60) hx hb dX6_areSuch_39 (by decide) (fun c_8 => ?_) (fun c_8 => ?_)
          · have c_8 : x_7.toInt < 0 := cv_clt c_8
            refine lv_iconst (v := 0) hx hb dX6_areSuch_60 (by decide) ?_
            refine lv_istore (lv' := [(6, .int 0), (5, .int u_4), (4, .ref n1), (3, .int x_1), (0, .ref h0), (1, .ref sl0), (2, .int 1)]) hx hb dX6_areSuch_61 hl (by decide) rfl (fun ls hl => ?_)
            refine lv_aload hx hb dX6_areSuch_63 (lv_at hl 2 rfl) ?_
            refine lv_iload hx hb dX6_areSuch_65 (lv_at hl 1 rfl) ?_
            refine lv_iconst (v := 1) hx hb dX6_areSuch_67 (by decide) ?_
            refine lv_iadd hx hb dX6_areSuch_68 ?_
            refine lv_topi (fun x_9 ex_9 => ?_)
            have fx_9 : x_9.toInt = u_4.toInt + 1 := by rw [ex_9]; exact cv_addI (by have : (1 : Int32).toInt = 1 := rfl; omega) (by have : (1 : Int32).toInt = 1 := rfl; omega)
            refine va_lald hx hb hK hP 6 2 rfl rfl (vp_in_iff.mpr (by omega)) dX6_areSuch_69 ?_
            refine lv_topl (fun x_10 ex_10 => ?_)
            refine lv_lconst (v := 0) hx hb dX6_areSuch_70 (by decide) ?_
            refine W.lcmp hx hb dX6_areSuch_71 ?_
            refine lv_if_lt (tgt := 93) hx hb dX6_areSuch_72 (by decide) (fun c_11 => ?_) (fun c_11 => ?_)
            · have c_11 : x_10.toInt < 0 := cv_clt c_11
              refine lv_iconst (v := 0) hx hb dX6_areSuch_93 (by decide) ?_
              refine lv_istore (lv' := [(7, .int 0), (6, .int 0), (5, .int u_4), (4, .ref n1), (3, .int x_1), (0, .ref h0), (1, .ref sl0), (2, .int 1)]) hx hb dX6_areSuch_94 hl (by decide) rfl (fun ls hl => ?_)
              refine lv_aload hx hb dX6_areSuch_96 (lv_at hl 3 rfl) ?_
              refine lv_iload hx hb dX6_areSuch_98 (lv_at hl 2 rfl) ?_
              refine lv_iconst (v := 2) hx hb dX6_areSuch_100 (by decide) ?_
              refine lv_iadd hx hb dX6_areSuch_101 ?_
              refine lv_topi (fun x_12 ex_12 => ?_)
              have fx_12 : x_12.toInt = u_4.toInt + 2 := by rw [ex_12]; exact cv_addI (by have : (2 : Int32).toInt = 2 := rfl; omega) (by have : (2 : Int32).toInt = 2 := rfl; omega)
              refine va_lald hx hb hK hP 6 2 rfl rfl (vp_in_iff.mpr (by omega)) dX6_areSuch_102 ?_
              refine lv_topl (fun x_13 ex_13 => ?_)
              refine lv_lconst (v := 0) hx hb dX6_areSuch_103 (by decide) ?_
              refine W.lcmp hx hb dX6_areSuch_104 ?_
              refine lv_if_lt (tgt := 128) hx hb dX6_areSuch_105 (by decide) (fun c_14 => ?_) (fun c_14 => ?_)
              · have c_14 : x_13.toInt < 0 := cv_clt c_14
                refine lv_iconst (v := 0) hx hb dX6_areSuch_128 (by decide) ?_
                refine lv_istore (lv' := [(8, .int 0), (7, .int 0), (6, .int 0), (5, .int u_4), (4, .ref n1), (3, .int x_1), (0, .ref h0), (1, .ref sl0), (2, .int 1)]) hx hb dX6_areSuch_129 hl (by decide) rfl (fun ls hl => ?_)
                refine lv_iload hx hb dX6_areSuch_131 (lv_at hl 2 rfl) ?_
                refine lv_if_eq (tgt := 146) hx hb dX6_areSuch_133 (by decide) (fun _ => ?_) (fun c_15 => absurd c_15 (by decide))
                refine lv_iconst (v := 0) hx hb dX6_areSuch_146 (by decide) ?_
                rw [hQ9]
                exact W.zret (v := 0) (ty := .boolean) hx hb hr rfl (fun t ht hW => ⟨0, rfl, ⟨by decide, fun h9 => absurd h9 (by decide)⟩, ht⟩) (fun q h => by cases h) dX6_areSuch_147
              · have c_14 : 0 ≤ x_13.toInt := cv_cnlt c_14
                refine lv_aload hx hb dX6_areSuch_108 (lv_at hl 3 rfl) ?_
                refine lv_iload hx hb dX6_areSuch_110 (lv_at hl 2 rfl) ?_
                refine lv_iconst (v := 2) hx hb dX6_areSuch_112 (by decide) ?_
                refine lv_iadd hx hb dX6_areSuch_113 ?_
                refine lv_topi (fun x_16 ex_16 => ?_)
                have fx_16 : x_16.toInt = u_4.toInt + 2 := by rw [ex_16]; exact cv_addI (by have : (2 : Int32).toInt = 2 := rfl; omega) (by have : (2 : Int32).toInt = 2 := rfl; omega)
                refine va_lald hx hb hK hP 6 2 rfl rfl (vp_in_iff.mpr (by omega)) dX6_areSuch_114 ?_
                refine cv_topl (b := x_13) (by rw [ex_13, ex_16, ex_12]) ?_
                refine lv_aload_n hx hb dX6_areSuch_115 rfl (lv_at hl 5 rfl) ?_
                refine va_get (D := (dC, dI)) (ci := 2) (v := .int a_pl) (C := RX2) (T := TX2) (N := 15) hx hb hts uinX2 hown hK hP 9 rfl rfl 0 (by decide) (hts _ wd_1_82) (fun _ h9 => h9) rfl dX6_areSuch_116 ?_
                obtain ⟨y_17, ey_17⟩ : ∃ z : Int64, z = a_pl.toInt64 := ⟨_, rfl⟩
                have fy_17 : y_17.toInt = a_pl.toInt := by rw [ey_17]; exact Int32.toInt_toInt64 _
                refine lv_i2l (v := y_17) hx hb dX6_areSuch_119 ey_17.symm ?_
                refine W.lcmp hx hb dX6_areSuch_120 ?_
                refine lv_if_ge (tgt := 128) hx hb dX6_areSuch_121 (by decide) (fun c_18 => ?_) (fun c_18 => ?_)
                · have c_18 : y_17.toInt ≤ x_13.toInt := cv_cge c_18
                  refine lv_iconst (v := 0) hx hb dX6_areSuch_128 (by decide) ?_
                  refine lv_istore (lv' := [(8, .int 0), (7, .int 0), (6, .int 0), (5, .int u_4), (4, .ref n1), (3, .int x_1), (0, .ref h0), (1, .ref sl0), (2, .int 1)]) hx hb dX6_areSuch_129 hl (by decide) rfl (fun ls hl => ?_)
                  refine lv_iload hx hb dX6_areSuch_131 (lv_at hl 2 rfl) ?_
                  refine lv_if_eq (tgt := 146) hx hb dX6_areSuch_133 (by decide) (fun _ => ?_) (fun c_19 => absurd c_19 (by decide))
                  refine lv_iconst (v := 0) hx hb dX6_areSuch_146 (by decide) ?_
                  rw [hQ9]
                  exact W.zret (v := 0) (ty := .boolean) hx hb hr rfl (fun t ht hW => ⟨0, rfl, ⟨by decide, fun h9 => absurd h9 (by decide)⟩, ht⟩) (fun q h => by cases h) dX6_areSuch_147
                · have c_18 : x_13.toInt < y_17.toInt := cv_cnge c_18
                  refine lv_iconst (v := 1) hx hb dX6_areSuch_124 (by decide) ?_
                  refine lv_goto (tgt := 129) hx hb dX6_areSuch_125 (by decide) ?_
                  refine lv_istore (lv' := [(8, .int 1), (7, .int 0), (6, .int 0), (5, .int u_4), (4, .ref n1), (3, .int x_1), (0, .ref h0), (1, .ref sl0), (2, .int 1)]) hx hb dX6_areSuch_129 hl (by decide) rfl (fun ls hl => ?_)
                  refine lv_iload hx hb dX6_areSuch_131 (lv_at hl 2 rfl) ?_
                  refine lv_if_eq (tgt := 146) hx hb dX6_areSuch_133 (by decide) (fun _ => ?_) (fun c_20 => absurd c_20 (by decide))
                  refine lv_iconst (v := 0) hx hb dX6_areSuch_146 (by decide) ?_
                  rw [hQ9]
                  exact W.zret (v := 0) (ty := .boolean) hx hb hr rfl (fun t ht hW => ⟨0, rfl, ⟨by decide, fun h9 => absurd h9 (by decide)⟩, ht⟩) (fun q h => by cases h) dX6_areSuch_147
            · have c_11 : 0 ≤ x_10.toInt := cv_cnlt c_11
              refine lv_aload hx hb dX6_areSuch_75 (lv_at hl 2 rfl) ?_
              refine lv_iload hx hb dX6_areSuch_77 (lv_at hl 1 rfl) ?_
              refine lv_iconst (v := 1) hx hb dX6_areSuch_79 (by decide) ?_
              refine lv_iadd hx hb dX6_areSuch_80 ?_
              refine lv_topi (fun x_21 ex_21 => ?_)
              have fx_21 : x_21.toInt = u_4.toInt + 1 := by rw [ex_21]; exact cv_addI (by have : (1 : Int32).toInt = 1 := rfl; omega) (by have : (1 : Int32).toInt = 1 := rfl; omega)
              refine va_lald hx hb hK hP 6 2 rfl rfl (vp_in_iff.mpr (by omega)) dX6_areSuch_81 ?_
              refine cv_topl (b := x_10) (by rw [ex_10, ex_21, ex_9]) ?_
              refine lv_ldc2 (v := 999) hx hb hown (hts _ wd_4_184) dX6_areSuch_82 ?_
              refine W.lcmp hx hb dX6_areSuch_85 ?_
              refine lv_if_gt (tgt := 93) hx hb dX6_areSuch_86 (by decide) (fun c_22 => ?_) (fun c_22 => ?_)
              · have c_22 : 999 < x_10.toInt := cv_cgt c_22
                refine lv_iconst (v := 0) hx hb dX6_areSuch_93 (by decide) ?_
                refine lv_istore (lv' := [(7, .int 0), (6, .int 0), (5, .int u_4), (4, .ref n1), (3, .int x_1), (0, .ref h0), (1, .ref sl0), (2, .int 1)]) hx hb dX6_areSuch_94 hl (by decide) rfl (fun ls hl => ?_)
                refine lv_aload hx hb dX6_areSuch_96 (lv_at hl 3 rfl) ?_
                refine lv_iload hx hb dX6_areSuch_98 (lv_at hl 2 rfl) ?_
                refine lv_iconst (v := 2) hx hb dX6_areSuch_100 (by decide) ?_
                refine lv_iadd hx hb dX6_areSuch_101 ?_
                refine lv_topi (fun x_23 ex_23 => ?_)
                have fx_23 : x_23.toInt = u_4.toInt + 2 := by rw [ex_23]; exact cv_addI (by have : (2 : Int32).toInt = 2 := rfl; omega) (by have : (2 : Int32).toInt = 2 := rfl; omega)
                refine va_lald hx hb hK hP 6 2 rfl rfl (vp_in_iff.mpr (by omega)) dX6_areSuch_102 ?_
                refine lv_topl (fun x_24 ex_24 => ?_)
                refine lv_lconst (v := 0) hx hb dX6_areSuch_103 (by decide) ?_
                refine W.lcmp hx hb dX6_areSuch_104 ?_
                refine lv_if_lt (tgt := 128) hx hb dX6_areSuch_105 (by decide) (fun c_25 => ?_) (fun c_25 => ?_)
                · have c_25 : x_24.toInt < 0 := cv_clt c_25
                  refine lv_iconst (v := 0) hx hb dX6_areSuch_128 (by decide) ?_
                  refine lv_istore (lv' := [(8, .int 0), (7, .int 0), (6, .int 0), (5, .int u_4), (4, .ref n1), (3, .int x_1), (0, .ref h0), (1, .ref sl0), (2, .int 1)]) hx hb dX6_areSuch_129 hl (by decide) rfl (fun ls hl => ?_)
                  refine lv_iload hx hb dX6_areSuch_131 (lv_at hl 2 rfl) ?_
                  refine lv_if_eq (tgt := 146) hx hb dX6_areSuch_133 (by decide) (fun _ => ?_) (fun c_26 => absurd c_26 (by decide))
                  refine lv_iconst (v := 0) hx hb dX6_areSuch_146 (by decide) ?_
                  rw [hQ9]
                  exact W.zret (v := 0) (ty := .boolean) hx hb hr rfl (fun t ht hW => ⟨0, rfl, ⟨by decide, fun h9 => absurd h9 (by decide)⟩, ht⟩) (fun q h => by cases h) dX6_areSuch_147
                · have c_25 : 0 ≤ x_24.toInt := cv_cnlt c_25
                  refine lv_aload hx hb dX6_areSuch_108 (lv_at hl 3 rfl) ?_
                  refine lv_iload hx hb dX6_areSuch_110 (lv_at hl 2 rfl) ?_
                  refine lv_iconst (v := 2) hx hb dX6_areSuch_112 (by decide) ?_
                  refine lv_iadd hx hb dX6_areSuch_113 ?_
                  refine lv_topi (fun x_27 ex_27 => ?_)
                  have fx_27 : x_27.toInt = u_4.toInt + 2 := by rw [ex_27]; exact cv_addI (by have : (2 : Int32).toInt = 2 := rfl; omega) (by have : (2 : Int32).toInt = 2 := rfl; omega)
                  refine va_lald hx hb hK hP 6 2 rfl rfl (vp_in_iff.mpr (by omega)) dX6_areSuch_114 ?_
                  refine cv_topl (b := x_24) (by rw [ex_24, ex_27, ex_23]) ?_
                  refine lv_aload_n hx hb dX6_areSuch_115 rfl (lv_at hl 5 rfl) ?_
                  refine va_get (D := (dC, dI)) (ci := 2) (v := .int a_pl) (C := RX2) (T := TX2) (N := 15) hx hb hts uinX2 hown hK hP 9 rfl rfl 0 (by decide) (hts _ wd_1_82) (fun _ h9 => h9) rfl dX6_areSuch_116 ?_
                  obtain ⟨y_28, ey_28⟩ : ∃ z : Int64, z = a_pl.toInt64 := ⟨_, rfl⟩
                  have fy_28 : y_28.toInt = a_pl.toInt := by rw [ey_28]; exact Int32.toInt_toInt64 _
                  refine lv_i2l (v := y_28) hx hb dX6_areSuch_119 ey_28.symm ?_
                  refine W.lcmp hx hb dX6_areSuch_120 ?_
                  refine lv_if_ge (tgt := 128) hx hb dX6_areSuch_121 (by decide) (fun c_29 => ?_) (fun c_29 => ?_)
                  · have c_29 : y_28.toInt ≤ x_24.toInt := cv_cge c_29
                    refine lv_iconst (v := 0) hx hb dX6_areSuch_128 (by decide) ?_
                    refine lv_istore (lv' := [(8, .int 0), (7, .int 0), (6, .int 0), (5, .int u_4), (4, .ref n1), (3, .int x_1), (0, .ref h0), (1, .ref sl0), (2, .int 1)]) hx hb dX6_areSuch_129 hl (by decide) rfl (fun ls hl => ?_)
                    refine lv_iload hx hb dX6_areSuch_131 (lv_at hl 2 rfl) ?_
                    refine lv_if_eq (tgt := 146) hx hb dX6_areSuch_133 (by decide) (fun _ => ?_) (fun c_30 => absurd c_30 (by decide))
                    refine lv_iconst (v := 0) hx hb dX6_areSuch_146 (by decide) ?_
                    rw [hQ9]
                    exact W.zret (v := 0) (ty := .boolean) hx hb hr rfl (fun t ht hW => ⟨0, rfl, ⟨by decide, fun h9 => absurd h9 (by decide)⟩, ht⟩) (fun q h => by cases h) dX6_areSuch_147
                  · have c_29 : x_24.toInt < y_28.toInt := cv_cnge c_29
                    refine lv_iconst (v := 1) hx hb dX6_areSuch_124 (by decide) ?_
                    refine lv_goto (tgt := 129) hx hb dX6_areSuch_125 (by decide) ?_
                    refine lv_istore (lv' := [(8, .int 1), (7, .int 0), (6, .int 0), (5, .int u_4), (4, .ref n1), (3, .int x_1), (0, .ref h0), (1, .ref sl0), (2, .int 1)]) hx hb dX6_areSuch_129 hl (by decide) rfl (fun ls hl => ?_)
                    refine lv_iload hx hb dX6_areSuch_131 (lv_at hl 2 rfl) ?_
                    refine lv_if_eq (tgt := 146) hx hb dX6_areSuch_133 (by decide) (fun _ => ?_) (fun c_31 => absurd c_31 (by decide))
                    refine lv_iconst (v := 0) hx hb dX6_areSuch_146 (by decide) ?_
                    rw [hQ9]
                    exact W.zret (v := 0) (ty := .boolean) hx hb hr rfl (fun t ht hW => ⟨0, rfl, ⟨by decide, fun h9 => absurd h9 (by decide)⟩, ht⟩) (fun q h => by cases h) dX6_areSuch_147
              · have c_22 : x_10.toInt ≤ 999 := cv_cngt c_22
                refine lv_iconst (v := 1) hx hb dX6_areSuch_89 (by decide) ?_
                refine lv_goto (tgt := 94) hx hb dX6_areSuch_90 (by decide) ?_
                refine lv_istore (lv' := [(7, .int 1), (6, .int 0), (5, .int u_4), (4, .ref n1), (3, .int x_1), (0, .ref h0), (1, .ref sl0), (2, .int 1)]) hx hb dX6_areSuch_94 hl (by decide) rfl (fun ls hl => ?_)
                refine lv_aload hx hb dX6_areSuch_96 (lv_at hl 3 rfl) ?_
                refine lv_iload hx hb dX6_areSuch_98 (lv_at hl 2 rfl) ?_
                refine lv_iconst (v := 2) hx hb dX6_areSuch_100 (by decide) ?_
                refine lv_iadd hx hb dX6_areSuch_101 ?_
                refine lv_topi (fun x_32 ex_32 => ?_)
                have fx_32 : x_32.toInt = u_4.toInt + 2 := by rw [ex_32]; exact cv_addI (by have : (2 : Int32).toInt = 2 := rfl; omega) (by have : (2 : Int32).toInt = 2 := rfl; omega)
                refine va_lald hx hb hK hP 6 2 rfl rfl (vp_in_iff.mpr (by omega)) dX6_areSuch_102 ?_
                refine lv_topl (fun x_33 ex_33 => ?_)
                refine lv_lconst (v := 0) hx hb dX6_areSuch_103 (by decide) ?_
                refine W.lcmp hx hb dX6_areSuch_104 ?_
                refine lv_if_lt (tgt := 128) hx hb dX6_areSuch_105 (by decide) (fun c_34 => ?_) (fun c_34 => ?_)
                · have c_34 : x_33.toInt < 0 := cv_clt c_34
                  refine lv_iconst (v := 0) hx hb dX6_areSuch_128 (by decide) ?_
                  refine lv_istore (lv' := [(8, .int 0), (7, .int 1), (6, .int 0), (5, .int u_4), (4, .ref n1), (3, .int x_1), (0, .ref h0), (1, .ref sl0), (2, .int 1)]) hx hb dX6_areSuch_129 hl (by decide) rfl (fun ls hl => ?_)
                  refine lv_iload hx hb dX6_areSuch_131 (lv_at hl 2 rfl) ?_
                  refine lv_if_eq (tgt := 146) hx hb dX6_areSuch_133 (by decide) (fun _ => ?_) (fun c_35 => absurd c_35 (by decide))
                  refine lv_iconst (v := 0) hx hb dX6_areSuch_146 (by decide) ?_
                  rw [hQ9]
                  exact W.zret (v := 0) (ty := .boolean) hx hb hr rfl (fun t ht hW => ⟨0, rfl, ⟨by decide, fun h9 => absurd h9 (by decide)⟩, ht⟩) (fun q h => by cases h) dX6_areSuch_147
                · have c_34 : 0 ≤ x_33.toInt := cv_cnlt c_34
                  refine lv_aload hx hb dX6_areSuch_108 (lv_at hl 3 rfl) ?_
                  refine lv_iload hx hb dX6_areSuch_110 (lv_at hl 2 rfl) ?_
                  refine lv_iconst (v := 2) hx hb dX6_areSuch_112 (by decide) ?_
                  refine lv_iadd hx hb dX6_areSuch_113 ?_
                  refine lv_topi (fun x_36 ex_36 => ?_)
                  have fx_36 : x_36.toInt = u_4.toInt + 2 := by rw [ex_36]; exact cv_addI (by have : (2 : Int32).toInt = 2 := rfl; omega) (by have : (2 : Int32).toInt = 2 := rfl; omega)
                  refine va_lald hx hb hK hP 6 2 rfl rfl (vp_in_iff.mpr (by omega)) dX6_areSuch_114 ?_
                  refine cv_topl (b := x_33) (by rw [ex_33, ex_36, ex_32]) ?_
                  refine lv_aload_n hx hb dX6_areSuch_115 rfl (lv_at hl 5 rfl) ?_
                  refine va_get (D := (dC, dI)) (ci := 2) (v := .int a_pl) (C := RX2) (T := TX2) (N := 15) hx hb hts uinX2 hown hK hP 9 rfl rfl 0 (by decide) (hts _ wd_1_82) (fun _ h9 => h9) rfl dX6_areSuch_116 ?_
                  obtain ⟨y_37, ey_37⟩ : ∃ z : Int64, z = a_pl.toInt64 := ⟨_, rfl⟩
                  have fy_37 : y_37.toInt = a_pl.toInt := by rw [ey_37]; exact Int32.toInt_toInt64 _
                  refine lv_i2l (v := y_37) hx hb dX6_areSuch_119 ey_37.symm ?_
                  refine W.lcmp hx hb dX6_areSuch_120 ?_
                  refine lv_if_ge (tgt := 128) hx hb dX6_areSuch_121 (by decide) (fun c_38 => ?_) (fun c_38 => ?_)
                  · have c_38 : y_37.toInt ≤ x_33.toInt := cv_cge c_38
                    refine lv_iconst (v := 0) hx hb dX6_areSuch_128 (by decide) ?_
                    refine lv_istore (lv' := [(8, .int 0), (7, .int 1), (6, .int 0), (5, .int u_4), (4, .ref n1), (3, .int x_1), (0, .ref h0), (1, .ref sl0), (2, .int 1)]) hx hb dX6_areSuch_129 hl (by decide) rfl (fun ls hl => ?_)
                    refine lv_iload hx hb dX6_areSuch_131 (lv_at hl 2 rfl) ?_
                    refine lv_if_eq (tgt := 146) hx hb dX6_areSuch_133 (by decide) (fun _ => ?_) (fun c_39 => absurd c_39 (by decide))
                    refine lv_iconst (v := 0) hx hb dX6_areSuch_146 (by decide) ?_
                    rw [hQ9]
                    exact W.zret (v := 0) (ty := .boolean) hx hb hr rfl (fun t ht hW => ⟨0, rfl, ⟨by decide, fun h9 => absurd h9 (by decide)⟩, ht⟩) (fun q h => by cases h) dX6_areSuch_147
                  · have c_38 : x_33.toInt < y_37.toInt := cv_cnge c_38
                    refine lv_iconst (v := 1) hx hb dX6_areSuch_124 (by decide) ?_
                    refine lv_goto (tgt := 129) hx hb dX6_areSuch_125 (by decide) ?_
                    refine lv_istore (lv' := [(8, .int 1), (7, .int 1), (6, .int 0), (5, .int u_4), (4, .ref n1), (3, .int x_1), (0, .ref h0), (1, .ref sl0), (2, .int 1)]) hx hb dX6_areSuch_129 hl (by decide) rfl (fun ls hl => ?_)
                    refine lv_iload hx hb dX6_areSuch_131 (lv_at hl 2 rfl) ?_
                    refine lv_if_eq (tgt := 146) hx hb dX6_areSuch_133 (by decide) (fun _ => ?_) (fun c_40 => absurd c_40 (by decide))
                    refine lv_iconst (v := 0) hx hb dX6_areSuch_146 (by decide) ?_
                    rw [hQ9]
                    exact W.zret (v := 0) (ty := .boolean) hx hb hr rfl (fun t ht hW => ⟨0, rfl, ⟨by decide, fun h9 => absurd h9 (by decide)⟩, ht⟩) (fun q h => by cases h) dX6_areSuch_147
          · have c_8 : 0 ≤ x_7.toInt := cv_cnlt c_8
            refine lv_aload hx hb dX6_areSuch_42 (lv_at hl 1 rfl) ?_
            refine lv_iload hx hb dX6_areSuch_44 (lv_at hl 0 rfl) ?_
            refine va_lald hx hb hK hP 6 2 rfl rfl (vp_in_iff.mpr (by omega)) dX6_areSuch_46 ?_
            refine cv_topl (b := x_7) ex_7.symm ?_
            refine lv_aload_n hx hb dX6_areSuch_47 rfl (lv_at hl 3 rfl) ?_
            refine va_get (D := (dC, dI)) (ci := 2) (v := .int a_pl) (C := RX2) (T := TX2) (N := 15) hx hb hts uinX2 hown hK hP 9 rfl rfl 0 (by decide) (hts _ wd_1_82) (fun _ h9 => h9) rfl dX6_areSuch_48 ?_
            obtain ⟨y_41, ey_41⟩ : ∃ z : Int64, z = a_pl.toInt64 := ⟨_, rfl⟩
            have fy_41 : y_41.toInt = a_pl.toInt := by rw [ey_41]; exact Int32.toInt_toInt64 _
            refine lv_i2l (v := y_41) hx hb dX6_areSuch_51 ey_41.symm ?_
            refine W.lcmp hx hb dX6_areSuch_52 ?_
            refine lv_if_ge (tgt := 60) hx hb dX6_areSuch_53 (by decide) (fun c_42 => ?_) (fun c_42 => ?_)
            · have c_42 : y_41.toInt ≤ x_7.toInt := cv_cge c_42
              refine lv_iconst (v := 0) hx hb dX6_areSuch_60 (by decide) ?_
              refine lv_istore (lv' := [(6, .int 0), (5, .int u_4), (4, .ref n1), (3, .int x_1), (0, .ref h0), (1, .ref sl0), (2, .int 1)]) hx hb dX6_areSuch_61 hl (by decide) rfl (fun ls hl => ?_)
              refine lv_aload hx hb dX6_areSuch_63 (lv_at hl 2 rfl) ?_
              refine lv_iload hx hb dX6_areSuch_65 (lv_at hl 1 rfl) ?_
              refine lv_iconst (v := 1) hx hb dX6_areSuch_67 (by decide) ?_
              refine lv_iadd hx hb dX6_areSuch_68 ?_
              refine lv_topi (fun x_43 ex_43 => ?_)
              have fx_43 : x_43.toInt = u_4.toInt + 1 := by rw [ex_43]; exact cv_addI (by have : (1 : Int32).toInt = 1 := rfl; omega) (by have : (1 : Int32).toInt = 1 := rfl; omega)
              refine va_lald hx hb hK hP 6 2 rfl rfl (vp_in_iff.mpr (by omega)) dX6_areSuch_69 ?_
              refine lv_topl (fun x_44 ex_44 => ?_)
              refine lv_lconst (v := 0) hx hb dX6_areSuch_70 (by decide) ?_
              refine W.lcmp hx hb dX6_areSuch_71 ?_
              refine lv_if_lt (tgt := 93) hx hb dX6_areSuch_72 (by decide) (fun c_45 => ?_) (fun c_45 => ?_)
              · have c_45 : x_44.toInt < 0 := cv_clt c_45
                refine lv_iconst (v := 0) hx hb dX6_areSuch_93 (by decide) ?_
                refine lv_istore (lv' := [(7, .int 0), (6, .int 0), (5, .int u_4), (4, .ref n1), (3, .int x_1), (0, .ref h0), (1, .ref sl0), (2, .int 1)]) hx hb dX6_areSuch_94 hl (by decide) rfl (fun ls hl => ?_)
                refine lv_aload hx hb dX6_areSuch_96 (lv_at hl 3 rfl) ?_
                refine lv_iload hx hb dX6_areSuch_98 (lv_at hl 2 rfl) ?_
                refine lv_iconst (v := 2) hx hb dX6_areSuch_100 (by decide) ?_
                refine lv_iadd hx hb dX6_areSuch_101 ?_
                refine lv_topi (fun x_46 ex_46 => ?_)
                have fx_46 : x_46.toInt = u_4.toInt + 2 := by rw [ex_46]; exact cv_addI (by have : (2 : Int32).toInt = 2 := rfl; omega) (by have : (2 : Int32).toInt = 2 := rfl; omega)
                refine va_lald hx hb hK hP 6 2 rfl rfl (vp_in_iff.mpr (by omega)) dX6_areSuch_102 ?_
                refine lv_topl (fun x_47 ex_47 => ?_)
                refine lv_lconst (v := 0) hx hb dX6_areSuch_103 (by decide) ?_
                refine W.lcmp hx hb dX6_areSuch_104 ?_
                refine lv_if_lt (tgt := 128) hx hb dX6_areSuch_105 (by decide) (fun c_48 => ?_) (fun c_48 => ?_)
                · have c_48 : x_47.toInt < 0 := cv_clt c_48
                  refine lv_iconst (v := 0) hx hb dX6_areSuch_128 (by decide) ?_
                  refine lv_istore (lv' := [(8, .int 0), (7, .int 0), (6, .int 0), (5, .int u_4), (4, .ref n1), (3, .int x_1), (0, .ref h0), (1, .ref sl0), (2, .int 1)]) hx hb dX6_areSuch_129 hl (by decide) rfl (fun ls hl => ?_)
                  refine lv_iload hx hb dX6_areSuch_131 (lv_at hl 2 rfl) ?_
                  refine lv_if_eq (tgt := 146) hx hb dX6_areSuch_133 (by decide) (fun _ => ?_) (fun c_49 => absurd c_49 (by decide))
                  refine lv_iconst (v := 0) hx hb dX6_areSuch_146 (by decide) ?_
                  rw [hQ9]
                  exact W.zret (v := 0) (ty := .boolean) hx hb hr rfl (fun t ht hW => ⟨0, rfl, ⟨by decide, fun h9 => absurd h9 (by decide)⟩, ht⟩) (fun q h => by cases h) dX6_areSuch_147
                · have c_48 : 0 ≤ x_47.toInt := cv_cnlt c_48
                  refine lv_aload hx hb dX6_areSuch_108 (lv_at hl 3 rfl) ?_
                  refine lv_iload hx hb dX6_areSuch_110 (lv_at hl 2 rfl) ?_
                  refine lv_iconst (v := 2) hx hb dX6_areSuch_112 (by decide) ?_
                  refine lv_iadd hx hb dX6_areSuch_113 ?_
                  refine lv_topi (fun x_50 ex_50 => ?_)
                  have fx_50 : x_50.toInt = u_4.toInt + 2 := by rw [ex_50]; exact cv_addI (by have : (2 : Int32).toInt = 2 := rfl; omega) (by have : (2 : Int32).toInt = 2 := rfl; omega)
                  refine va_lald hx hb hK hP 6 2 rfl rfl (vp_in_iff.mpr (by omega)) dX6_areSuch_114 ?_
                  refine cv_topl (b := x_47) (by rw [ex_47, ex_50, ex_46]) ?_
                  refine lv_aload_n hx hb dX6_areSuch_115 rfl (lv_at hl 5 rfl) ?_
                  refine va_get (D := (dC, dI)) (ci := 2) (v := .int a_pl) (C := RX2) (T := TX2) (N := 15) hx hb hts uinX2 hown hK hP 9 rfl rfl 0 (by decide) (hts _ wd_1_82) (fun _ h9 => h9) rfl dX6_areSuch_116 ?_
                  obtain ⟨y_51, ey_51⟩ : ∃ z : Int64, z = a_pl.toInt64 := ⟨_, rfl⟩
                  have fy_51 : y_51.toInt = a_pl.toInt := by rw [ey_51]; exact Int32.toInt_toInt64 _
                  refine lv_i2l (v := y_51) hx hb dX6_areSuch_119 ey_51.symm ?_
                  refine W.lcmp hx hb dX6_areSuch_120 ?_
                  refine lv_if_ge (tgt := 128) hx hb dX6_areSuch_121 (by decide) (fun c_52 => ?_) (fun c_52 => ?_)
                  · have c_52 : y_51.toInt ≤ x_47.toInt := cv_cge c_52
                    refine lv_iconst (v := 0) hx hb dX6_areSuch_128 (by decide) ?_
                    refine lv_istore (lv' := [(8, .int 0), (7, .int 0), (6, .int 0), (5, .int u_4), (4, .ref n1), (3, .int x_1), (0, .ref h0), (1, .ref sl0), (2, .int 1)]) hx hb dX6_areSuch_129 hl (by decide) rfl (fun ls hl => ?_)
                    refine lv_iload hx hb dX6_areSuch_131 (lv_at hl 2 rfl) ?_
                    refine lv_if_eq (tgt := 146) hx hb dX6_areSuch_133 (by decide) (fun _ => ?_) (fun c_53 => absurd c_53 (by decide))
                    refine lv_iconst (v := 0) hx hb dX6_areSuch_146 (by decide) ?_
                    rw [hQ9]
                    exact W.zret (v := 0) (ty := .boolean) hx hb hr rfl (fun t ht hW => ⟨0, rfl, ⟨by decide, fun h9 => absurd h9 (by decide)⟩, ht⟩) (fun q h => by cases h) dX6_areSuch_147
                  · have c_52 : x_47.toInt < y_51.toInt := cv_cnge c_52
                    refine lv_iconst (v := 1) hx hb dX6_areSuch_124 (by decide) ?_
                    refine lv_goto (tgt := 129) hx hb dX6_areSuch_125 (by decide) ?_
                    refine lv_istore (lv' := [(8, .int 1), (7, .int 0), (6, .int 0), (5, .int u_4), (4, .ref n1), (3, .int x_1), (0, .ref h0), (1, .ref sl0), (2, .int 1)]) hx hb dX6_areSuch_129 hl (by decide) rfl (fun ls hl => ?_)
                    refine lv_iload hx hb dX6_areSuch_131 (lv_at hl 2 rfl) ?_
                    refine lv_if_eq (tgt := 146) hx hb dX6_areSuch_133 (by decide) (fun _ => ?_) (fun c_54 => absurd c_54 (by decide))
                    refine lv_iconst (v := 0) hx hb dX6_areSuch_146 (by decide) ?_
                    rw [hQ9]
                    exact W.zret (v := 0) (ty := .boolean) hx hb hr rfl (fun t ht hW => ⟨0, rfl, ⟨by decide, fun h9 => absurd h9 (by decide)⟩, ht⟩) (fun q h => by cases h) dX6_areSuch_147
              · have c_45 : 0 ≤ x_44.toInt := cv_cnlt c_45
                refine lv_aload hx hb dX6_areSuch_75 (lv_at hl 2 rfl) ?_
                refine lv_iload hx hb dX6_areSuch_77 (lv_at hl 1 rfl) ?_
                refine lv_iconst (v := 1) hx hb dX6_areSuch_79 (by decide) ?_
                refine lv_iadd hx hb dX6_areSuch_80 ?_
                refine lv_topi (fun x_55 ex_55 => ?_)
                have fx_55 : x_55.toInt = u_4.toInt + 1 := by rw [ex_55]; exact cv_addI (by have : (1 : Int32).toInt = 1 := rfl; omega) (by have : (1 : Int32).toInt = 1 := rfl; omega)
                refine va_lald hx hb hK hP 6 2 rfl rfl (vp_in_iff.mpr (by omega)) dX6_areSuch_81 ?_
                refine cv_topl (b := x_44) (by rw [ex_44, ex_55, ex_43]) ?_
                refine lv_ldc2 (v := 999) hx hb hown (hts _ wd_4_184) dX6_areSuch_82 ?_
                refine W.lcmp hx hb dX6_areSuch_85 ?_
                refine lv_if_gt (tgt := 93) hx hb dX6_areSuch_86 (by decide) (fun c_56 => ?_) (fun c_56 => ?_)
                · have c_56 : 999 < x_44.toInt := cv_cgt c_56
                  refine lv_iconst (v := 0) hx hb dX6_areSuch_93 (by decide) ?_
                  refine lv_istore (lv' := [(7, .int 0), (6, .int 0), (5, .int u_4), (4, .ref n1), (3, .int x_1), (0, .ref h0), (1, .ref sl0), (2, .int 1)]) hx hb dX6_areSuch_94 hl (by decide) rfl (fun ls hl => ?_)
                  refine lv_aload hx hb dX6_areSuch_96 (lv_at hl 3 rfl) ?_
                  refine lv_iload hx hb dX6_areSuch_98 (lv_at hl 2 rfl) ?_
                  refine lv_iconst (v := 2) hx hb dX6_areSuch_100 (by decide) ?_
                  refine lv_iadd hx hb dX6_areSuch_101 ?_
                  refine lv_topi (fun x_57 ex_57 => ?_)
                  have fx_57 : x_57.toInt = u_4.toInt + 2 := by rw [ex_57]; exact cv_addI (by have : (2 : Int32).toInt = 2 := rfl; omega) (by have : (2 : Int32).toInt = 2 := rfl; omega)
                  refine va_lald hx hb hK hP 6 2 rfl rfl (vp_in_iff.mpr (by omega)) dX6_areSuch_102 ?_
                  refine lv_topl (fun x_58 ex_58 => ?_)
                  refine lv_lconst (v := 0) hx hb dX6_areSuch_103 (by decide) ?_
                  refine W.lcmp hx hb dX6_areSuch_104 ?_
                  refine lv_if_lt (tgt := 128) hx hb dX6_areSuch_105 (by decide) (fun c_59 => ?_) (fun c_59 => ?_)
                  · have c_59 : x_58.toInt < 0 := cv_clt c_59
                    refine lv_iconst (v := 0) hx hb dX6_areSuch_128 (by decide) ?_
                    refine lv_istore (lv' := [(8, .int 0), (7, .int 0), (6, .int 0), (5, .int u_4), (4, .ref n1), (3, .int x_1), (0, .ref h0), (1, .ref sl0), (2, .int 1)]) hx hb dX6_areSuch_129 hl (by decide) rfl (fun ls hl => ?_)
                    refine lv_iload hx hb dX6_areSuch_131 (lv_at hl 2 rfl) ?_
                    refine lv_if_eq (tgt := 146) hx hb dX6_areSuch_133 (by decide) (fun _ => ?_) (fun c_60 => absurd c_60 (by decide))
                    refine lv_iconst (v := 0) hx hb dX6_areSuch_146 (by decide) ?_
                    rw [hQ9]
                    exact W.zret (v := 0) (ty := .boolean) hx hb hr rfl (fun t ht hW => ⟨0, rfl, ⟨by decide, fun h9 => absurd h9 (by decide)⟩, ht⟩) (fun q h => by cases h) dX6_areSuch_147
                  · have c_59 : 0 ≤ x_58.toInt := cv_cnlt c_59
                    refine lv_aload hx hb dX6_areSuch_108 (lv_at hl 3 rfl) ?_
                    refine lv_iload hx hb dX6_areSuch_110 (lv_at hl 2 rfl) ?_
                    refine lv_iconst (v := 2) hx hb dX6_areSuch_112 (by decide) ?_
                    refine lv_iadd hx hb dX6_areSuch_113 ?_
                    refine lv_topi (fun x_61 ex_61 => ?_)
                    have fx_61 : x_61.toInt = u_4.toInt + 2 := by rw [ex_61]; exact cv_addI (by have : (2 : Int32).toInt = 2 := rfl; omega) (by have : (2 : Int32).toInt = 2 := rfl; omega)
                    refine va_lald hx hb hK hP 6 2 rfl rfl (vp_in_iff.mpr (by omega)) dX6_areSuch_114 ?_
                    refine cv_topl (b := x_58) (by rw [ex_58, ex_61, ex_57]) ?_
                    refine lv_aload_n hx hb dX6_areSuch_115 rfl (lv_at hl 5 rfl) ?_
                    refine va_get (D := (dC, dI)) (ci := 2) (v := .int a_pl) (C := RX2) (T := TX2) (N := 15) hx hb hts uinX2 hown hK hP 9 rfl rfl 0 (by decide) (hts _ wd_1_82) (fun _ h9 => h9) rfl dX6_areSuch_116 ?_
                    obtain ⟨y_62, ey_62⟩ : ∃ z : Int64, z = a_pl.toInt64 := ⟨_, rfl⟩
                    have fy_62 : y_62.toInt = a_pl.toInt := by rw [ey_62]; exact Int32.toInt_toInt64 _
                    refine lv_i2l (v := y_62) hx hb dX6_areSuch_119 ey_62.symm ?_
                    refine W.lcmp hx hb dX6_areSuch_120 ?_
                    refine lv_if_ge (tgt := 128) hx hb dX6_areSuch_121 (by decide) (fun c_63 => ?_) (fun c_63 => ?_)
                    · have c_63 : y_62.toInt ≤ x_58.toInt := cv_cge c_63
                      refine lv_iconst (v := 0) hx hb dX6_areSuch_128 (by decide) ?_
                      refine lv_istore (lv' := [(8, .int 0), (7, .int 0), (6, .int 0), (5, .int u_4), (4, .ref n1), (3, .int x_1), (0, .ref h0), (1, .ref sl0), (2, .int 1)]) hx hb dX6_areSuch_129 hl (by decide) rfl (fun ls hl => ?_)
                      refine lv_iload hx hb dX6_areSuch_131 (lv_at hl 2 rfl) ?_
                      refine lv_if_eq (tgt := 146) hx hb dX6_areSuch_133 (by decide) (fun _ => ?_) (fun c_64 => absurd c_64 (by decide))
                      refine lv_iconst (v := 0) hx hb dX6_areSuch_146 (by decide) ?_
                      rw [hQ9]
                      exact W.zret (v := 0) (ty := .boolean) hx hb hr rfl (fun t ht hW => ⟨0, rfl, ⟨by decide, fun h9 => absurd h9 (by decide)⟩, ht⟩) (fun q h => by cases h) dX6_areSuch_147
                    · have c_63 : x_58.toInt < y_62.toInt := cv_cnge c_63
                      refine lv_iconst (v := 1) hx hb dX6_areSuch_124 (by decide) ?_
                      refine lv_goto (tgt := 129) hx hb dX6_areSuch_125 (by decide) ?_
                      refine lv_istore (lv' := [(8, .int 1), (7, .int 0), (6, .int 0), (5, .int u_4), (4, .ref n1), (3, .int x_1), (0, .ref h0), (1, .ref sl0), (2, .int 1)]) hx hb dX6_areSuch_129 hl (by decide) rfl (fun ls hl => ?_)
                      refine lv_iload hx hb dX6_areSuch_131 (lv_at hl 2 rfl) ?_
                      refine lv_if_eq (tgt := 146) hx hb dX6_areSuch_133 (by decide) (fun _ => ?_) (fun c_65 => absurd c_65 (by decide))
                      refine lv_iconst (v := 0) hx hb dX6_areSuch_146 (by decide) ?_
                      rw [hQ9]
                      exact W.zret (v := 0) (ty := .boolean) hx hb hr rfl (fun t ht hW => ⟨0, rfl, ⟨by decide, fun h9 => absurd h9 (by decide)⟩, ht⟩) (fun q h => by cases h) dX6_areSuch_147
                · have c_56 : x_44.toInt ≤ 999 := cv_cngt c_56
                  refine lv_iconst (v := 1) hx hb dX6_areSuch_89 (by decide) ?_
                  refine lv_goto (tgt := 94) hx hb dX6_areSuch_90 (by decide) ?_
                  refine lv_istore (lv' := [(7, .int 1), (6, .int 0), (5, .int u_4), (4, .ref n1), (3, .int x_1), (0, .ref h0), (1, .ref sl0), (2, .int 1)]) hx hb dX6_areSuch_94 hl (by decide) rfl (fun ls hl => ?_)
                  refine lv_aload hx hb dX6_areSuch_96 (lv_at hl 3 rfl) ?_
                  refine lv_iload hx hb dX6_areSuch_98 (lv_at hl 2 rfl) ?_
                  refine lv_iconst (v := 2) hx hb dX6_areSuch_100 (by decide) ?_
                  refine lv_iadd hx hb dX6_areSuch_101 ?_
                  refine lv_topi (fun x_66 ex_66 => ?_)
                  have fx_66 : x_66.toInt = u_4.toInt + 2 := by rw [ex_66]; exact cv_addI (by have : (2 : Int32).toInt = 2 := rfl; omega) (by have : (2 : Int32).toInt = 2 := rfl; omega)
                  refine va_lald hx hb hK hP 6 2 rfl rfl (vp_in_iff.mpr (by omega)) dX6_areSuch_102 ?_
                  refine lv_topl (fun x_67 ex_67 => ?_)
                  refine lv_lconst (v := 0) hx hb dX6_areSuch_103 (by decide) ?_
                  refine W.lcmp hx hb dX6_areSuch_104 ?_
                  refine lv_if_lt (tgt := 128) hx hb dX6_areSuch_105 (by decide) (fun c_68 => ?_) (fun c_68 => ?_)
                  · have c_68 : x_67.toInt < 0 := cv_clt c_68
                    refine lv_iconst (v := 0) hx hb dX6_areSuch_128 (by decide) ?_
                    refine lv_istore (lv' := [(8, .int 0), (7, .int 1), (6, .int 0), (5, .int u_4), (4, .ref n1), (3, .int x_1), (0, .ref h0), (1, .ref sl0), (2, .int 1)]) hx hb dX6_areSuch_129 hl (by decide) rfl (fun ls hl => ?_)
                    refine lv_iload hx hb dX6_areSuch_131 (lv_at hl 2 rfl) ?_
                    refine lv_if_eq (tgt := 146) hx hb dX6_areSuch_133 (by decide) (fun _ => ?_) (fun c_69 => absurd c_69 (by decide))
                    refine lv_iconst (v := 0) hx hb dX6_areSuch_146 (by decide) ?_
                    rw [hQ9]
                    exact W.zret (v := 0) (ty := .boolean) hx hb hr rfl (fun t ht hW => ⟨0, rfl, ⟨by decide, fun h9 => absurd h9 (by decide)⟩, ht⟩) (fun q h => by cases h) dX6_areSuch_147
                  · have c_68 : 0 ≤ x_67.toInt := cv_cnlt c_68
                    refine lv_aload hx hb dX6_areSuch_108 (lv_at hl 3 rfl) ?_
                    refine lv_iload hx hb dX6_areSuch_110 (lv_at hl 2 rfl) ?_
                    refine lv_iconst (v := 2) hx hb dX6_areSuch_112 (by decide) ?_
                    refine lv_iadd hx hb dX6_areSuch_113 ?_
                    refine lv_topi (fun x_70 ex_70 => ?_)
                    have fx_70 : x_70.toInt = u_4.toInt + 2 := by rw [ex_70]; exact cv_addI (by have : (2 : Int32).toInt = 2 := rfl; omega) (by have : (2 : Int32).toInt = 2 := rfl; omega)
                    refine va_lald hx hb hK hP 6 2 rfl rfl (vp_in_iff.mpr (by omega)) dX6_areSuch_114 ?_
                    refine cv_topl (b := x_67) (by rw [ex_67, ex_70, ex_66]) ?_
                    refine lv_aload_n hx hb dX6_areSuch_115 rfl (lv_at hl 5 rfl) ?_
                    refine va_get (D := (dC, dI)) (ci := 2) (v := .int a_pl) (C := RX2) (T := TX2) (N := 15) hx hb hts uinX2 hown hK hP 9 rfl rfl 0 (by decide) (hts _ wd_1_82) (fun _ h9 => h9) rfl dX6_areSuch_116 ?_
                    obtain ⟨y_71, ey_71⟩ : ∃ z : Int64, z = a_pl.toInt64 := ⟨_, rfl⟩
                    have fy_71 : y_71.toInt = a_pl.toInt := by rw [ey_71]; exact Int32.toInt_toInt64 _
                    refine lv_i2l (v := y_71) hx hb dX6_areSuch_119 ey_71.symm ?_
                    refine W.lcmp hx hb dX6_areSuch_120 ?_
                    refine lv_if_ge (tgt := 128) hx hb dX6_areSuch_121 (by decide) (fun c_72 => ?_) (fun c_72 => ?_)
                    · have c_72 : y_71.toInt ≤ x_67.toInt := cv_cge c_72
                      refine lv_iconst (v := 0) hx hb dX6_areSuch_128 (by decide) ?_
                      refine lv_istore (lv' := [(8, .int 0), (7, .int 1), (6, .int 0), (5, .int u_4), (4, .ref n1), (3, .int x_1), (0, .ref h0), (1, .ref sl0), (2, .int 1)]) hx hb dX6_areSuch_129 hl (by decide) rfl (fun ls hl => ?_)
                      refine lv_iload hx hb dX6_areSuch_131 (lv_at hl 2 rfl) ?_
                      refine lv_if_eq (tgt := 146) hx hb dX6_areSuch_133 (by decide) (fun _ => ?_) (fun c_73 => absurd c_73 (by decide))
                      refine lv_iconst (v := 0) hx hb dX6_areSuch_146 (by decide) ?_
                      rw [hQ9]
                      exact W.zret (v := 0) (ty := .boolean) hx hb hr rfl (fun t ht hW => ⟨0, rfl, ⟨by decide, fun h9 => absurd h9 (by decide)⟩, ht⟩) (fun q h => by cases h) dX6_areSuch_147
                    · have c_72 : x_67.toInt < y_71.toInt := cv_cnge c_72
                      refine lv_iconst (v := 1) hx hb dX6_areSuch_124 (by decide) ?_
                      refine lv_goto (tgt := 129) hx hb dX6_areSuch_125 (by decide) ?_
                      refine lv_istore (lv' := [(8, .int 1), (7, .int 1), (6, .int 0), (5, .int u_4), (4, .ref n1), (3, .int x_1), (0, .ref h0), (1, .ref sl0), (2, .int 1)]) hx hb dX6_areSuch_129 hl (by decide) rfl (fun ls hl => ?_)
                      refine lv_iload hx hb dX6_areSuch_131 (lv_at hl 2 rfl) ?_
                      refine lv_if_eq (tgt := 146) hx hb dX6_areSuch_133 (by decide) (fun _ => ?_) (fun c_74 => absurd c_74 (by decide))
                      refine lv_iconst (v := 0) hx hb dX6_areSuch_146 (by decide) ?_
                      rw [hQ9]
                      exact W.zret (v := 0) (ty := .boolean) hx hb hr rfl (fun t ht hW => ⟨0, rfl, ⟨by decide, fun h9 => absurd h9 (by decide)⟩, ht⟩) (fun q h => by cases h) dX6_areSuch_147
            · have c_42 : x_7.toInt < y_41.toInt := cv_cnge c_42
              refine lv_iconst (v := 1) hx hb dX6_areSuch_56 (by decide) ?_
              refine lv_goto (tgt := 61) hx hb dX6_areSuch_57 (by decide) ?_
              refine lv_istore (lv' := [(6, .int 1), (5, .int u_4), (4, .ref n1), (3, .int x_1), (0, .ref h0), (1, .ref sl0), (2, .int 1)]) hx hb dX6_areSuch_61 hl (by decide) rfl (fun ls hl => ?_)
              refine lv_aload hx hb dX6_areSuch_63 (lv_at hl 2 rfl) ?_
              refine lv_iload hx hb dX6_areSuch_65 (lv_at hl 1 rfl) ?_
              refine lv_iconst (v := 1) hx hb dX6_areSuch_67 (by decide) ?_
              refine lv_iadd hx hb dX6_areSuch_68 ?_
              refine lv_topi (fun x_75 ex_75 => ?_)
              have fx_75 : x_75.toInt = u_4.toInt + 1 := by rw [ex_75]; exact cv_addI (by have : (1 : Int32).toInt = 1 := rfl; omega) (by have : (1 : Int32).toInt = 1 := rfl; omega)
              refine va_lald hx hb hK hP 6 2 rfl rfl (vp_in_iff.mpr (by omega)) dX6_areSuch_69 ?_
              refine lv_topl (fun x_76 ex_76 => ?_)
              refine lv_lconst (v := 0) hx hb dX6_areSuch_70 (by decide) ?_
              refine W.lcmp hx hb dX6_areSuch_71 ?_
              refine lv_if_lt (tgt := 93) hx hb dX6_areSuch_72 (by decide) (fun c_77 => ?_) (fun c_77 => ?_)
              · have c_77 : x_76.toInt < 0 := cv_clt c_77
                refine lv_iconst (v := 0) hx hb dX6_areSuch_93 (by decide) ?_
                refine lv_istore (lv' := [(7, .int 0), (6, .int 1), (5, .int u_4), (4, .ref n1), (3, .int x_1), (0, .ref h0), (1, .ref sl0), (2, .int 1)]) hx hb dX6_areSuch_94 hl (by decide) rfl (fun ls hl => ?_)
                refine lv_aload hx hb dX6_areSuch_96 (lv_at hl 3 rfl) ?_
                refine lv_iload hx hb dX6_areSuch_98 (lv_at hl 2 rfl) ?_
                refine lv_iconst (v := 2) hx hb dX6_areSuch_100 (by decide) ?_
                refine lv_iadd hx hb dX6_areSuch_101 ?_
                refine lv_topi (fun x_78 ex_78 => ?_)
                have fx_78 : x_78.toInt = u_4.toInt + 2 := by rw [ex_78]; exact cv_addI (by have : (2 : Int32).toInt = 2 := rfl; omega) (by have : (2 : Int32).toInt = 2 := rfl; omega)
                refine va_lald hx hb hK hP 6 2 rfl rfl (vp_in_iff.mpr (by omega)) dX6_areSuch_102 ?_
                refine lv_topl (fun x_79 ex_79 => ?_)
                refine lv_lconst (v := 0) hx hb dX6_areSuch_103 (by decide) ?_
                refine W.lcmp hx hb dX6_areSuch_104 ?_
                refine lv_if_lt (tgt := 128) hx hb dX6_areSuch_105 (by decide) (fun c_80 => ?_) (fun c_80 => ?_)
                · have c_80 : x_79.toInt < 0 := cv_clt c_80
                  refine lv_iconst (v := 0) hx hb dX6_areSuch_128 (by decide) ?_
                  refine lv_istore (lv' := [(8, .int 0), (7, .int 0), (6, .int 1), (5, .int u_4), (4, .ref n1), (3, .int x_1), (0, .ref h0), (1, .ref sl0), (2, .int 1)]) hx hb dX6_areSuch_129 hl (by decide) rfl (fun ls hl => ?_)
                  refine lv_iload hx hb dX6_areSuch_131 (lv_at hl 2 rfl) ?_
                  refine lv_if_eq (tgt := 146) hx hb dX6_areSuch_133 (by decide) (fun c_81 => absurd c_81 (by decide)) (fun _ => ?_)
                  refine lv_iload hx hb dX6_areSuch_136 (lv_at hl 1 rfl) ?_
                  refine lv_if_eq (tgt := 146) hx hb dX6_areSuch_138 (by decide) (fun _ => ?_) (fun c_82 => absurd c_82 (by decide))
                  refine lv_iconst (v := 0) hx hb dX6_areSuch_146 (by decide) ?_
                  rw [hQ9]
                  exact W.zret (v := 0) (ty := .boolean) hx hb hr rfl (fun t ht hW => ⟨0, rfl, ⟨by decide, fun h9 => absurd h9 (by decide)⟩, ht⟩) (fun q h => by cases h) dX6_areSuch_147
                · have c_80 : 0 ≤ x_79.toInt := cv_cnlt c_80
                  refine lv_aload hx hb dX6_areSuch_108 (lv_at hl 3 rfl) ?_
                  refine lv_iload hx hb dX6_areSuch_110 (lv_at hl 2 rfl) ?_
                  refine lv_iconst (v := 2) hx hb dX6_areSuch_112 (by decide) ?_
                  refine lv_iadd hx hb dX6_areSuch_113 ?_
                  refine lv_topi (fun x_83 ex_83 => ?_)
                  have fx_83 : x_83.toInt = u_4.toInt + 2 := by rw [ex_83]; exact cv_addI (by have : (2 : Int32).toInt = 2 := rfl; omega) (by have : (2 : Int32).toInt = 2 := rfl; omega)
                  refine va_lald hx hb hK hP 6 2 rfl rfl (vp_in_iff.mpr (by omega)) dX6_areSuch_114 ?_
                  refine cv_topl (b := x_79) (by rw [ex_79, ex_83, ex_78]) ?_
                  refine lv_aload_n hx hb dX6_areSuch_115 rfl (lv_at hl 5 rfl) ?_
                  refine va_get (D := (dC, dI)) (ci := 2) (v := .int a_pl) (C := RX2) (T := TX2) (N := 15) hx hb hts uinX2 hown hK hP 9 rfl rfl 0 (by decide) (hts _ wd_1_82) (fun _ h9 => h9) rfl dX6_areSuch_116 ?_
                  obtain ⟨y_84, ey_84⟩ : ∃ z : Int64, z = a_pl.toInt64 := ⟨_, rfl⟩
                  have fy_84 : y_84.toInt = a_pl.toInt := by rw [ey_84]; exact Int32.toInt_toInt64 _
                  refine lv_i2l (v := y_84) hx hb dX6_areSuch_119 ey_84.symm ?_
                  refine W.lcmp hx hb dX6_areSuch_120 ?_
                  refine lv_if_ge (tgt := 128) hx hb dX6_areSuch_121 (by decide) (fun c_85 => ?_) (fun c_85 => ?_)
                  · have c_85 : y_84.toInt ≤ x_79.toInt := cv_cge c_85
                    refine lv_iconst (v := 0) hx hb dX6_areSuch_128 (by decide) ?_
                    refine lv_istore (lv' := [(8, .int 0), (7, .int 0), (6, .int 1), (5, .int u_4), (4, .ref n1), (3, .int x_1), (0, .ref h0), (1, .ref sl0), (2, .int 1)]) hx hb dX6_areSuch_129 hl (by decide) rfl (fun ls hl => ?_)
                    refine lv_iload hx hb dX6_areSuch_131 (lv_at hl 2 rfl) ?_
                    refine lv_if_eq (tgt := 146) hx hb dX6_areSuch_133 (by decide) (fun c_86 => absurd c_86 (by decide)) (fun _ => ?_)
                    refine lv_iload hx hb dX6_areSuch_136 (lv_at hl 1 rfl) ?_
                    refine lv_if_eq (tgt := 146) hx hb dX6_areSuch_138 (by decide) (fun _ => ?_) (fun c_87 => absurd c_87 (by decide))
                    refine lv_iconst (v := 0) hx hb dX6_areSuch_146 (by decide) ?_
                    rw [hQ9]
                    exact W.zret (v := 0) (ty := .boolean) hx hb hr rfl (fun t ht hW => ⟨0, rfl, ⟨by decide, fun h9 => absurd h9 (by decide)⟩, ht⟩) (fun q h => by cases h) dX6_areSuch_147
                  · have c_85 : x_79.toInt < y_84.toInt := cv_cnge c_85
                    refine lv_iconst (v := 1) hx hb dX6_areSuch_124 (by decide) ?_
                    refine lv_goto (tgt := 129) hx hb dX6_areSuch_125 (by decide) ?_
                    refine lv_istore (lv' := [(8, .int 1), (7, .int 0), (6, .int 1), (5, .int u_4), (4, .ref n1), (3, .int x_1), (0, .ref h0), (1, .ref sl0), (2, .int 1)]) hx hb dX6_areSuch_129 hl (by decide) rfl (fun ls hl => ?_)
                    refine lv_iload hx hb dX6_areSuch_131 (lv_at hl 2 rfl) ?_
                    refine lv_if_eq (tgt := 146) hx hb dX6_areSuch_133 (by decide) (fun c_88 => absurd c_88 (by decide)) (fun _ => ?_)
                    refine lv_iload hx hb dX6_areSuch_136 (lv_at hl 1 rfl) ?_
                    refine lv_if_eq (tgt := 146) hx hb dX6_areSuch_138 (by decide) (fun _ => ?_) (fun c_89 => absurd c_89 (by decide))
                    refine lv_iconst (v := 0) hx hb dX6_areSuch_146 (by decide) ?_
                    rw [hQ9]
                    exact W.zret (v := 0) (ty := .boolean) hx hb hr rfl (fun t ht hW => ⟨0, rfl, ⟨by decide, fun h9 => absurd h9 (by decide)⟩, ht⟩) (fun q h => by cases h) dX6_areSuch_147
              · have c_77 : 0 ≤ x_76.toInt := cv_cnlt c_77
                refine lv_aload hx hb dX6_areSuch_75 (lv_at hl 2 rfl) ?_
                refine lv_iload hx hb dX6_areSuch_77 (lv_at hl 1 rfl) ?_
                refine lv_iconst (v := 1) hx hb dX6_areSuch_79 (by decide) ?_
                refine lv_iadd hx hb dX6_areSuch_80 ?_
                refine lv_topi (fun x_90 ex_90 => ?_)
                have fx_90 : x_90.toInt = u_4.toInt + 1 := by rw [ex_90]; exact cv_addI (by have : (1 : Int32).toInt = 1 := rfl; omega) (by have : (1 : Int32).toInt = 1 := rfl; omega)
                refine va_lald hx hb hK hP 6 2 rfl rfl (vp_in_iff.mpr (by omega)) dX6_areSuch_81 ?_
                refine cv_topl (b := x_76) (by rw [ex_76, ex_90, ex_75]) ?_
                refine lv_ldc2 (v := 999) hx hb hown (hts _ wd_4_184) dX6_areSuch_82 ?_
                refine W.lcmp hx hb dX6_areSuch_85 ?_
                refine lv_if_gt (tgt := 93) hx hb dX6_areSuch_86 (by decide) (fun c_91 => ?_) (fun c_91 => ?_)
                · have c_91 : 999 < x_76.toInt := cv_cgt c_91
                  refine lv_iconst (v := 0) hx hb dX6_areSuch_93 (by decide) ?_
                  refine lv_istore (lv' := [(7, .int 0), (6, .int 1), (5, .int u_4), (4, .ref n1), (3, .int x_1), (0, .ref h0), (1, .ref sl0), (2, .int 1)]) hx hb dX6_areSuch_94 hl (by decide) rfl (fun ls hl => ?_)
                  refine lv_aload hx hb dX6_areSuch_96 (lv_at hl 3 rfl) ?_
                  refine lv_iload hx hb dX6_areSuch_98 (lv_at hl 2 rfl) ?_
                  refine lv_iconst (v := 2) hx hb dX6_areSuch_100 (by decide) ?_
                  refine lv_iadd hx hb dX6_areSuch_101 ?_
                  refine lv_topi (fun x_92 ex_92 => ?_)
                  have fx_92 : x_92.toInt = u_4.toInt + 2 := by rw [ex_92]; exact cv_addI (by have : (2 : Int32).toInt = 2 := rfl; omega) (by have : (2 : Int32).toInt = 2 := rfl; omega)
                  refine va_lald hx hb hK hP 6 2 rfl rfl (vp_in_iff.mpr (by omega)) dX6_areSuch_102 ?_
                  refine lv_topl (fun x_93 ex_93 => ?_)
                  refine lv_lconst (v := 0) hx hb dX6_areSuch_103 (by decide) ?_
                  refine W.lcmp hx hb dX6_areSuch_104 ?_
                  refine lv_if_lt (tgt := 128) hx hb dX6_areSuch_105 (by decide) (fun c_94 => ?_) (fun c_94 => ?_)
                  · have c_94 : x_93.toInt < 0 := cv_clt c_94
                    refine lv_iconst (v := 0) hx hb dX6_areSuch_128 (by decide) ?_
                    refine lv_istore (lv' := [(8, .int 0), (7, .int 0), (6, .int 1), (5, .int u_4), (4, .ref n1), (3, .int x_1), (0, .ref h0), (1, .ref sl0), (2, .int 1)]) hx hb dX6_areSuch_129 hl (by decide) rfl (fun ls hl => ?_)
                    refine lv_iload hx hb dX6_areSuch_131 (lv_at hl 2 rfl) ?_
                    refine lv_if_eq (tgt := 146) hx hb dX6_areSuch_133 (by decide) (fun c_95 => absurd c_95 (by decide)) (fun _ => ?_)
                    refine lv_iload hx hb dX6_areSuch_136 (lv_at hl 1 rfl) ?_
                    refine lv_if_eq (tgt := 146) hx hb dX6_areSuch_138 (by decide) (fun _ => ?_) (fun c_96 => absurd c_96 (by decide))
                    refine lv_iconst (v := 0) hx hb dX6_areSuch_146 (by decide) ?_
                    rw [hQ9]
                    exact W.zret (v := 0) (ty := .boolean) hx hb hr rfl (fun t ht hW => ⟨0, rfl, ⟨by decide, fun h9 => absurd h9 (by decide)⟩, ht⟩) (fun q h => by cases h) dX6_areSuch_147
                  · have c_94 : 0 ≤ x_93.toInt := cv_cnlt c_94
                    refine lv_aload hx hb dX6_areSuch_108 (lv_at hl 3 rfl) ?_
                    refine lv_iload hx hb dX6_areSuch_110 (lv_at hl 2 rfl) ?_
                    refine lv_iconst (v := 2) hx hb dX6_areSuch_112 (by decide) ?_
                    refine lv_iadd hx hb dX6_areSuch_113 ?_
                    refine lv_topi (fun x_97 ex_97 => ?_)
                    have fx_97 : x_97.toInt = u_4.toInt + 2 := by rw [ex_97]; exact cv_addI (by have : (2 : Int32).toInt = 2 := rfl; omega) (by have : (2 : Int32).toInt = 2 := rfl; omega)
                    refine va_lald hx hb hK hP 6 2 rfl rfl (vp_in_iff.mpr (by omega)) dX6_areSuch_114 ?_
                    refine cv_topl (b := x_93) (by rw [ex_93, ex_97, ex_92]) ?_
                    refine lv_aload_n hx hb dX6_areSuch_115 rfl (lv_at hl 5 rfl) ?_
                    refine va_get (D := (dC, dI)) (ci := 2) (v := .int a_pl) (C := RX2) (T := TX2) (N := 15) hx hb hts uinX2 hown hK hP 9 rfl rfl 0 (by decide) (hts _ wd_1_82) (fun _ h9 => h9) rfl dX6_areSuch_116 ?_
                    obtain ⟨y_98, ey_98⟩ : ∃ z : Int64, z = a_pl.toInt64 := ⟨_, rfl⟩
                    have fy_98 : y_98.toInt = a_pl.toInt := by rw [ey_98]; exact Int32.toInt_toInt64 _
                    refine lv_i2l (v := y_98) hx hb dX6_areSuch_119 ey_98.symm ?_
                    refine W.lcmp hx hb dX6_areSuch_120 ?_
                    refine lv_if_ge (tgt := 128) hx hb dX6_areSuch_121 (by decide) (fun c_99 => ?_) (fun c_99 => ?_)
                    · have c_99 : y_98.toInt ≤ x_93.toInt := cv_cge c_99
                      refine lv_iconst (v := 0) hx hb dX6_areSuch_128 (by decide) ?_
                      refine lv_istore (lv' := [(8, .int 0), (7, .int 0), (6, .int 1), (5, .int u_4), (4, .ref n1), (3, .int x_1), (0, .ref h0), (1, .ref sl0), (2, .int 1)]) hx hb dX6_areSuch_129 hl (by decide) rfl (fun ls hl => ?_)
                      refine lv_iload hx hb dX6_areSuch_131 (lv_at hl 2 rfl) ?_
                      refine lv_if_eq (tgt := 146) hx hb dX6_areSuch_133 (by decide) (fun c_100 => absurd c_100 (by decide)) (fun _ => ?_)
                      refine lv_iload hx hb dX6_areSuch_136 (lv_at hl 1 rfl) ?_
                      refine lv_if_eq (tgt := 146) hx hb dX6_areSuch_138 (by decide) (fun _ => ?_) (fun c_101 => absurd c_101 (by decide))
                      refine lv_iconst (v := 0) hx hb dX6_areSuch_146 (by decide) ?_
                      rw [hQ9]
                      exact W.zret (v := 0) (ty := .boolean) hx hb hr rfl (fun t ht hW => ⟨0, rfl, ⟨by decide, fun h9 => absurd h9 (by decide)⟩, ht⟩) (fun q h => by cases h) dX6_areSuch_147
                    · have c_99 : x_93.toInt < y_98.toInt := cv_cnge c_99
                      refine lv_iconst (v := 1) hx hb dX6_areSuch_124 (by decide) ?_
                      refine lv_goto (tgt := 129) hx hb dX6_areSuch_125 (by decide) ?_
                      refine lv_istore (lv' := [(8, .int 1), (7, .int 0), (6, .int 1), (5, .int u_4), (4, .ref n1), (3, .int x_1), (0, .ref h0), (1, .ref sl0), (2, .int 1)]) hx hb dX6_areSuch_129 hl (by decide) rfl (fun ls hl => ?_)
                      refine lv_iload hx hb dX6_areSuch_131 (lv_at hl 2 rfl) ?_
                      refine lv_if_eq (tgt := 146) hx hb dX6_areSuch_133 (by decide) (fun c_102 => absurd c_102 (by decide)) (fun _ => ?_)
                      refine lv_iload hx hb dX6_areSuch_136 (lv_at hl 1 rfl) ?_
                      refine lv_if_eq (tgt := 146) hx hb dX6_areSuch_138 (by decide) (fun _ => ?_) (fun c_103 => absurd c_103 (by decide))
                      refine lv_iconst (v := 0) hx hb dX6_areSuch_146 (by decide) ?_
                      rw [hQ9]
                      exact W.zret (v := 0) (ty := .boolean) hx hb hr rfl (fun t ht hW => ⟨0, rfl, ⟨by decide, fun h9 => absurd h9 (by decide)⟩, ht⟩) (fun q h => by cases h) dX6_areSuch_147
                · have c_91 : x_76.toInt ≤ 999 := cv_cngt c_91
                  refine lv_iconst (v := 1) hx hb dX6_areSuch_89 (by decide) ?_
                  refine lv_goto (tgt := 94) hx hb dX6_areSuch_90 (by decide) ?_
                  refine lv_istore (lv' := [(7, .int 1), (6, .int 1), (5, .int u_4), (4, .ref n1), (3, .int x_1), (0, .ref h0), (1, .ref sl0), (2, .int 1)]) hx hb dX6_areSuch_94 hl (by decide) rfl (fun ls hl => ?_)
                  refine lv_aload hx hb dX6_areSuch_96 (lv_at hl 3 rfl) ?_
                  refine lv_iload hx hb dX6_areSuch_98 (lv_at hl 2 rfl) ?_
                  refine lv_iconst (v := 2) hx hb dX6_areSuch_100 (by decide) ?_
                  refine lv_iadd hx hb dX6_areSuch_101 ?_
                  refine lv_topi (fun x_104 ex_104 => ?_)
                  have fx_104 : x_104.toInt = u_4.toInt + 2 := by rw [ex_104]; exact cv_addI (by have : (2 : Int32).toInt = 2 := rfl; omega) (by have : (2 : Int32).toInt = 2 := rfl; omega)
                  refine va_lald hx hb hK hP 6 2 rfl rfl (vp_in_iff.mpr (by omega)) dX6_areSuch_102 ?_
                  refine lv_topl (fun x_105 ex_105 => ?_)
                  refine lv_lconst (v := 0) hx hb dX6_areSuch_103 (by decide) ?_
                  refine W.lcmp hx hb dX6_areSuch_104 ?_
                  refine lv_if_lt (tgt := 128) hx hb dX6_areSuch_105 (by decide) (fun c_106 => ?_) (fun c_106 => ?_)
                  · have c_106 : x_105.toInt < 0 := cv_clt c_106
                    refine lv_iconst (v := 0) hx hb dX6_areSuch_128 (by decide) ?_
                    refine lv_istore (lv' := [(8, .int 0), (7, .int 1), (6, .int 1), (5, .int u_4), (4, .ref n1), (3, .int x_1), (0, .ref h0), (1, .ref sl0), (2, .int 1)]) hx hb dX6_areSuch_129 hl (by decide) rfl (fun ls hl => ?_)
                    refine lv_iload hx hb dX6_areSuch_131 (lv_at hl 2 rfl) ?_
                    refine lv_if_eq (tgt := 146) hx hb dX6_areSuch_133 (by decide) (fun c_107 => absurd c_107 (by decide)) (fun _ => ?_)
                    refine lv_iload hx hb dX6_areSuch_136 (lv_at hl 1 rfl) ?_
                    refine lv_if_eq (tgt := 146) hx hb dX6_areSuch_138 (by decide) (fun c_108 => absurd c_108 (by decide)) (fun _ => ?_)
                    refine lv_iload hx hb dX6_areSuch_141 (lv_at hl 0 rfl) ?_
                    refine lv_if_ne (tgt := 148) hx hb dX6_areSuch_143 (by decide) (fun c_109 => absurd c_109 (by decide)) (fun _ => ?_)
                    refine lv_iconst (v := 0) hx hb dX6_areSuch_146 (by decide) ?_
                    rw [hQ9]
                    exact W.zret (v := 0) (ty := .boolean) hx hb hr rfl (fun t ht hW => ⟨0, rfl, ⟨by decide, fun h9 => absurd h9 (by decide)⟩, ht⟩) (fun q h => by cases h) dX6_areSuch_147
                  · have c_106 : 0 ≤ x_105.toInt := cv_cnlt c_106
                    refine lv_aload hx hb dX6_areSuch_108 (lv_at hl 3 rfl) ?_
                    refine lv_iload hx hb dX6_areSuch_110 (lv_at hl 2 rfl) ?_
                    refine lv_iconst (v := 2) hx hb dX6_areSuch_112 (by decide) ?_
                    refine lv_iadd hx hb dX6_areSuch_113 ?_
                    refine lv_topi (fun x_110 ex_110 => ?_)
                    have fx_110 : x_110.toInt = u_4.toInt + 2 := by rw [ex_110]; exact cv_addI (by have : (2 : Int32).toInt = 2 := rfl; omega) (by have : (2 : Int32).toInt = 2 := rfl; omega)
                    refine va_lald hx hb hK hP 6 2 rfl rfl (vp_in_iff.mpr (by omega)) dX6_areSuch_114 ?_
                    refine cv_topl (b := x_105) (by rw [ex_105, ex_110, ex_104]) ?_
                    refine lv_aload_n hx hb dX6_areSuch_115 rfl (lv_at hl 5 rfl) ?_
                    refine va_get (D := (dC, dI)) (ci := 2) (v := .int a_pl) (C := RX2) (T := TX2) (N := 15) hx hb hts uinX2 hown hK hP 9 rfl rfl 0 (by decide) (hts _ wd_1_82) (fun _ h9 => h9) rfl dX6_areSuch_116 ?_
                    obtain ⟨y_111, ey_111⟩ : ∃ z : Int64, z = a_pl.toInt64 := ⟨_, rfl⟩
                    have fy_111 : y_111.toInt = a_pl.toInt := by rw [ey_111]; exact Int32.toInt_toInt64 _
                    refine lv_i2l (v := y_111) hx hb dX6_areSuch_119 ey_111.symm ?_
                    refine W.lcmp hx hb dX6_areSuch_120 ?_
                    refine lv_if_ge (tgt := 128) hx hb dX6_areSuch_121 (by decide) (fun c_112 => ?_) (fun c_112 => ?_)
                    · have c_112 : y_111.toInt ≤ x_105.toInt := cv_cge c_112
                      refine lv_iconst (v := 0) hx hb dX6_areSuch_128 (by decide) ?_
                      refine lv_istore (lv' := [(8, .int 0), (7, .int 1), (6, .int 1), (5, .int u_4), (4, .ref n1), (3, .int x_1), (0, .ref h0), (1, .ref sl0), (2, .int 1)]) hx hb dX6_areSuch_129 hl (by decide) rfl (fun ls hl => ?_)
                      refine lv_iload hx hb dX6_areSuch_131 (lv_at hl 2 rfl) ?_
                      refine lv_if_eq (tgt := 146) hx hb dX6_areSuch_133 (by decide) (fun c_113 => absurd c_113 (by decide)) (fun _ => ?_)
                      refine lv_iload hx hb dX6_areSuch_136 (lv_at hl 1 rfl) ?_
                      refine lv_if_eq (tgt := 146) hx hb dX6_areSuch_138 (by decide) (fun c_114 => absurd c_114 (by decide)) (fun _ => ?_)
                      refine lv_iload hx hb dX6_areSuch_141 (lv_at hl 0 rfl) ?_
                      refine lv_if_ne (tgt := 148) hx hb dX6_areSuch_143 (by decide) (fun c_115 => absurd c_115 (by decide)) (fun _ => ?_)
                      refine lv_iconst (v := 0) hx hb dX6_areSuch_146 (by decide) ?_
                      rw [hQ9]
                      exact W.zret (v := 0) (ty := .boolean) hx hb hr rfl (fun t ht hW => ⟨0, rfl, ⟨by decide, fun h9 => absurd h9 (by decide)⟩, ht⟩) (fun q h => by cases h) dX6_areSuch_147
                    · have c_112 : x_105.toInt < y_111.toInt := cv_cnge c_112
                      refine lv_iconst (v := 1) hx hb dX6_areSuch_124 (by decide) ?_
                      refine lv_goto (tgt := 129) hx hb dX6_areSuch_125 (by decide) ?_
                      refine lv_istore (lv' := [(8, .int 1), (7, .int 1), (6, .int 1), (5, .int u_4), (4, .ref n1), (3, .int x_1), (0, .ref h0), (1, .ref sl0), (2, .int 1)]) hx hb dX6_areSuch_129 hl (by decide) rfl (fun ls hl => ?_)
                      refine lv_iload hx hb dX6_areSuch_131 (lv_at hl 2 rfl) ?_
                      refine lv_if_eq (tgt := 146) hx hb dX6_areSuch_133 (by decide) (fun c_116 => absurd c_116 (by decide)) (fun _ => ?_)
                      refine lv_iload hx hb dX6_areSuch_136 (lv_at hl 1 rfl) ?_
                      refine lv_if_eq (tgt := 146) hx hb dX6_areSuch_138 (by decide) (fun c_117 => absurd c_117 (by decide)) (fun _ => ?_)
                      refine lv_iload hx hb dX6_areSuch_141 (lv_at hl 0 rfl) ?_
                      refine lv_if_ne (tgt := 148) hx hb dX6_areSuch_143 (by decide) (fun _ => ?_) (fun c_118 => absurd c_118 (by decide))
                      obtain ⟨x_119, ex_119⟩ : ∃ y : Int32, y = u_4 + 3 := ⟨_, rfl⟩
                      refine lv_iinc (v := x_119) (lv' := [(5, .int x_119), (8, .int 1), (7, .int 1), (6, .int 1), (4, .ref n1), (3, .int x_1), (0, .ref h0), (1, .ref sl0), (2, .int 1)]) hx hb dX6_areSuch_148 hl (k := 3) rfl (by rw [ex_119]; rfl) (by decide) rfl (fun ls hl => ?_)
                      have fx_119 : x_119.toInt = u_4.toInt + 3 := by rw [ex_119]; exact cv_addI (by have : (3 : Int32).toInt = 3 := rfl; omega) (by have : (3 : Int32).toInt = 3 := rfl; omega)
                      refine lv_goto (tgt := 26) hx hb dX6_areSuch_151 (by decide) ?_
                      exact ihkey_5 x_119 _ (by omega) (by omega) (sn_step hsn9 hm9 ex_7 ex_76 ex_105 (by omega) (by omega) (by omega) (by omega) (by omega) (by omega) (by omega)) (lv_sub hl [0, 4, 5, 6, 7, 8] rfl) (by omega)
    exact key_5 _ 0 _ (by decide) (by decide) sn_zero (lv_sub hl [0, 1, 2, 3, 4, 5] rfl) (Nat.lt_succ_self _)
  · have c_3 : x_2.toInt ≠ 0 := cv_ne c_3
    refine lv_iconst (v := 0) hx hb dX6_areSuch_13 (by decide) ?_
    rw [hQ9]
    exact W.zret (v := 0) (ty := .boolean) hx hb hr rfl (fun t ht hW => ⟨0, rfl, ⟨by decide, fun h9 => absurd h9 (by decide)⟩, ht⟩) (fun q h => by cases h) dX6_areSuch_14

/- X6_areSuch -/
set_option maxHeartbeats 4000000 in
set_option maxRecDepth 100000 in
theorem n_areSuch2 (l : Launch) (dC : Nat → ClassId) (dI : Nat → Nat → Nat) (cyI cyB cyJ cyZ cyH cyN : ClassId) (sl0 sNum sLen sWid sMade n0 n1 n2 n3 : Nat) (nF : Nat → Option Nat) (s_fm s_fl s_fw : Nat → Int32) (s_n0 s_n1 s_n2 s_n3 : Nat → Int64) (h0 a_first a_now a_lawPlace a_lawOther a_lawEach a_lawFrom a_foes a_suitTable a_acts : Nat) (a_pl a_li a_le a_lc a_ac a_ng : Int32) (a_f_first a_f_now a_f_lawPlace a_f_lawOther a_f_lawEach a_f_lawFrom a_f_foes a_f_suitTable a_f_acts : Nat → Int32) (g0 : rg 0 1 4 s_fm) (g1 : rg 0 60 4 s_fl) (g2 : rg 0 3 4 s_fw) (g3 : rg 0 6 7 a_f_first) (g4 : rg 0 6 7 a_f_now) (g5 : rg 0 6 6 a_f_lawPlace) (g6 : rg 0 6 6 a_f_lawOther) (g7 : ra 40 a_f_acts) (g8 : 0 ≤ a_pl.toInt ∧ a_pl.toInt ≤ 7) (g9 : 0 ≤ a_lc.toInt ∧ a_lc.toInt ≤ 6) (g10 : 0 ≤ a_ac.toInt ∧ a_ac.toInt ≤ 40) (g11 : nF 0 = some n0) (g12 : nF 1 = some n1) (g13 : nF 2 = some n2) (g14 : nF 3 = some n3) : Met l yX6_areSuch (wk yX6_areSuch cX6_areSuch 9 (some .boolean)) ({ frames := 1, cells := 0, slots := 0, locals := 60 }) (va_Pc [.ref h0, .ref sl0, .int 2] (fun U => va_P (dC, dI) vwCl [(sl0, .inr (7, [.ref sNum, .ref sLen, .ref sWid, .ref sMade])), (sMade, .inl (cyZ, 4, .inl s_fm)), (sLen, .inl (cyI, 4, .inl s_fl)), (sWid, .inl (cyI, 4, .inl s_fw)), (sNum, .inl (cyN, 4, .inr (.inr (.inr (.inr nF))))), (n0, .inl (cyJ, 60, .inr (.inl s_n0))), (n1, .inl (cyJ, 60, .inr (.inl s_n1))), (n2, .inl (cyJ, 60, .inr (.inl s_n2))), (n3, .inl (cyJ, 60, .inr (.inl s_n3))), (h0, .inr (2, [.int a_pl, .int a_li, .int a_le, .int a_lc, .int a_ac, .int a_ng, .ref a_first, .ref a_now, .ref a_lawPlace, .ref a_lawOther, .ref a_lawEach, .ref a_lawFrom, .ref a_foes, .ref a_suitTable, .ref a_acts])), (a_first, .inl (cyI, 7, .inl a_f_first)), (a_now, .inl (cyI, 7, .inl a_f_now)), (a_lawPlace, .inl (cyI, 6, .inl a_f_lawPlace)), (a_lawOther, .inl (cyI, 6, .inl a_f_lawOther)), (a_lawEach, .inl (cyI, 6, .inl a_f_lawEach)), (a_lawFrom, .inl (cyI, 6, .inl a_f_lawFrom)), (a_foes, .inl (cyI, 7, .inl a_f_foes)), (a_suitTable, .inl (cyI, 49, .inl a_f_suitTable)), (a_acts, .inl (cyI, 40, .inl a_f_acts))] U.heap ∧ va_K (dC, dI) vwCl [(cyI, .int), (cyB, .byte), (cyJ, .long), (cyZ, .boolean), (cyH, .object RX2), (cyN, .array .long)] U)) (vp_Si (fun r : Int32 => (0 ≤ r.toInt ∧ r.toInt ≤ 1) ∧ (r.toInt = 1 → sn a_pl.toInt (s_fl 2).toInt s_n2))) 0 0 (fun _ => False) := by
  refine Met.ofW (cc := cX6_areSuch) (maxL := 9) (ret := (some .boolean)) (by decide) rfl ?_
  intro p e s m args below meth c s₁ B hml hv
  obtain ⟨rfl, hP, hK⟩ := hv
  have hx := B.exec
  have hb := B.bytes
  have hr := B.returns
  have hts : ∀ w ∈ uU, w.before ([.ref h0, .ref sl0, .int 2] : List Value).toArray s = true := fun w h => atoms_spec (ws := wk yX6_areSuch cX6_areSuch 9 (some .boolean)) B.pre w (List.mem_cons_of_mem _ h)
  have hown : s.vm.findClass RX6 = some m.cls := findClass_of_methodNamed B.named
  have hlocks := B.notSynchronized
  have hl := lv_entry ([.ref h0, .ref sl0, .int 2]) (n := 9) (Nat.le_of_ble_eq_true rfl)
  rw [lg_entry_eq]
  generalize (lg_sl ([.ref h0, .ref sl0, .int 2]) ++ List.replicate (9 - (lg_sl ([.ref h0, .ref sl0, .int 2])).length) Slot.unset).toArray = ls at hl ⊢
  have hl : lv_has ls 9 [(0, .ref h0), (1, .ref sl0), (2, .int 2)] := hl
  obtain ⟨Q9, hQ9⟩ : ∃ Q9 : State → Prop, Q9 = MQ below (vp_Si (fun r : Int32 => (0 ≤ r.toInt ∧ r.toInt ≤ 1) ∧ (r.toInt = 1 → sn a_pl.toInt (s_fl 2).toInt s_n2))) ([.ref h0, .ref sl0, .int 2] : List Value).toArray s 0 0 (fun _ => False) := ⟨_, rfl⟩
  rw [← hQ9]
  refine lv_aload_n hx hb dX6_areSuch_0 rfl (lv_at hl 1 rfl) ?_
  refine va_get (D := (dC, dI)) (ci := 7) (v := .ref sLen) (C := RX8) (T := TX8) (N := 4) hx hb hts uinX8 hown hK hP 0 rfl rfl 1 (by decide) (hts _ wd_1_169) (fun _ h9 => h9) rfl dX6_areSuch_1 ?_
  refine lv_iload_n hx hb dX6_areSuch_4 rfl (lv_at hl 2 rfl) ?_
  refine va_iald hx hb hK hP 2 0 rfl rfl (vp_in_iff.mpr (by decide)) dX6_areSuch_5 ?_
  refine lv_topi (fun x_1 ex_1 => ?_)
  have qx_1 : x_1.toInt = (s_fl 2).toInt := by rw [ex_1]; rfl
  have fx_1 : 0 ≤ x_1.toInt ∧ x_1.toInt ≤ 60 := by rw [ex_1]; exact g1 _ (cv_ix (by decide) (by decide))
  refine lv_istore_n (lv' := [(3, .int x_1), (0, .ref h0), (1, .ref sl0), (2, .int 2)]) hx hb dX6_areSuch_6 rfl hl (by decide) rfl (fun ls hl => ?_)
  refine lv_iload_n hx hb dX6_areSuch_7 rfl (lv_at hl 0 rfl) ?_
  refine lv_iconst (v := 3) hx hb dX6_areSuch_8 (by decide) ?_
  refine lv_irem hx hb dX6_areSuch_9 (by decide) ?_
  refine lv_topi (fun x_2 ex_2 => ?_)
  have fx_2 : x_2.toInt = x_1.toInt % 3 := by rw [ex_2]; exact cv_remI (by omega) (by decide)
  refine lv_if_eq (tgt := 15) hx hb dX6_areSuch_10 (by decide) (fun c_3 => ?_) (fun c_3 => ?_)
  · have c_3 : x_2.toInt = 0 := cv_eq c_3
    refine lv_aload_n hx hb dX6_areSuch_15 rfl (lv_at hl 2 rfl) ?_
    refine va_get (D := (dC, dI)) (ci := 7) (v := .ref sNum) (C := RX8) (T := TX8) (N := 4) hx hb hts uinX8 hown hK hP 0 rfl rfl 0 (by decide) (hts _ wd_1_166) (fun _ h9 => h9) rfl dX6_areSuch_16 ?_
    refine lv_iload_n hx hb dX6_areSuch_19 rfl (lv_at hl 3 rfl) ?_
    refine cv_aldA hx hb hK hP 4 5 rfl rfl (vp_in_iff.mpr (by decide)) dX6_areSuch_20 ?_
    refine cv_topr (b := .ref n2) (by rw [show (2 : Int32).toNatClampNeg = 2 from rfl, g13]; rfl) ?_
    refine lv_astore (lv' := [(4, .ref n2), (3, .int x_1), (0, .ref h0), (1, .ref sl0), (2, .int 2)]) hx hb dX6_areSuch_21 hl (by decide) rfl (fun ls hl => ?_)
    refine lv_iconst (v := 0) hx hb dX6_areSuch_23 (by decide) ?_
    refine lv_istore (lv' := [(5, .int 0), (4, .ref n2), (3, .int x_1), (0, .ref h0), (1, .ref sl0), (2, .int 2)]) hx hb dX6_areSuch_24 hl (by decide) rfl (fun ls hl => ?_)
    have key_5 : ∀ (nkey_5 : Nat) (u_4 : Int32) (ls : Array Slot), (0 ≤ u_4.toInt ∧ u_4.toInt ≤ 63) → (u_4.toInt % 3 = 0) → (sn a_pl.toInt u_4.toInt s_n2) → lv_has ls 9 [(5, .int u_4), (4, .ref n2), (3, .int x_1), (0, .ref h0), (1, .ref sl0), (2, .int 2)] → (x_1.toInt - u_4.toInt).toNat < nkey_5 → W p l e ({ frames := 1, cells := 0, slots := 0, locals := 60 }) s m ([.ref h0, .ref sl0, .int 2] : List Value).toArray below meth c s.heap [] 0 0 Q9 (F0 m 26 ls []) := by
      intro nkey_5
      induction nkey_5 with
      | zero => intro u_4 ls hu_4 hm9 hsn9 hl hnkey_5; exact absurd hnkey_5 (Nat.not_lt_zero _)
      | succ nkey_5 ihkey_5 =>
        intro u_4 ls hu_4 hm9 hsn9 hl hnkey_5
        refine lv_iload hx hb dX6_areSuch_26 (lv_at hl 0 rfl) ?_
        refine lv_iload_n hx hb dX6_areSuch_28 rfl (lv_at hl 2 rfl) ?_
        refine lv_icmp_ge (tgt := 154) hx hb dX6_areSuch_29 (by decide) (fun c_6 => ?_) (fun c_6 => ?_)
        · have c_6 : x_1.toInt ≤ u_4.toInt := cv_le c_6
          refine lv_iconst (v := 1) hx hb dX6_areSuch_154 (by decide) ?_
          rw [hQ9]
          exact W.zret (v := 1) (ty := .boolean) hx hb hr rfl (fun t ht hW => ⟨1, rfl, ⟨by decide, fun _ => sn_mono hsn9 (by omega)⟩, ht⟩) (fun q h => by cases h) dX6_areSuch_155
        · have c_6 : u_4.toInt < x_1.toInt := cv_nle c_6
          refine lv_aload hx hb dX6_areSuch_32 (lv_at hl 1 rfl) ?_
          refine lv_iload hx hb dX6_areSuch_34 (lv_at hl 0 rfl) ?_
          refine va_lald hx hb hK hP 7 2 rfl rfl (vp_in_iff.mpr (by omega)) dX6_areSuch_36 ?_
          refine lv_topl (fun x_7 ex_7 => ?_)
          refine lv_lconst (v := 0) hx hb dX6_areSuch_37 (by decide) ?_
          refine W.lcmp hx hb dX6_areSuch_38 ?_
          refine lv_if_lt (tgt := 60) hx hb dX6_areSuch_39 (by decide) (fun c_8 => ?_) (fun c_8 => ?_)
          · have c_8 : x_7.toInt < 0 := cv_clt c_8
            refine lv_iconst (v := 0) hx hb dX6_areSuch_60 (by decide) ?_
            refine lv_istore (lv' := [(6, .int 0), (5, .int u_4), (4, .ref n2), (3, .int x_1), (0, .ref h0), (1, .ref sl0), (2, .int 2)]) hx hb dX6_areSuch_61 hl (by decide) rfl (fun ls hl => ?_)
            refine lv_aload hx hb dX6_areSuch_63 (lv_at hl 2 rfl) ?_
            refine lv_iload hx hb dX6_areSuch_65 (lv_at hl 1 rfl) ?_
            refine lv_iconst (v := 1) hx hb dX6_areSuch_67 (by decide) ?_
            refine lv_iadd hx hb dX6_areSuch_68 ?_
            refine lv_topi (fun x_9 ex_9 => ?_)
            have fx_9 : x_9.toInt = u_4.toInt + 1 := by rw [ex_9]; exact cv_addI (by have : (1 : Int32).toInt = 1 := rfl; omega) (by have : (1 : Int32).toInt = 1 := rfl; omega)
            refine va_lald hx hb hK hP 7 2 rfl rfl (vp_in_iff.mpr (by omega)) dX6_areSuch_69 ?_
            refine lv_topl (fun x_10 ex_10 => ?_)
            refine lv_lconst (v := 0) hx hb dX6_areSuch_70 (by decide) ?_
            refine W.lcmp hx hb dX6_areSuch_71 ?_
            refine lv_if_lt (tgt := 93) hx hb dX6_areSuch_72 (by decide) (fun c_11 => ?_) (fun c_11 => ?_)
            · have c_11 : x_10.toInt < 0 := cv_clt c_11
              refine lv_iconst (v := 0) hx hb dX6_areSuch_93 (by decide) ?_
              refine lv_istore (lv' := [(7, .int 0), (6, .int 0), (5, .int u_4), (4, .ref n2), (3, .int x_1), (0, .ref h0), (1, .ref sl0), (2, .int 2)]) hx hb dX6_areSuch_94 hl (by decide) rfl (fun ls hl => ?_)
              refine lv_aload hx hb dX6_areSuch_96 (lv_at hl 3 rfl) ?_
              refine lv_iload hx hb dX6_areSuch_98 (lv_at hl 2 rfl) ?_
              refine lv_iconst (v := 2) hx hb dX6_areSuch_100 (by decide) ?_
              refine lv_iadd hx hb dX6_areSuch_101 ?_
              refine lv_topi (fun x_12 ex_12 => ?_)
              have fx_12 : x_12.toInt = u_4.toInt + 2 := by rw [ex_12]; exact cv_addI (by have : (2 : Int32).toInt = 2 := rfl; omega) (by have : (2 : Int32).toInt = 2 := rfl; omega)
              refine va_lald hx hb hK hP 7 2 rfl rfl (vp_in_iff.mpr (by omega)) dX6_areSuch_102 ?_
              refine lv_topl (fun x_13 ex_13 => ?_)
              refine lv_lconst (v := 0) hx hb dX6_areSuch_103 (by decide) ?_
              refine W.lcmp hx hb dX6_areSuch_104 ?_
              refine lv_if_lt (tgt := 128) hx hb dX6_areSuch_105 (by decide) (fun c_14 => ?_) (fun c_14 => ?_)
              · have c_14 : x_13.toInt < 0 := cv_clt c_14
                refine lv_iconst (v := 0) hx hb dX6_areSuch_128 (by decide) ?_
                refine lv_istore (lv' := [(8, .int 0), (7, .int 0), (6, .int 0), (5, .int u_4), (4, .ref n2), (3, .int x_1), (0, .ref h0), (1, .ref sl0), (2, .int 2)]) hx hb dX6_areSuch_129 hl (by decide) rfl (fun ls hl => ?_)
                refine lv_iload hx hb dX6_areSuch_131 (lv_at hl 2 rfl) ?_
                refine lv_if_eq (tgt := 146) hx hb dX6_areSuch_133 (by decide) (fun _ => ?_) (fun c_15 => absurd c_15 (by decide))
                refine lv_iconst (v := 0) hx hb dX6_areSuch_146 (by decide) ?_
                rw [hQ9]
                exact W.zret (v := 0) (ty := .boolean) hx hb hr rfl (fun t ht hW => ⟨0, rfl, ⟨by decide, fun h9 => absurd h9 (by decide)⟩, ht⟩) (fun q h => by cases h) dX6_areSuch_147
              · have c_14 : 0 ≤ x_13.toInt := cv_cnlt c_14
                refine lv_aload hx hb dX6_areSuch_108 (lv_at hl 3 rfl) ?_
                refine lv_iload hx hb dX6_areSuch_110 (lv_at hl 2 rfl) ?_
                refine lv_iconst (v := 2) hx hb dX6_areSuch_112 (by decide) ?_
                refine lv_iadd hx hb dX6_areSuch_113 ?_
                refine lv_topi (fun x_16 ex_16 => ?_)
                have fx_16 : x_16.toInt = u_4.toInt + 2 := by rw [ex_16]; exact cv_addI (by have : (2 : Int32).toInt = 2 := rfl; omega) (by have : (2 : Int32).toInt = 2 := rfl; omega)
                refine va_lald hx hb hK hP 7 2 rfl rfl (vp_in_iff.mpr (by omega)) dX6_areSuch_114 ?_
                refine cv_topl (b := x_13) (by rw [ex_13, ex_16, ex_12]) ?_
                refine lv_aload_n hx hb dX6_areSuch_115 rfl (lv_at hl 5 rfl) ?_
                refine va_get (D := (dC, dI)) (ci := 2) (v := .int a_pl) (C := RX2) (T := TX2) (N := 15) hx hb hts uinX2 hown hK hP 9 rfl rfl 0 (by decide) (hts _ wd_1_82) (fun _ h9 => h9) rfl dX6_areSuch_116 ?_
                obtain ⟨y_17, ey_17⟩ : ∃ z : Int64, z = a_pl.toInt64 := ⟨_, rfl⟩
                have fy_17 : y_17.toInt = a_pl.toInt := by rw [ey_17]; exact Int32.toInt_toInt64 _
                refine lv_i2l (v := y_17) hx hb dX6_areSuch_119 ey_17.symm ?_
                refine W.lcmp hx hb dX6_areSuch_120 ?_
                refine lv_if_ge (tgt := 128) hx hb dX6_areSuch_121 (by decide) (fun c_18 => ?_) (fun c_18 => ?_)
                · have c_18 : y_17.toInt ≤ x_13.toInt := cv_cge c_18
                  refine lv_iconst (v := 0) hx hb dX6_areSuch_128 (by decide) ?_
                  refine lv_istore (lv' := [(8, .int 0), (7, .int 0), (6, .int 0), (5, .int u_4), (4, .ref n2), (3, .int x_1), (0, .ref h0), (1, .ref sl0), (2, .int 2)]) hx hb dX6_areSuch_129 hl (by decide) rfl (fun ls hl => ?_)
                  refine lv_iload hx hb dX6_areSuch_131 (lv_at hl 2 rfl) ?_
                  refine lv_if_eq (tgt := 146) hx hb dX6_areSuch_133 (by decide) (fun _ => ?_) (fun c_19 => absurd c_19 (by decide))
                  refine lv_iconst (v := 0) hx hb dX6_areSuch_146 (by decide) ?_
                  rw [hQ9]
                  exact W.zret (v := 0) (ty := .boolean) hx hb hr rfl (fun t ht hW => ⟨0, rfl, ⟨by decide, fun h9 => absurd h9 (by decide)⟩, ht⟩) (fun q h => by cases h) dX6_areSuch_147
                · have c_18 : x_13.toInt < y_17.toInt := cv_cnge c_18
                  refine lv_iconst (v := 1) hx hb dX6_areSuch_124 (by decide) ?_
                  refine lv_goto (tgt := 129) hx hb dX6_areSuch_125 (by decide) ?_
                  refine lv_istore (lv' := [(8, .int 1), (7, .int 0), (6, .int 0), (5, .int u_4), (4, .ref n2), (3, .int x_1), (0, .ref h0), (1, .ref sl0), (2, .int 2)]) hx hb dX6_areSuch_129 hl (by decide) rfl (fun ls hl => ?_)
                  refine lv_iload hx hb dX6_areSuch_131 (lv_at hl 2 rfl) ?_
                  refine lv_if_eq (tgt := 146) hx hb dX6_areSuch_133 (by decide) (fun _ => ?_) (fun c_20 => absurd c_20 (by decide))
                  refine lv_iconst (v := 0) hx hb dX6_areSuch_146 (by decide) ?_
                  rw [hQ9]
                  exact W.zret (v := 0) (ty := .boolean) hx hb hr rfl (fun t ht hW => ⟨0, rfl, ⟨by decide, fun h9 => absurd h9 (by decide)⟩, ht⟩) (fun q h => by cases h) dX6_areSuch_147
            · have c_11 : 0 ≤ x_10.toInt := cv_cnlt c_11
              refine lv_aload hx hb dX6_areSuch_75 (lv_at hl 2 rfl) ?_
              refine lv_iload hx hb dX6_areSuch_77 (lv_at hl 1 rfl) ?_
              refine lv_iconst (v := 1) hx hb dX6_areSuch_79 (by decide) ?_
              refine lv_iadd hx hb dX6_areSuch_80 ?_
              refine lv_topi (fun x_21 ex_21 => ?_)
              have fx_21 : x_21.toInt = u_4.toInt + 1 := by rw [ex_21]; exact cv_addI (by have : (1 : Int32).toInt = 1 := rfl; omega) (by have : (1 : Int32).toInt = 1 := rfl; omega)
              refine va_lald hx hb hK hP 7 2 rfl rfl (vp_in_iff.mpr (by omega)) dX6_areSuch_81 ?_
              refine cv_topl (b := x_10) (by rw [ex_10, ex_21, ex_9]) ?_
              refine lv_ldc2 (v := 999) hx hb hown (hts _ wd_4_184) dX6_areSuch_82 ?_
              refine W.lcmp hx hb dX6_areSuch_85 ?_
              refine lv_if_gt (tgt := 93) hx hb dX6_areSuch_86 (by decide) (fun c_22 => ?_) (fun c_22 => ?_)
              · have c_22 : 999 < x_10.toInt := cv_cgt c_22
                refine lv_iconst (v := 0) hx hb dX6_areSuch_93 (by decide) ?_
                refine lv_istore (lv' := [(7, .int 0), (6, .int 0), (5, .int u_4), (4, .ref n2), (3, .int x_1), (0, .ref h0), (1, .ref sl0), (2, .int 2)]) hx hb dX6_areSuch_94 hl (by decide) rfl (fun ls hl => ?_)
                refine lv_aload hx hb dX6_areSuch_96 (lv_at hl 3 rfl) ?_
                refine lv_iload hx hb dX6_areSuch_98 (lv_at hl 2 rfl) ?_
                refine lv_iconst (v := 2) hx hb dX6_areSuch_100 (by decide) ?_
                refine lv_iadd hx hb dX6_areSuch_101 ?_
                refine lv_topi (fun x_23 ex_23 => ?_)
                have fx_23 : x_23.toInt = u_4.toInt + 2 := by rw [ex_23]; exact cv_addI (by have : (2 : Int32).toInt = 2 := rfl; omega) (by have : (2 : Int32).toInt = 2 := rfl; omega)
                refine va_lald hx hb hK hP 7 2 rfl rfl (vp_in_iff.mpr (by omega)) dX6_areSuch_102 ?_
                refine lv_topl (fun x_24 ex_24 => ?_)
                refine lv_lconst (v := 0) hx hb dX6_areSuch_103 (by decide) ?_
                refine W.lcmp hx hb dX6_areSuch_104 ?_
                refine lv_if_lt (tgt := 128) hx hb dX6_areSuch_105 (by decide) (fun c_25 => ?_) (fun c_25 => ?_)
                · have c_25 : x_24.toInt < 0 := cv_clt c_25
                  refine lv_iconst (v := 0) hx hb dX6_areSuch_128 (by decide) ?_
                  refine lv_istore (lv' := [(8, .int 0), (7, .int 0), (6, .int 0), (5, .int u_4), (4, .ref n2), (3, .int x_1), (0, .ref h0), (1, .ref sl0), (2, .int 2)]) hx hb dX6_areSuch_129 hl (by decide) rfl (fun ls hl => ?_)
                  refine lv_iload hx hb dX6_areSuch_131 (lv_at hl 2 rfl) ?_
                  refine lv_if_eq (tgt := 146) hx hb dX6_areSuch_133 (by decide) (fun _ => ?_) (fun c_26 => absurd c_26 (by decide))
                  refine lv_iconst (v := 0) hx hb dX6_areSuch_146 (by decide) ?_
                  rw [hQ9]
                  exact W.zret (v := 0) (ty := .boolean) hx hb hr rfl (fun t ht hW => ⟨0, rfl, ⟨by decide, fun h9 => absurd h9 (by decide)⟩, ht⟩) (fun q h => by cases h) dX6_areSuch_147
                · have c_25 : 0 ≤ x_24.toInt := cv_cnlt c_25
                  refine lv_aload hx hb dX6_areSuch_108 (lv_at hl 3 rfl) ?_
                  refine lv_iload hx hb dX6_areSuch_110 (lv_at hl 2 rfl) ?_
                  refine lv_iconst (v := 2) hx hb dX6_areSuch_112 (by decide) ?_
                  refine lv_iadd hx hb dX6_areSuch_113 ?_
                  refine lv_topi (fun x_27 ex_27 => ?_)
                  have fx_27 : x_27.toInt = u_4.toInt + 2 := by rw [ex_27]; exact cv_addI (by have : (2 : Int32).toInt = 2 := rfl; omega) (by have : (2 : Int32).toInt = 2 := rfl; omega)
                  refine va_lald hx hb hK hP 7 2 rfl rfl (vp_in_iff.mpr (by omega)) dX6_areSuch_114 ?_
                  refine cv_topl (b := x_24) (by rw [ex_24, ex_27, ex_23]) ?_
                  refine lv_aload_n hx hb dX6_areSuch_115 rfl (lv_at hl 5 rfl) ?_
                  refine va_get (D := (dC, dI)) (ci := 2) (v := .int a_pl) (C := RX2) (T := TX2) (N := 15) hx hb hts uinX2 hown hK hP 9 rfl rfl 0 (by decide) (hts _ wd_1_82) (fun _ h9 => h9) rfl dX6_areSuch_116 ?_
                  obtain ⟨y_28, ey_28⟩ : ∃ z : Int64, z = a_pl.toInt64 := ⟨_, rfl⟩
                  have fy_28 : y_28.toInt = a_pl.toInt := by rw [ey_28]; exact Int32.toInt_toInt64 _
                  refine lv_i2l (v := y_28) hx hb dX6_areSuch_119 ey_28.symm ?_
                  refine W.lcmp hx hb dX6_areSuch_120 ?_
                  refine lv_if_ge (tgt := 128) hx hb dX6_areSuch_121 (by decide) (fun c_29 => ?_) (fun c_29 => ?_)
                  · have c_29 : y_28.toInt ≤ x_24.toInt := cv_cge c_29
                    refine lv_iconst (v := 0) hx hb dX6_areSuch_128 (by decide) ?_
                    refine lv_istore (lv' := [(8, .int 0), (7, .int 0), (6, .int 0), (5, .int u_4), (4, .ref n2), (3, .int x_1), (0, .ref h0), (1, .ref sl0), (2, .int 2)]) hx hb dX6_areSuch_129 hl (by decide) rfl (fun ls hl => ?_)
                    refine lv_iload hx hb dX6_areSuch_131 (lv_at hl 2 rfl) ?_
                    refine lv_if_eq (tgt := 146) hx hb dX6_areSuch_133 (by decide) (fun _ => ?_) (fun c_30 => absurd c_30 (by decide))
                    refine lv_iconst (v := 0) hx hb dX6_areSuch_146 (by decide) ?_
                    rw [hQ9]
                    exact W.zret (v := 0) (ty := .boolean) hx hb hr rfl (fun t ht hW => ⟨0, rfl, ⟨by decide, fun h9 => absurd h9 (by decide)⟩, ht⟩) (fun q h => by cases h) dX6_areSuch_147
                  · have c_29 : x_24.toInt < y_28.toInt := cv_cnge c_29
                    refine lv_iconst (v := 1) hx hb dX6_areSuch_124 (by decide) ?_
                    refine lv_goto (tgt := 129) hx hb dX6_areSuch_125 (by decide) ?_
                    refine lv_istore (lv' := [(8, .int 1), (7, .int 0), (6, .int 0), (5, .int u_4), (4, .ref n2), (3, .int x_1), (0, .ref h0), (1, .ref sl0), (2, .int 2)]) hx hb dX6_areSuch_129 hl (by decide) rfl (fun ls hl => ?_)
                    refine lv_iload hx hb dX6_areSuch_131 (lv_at hl 2 rfl) ?_
                    refine lv_if_eq (tgt := 146) hx hb dX6_areSuch_133 (by decide) (fun _ => ?_) (fun c_31 => absurd c_31 (by decide))
                    refine lv_iconst (v := 0) hx hb dX6_areSuch_146 (by decide) ?_
                    rw [hQ9]
                    exact W.zret (v := 0) (ty := .boolean) hx hb hr rfl (fun t ht hW => ⟨0, rfl, ⟨by decide, fun h9 => absurd h9 (by decide)⟩, ht⟩) (fun q h => by cases h) dX6_areSuch_147
              · have c_22 : x_10.toInt ≤ 999 := cv_cngt c_22
                refine lv_iconst (v := 1) hx hb dX6_areSuch_89 (by decide) ?_
                refine lv_goto (tgt := 94) hx hb dX6_areSuch_90 (by decide) ?_
                refine lv_istore (lv' := [(7, .int 1), (6, .int 0), (5, .int u_4), (4, .ref n2), (3, .int x_1), (0, .ref h0), (1, .ref sl0), (2, .int 2)]) hx hb dX6_areSuch_94 hl (by decide) rfl (fun ls hl => ?_)
                refine lv_aload hx hb dX6_areSuch_96 (lv_at hl 3 rfl) ?_
                refine lv_iload hx hb dX6_areSuch_98 (lv_at hl 2 rfl) ?_
                refine lv_iconst (v := 2) hx hb dX6_areSuch_100 (by decide) ?_
                refine lv_iadd hx hb dX6_areSuch_101 ?_
                refine lv_topi (fun x_32 ex_32 => ?_)
                have fx_32 : x_32.toInt = u_4.toInt + 2 := by rw [ex_32]; exact cv_addI (by have : (2 : Int32).toInt = 2 := rfl; omega) (by have : (2 : Int32).toInt = 2 := rfl; omega)
                refine va_lald hx hb hK hP 7 2 rfl rfl (vp_in_iff.mpr (by omega)) dX6_areSuch_102 ?_
                refine lv_topl (fun x_33 ex_33 => ?_)
                refine lv_lconst (v := 0) hx hb dX6_areSuch_103 (by decide) ?_
                refine W.lcmp hx hb dX6_areSuch_104 ?_
                refine lv_if_lt (tgt := 128) hx hb dX6_areSuch_105 (by decide) (fun c_34 => ?_) (fun c_34 => ?_)
                · have c_34 : x_33.toInt < 0 := cv_clt c_34
                  refine lv_iconst (v := 0) hx hb dX6_areSuch_128 (by decide) ?_
                  refine lv_istore (lv' := [(8, .int 0), (7, .int 1), (6, .int 0), (5, .int u_4), (4, .ref n2), (3, .int x_1), (0, .ref h0), (1, .ref sl0), (2, .int 2)]) hx hb dX6_areSuch_129 hl (by decide) rfl (fun ls hl => ?_)
                  refine lv_iload hx hb dX6_areSuch_131 (lv_at hl 2 rfl) ?_
                  refine lv_if_eq (tgt := 146) hx hb dX6_areSuch_133 (by decide) (fun _ => ?_) (fun c_35 => absurd c_35 (by decide))
                  refine lv_iconst (v := 0) hx hb dX6_areSuch_146 (by decide) ?_
                  rw [hQ9]
                  exact W.zret (v := 0) (ty := .boolean) hx hb hr rfl (fun t ht hW => ⟨0, rfl, ⟨by decide, fun h9 => absurd h9 (by decide)⟩, ht⟩) (fun q h => by cases h) dX6_areSuch_147
                · have c_34 : 0 ≤ x_33.toInt := cv_cnlt c_34
                  refine lv_aload hx hb dX6_areSuch_108 (lv_at hl 3 rfl) ?_
                  refine lv_iload hx hb dX6_areSuch_110 (lv_at hl 2 rfl) ?_
                  refine lv_iconst (v := 2) hx hb dX6_areSuch_112 (by decide) ?_
                  refine lv_iadd hx hb dX6_areSuch_113 ?_
                  refine lv_topi (fun x_36 ex_36 => ?_)
                  have fx_36 : x_36.toInt = u_4.toInt + 2 := by rw [ex_36]; exact cv_addI (by have : (2 : Int32).toInt = 2 := rfl; omega) (by have : (2 : Int32).toInt = 2 := rfl; omega)
                  refine va_lald hx hb hK hP 7 2 rfl rfl (vp_in_iff.mpr (by omega)) dX6_areSuch_114 ?_
                  refine cv_topl (b := x_33) (by rw [ex_33, ex_36, ex_32]) ?_
                  refine lv_aload_n hx hb dX6_areSuch_115 rfl (lv_at hl 5 rfl) ?_
                  refine va_get (D := (dC, dI)) (ci := 2) (v := .int a_pl) (C := RX2) (T := TX2) (N := 15) hx hb hts uinX2 hown hK hP 9 rfl rfl 0 (by decide) (hts _ wd_1_82) (fun _ h9 => h9) rfl dX6_areSuch_116 ?_
                  obtain ⟨y_37, ey_37⟩ : ∃ z : Int64, z = a_pl.toInt64 := ⟨_, rfl⟩
                  have fy_37 : y_37.toInt = a_pl.toInt := by rw [ey_37]; exact Int32.toInt_toInt64 _
                  refine lv_i2l (v := y_37) hx hb dX6_areSuch_119 ey_37.symm ?_
                  refine W.lcmp hx hb dX6_areSuch_120 ?_
                  refine lv_if_ge (tgt := 128) hx hb dX6_areSuch_121 (by decide) (fun c_38 => ?_) (fun c_38 => ?_)
                  · have c_38 : y_37.toInt ≤ x_33.toInt := cv_cge c_38
                    refine lv_iconst (v := 0) hx hb dX6_areSuch_128 (by decide) ?_
                    refine lv_istore (lv' := [(8, .int 0), (7, .int 1), (6, .int 0), (5, .int u_4), (4, .ref n2), (3, .int x_1), (0, .ref h0), (1, .ref sl0), (2, .int 2)]) hx hb dX6_areSuch_129 hl (by decide) rfl (fun ls hl => ?_)
                    refine lv_iload hx hb dX6_areSuch_131 (lv_at hl 2 rfl) ?_
                    refine lv_if_eq (tgt := 146) hx hb dX6_areSuch_133 (by decide) (fun _ => ?_) (fun c_39 => absurd c_39 (by decide))
                    refine lv_iconst (v := 0) hx hb dX6_areSuch_146 (by decide) ?_
                    rw [hQ9]
                    exact W.zret (v := 0) (ty := .boolean) hx hb hr rfl (fun t ht hW => ⟨0, rfl, ⟨by decide, fun h9 => absurd h9 (by decide)⟩, ht⟩) (fun q h => by cases h) dX6_areSuch_147
                  · have c_38 : x_33.toInt < y_37.toInt := cv_cnge c_38
                    refine lv_iconst (v := 1) hx hb dX6_areSuch_124 (by decide) ?_
                    refine lv_goto (tgt := 129) hx hb dX6_areSuch_125 (by decide) ?_
                    refine lv_istore (lv' := [(8, .int 1), (7, .int 1), (6, .int 0), (5, .int u_4), (4, .ref n2), (3, .int x_1), (0, .ref h0), (1, .ref sl0), (2, .int 2)]) hx hb dX6_areSuch_129 hl (by decide) rfl (fun ls hl => ?_)
                    refine lv_iload hx hb dX6_areSuch_131 (lv_at hl 2 rfl) ?_
                    refine lv_if_eq (tgt := 146) hx hb dX6_areSuch_133 (by decide) (fun _ => ?_) (fun c_40 => absurd c_40 (by decide))
                    refine lv_iconst (v := 0) hx hb dX6_areSuch_146 (by decide) ?_
                    rw [hQ9]
                    exact W.zret (v := 0) (ty := .boolean) hx hb hr rfl (fun t ht hW => ⟨0, rfl, ⟨by decide, fun h9 => absurd h9 (by decide)⟩, ht⟩) (fun q h => by cases h) dX6_areSuch_147
          · have c_8 : 0 ≤ x_7.toInt := cv_cnlt c_8
            refine lv_aload hx hb dX6_areSuch_42 (lv_at hl 1 rfl) ?_
            refine lv_iload hx hb dX6_areSuch_44 (lv_at hl 0 rfl) ?_
            refine va_lald hx hb hK hP 7 2 rfl rfl (vp_in_iff.mpr (by omega)) dX6_areSuch_46 ?_
            refine cv_topl (b := x_7) ex_7.symm ?_
            refine lv_aload_n hx hb dX6_areSuch_47 rfl (lv_at hl 3 rfl) ?_
            refine va_get (D := (dC, dI)) (ci := 2) (v := .int a_pl) (C := RX2) (T := TX2) (N := 15) hx hb hts uinX2 hown hK hP 9 rfl rfl 0 (by decide) (hts _ wd_1_82) (fun _ h9 => h9) rfl dX6_areSuch_48 ?_
            obtain ⟨y_41, ey_41⟩ : ∃ z : Int64, z = a_pl.toInt64 := ⟨_, rfl⟩
            have fy_41 : y_41.toInt = a_pl.toInt := by rw [ey_41]; exact Int32.toInt_toInt64 _
            refine lv_i2l (v := y_41) hx hb dX6_areSuch_51 ey_41.symm ?_
            refine W.lcmp hx hb dX6_areSuch_52 ?_
            refine lv_if_ge (tgt := 60) hx hb dX6_areSuch_53 (by decide) (fun c_42 => ?_) (fun c_42 => ?_)
            · have c_42 : y_41.toInt ≤ x_7.toInt := cv_cge c_42
              refine lv_iconst (v := 0) hx hb dX6_areSuch_60 (by decide) ?_
              refine lv_istore (lv' := [(6, .int 0), (5, .int u_4), (4, .ref n2), (3, .int x_1), (0, .ref h0), (1, .ref sl0), (2, .int 2)]) hx hb dX6_areSuch_61 hl (by decide) rfl (fun ls hl => ?_)
              refine lv_aload hx hb dX6_areSuch_63 (lv_at hl 2 rfl) ?_
              refine lv_iload hx hb dX6_areSuch_65 (lv_at hl 1 rfl) ?_
              refine lv_iconst (v := 1) hx hb dX6_areSuch_67 (by decide) ?_
              refine lv_iadd hx hb dX6_areSuch_68 ?_
              refine lv_topi (fun x_43 ex_43 => ?_)
              have fx_43 : x_43.toInt = u_4.toInt + 1 := by rw [ex_43]; exact cv_addI (by have : (1 : Int32).toInt = 1 := rfl; omega) (by have : (1 : Int32).toInt = 1 := rfl; omega)
              refine va_lald hx hb hK hP 7 2 rfl rfl (vp_in_iff.mpr (by omega)) dX6_areSuch_69 ?_
              refine lv_topl (fun x_44 ex_44 => ?_)
              refine lv_lconst (v := 0) hx hb dX6_areSuch_70 (by decide) ?_
              refine W.lcmp hx hb dX6_areSuch_71 ?_
              refine lv_if_lt (tgt := 93) hx hb dX6_areSuch_72 (by decide) (fun c_45 => ?_) (fun c_45 => ?_)
              · have c_45 : x_44.toInt < 0 := cv_clt c_45
                refine lv_iconst (v := 0) hx hb dX6_areSuch_93 (by decide) ?_
                refine lv_istore (lv' := [(7, .int 0), (6, .int 0), (5, .int u_4), (4, .ref n2), (3, .int x_1), (0, .ref h0), (1, .ref sl0), (2, .int 2)]) hx hb dX6_areSuch_94 hl (by decide) rfl (fun ls hl => ?_)
                refine lv_aload hx hb dX6_areSuch_96 (lv_at hl 3 rfl) ?_
                refine lv_iload hx hb dX6_areSuch_98 (lv_at hl 2 rfl) ?_
                refine lv_iconst (v := 2) hx hb dX6_areSuch_100 (by decide) ?_
                refine lv_iadd hx hb dX6_areSuch_101 ?_
                refine lv_topi (fun x_46 ex_46 => ?_)
                have fx_46 : x_46.toInt = u_4.toInt + 2 := by rw [ex_46]; exact cv_addI (by have : (2 : Int32).toInt = 2 := rfl; omega) (by have : (2 : Int32).toInt = 2 := rfl; omega)
                refine va_lald hx hb hK hP 7 2 rfl rfl (vp_in_iff.mpr (by omega)) dX6_areSuch_102 ?_
                refine lv_topl (fun x_47 ex_47 => ?_)
                refine lv_lconst (v := 0) hx hb dX6_areSuch_103 (by decide) ?_
                refine W.lcmp hx hb dX6_areSuch_104 ?_
                refine lv_if_lt (tgt := 128) hx hb dX6_areSuch_105 (by decide) (fun c_48 => ?_) (fun c_48 => ?_)
                · have c_48 : x_47.toInt < 0 := cv_clt c_48
                  refine lv_iconst (v := 0) hx hb dX6_areSuch_128 (by decide) ?_
                  refine lv_istore (lv' := [(8, .int 0), (7, .int 0), (6, .int 0), (5, .int u_4), (4, .ref n2), (3, .int x_1), (0, .ref h0), (1, .ref sl0), (2, .int 2)]) hx hb dX6_areSuch_129 hl (by decide) rfl (fun ls hl => ?_)
                  refine lv_iload hx hb dX6_areSuch_131 (lv_at hl 2 rfl) ?_
                  refine lv_if_eq (tgt := 146) hx hb dX6_areSuch_133 (by decide) (fun _ => ?_) (fun c_49 => absurd c_49 (by decide))
                  refine lv_iconst (v := 0) hx hb dX6_areSuch_146 (by decide) ?_
                  rw [hQ9]
                  exact W.zret (v := 0) (ty := .boolean) hx hb hr rfl (fun t ht hW => ⟨0, rfl, ⟨by decide, fun h9 => absurd h9 (by decide)⟩, ht⟩) (fun q h => by cases h) dX6_areSuch_147
                · have c_48 : 0 ≤ x_47.toInt := cv_cnlt c_48
                  refine lv_aload hx hb dX6_areSuch_108 (lv_at hl 3 rfl) ?_
                  refine lv_iload hx hb dX6_areSuch_110 (lv_at hl 2 rfl) ?_
                  refine lv_iconst (v := 2) hx hb dX6_areSuch_112 (by decide) ?_
                  refine lv_iadd hx hb dX6_areSuch_113 ?_
                  refine lv_topi (fun x_50 ex_50 => ?_)
                  have fx_50 : x_50.toInt = u_4.toInt + 2 := by rw [ex_50]; exact cv_addI (by have : (2 : Int32).toInt = 2 := rfl; omega) (by have : (2 : Int32).toInt = 2 := rfl; omega)
                  refine va_lald hx hb hK hP 7 2 rfl rfl (vp_in_iff.mpr (by omega)) dX6_areSuch_114 ?_
                  refine cv_topl (b := x_47) (by rw [ex_47, ex_50, ex_46]) ?_
                  refine lv_aload_n hx hb dX6_areSuch_115 rfl (lv_at hl 5 rfl) ?_
                  refine va_get (D := (dC, dI)) (ci := 2) (v := .int a_pl) (C := RX2) (T := TX2) (N := 15) hx hb hts uinX2 hown hK hP 9 rfl rfl 0 (by decide) (hts _ wd_1_82) (fun _ h9 => h9) rfl dX6_areSuch_116 ?_
                  obtain ⟨y_51, ey_51⟩ : ∃ z : Int64, z = a_pl.toInt64 := ⟨_, rfl⟩
                  have fy_51 : y_51.toInt = a_pl.toInt := by rw [ey_51]; exact Int32.toInt_toInt64 _
                  refine lv_i2l (v := y_51) hx hb dX6_areSuch_119 ey_51.symm ?_
                  refine W.lcmp hx hb dX6_areSuch_120 ?_
                  refine lv_if_ge (tgt := 128) hx hb dX6_areSuch_121 (by decide) (fun c_52 => ?_) (fun c_52 => ?_)
                  · have c_52 : y_51.toInt ≤ x_47.toInt := cv_cge c_52
                    refine lv_iconst (v := 0) hx hb dX6_areSuch_128 (by decide) ?_
                    refine lv_istore (lv' := [(8, .int 0), (7, .int 0), (6, .int 0), (5, .int u_4), (4, .ref n2), (3, .int x_1), (0, .ref h0), (1, .ref sl0), (2, .int 2)]) hx hb dX6_areSuch_129 hl (by decide) rfl (fun ls hl => ?_)
                    refine lv_iload hx hb dX6_areSuch_131 (lv_at hl 2 rfl) ?_
                    refine lv_if_eq (tgt := 146) hx hb dX6_areSuch_133 (by decide) (fun _ => ?_) (fun c_53 => absurd c_53 (by decide))
                    refine lv_iconst (v := 0) hx hb dX6_areSuch_146 (by decide) ?_
                    rw [hQ9]
                    exact W.zret (v := 0) (ty := .boolean) hx hb hr rfl (fun t ht hW => ⟨0, rfl, ⟨by decide, fun h9 => absurd h9 (by decide)⟩, ht⟩) (fun q h => by cases h) dX6_areSuch_147
                  · have c_52 : x_47.toInt < y_51.toInt := cv_cnge c_52
                    refine lv_iconst (v := 1) hx hb dX6_areSuch_124 (by decide) ?_
                    refine lv_goto (tgt := 129) hx hb dX6_areSuch_125 (by decide) ?_
                    refine lv_istore (lv' := [(8, .int 1), (7, .int 0), (6, .int 0), (5, .int u_4), (4, .ref n2), (3, .int x_1), (0, .ref h0), (1, .ref sl0), (2, .int 2)]) hx hb dX6_areSuch_129 hl (by decide) rfl (fun ls hl => ?_)
                    refine lv_iload hx hb dX6_areSuch_131 (lv_at hl 2 rfl) ?_
                    refine lv_if_eq (tgt := 146) hx hb dX6_areSuch_133 (by decide) (fun _ => ?_) (fun c_54 => absurd c_54 (by decide))
                    refine lv_iconst (v := 0) hx hb dX6_areSuch_146 (by decide) ?_
                    rw [hQ9]
                    exact W.zret (v := 0) (ty := .boolean) hx hb hr rfl (fun t ht hW => ⟨0, rfl, ⟨by decide, fun h9 => absurd h9 (by decide)⟩, ht⟩) (fun q h => by cases h) dX6_areSuch_147
              · have c_45 : 0 ≤ x_44.toInt := cv_cnlt c_45
                refine lv_aload hx hb dX6_areSuch_75 (lv_at hl 2 rfl) ?_
                refine lv_iload hx hb dX6_areSuch_77 (lv_at hl 1 rfl) ?_
                refine lv_iconst (v := 1) hx hb dX6_areSuch_79 (by decide) ?_
                refine lv_iadd hx hb dX6_areSuch_80 ?_
                refine lv_topi (fun x_55 ex_55 => ?_)
                have fx_55 : x_55.toInt = u_4.toInt + 1 := by rw [ex_55]; exact cv_addI (by have : (1 : Int32).toInt = 1 := rfl; omega) (by have : (1 : Int32).toInt = 1 := rfl; omega)
                refine va_lald hx hb hK hP 7 2 rfl rfl (vp_in_iff.mpr (by omega)) dX6_areSuch_81 ?_
                refine cv_topl (b := x_44) (by rw [ex_44, ex_55, ex_43]) ?_
                refine lv_ldc2 (v := 999) hx hb hown (hts _ wd_4_184) dX6_areSuch_82 ?_
                refine W.lcmp hx hb dX6_areSuch_85 ?_
                refine lv_if_gt (tgt := 93) hx hb dX6_areSuch_86 (by decide) (fun c_56 => ?_) (fun c_56 => ?_)
                · have c_56 : 999 < x_44.toInt := cv_cgt c_56
                  refine lv_iconst (v := 0) hx hb dX6_areSuch_93 (by decide) ?_
                  refine lv_istore (lv' := [(7, .int 0), (6, .int 0), (5, .int u_4), (4, .ref n2), (3, .int x_1), (0, .ref h0), (1, .ref sl0), (2, .int 2)]) hx hb dX6_areSuch_94 hl (by decide) rfl (fun ls hl => ?_)
                  refine lv_aload hx hb dX6_areSuch_96 (lv_at hl 3 rfl) ?_
                  refine lv_iload hx hb dX6_areSuch_98 (lv_at hl 2 rfl) ?_
                  refine lv_iconst (v := 2) hx hb dX6_areSuch_100 (by decide) ?_
                  refine lv_iadd hx hb dX6_areSuch_101 ?_
                  refine lv_topi (fun x_57 ex_57 => ?_)
                  have fx_57 : x_57.toInt = u_4.toInt + 2 := by rw [ex_57]; exact cv_addI (by have : (2 : Int32).toInt = 2 := rfl; omega) (by have : (2 : Int32).toInt = 2 := rfl; omega)
                  refine va_lald hx hb hK hP 7 2 rfl rfl (vp_in_iff.mpr (by omega)) dX6_areSuch_102 ?_
                  refine lv_topl (fun x_58 ex_58 => ?_)
                  refine lv_lconst (v := 0) hx hb dX6_areSuch_103 (by decide) ?_
                  refine W.lcmp hx hb dX6_areSuch_104 ?_
                  refine lv_if_lt (tgt := 128) hx hb dX6_areSuch_105 (by decide) (fun c_59 => ?_) (fun c_59 => ?_)
                  · have c_59 : x_58.toInt < 0 := cv_clt c_59
                    refine lv_iconst (v := 0) hx hb dX6_areSuch_128 (by decide) ?_
                    refine lv_istore (lv' := [(8, .int 0), (7, .int 0), (6, .int 0), (5, .int u_4), (4, .ref n2), (3, .int x_1), (0, .ref h0), (1, .ref sl0), (2, .int 2)]) hx hb dX6_areSuch_129 hl (by decide) rfl (fun ls hl => ?_)
                    refine lv_iload hx hb dX6_areSuch_131 (lv_at hl 2 rfl) ?_
                    refine lv_if_eq (tgt := 146) hx hb dX6_areSuch_133 (by decide) (fun _ => ?_) (fun c_60 => absurd c_60 (by decide))
                    refine lv_iconst (v := 0) hx hb dX6_areSuch_146 (by decide) ?_
                    rw [hQ9]
                    exact W.zret (v := 0) (ty := .boolean) hx hb hr rfl (fun t ht hW => ⟨0, rfl, ⟨by decide, fun h9 => absurd h9 (by decide)⟩, ht⟩) (fun q h => by cases h) dX6_areSuch_147
                  · have c_59 : 0 ≤ x_58.toInt := cv_cnlt c_59
                    refine lv_aload hx hb dX6_areSuch_108 (lv_at hl 3 rfl) ?_
                    refine lv_iload hx hb dX6_areSuch_110 (lv_at hl 2 rfl) ?_
                    refine lv_iconst (v := 2) hx hb dX6_areSuch_112 (by decide) ?_
                    refine lv_iadd hx hb dX6_areSuch_113 ?_
                    refine lv_topi (fun x_61 ex_61 => ?_)
                    have fx_61 : x_61.toInt = u_4.toInt + 2 := by rw [ex_61]; exact cv_addI (by have : (2 : Int32).toInt = 2 := rfl; omega) (by have : (2 : Int32).toInt = 2 := rfl; omega)
                    refine va_lald hx hb hK hP 7 2 rfl rfl (vp_in_iff.mpr (by omega)) dX6_areSuch_114 ?_
                    refine cv_topl (b := x_58) (by rw [ex_58, ex_61, ex_57]) ?_
                    refine lv_aload_n hx hb dX6_areSuch_115 rfl (lv_at hl 5 rfl) ?_
                    refine va_get (D := (dC, dI)) (ci := 2) (v := .int a_pl) (C := RX2) (T := TX2) (N := 15) hx hb hts uinX2 hown hK hP 9 rfl rfl 0 (by decide) (hts _ wd_1_82) (fun _ h9 => h9) rfl dX6_areSuch_116 ?_
                    obtain ⟨y_62, ey_62⟩ : ∃ z : Int64, z = a_pl.toInt64 := ⟨_, rfl⟩
                    have fy_62 : y_62.toInt = a_pl.toInt := by rw [ey_62]; exact Int32.toInt_toInt64 _
                    refine lv_i2l (v := y_62) hx hb dX6_areSuch_119 ey_62.symm ?_
                    refine W.lcmp hx hb dX6_areSuch_120 ?_
                    refine lv_if_ge (tgt := 128) hx hb dX6_areSuch_121 (by decide) (fun c_63 => ?_) (fun c_63 => ?_)
                    · have c_63 : y_62.toInt ≤ x_58.toInt := cv_cge c_63
                      refine lv_iconst (v := 0) hx hb dX6_areSuch_128 (by decide) ?_
                      refine lv_istore (lv' := [(8, .int 0), (7, .int 0), (6, .int 0), (5, .int u_4), (4, .ref n2), (3, .int x_1), (0, .ref h0), (1, .ref sl0), (2, .int 2)]) hx hb dX6_areSuch_129 hl (by decide) rfl (fun ls hl => ?_)
                      refine lv_iload hx hb dX6_areSuch_131 (lv_at hl 2 rfl) ?_
                      refine lv_if_eq (tgt := 146) hx hb dX6_areSuch_133 (by decide) (fun _ => ?_) (fun c_64 => absurd c_64 (by decide))
                      refine lv_iconst (v := 0) hx hb dX6_areSuch_146 (by decide) ?_
                      rw [hQ9]
                      exact W.zret (v := 0) (ty := .boolean) hx hb hr rfl (fun t ht hW => ⟨0, rfl, ⟨by decide, fun h9 => absurd h9 (by decide)⟩, ht⟩) (fun q h => by cases h) dX6_areSuch_147
                    · have c_63 : x_58.toInt < y_62.toInt := cv_cnge c_63
                      refine lv_iconst (v := 1) hx hb dX6_areSuch_124 (by decide) ?_
                      refine lv_goto (tgt := 129) hx hb dX6_areSuch_125 (by decide) ?_
                      refine lv_istore (lv' := [(8, .int 1), (7, .int 0), (6, .int 0), (5, .int u_4), (4, .ref n2), (3, .int x_1), (0, .ref h0), (1, .ref sl0), (2, .int 2)]) hx hb dX6_areSuch_129 hl (by decide) rfl (fun ls hl => ?_)
                      refine lv_iload hx hb dX6_areSuch_131 (lv_at hl 2 rfl) ?_
                      refine lv_if_eq (tgt := 146) hx hb dX6_areSuch_133 (by decide) (fun _ => ?_) (fun c_65 => absurd c_65 (by decide))
                      refine lv_iconst (v := 0) hx hb dX6_areSuch_146 (by decide) ?_
                      rw [hQ9]
                      exact W.zret (v := 0) (ty := .boolean) hx hb hr rfl (fun t ht hW => ⟨0, rfl, ⟨by decide, fun h9 => absurd h9 (by decide)⟩, ht⟩) (fun q h => by cases h) dX6_areSuch_147
                · have c_56 : x_44.toInt ≤ 999 := cv_cngt c_56
                  refine lv_iconst (v := 1) hx hb dX6_areSuch_89 (by decide) ?_
                  refine lv_goto (tgt := 94) hx hb dX6_areSuch_90 (by decide) ?_
                  refine lv_istore (lv' := [(7, .int 1), (6, .int 0), (5, .int u_4), (4, .ref n2), (3, .int x_1), (0, .ref h0), (1, .ref sl0), (2, .int 2)]) hx hb dX6_areSuch_94 hl (by decide) rfl (fun ls hl => ?_)
                  refine lv_aload hx hb dX6_areSuch_96 (lv_at hl 3 rfl) ?_
                  refine lv_iload hx hb dX6_areSuch_98 (lv_at hl 2 rfl) ?_
                  refine lv_iconst (v := 2) hx hb dX6_areSuch_100 (by decide) ?_
                  refine lv_iadd hx hb dX6_areSuch_101 ?_
                  refine lv_topi (fun x_66 ex_66 => ?_)
                  have fx_66 : x_66.toInt = u_4.toInt + 2 := by rw [ex_66]; exact cv_addI (by have : (2 : Int32).toInt = 2 := rfl; omega) (by have : (2 : Int32).toInt = 2 := rfl; omega)
                  refine va_lald hx hb hK hP 7 2 rfl rfl (vp_in_iff.mpr (by omega)) dX6_areSuch_102 ?_
                  refine lv_topl (fun x_67 ex_67 => ?_)
                  refine lv_lconst (v := 0) hx hb dX6_areSuch_103 (by decide) ?_
                  refine W.lcmp hx hb dX6_areSuch_104 ?_
                  refine lv_if_lt (tgt := 128) hx hb dX6_areSuch_105 (by decide) (fun c_68 => ?_) (fun c_68 => ?_)
                  · have c_68 : x_67.toInt < 0 := cv_clt c_68
                    refine lv_iconst (v := 0) hx hb dX6_areSuch_128 (by decide) ?_
                    refine lv_istore (lv' := [(8, .int 0), (7, .int 1), (6, .int 0), (5, .int u_4), (4, .ref n2), (3, .int x_1), (0, .ref h0), (1, .ref sl0), (2, .int 2)]) hx hb dX6_areSuch_129 hl (by decide) rfl (fun ls hl => ?_)
                    refine lv_iload hx hb dX6_areSuch_131 (lv_at hl 2 rfl) ?_
                    refine lv_if_eq (tgt := 146) hx hb dX6_areSuch_133 (by decide) (fun _ => ?_) (fun c_69 => absurd c_69 (by decide))
                    refine lv_iconst (v := 0) hx hb dX6_areSuch_146 (by decide) ?_
                    rw [hQ9]
                    exact W.zret (v := 0) (ty := .boolean) hx hb hr rfl (fun t ht hW => ⟨0, rfl, ⟨by decide, fun h9 => absurd h9 (by decide)⟩, ht⟩) (fun q h => by cases h) dX6_areSuch_147
                  · have c_68 : 0 ≤ x_67.toInt := cv_cnlt c_68
                    refine lv_aload hx hb dX6_areSuch_108 (lv_at hl 3 rfl) ?_
                    refine lv_iload hx hb dX6_areSuch_110 (lv_at hl 2 rfl) ?_
                    refine lv_iconst (v := 2) hx hb dX6_areSuch_112 (by decide) ?_
                    refine lv_iadd hx hb dX6_areSuch_113 ?_
                    refine lv_topi (fun x_70 ex_70 => ?_)
                    have fx_70 : x_70.toInt = u_4.toInt + 2 := by rw [ex_70]; exact cv_addI (by have : (2 : Int32).toInt = 2 := rfl; omega) (by have : (2 : Int32).toInt = 2 := rfl; omega)
                    refine va_lald hx hb hK hP 7 2 rfl rfl (vp_in_iff.mpr (by omega)) dX6_areSuch_114 ?_
                    refine cv_topl (b := x_67) (by rw [ex_67, ex_70, ex_66]) ?_
                    refine lv_aload_n hx hb dX6_areSuch_115 rfl (lv_at hl 5 rfl) ?_
                    refine va_get (D := (dC, dI)) (ci := 2) (v := .int a_pl) (C := RX2) (T := TX2) (N := 15) hx hb hts uinX2 hown hK hP 9 rfl rfl 0 (by decide) (hts _ wd_1_82) (fun _ h9 => h9) rfl dX6_areSuch_116 ?_
                    obtain ⟨y_71, ey_71⟩ : ∃ z : Int64, z = a_pl.toInt64 := ⟨_, rfl⟩
                    have fy_71 : y_71.toInt = a_pl.toInt := by rw [ey_71]; exact Int32.toInt_toInt64 _
                    refine lv_i2l (v := y_71) hx hb dX6_areSuch_119 ey_71.symm ?_
                    refine W.lcmp hx hb dX6_areSuch_120 ?_
                    refine lv_if_ge (tgt := 128) hx hb dX6_areSuch_121 (by decide) (fun c_72 => ?_) (fun c_72 => ?_)
                    · have c_72 : y_71.toInt ≤ x_67.toInt := cv_cge c_72
                      refine lv_iconst (v := 0) hx hb dX6_areSuch_128 (by decide) ?_
                      refine lv_istore (lv' := [(8, .int 0), (7, .int 1), (6, .int 0), (5, .int u_4), (4, .ref n2), (3, .int x_1), (0, .ref h0), (1, .ref sl0), (2, .int 2)]) hx hb dX6_areSuch_129 hl (by decide) rfl (fun ls hl => ?_)
                      refine lv_iload hx hb dX6_areSuch_131 (lv_at hl 2 rfl) ?_
                      refine lv_if_eq (tgt := 146) hx hb dX6_areSuch_133 (by decide) (fun _ => ?_) (fun c_73 => absurd c_73 (by decide))
                      refine lv_iconst (v := 0) hx hb dX6_areSuch_146 (by decide) ?_
                      rw [hQ9]
                      exact W.zret (v := 0) (ty := .boolean) hx hb hr rfl (fun t ht hW => ⟨0, rfl, ⟨by decide, fun h9 => absurd h9 (by decide)⟩, ht⟩) (fun q h => by cases h) dX6_areSuch_147
                    · have c_72 : x_67.toInt < y_71.toInt := cv_cnge c_72
                      refine lv_iconst (v := 1) hx hb dX6_areSuch_124 (by decide) ?_
                      refine lv_goto (tgt := 129) hx hb dX6_areSuch_125 (by decide) ?_
                      refine lv_istore (lv' := [(8, .int 1), (7, .int 1), (6, .int 0), (5, .int u_4), (4, .ref n2), (3, .int x_1), (0, .ref h0), (1, .ref sl0), (2, .int 2)]) hx hb dX6_areSuch_129 hl (by decide) rfl (fun ls hl => ?_)
                      refine lv_iload hx hb dX6_areSuch_131 (lv_at hl 2 rfl) ?_
                      refine lv_if_eq (tgt := 146) hx hb dX6_areSuch_133 (by decide) (fun _ => ?_) (fun c_74 => absurd c_74 (by decide))
                      refine lv_iconst (v := 0) hx hb dX6_areSuch_146 (by decide) ?_
                      rw [hQ9]
                      exact W.zret (v := 0) (ty := .boolean) hx hb hr rfl (fun t ht hW => ⟨0, rfl, ⟨by decide, fun h9 => absurd h9 (by decide)⟩, ht⟩) (fun q h => by cases h) dX6_areSuch_147
            · have c_42 : x_7.toInt < y_41.toInt := cv_cnge c_42
              refine lv_iconst (v := 1) hx hb dX6_areSuch_56 (by decide) ?_
              refine lv_goto (tgt := 61) hx hb dX6_areSuch_57 (by decide) ?_
              refine lv_istore (lv' := [(6, .int 1), (5, .int u_4), (4, .ref n2), (3, .int x_1), (0, .ref h0), (1, .ref sl0), (2, .int 2)]) hx hb dX6_areSuch_61 hl (by decide) rfl (fun ls hl => ?_)
              refine lv_aload hx hb dX6_areSuch_63 (lv_at hl 2 rfl) ?_
              refine lv_iload hx hb dX6_areSuch_65 (lv_at hl 1 rfl) ?_
              refine lv_iconst (v := 1) hx hb dX6_areSuch_67 (by decide) ?_
              refine lv_iadd hx hb dX6_areSuch_68 ?_
              refine lv_topi (fun x_75 ex_75 => ?_)
              have fx_75 : x_75.toInt = u_4.toInt + 1 := by rw [ex_75]; exact cv_addI (by have : (1 : Int32).toInt = 1 := rfl; omega) (by have : (1 : Int32).toInt = 1 := rfl; omega)
              refine va_lald hx hb hK hP 7 2 rfl rfl (vp_in_iff.mpr (by omega)) dX6_areSuch_69 ?_
              refine lv_topl (fun x_76 ex_76 => ?_)
              refine lv_lconst (v := 0) hx hb dX6_areSuch_70 (by decide) ?_
              refine W.lcmp hx hb dX6_areSuch_71 ?_
              refine lv_if_lt (tgt := 93) hx hb dX6_areSuch_72 (by decide) (fun c_77 => ?_) (fun c_77 => ?_)
              · have c_77 : x_76.toInt < 0 := cv_clt c_77
                refine lv_iconst (v := 0) hx hb dX6_areSuch_93 (by decide) ?_
                refine lv_istore (lv' := [(7, .int 0), (6, .int 1), (5, .int u_4), (4, .ref n2), (3, .int x_1), (0, .ref h0), (1, .ref sl0), (2, .int 2)]) hx hb dX6_areSuch_94 hl (by decide) rfl (fun ls hl => ?_)
                refine lv_aload hx hb dX6_areSuch_96 (lv_at hl 3 rfl) ?_
                refine lv_iload hx hb dX6_areSuch_98 (lv_at hl 2 rfl) ?_
                refine lv_iconst (v := 2) hx hb dX6_areSuch_100 (by decide) ?_
                refine lv_iadd hx hb dX6_areSuch_101 ?_
                refine lv_topi (fun x_78 ex_78 => ?_)
                have fx_78 : x_78.toInt = u_4.toInt + 2 := by rw [ex_78]; exact cv_addI (by have : (2 : Int32).toInt = 2 := rfl; omega) (by have : (2 : Int32).toInt = 2 := rfl; omega)
                refine va_lald hx hb hK hP 7 2 rfl rfl (vp_in_iff.mpr (by omega)) dX6_areSuch_102 ?_
                refine lv_topl (fun x_79 ex_79 => ?_)
                refine lv_lconst (v := 0) hx hb dX6_areSuch_103 (by decide) ?_
                refine W.lcmp hx hb dX6_areSuch_104 ?_
                refine lv_if_lt (tgt := 128) hx hb dX6_areSuch_105 (by decide) (fun c_80 => ?_) (fun c_80 => ?_)
                · have c_80 : x_79.toInt < 0 := cv_clt c_80
                  refine lv_iconst (v := 0) hx hb dX6_areSuch_128 (by decide) ?_
                  refine lv_istore (lv' := [(8, .int 0), (7, .int 0), (6, .int 1), (5, .int u_4), (4, .ref n2), (3, .int x_1), (0, .ref h0), (1, .ref sl0), (2, .int 2)]) hx hb dX6_areSuch_129 hl (by decide) rfl (fun ls hl => ?_)
                  refine lv_iload hx hb dX6_areSuch_131 (lv_at hl 2 rfl) ?_
                  refine lv_if_eq (tgt := 146) hx hb dX6_areSuch_133 (by decide) (fun c_81 => absurd c_81 (by decide)) (fun _ => ?_)
                  refine lv_iload hx hb dX6_areSuch_136 (lv_at hl 1 rfl) ?_
                  refine lv_if_eq (tgt := 146) hx hb dX6_areSuch_138 (by decide) (fun _ => ?_) (fun c_82 => absurd c_82 (by decide))
                  refine lv_iconst (v := 0) hx hb dX6_areSuch_146 (by decide) ?_
                  rw [hQ9]
                  exact W.zret (v := 0) (ty := .boolean) hx hb hr rfl (fun t ht hW => ⟨0, rfl, ⟨by decide, fun h9 => absurd h9 (by decide)⟩, ht⟩) (fun q h => by cases h) dX6_areSuch_147
                · have c_80 : 0 ≤ x_79.toInt := cv_cnlt c_80
                  refine lv_aload hx hb dX6_areSuch_108 (lv_at hl 3 rfl) ?_
                  refine lv_iload hx hb dX6_areSuch_110 (lv_at hl 2 rfl) ?_
                  refine lv_iconst (v := 2) hx hb dX6_areSuch_112 (by decide) ?_
                  refine lv_iadd hx hb dX6_areSuch_113 ?_
                  refine lv_topi (fun x_83 ex_83 => ?_)
                  have fx_83 : x_83.toInt = u_4.toInt + 2 := by rw [ex_83]; exact cv_addI (by have : (2 : Int32).toInt = 2 := rfl; omega) (by have : (2 : Int32).toInt = 2 := rfl; omega)
                  refine va_lald hx hb hK hP 7 2 rfl rfl (vp_in_iff.mpr (by omega)) dX6_areSuch_114 ?_
                  refine cv_topl (b := x_79) (by rw [ex_79, ex_83, ex_78]) ?_
                  refine lv_aload_n hx hb dX6_areSuch_115 rfl (lv_at hl 5 rfl) ?_
                  refine va_get (D := (dC, dI)) (ci := 2) (v := .int a_pl) (C := RX2) (T := TX2) (N := 15) hx hb hts uinX2 hown hK hP 9 rfl rfl 0 (by decide) (hts _ wd_1_82) (fun _ h9 => h9) rfl dX6_areSuch_116 ?_
                  obtain ⟨y_84, ey_84⟩ : ∃ z : Int64, z = a_pl.toInt64 := ⟨_, rfl⟩
                  have fy_84 : y_84.toInt = a_pl.toInt := by rw [ey_84]; exact Int32.toInt_toInt64 _
                  refine lv_i2l (v := y_84) hx hb dX6_areSuch_119 ey_84.symm ?_
                  refine W.lcmp hx hb dX6_areSuch_120 ?_
                  refine lv_if_ge (tgt := 128) hx hb dX6_areSuch_121 (by decide) (fun c_85 => ?_) (fun c_85 => ?_)
                  · have c_85 : y_84.toInt ≤ x_79.toInt := cv_cge c_85
                    refine lv_iconst (v := 0) hx hb dX6_areSuch_128 (by decide) ?_
                    refine lv_istore (lv' := [(8, .int 0), (7, .int 0), (6, .int 1), (5, .int u_4), (4, .ref n2), (3, .int x_1), (0, .ref h0), (1, .ref sl0), (2, .int 2)]) hx hb dX6_areSuch_129 hl (by decide) rfl (fun ls hl => ?_)
                    refine lv_iload hx hb dX6_areSuch_131 (lv_at hl 2 rfl) ?_
                    refine lv_if_eq (tgt := 146) hx hb dX6_areSuch_133 (by decide) (fun c_86 => absurd c_86 (by decide)) (fun _ => ?_)
                    refine lv_iload hx hb dX6_areSuch_136 (lv_at hl 1 rfl) ?_
                    refine lv_if_eq (tgt := 146) hx hb dX6_areSuch_138 (by decide) (fun _ => ?_) (fun c_87 => absurd c_87 (by decide))
                    refine lv_iconst (v := 0) hx hb dX6_areSuch_146 (by decide) ?_
                    rw [hQ9]
                    exact W.zret (v := 0) (ty := .boolean) hx hb hr rfl (fun t ht hW => ⟨0, rfl, ⟨by decide, fun h9 => absurd h9 (by decide)⟩, ht⟩) (fun q h => by cases h) dX6_areSuch_147
                  · have c_85 : x_79.toInt < y_84.toInt := cv_cnge c_85
                    refine lv_iconst (v := 1) hx hb dX6_areSuch_124 (by decide) ?_
                    refine lv_goto (tgt := 129) hx hb dX6_areSuch_125 (by decide) ?_
                    refine lv_istore (lv' := [(8, .int 1), (7, .int 0), (6, .int 1), (5, .int u_4), (4, .ref n2), (3, .int x_1), (0, .ref h0), (1, .ref sl0), (2, .int 2)]) hx hb dX6_areSuch_129 hl (by decide) rfl (fun ls hl => ?_)
                    refine lv_iload hx hb dX6_areSuch_131 (lv_at hl 2 rfl) ?_
                    refine lv_if_eq (tgt := 146) hx hb dX6_areSuch_133 (by decide) (fun c_88 => absurd c_88 (by decide)) (fun _ => ?_)
                    refine lv_iload hx hb dX6_areSuch_136 (lv_at hl 1 rfl) ?_
                    refine lv_if_eq (tgt := 146) hx hb dX6_areSuch_138 (by decide) (fun _ => ?_) (fun c_89 => absurd c_89 (by decide))
                    refine lv_iconst (v := 0) hx hb dX6_areSuch_146 (by decide) ?_
                    rw [hQ9]
                    exact W.zret (v := 0) (ty := .boolean) hx hb hr rfl (fun t ht hW => ⟨0, rfl, ⟨by decide, fun h9 => absurd h9 (by decide)⟩, ht⟩) (fun q h => by cases h) dX6_areSuch_147
              · have c_77 : 0 ≤ x_76.toInt := cv_cnlt c_77
                refine lv_aload hx hb dX6_areSuch_75 (lv_at hl 2 rfl) ?_
                refine lv_iload hx hb dX6_areSuch_77 (lv_at hl 1 rfl) ?_
                refine lv_iconst (v := 1) hx hb dX6_areSuch_79 (by decide) ?_
                refine lv_iadd hx hb dX6_areSuch_80 ?_
                refine lv_topi (fun x_90 ex_90 => ?_)
                have fx_90 : x_90.toInt = u_4.toInt + 1 := by rw [ex_90]; exact cv_addI (by have : (1 : Int32).toInt = 1 := rfl; omega) (by have : (1 : Int32).toInt = 1 := rfl; omega)
                refine va_lald hx hb hK hP 7 2 rfl rfl (vp_in_iff.mpr (by omega)) dX6_areSuch_81 ?_
                refine cv_topl (b := x_76) (by rw [ex_76, ex_90, ex_75]) ?_
                refine lv_ldc2 (v := 999) hx hb hown (hts _ wd_4_184) dX6_areSuch_82 ?_
                refine W.lcmp hx hb dX6_areSuch_85 ?_
                refine lv_if_gt (tgt := 93) hx hb dX6_areSuch_86 (by decide) (fun c_91 => ?_) (fun c_91 => ?_)
                · have c_91 : 999 < x_76.toInt := cv_cgt c_91
                  refine lv_iconst (v := 0) hx hb dX6_areSuch_93 (by decide) ?_
                  refine lv_istore (lv' := [(7, .int 0), (6, .int 1), (5, .int u_4), (4, .ref n2), (3, .int x_1), (0, .ref h0), (1, .ref sl0), (2, .int 2)]) hx hb dX6_areSuch_94 hl (by decide) rfl (fun ls hl => ?_)
                  refine lv_aload hx hb dX6_areSuch_96 (lv_at hl 3 rfl) ?_
                  refine lv_iload hx hb dX6_areSuch_98 (lv_at hl 2 rfl) ?_
                  refine lv_iconst (v := 2) hx hb dX6_areSuch_100 (by decide) ?_
                  refine lv_iadd hx hb dX6_areSuch_101 ?_
                  refine lv_topi (fun x_92 ex_92 => ?_)
                  have fx_92 : x_92.toInt = u_4.toInt + 2 := by rw [ex_92]; exact cv_addI (by have : (2 : Int32).toInt = 2 := rfl; omega) (by have : (2 : Int32).toInt = 2 := rfl; omega)
                  refine va_lald hx hb hK hP 7 2 rfl rfl (vp_in_iff.mpr (by omega)) dX6_areSuch_102 ?_
                  refine lv_topl (fun x_93 ex_93 => ?_)
                  refine lv_lconst (v := 0) hx hb dX6_areSuch_103 (by decide) ?_
                  refine W.lcmp hx hb dX6_areSuch_104 ?_
                  refine lv_if_lt (tgt := 128) hx hb dX6_areSuch_105 (by decide) (fun c_94 => ?_) (fun c_94 => ?_)
                  · have c_94 : x_93.toInt < 0 := cv_clt c_94
                    refine lv_iconst (v := 0) hx hb dX6_areSuch_128 (by decide) ?_
                    refine lv_istore (lv' := [(8, .int 0), (7, .int 0), (6, .int 1), (5, .int u_4), (4, .ref n2), (3, .int x_1), (0, .ref h0), (1, .ref sl0), (2, .int 2)]) hx hb dX6_areSuch_129 hl (by decide) rfl (fun ls hl => ?_)
                    refine lv_iload hx hb dX6_areSuch_131 (lv_at hl 2 rfl) ?_
                    refine lv_if_eq (tgt := 146) hx hb dX6_areSuch_133 (by decide) (fun c_95 => absurd c_95 (by decide)) (fun _ => ?_)
                    refine lv_iload hx hb dX6_areSuch_136 (lv_at hl 1 rfl) ?_
                    refine lv_if_eq (tgt := 146) hx hb dX6_areSuch_138 (by decide) (fun _ => ?_) (fun c_96 => absurd c_96 (by decide))
                    refine lv_iconst (v := 0) hx hb dX6_areSuch_146 (by decide) ?_
                    rw [hQ9]
                    exact W.zret (v := 0) (ty := .boolean) hx hb hr rfl (fun t ht hW => ⟨0, rfl, ⟨by decide, fun h9 => absurd h9 (by decide)⟩, ht⟩) (fun q h => by cases h) dX6_areSuch_147
                  · have c_94 : 0 ≤ x_93.toInt := cv_cnlt c_94
                    refine lv_aload hx hb dX6_areSuch_108 (lv_at hl 3 rfl) ?_
                    refine lv_iload hx hb dX6_areSuch_110 (lv_at hl 2 rfl) ?_
                    refine lv_iconst (v := 2) hx hb dX6_areSuch_112 (by decide) ?_
                    refine lv_iadd hx hb dX6_areSuch_113 ?_
                    refine lv_topi (fun x_97 ex_97 => ?_)
                    have fx_97 : x_97.toInt = u_4.toInt + 2 := by rw [ex_97]; exact cv_addI (by have : (2 : Int32).toInt = 2 := rfl; omega) (by have : (2 : Int32).toInt = 2 := rfl; omega)
                    refine va_lald hx hb hK hP 7 2 rfl rfl (vp_in_iff.mpr (by omega)) dX6_areSuch_114 ?_
                    refine cv_topl (b := x_93) (by rw [ex_93, ex_97, ex_92]) ?_
                    refine lv_aload_n hx hb dX6_areSuch_115 rfl (lv_at hl 5 rfl) ?_
                    refine va_get (D := (dC, dI)) (ci := 2) (v := .int a_pl) (C := RX2) (T := TX2) (N := 15) hx hb hts uinX2 hown hK hP 9 rfl rfl 0 (by decide) (hts _ wd_1_82) (fun _ h9 => h9) rfl dX6_areSuch_116 ?_
                    obtain ⟨y_98, ey_98⟩ : ∃ z : Int64, z = a_pl.toInt64 := ⟨_, rfl⟩
                    have fy_98 : y_98.toInt = a_pl.toInt := by rw [ey_98]; exact Int32.toInt_toInt64 _
                    refine lv_i2l (v := y_98) hx hb dX6_areSuch_119 ey_98.symm ?_
                    refine W.lcmp hx hb dX6_areSuch_120 ?_
                    refine lv_if_ge (tgt := 128) hx hb dX6_areSuch_121 (by decide) (fun c_99 => ?_) (fun c_99 => ?_)
                    · have c_99 : y_98.toInt ≤ x_93.toInt := cv_cge c_99
                      refine lv_iconst (v := 0) hx hb dX6_areSuch_128 (by decide) ?_
                      refine lv_istore (lv' := [(8, .int 0), (7, .int 0), (6, .int 1), (5, .int u_4), (4, .ref n2), (3, .int x_1), (0, .ref h0), (1, .ref sl0), (2, .int 2)]) hx hb dX6_areSuch_129 hl (by decide) rfl (fun ls hl => ?_)
                      refine lv_iload hx hb dX6_areSuch_131 (lv_at hl 2 rfl) ?_
                      refine lv_if_eq (tgt := 146) hx hb dX6_areSuch_133 (by decide) (fun c_100 => absurd c_100 (by decide)) (fun _ => ?_)
                      refine lv_iload hx hb dX6_areSuch_136 (lv_at hl 1 rfl) ?_
                      refine lv_if_eq (tgt := 146) hx hb dX6_areSuch_138 (by decide) (fun _ => ?_) (fun c_101 => absurd c_101 (by decide))
                      refine lv_iconst (v := 0) hx hb dX6_areSuch_146 (by decide) ?_
                      rw [hQ9]
                      exact W.zret (v := 0) (ty := .boolean) hx hb hr rfl (fun t ht hW => ⟨0, rfl, ⟨by decide, fun h9 => absurd h9 (by decide)⟩, ht⟩) (fun q h => by cases h) dX6_areSuch_147
                    · have c_99 : x_93.toInt < y_98.toInt := cv_cnge c_99
                      refine lv_iconst (v := 1) hx hb dX6_areSuch_124 (by decide) ?_
                      refine lv_goto (tgt := 129) hx hb dX6_areSuch_125 (by decide) ?_
                      refine lv_istore (lv' := [(8, .int 1), (7, .int 0), (6, .int 1), (5, .int u_4), (4, .ref n2), (3, .int x_1), (0, .ref h0), (1, .ref sl0), (2, .int 2)]) hx hb dX6_areSuch_129 hl (by decide) rfl (fun ls hl => ?_)
                      refine lv_iload hx hb dX6_areSuch_131 (lv_at hl 2 rfl) ?_
                      refine lv_if_eq (tgt := 146) hx hb dX6_areSuch_133 (by decide) (fun c_102 => absurd c_102 (by decide)) (fun _ => ?_)
                      refine lv_iload hx hb dX6_areSuch_136 (lv_at hl 1 rfl) ?_
                      refine lv_if_eq (tgt := 146) hx hb dX6_areSuch_138 (by decide) (fun _ => ?_) (fun c_103 => absurd c_103 (by decide))
                      refine lv_iconst (v := 0) hx hb dX6_areSuch_146 (by decide) ?_
                      rw [hQ9]
                      exact W.zret (v := 0) (ty := .boolean) hx hb hr rfl (fun t ht hW => ⟨0, rfl, ⟨by decide, fun h9 => absurd h9 (by decide)⟩, ht⟩) (fun q h => by cases h) dX6_areSuch_147
                · have c_91 : x_76.toInt ≤ 999 := cv_cngt c_91
                  refine lv_iconst (v := 1) hx hb dX6_areSuch_89 (by decide) ?_
                  refine lv_goto (tgt := 94) hx hb dX6_areSuch_90 (by decide) ?_
                  refine lv_istore (lv' := [(7, .int 1), (6, .int 1), (5, .int u_4), (4, .ref n2), (3, .int x_1), (0, .ref h0), (1, .ref sl0), (2, .int 2)]) hx hb dX6_areSuch_94 hl (by decide) rfl (fun ls hl => ?_)
                  refine lv_aload hx hb dX6_areSuch_96 (lv_at hl 3 rfl) ?_
                  refine lv_iload hx hb dX6_areSuch_98 (lv_at hl 2 rfl) ?_
                  refine lv_iconst (v := 2) hx hb dX6_areSuch_100 (by decide) ?_
                  refine lv_iadd hx hb dX6_areSuch_101 ?_
                  refine lv_topi (fun x_104 ex_104 => ?_)
                  have fx_104 : x_104.toInt = u_4.toInt + 2 := by rw [ex_104]; exact cv_addI (by have : (2 : Int32).toInt = 2 := rfl; omega) (by have : (2 : Int32).toInt = 2 := rfl; omega)
                  refine va_lald hx hb hK hP 7 2 rfl rfl (vp_in_iff.mpr (by omega)) dX6_areSuch_102 ?_
                  refine lv_topl (fun x_105 ex_105 => ?_)
                  refine lv_lconst (v := 0) hx hb dX6_areSuch_103 (by decide) ?_
                  refine W.lcmp hx hb dX6_areSuch_104 ?_
                  refine lv_if_lt (tgt := 128) hx hb dX6_areSuch_105 (by decide) (fun c_106 => ?_) (fun c_106 => ?_)
                  · have c_106 : x_105.toInt < 0 := cv_clt c_106
                    refine lv_iconst (v := 0) hx hb dX6_areSuch_128 (by decide) ?_
                    refine lv_istore (lv' := [(8, .int 0), (7, .int 1), (6, .int 1), (5, .int u_4), (4, .ref n2), (3, .int x_1), (0, .ref h0), (1, .ref sl0), (2, .int 2)]) hx hb dX6_areSuch_129 hl (by decide) rfl (fun ls hl => ?_)
                    refine lv_iload hx hb dX6_areSuch_131 (lv_at hl 2 rfl) ?_
                    refine lv_if_eq (tgt := 146) hx hb dX6_areSuch_133 (by decide) (fun c_107 => absurd c_107 (by decide)) (fun _ => ?_)
                    refine lv_iload hx hb dX6_areSuch_136 (lv_at hl 1 rfl) ?_
                    refine lv_if_eq (tgt := 146) hx hb dX6_areSuch_138 (by decide) (fun c_108 => absurd c_108 (by decide)) (fun _ => ?_)
                    refine lv_iload hx hb dX6_areSuch_141 (lv_at hl 0 rfl) ?_
                    refine lv_if_ne (tgt := 148) hx hb dX6_areSuch_143 (by decide) (fun c_109 => absurd c_109 (by decide)) (fun _ => ?_)
                    refine lv_iconst (v := 0) hx hb dX6_areSuch_146 (by decide) ?_
                    rw [hQ9]
                    exact W.zret (v := 0) (ty := .boolean) hx hb hr rfl (fun t ht hW => ⟨0, rfl, ⟨by decide, fun h9 => absurd h9 (by decide)⟩, ht⟩) (fun q h => by cases h) dX6_areSuch_147
                  · have c_106 : 0 ≤ x_105.toInt := cv_cnlt c_106
                    refine lv_aload hx hb dX6_areSuch_108 (lv_at hl 3 rfl) ?_
                    refine lv_iload hx hb dX6_areSuch_110 (lv_at hl 2 rfl) ?_
                    refine lv_iconst (v := 2) hx hb dX6_areSuch_112 (by decide) ?_
                    refine lv_iadd hx hb dX6_areSuch_113 ?_
                    refine lv_topi (fun x_110 ex_110 => ?_)
                    have fx_110 : x_110.toInt = u_4.toInt + 2 := by rw [ex_110]; exact cv_addI (by have : (2 : Int32).toInt = 2 := rfl; omega) (by have : (2 : Int32).toInt = 2 := rfl; omega)
                    refine va_lald hx hb hK hP 7 2 rfl rfl (vp_in_iff.mpr (by omega)) dX6_areSuch_114 ?_
                    refine cv_topl (b := x_105) (by rw [ex_105, ex_110, ex_104]) ?_
                    refine lv_aload_n hx hb dX6_areSuch_115 rfl (lv_at hl 5 rfl) ?_
                    refine va_get (D := (dC, dI)) (ci := 2) (v := .int a_pl) (C := RX2) (T := TX2) (N := 15) hx hb hts uinX2 hown hK hP 9 rfl rfl 0 (by decide) (hts _ wd_1_82) (fun _ h9 => h9) rfl dX6_areSuch_116 ?_
                    obtain ⟨y_111, ey_111⟩ : ∃ z : Int64, z = a_pl.toInt64 := ⟨_, rfl⟩
                    have fy_111 : y_111.toInt = a_pl.toInt := by rw [ey_111]; exact Int32.toInt_toInt64 _
                    refine lv_i2l (v := y_111) hx hb dX6_areSuch_119 ey_111.symm ?_
                    refine W.lcmp hx hb dX6_areSuch_120 ?_
                    refine lv_if_ge (tgt := 128) hx hb dX6_areSuch_121 (by decide) (fun c_112 => ?_) (fun c_112 => ?_)
                    · have c_112 : y_111.toInt ≤ x_105.toInt := cv_cge c_112
                      refine lv_iconst (v := 0) hx hb dX6_areSuch_128 (by decide) ?_
                      refine lv_istore (lv' := [(8, .int 0), (7, .int 1), (6, .int 1), (5, .int u_4), (4, .ref n2), (3, .int x_1), (0, .ref h0), (1, .ref sl0), (2, .int 2)]) hx hb dX6_areSuch_129 hl (by decide) rfl (fun ls hl => ?_)
                      refine lv_iload hx hb dX6_areSuch_131 (lv_at hl 2 rfl) ?_
                      refine lv_if_eq (tgt := 146) hx hb dX6_areSuch_133 (by decide) (fun c_113 => absurd c_113 (by decide)) (fun _ => ?_)
                      refine lv_iload hx hb dX6_areSuch_136 (lv_at hl 1 rfl) ?_
                      refine lv_if_eq (tgt := 146) hx hb dX6_areSuch_138 (by decide) (fun c_114 => absurd c_114 (by decide)) (fun _ => ?_)
                      refine lv_iload hx hb dX6_areSuch_141 (lv_at hl 0 rfl) ?_
                      refine lv_if_ne (tgt := 148) hx hb dX6_areSuch_143 (by decide) (fun c_115 => absurd c_115 (by decide)) (fun _ => ?_)
                      refine lv_iconst (v := 0) hx hb dX6_areSuch_146 (by decide) ?_
                      rw [hQ9]
                      exact W.zret (v := 0) (ty := .boolean) hx hb hr rfl (fun t ht hW => ⟨0, rfl, ⟨by decide, fun h9 => absurd h9 (by decide)⟩, ht⟩) (fun q h => by cases h) dX6_areSuch_147
                    · have c_112 : x_105.toInt < y_111.toInt := cv_cnge c_112
                      refine lv_iconst (v := 1) hx hb dX6_areSuch_124 (by decide) ?_
                      refine lv_goto (tgt := 129) hx hb dX6_areSuch_125 (by decide) ?_
                      refine lv_istore (lv' := [(8, .int 1), (7, .int 1), (6, .int 1), (5, .int u_4), (4, .ref n2), (3, .int x_1), (0, .ref h0), (1, .ref sl0), (2, .int 2)]) hx hb dX6_areSuch_129 hl (by decide) rfl (fun ls hl => ?_)
                      refine lv_iload hx hb dX6_areSuch_131 (lv_at hl 2 rfl) ?_
                      refine lv_if_eq (tgt := 146) hx hb dX6_areSuch_133 (by decide) (fun c_116 => absurd c_116 (by decide)) (fun _ => ?_)
                      refine lv_iload hx hb dX6_areSuch_136 (lv_at hl 1 rfl) ?_
                      refine lv_if_eq (tgt := 146) hx hb dX6_areSuch_138 (by decide) (fun c_117 => absurd c_117 (by decide)) (fun _ => ?_)
                      refine lv_iload hx hb dX6_areSuch_141 (lv_at hl 0 rfl) ?_
                      refine lv_if_ne (tgt := 148) hx hb dX6_areSuch_143 (by decide) (fun _ => ?_) (fun c_118 => absurd c_118 (by decide))
                      obtain ⟨x_119, ex_119⟩ : ∃ y : Int32, y = u_4 + 3 := ⟨_, rfl⟩
                      refine lv_iinc (v := x_119) (lv' := [(5, .int x_119), (8, .int 1), (7, .int 1), (6, .int 1), (4, .ref n2), (3, .int x_1), (0, .ref h0), (1, .ref sl0), (2, .int 2)]) hx hb dX6_areSuch_148 hl (k := 3) rfl (by rw [ex_119]; rfl) (by decide) rfl (fun ls hl => ?_)
                      have fx_119 : x_119.toInt = u_4.toInt + 3 := by rw [ex_119]; exact cv_addI (by have : (3 : Int32).toInt = 3 := rfl; omega) (by have : (3 : Int32).toInt = 3 := rfl; omega)
                      refine lv_goto (tgt := 26) hx hb dX6_areSuch_151 (by decide) ?_
                      exact ihkey_5 x_119 _ (by omega) (by omega) (sn_step hsn9 hm9 ex_7 ex_76 ex_105 (by omega) (by omega) (by omega) (by omega) (by omega) (by omega) (by omega)) (lv_sub hl [0, 4, 5, 6, 7, 8] rfl) (by omega)
    exact key_5 _ 0 _ (by decide) (by decide) sn_zero (lv_sub hl [0, 1, 2, 3, 4, 5] rfl) (Nat.lt_succ_self _)
  · have c_3 : x_2.toInt ≠ 0 := cv_ne c_3
    refine lv_iconst (v := 0) hx hb dX6_areSuch_13 (by decide) ?_
    rw [hQ9]
    exact W.zret (v := 0) (ty := .boolean) hx hb hr rfl (fun t ht hW => ⟨0, rfl, ⟨by decide, fun h9 => absurd h9 (by decide)⟩, ht⟩) (fun q h => by cases h) dX6_areSuch_14

/- X6_areSuch -/
set_option maxHeartbeats 4000000 in
set_option maxRecDepth 100000 in
theorem n_areSuch3 (l : Launch) (dC : Nat → ClassId) (dI : Nat → Nat → Nat) (cyI cyB cyJ cyZ cyH cyN : ClassId) (sl0 sNum sLen sWid sMade n0 n1 n2 n3 : Nat) (nF : Nat → Option Nat) (s_fm s_fl s_fw : Nat → Int32) (s_n0 s_n1 s_n2 s_n3 : Nat → Int64) (h0 a_first a_now a_lawPlace a_lawOther a_lawEach a_lawFrom a_foes a_suitTable a_acts : Nat) (a_pl a_li a_le a_lc a_ac a_ng : Int32) (a_f_first a_f_now a_f_lawPlace a_f_lawOther a_f_lawEach a_f_lawFrom a_f_foes a_f_suitTable a_f_acts : Nat → Int32) (g0 : rg 0 1 4 s_fm) (g1 : rg 0 60 4 s_fl) (g2 : rg 0 3 4 s_fw) (g3 : rg 0 6 7 a_f_first) (g4 : rg 0 6 7 a_f_now) (g5 : rg 0 6 6 a_f_lawPlace) (g6 : rg 0 6 6 a_f_lawOther) (g7 : ra 40 a_f_acts) (g8 : 0 ≤ a_pl.toInt ∧ a_pl.toInt ≤ 7) (g9 : 0 ≤ a_lc.toInt ∧ a_lc.toInt ≤ 6) (g10 : 0 ≤ a_ac.toInt ∧ a_ac.toInt ≤ 40) (g11 : nF 0 = some n0) (g12 : nF 1 = some n1) (g13 : nF 2 = some n2) (g14 : nF 3 = some n3) : Met l yX6_areSuch (wk yX6_areSuch cX6_areSuch 9 (some .boolean)) ({ frames := 1, cells := 0, slots := 0, locals := 60 }) (va_Pc [.ref h0, .ref sl0, .int 3] (fun U => va_P (dC, dI) vwCl [(sl0, .inr (7, [.ref sNum, .ref sLen, .ref sWid, .ref sMade])), (sMade, .inl (cyZ, 4, .inl s_fm)), (sLen, .inl (cyI, 4, .inl s_fl)), (sWid, .inl (cyI, 4, .inl s_fw)), (sNum, .inl (cyN, 4, .inr (.inr (.inr (.inr nF))))), (n0, .inl (cyJ, 60, .inr (.inl s_n0))), (n1, .inl (cyJ, 60, .inr (.inl s_n1))), (n2, .inl (cyJ, 60, .inr (.inl s_n2))), (n3, .inl (cyJ, 60, .inr (.inl s_n3))), (h0, .inr (2, [.int a_pl, .int a_li, .int a_le, .int a_lc, .int a_ac, .int a_ng, .ref a_first, .ref a_now, .ref a_lawPlace, .ref a_lawOther, .ref a_lawEach, .ref a_lawFrom, .ref a_foes, .ref a_suitTable, .ref a_acts])), (a_first, .inl (cyI, 7, .inl a_f_first)), (a_now, .inl (cyI, 7, .inl a_f_now)), (a_lawPlace, .inl (cyI, 6, .inl a_f_lawPlace)), (a_lawOther, .inl (cyI, 6, .inl a_f_lawOther)), (a_lawEach, .inl (cyI, 6, .inl a_f_lawEach)), (a_lawFrom, .inl (cyI, 6, .inl a_f_lawFrom)), (a_foes, .inl (cyI, 7, .inl a_f_foes)), (a_suitTable, .inl (cyI, 49, .inl a_f_suitTable)), (a_acts, .inl (cyI, 40, .inl a_f_acts))] U.heap ∧ va_K (dC, dI) vwCl [(cyI, .int), (cyB, .byte), (cyJ, .long), (cyZ, .boolean), (cyH, .object RX2), (cyN, .array .long)] U)) (vp_Si (fun r : Int32 => (0 ≤ r.toInt ∧ r.toInt ≤ 1) ∧ (r.toInt = 1 → sn a_pl.toInt (s_fl 3).toInt s_n3))) 0 0 (fun _ => False) := by
  refine Met.ofW (cc := cX6_areSuch) (maxL := 9) (ret := (some .boolean)) (by decide) rfl ?_
  intro p e s m args below meth c s₁ B hml hv
  obtain ⟨rfl, hP, hK⟩ := hv
  have hx := B.exec
  have hb := B.bytes
  have hr := B.returns
  have hts : ∀ w ∈ uU, w.before ([.ref h0, .ref sl0, .int 3] : List Value).toArray s = true := fun w h => atoms_spec (ws := wk yX6_areSuch cX6_areSuch 9 (some .boolean)) B.pre w (List.mem_cons_of_mem _ h)
  have hown : s.vm.findClass RX6 = some m.cls := findClass_of_methodNamed B.named
  have hlocks := B.notSynchronized
  have hl := lv_entry ([.ref h0, .ref sl0, .int 3]) (n := 9) (Nat.le_of_ble_eq_true rfl)
  rw [lg_entry_eq]
  generalize (lg_sl ([.ref h0, .ref sl0, .int 3]) ++ List.replicate (9 - (lg_sl ([.ref h0, .ref sl0, .int 3])).length) Slot.unset).toArray = ls at hl ⊢
  have hl : lv_has ls 9 [(0, .ref h0), (1, .ref sl0), (2, .int 3)] := hl
  obtain ⟨Q9, hQ9⟩ : ∃ Q9 : State → Prop, Q9 = MQ below (vp_Si (fun r : Int32 => (0 ≤ r.toInt ∧ r.toInt ≤ 1) ∧ (r.toInt = 1 → sn a_pl.toInt (s_fl 3).toInt s_n3))) ([.ref h0, .ref sl0, .int 3] : List Value).toArray s 0 0 (fun _ => False) := ⟨_, rfl⟩
  rw [← hQ9]
  refine lv_aload_n hx hb dX6_areSuch_0 rfl (lv_at hl 1 rfl) ?_
  refine va_get (D := (dC, dI)) (ci := 7) (v := .ref sLen) (C := RX8) (T := TX8) (N := 4) hx hb hts uinX8 hown hK hP 0 rfl rfl 1 (by decide) (hts _ wd_1_169) (fun _ h9 => h9) rfl dX6_areSuch_1 ?_
  refine lv_iload_n hx hb dX6_areSuch_4 rfl (lv_at hl 2 rfl) ?_
  refine va_iald hx hb hK hP 2 0 rfl rfl (vp_in_iff.mpr (by decide)) dX6_areSuch_5 ?_
  refine lv_topi (fun x_1 ex_1 => ?_)
  have qx_1 : x_1.toInt = (s_fl 3).toInt := by rw [ex_1]; rfl
  have fx_1 : 0 ≤ x_1.toInt ∧ x_1.toInt ≤ 60 := by rw [ex_1]; exact g1 _ (cv_ix (by decide) (by decide))
  refine lv_istore_n (lv' := [(3, .int x_1), (0, .ref h0), (1, .ref sl0), (2, .int 3)]) hx hb dX6_areSuch_6 rfl hl (by decide) rfl (fun ls hl => ?_)
  refine lv_iload_n hx hb dX6_areSuch_7 rfl (lv_at hl 0 rfl) ?_
  refine lv_iconst (v := 3) hx hb dX6_areSuch_8 (by decide) ?_
  refine lv_irem hx hb dX6_areSuch_9 (by decide) ?_
  refine lv_topi (fun x_2 ex_2 => ?_)
  have fx_2 : x_2.toInt = x_1.toInt % 3 := by rw [ex_2]; exact cv_remI (by omega) (by decide)
  refine lv_if_eq (tgt := 15) hx hb dX6_areSuch_10 (by decide) (fun c_3 => ?_) (fun c_3 => ?_)
  · have c_3 : x_2.toInt = 0 := cv_eq c_3
    refine lv_aload_n hx hb dX6_areSuch_15 rfl (lv_at hl 2 rfl) ?_
    refine va_get (D := (dC, dI)) (ci := 7) (v := .ref sNum) (C := RX8) (T := TX8) (N := 4) hx hb hts uinX8 hown hK hP 0 rfl rfl 0 (by decide) (hts _ wd_1_166) (fun _ h9 => h9) rfl dX6_areSuch_16 ?_
    refine lv_iload_n hx hb dX6_areSuch_19 rfl (lv_at hl 3 rfl) ?_
    refine cv_aldA hx hb hK hP 4 5 rfl rfl (vp_in_iff.mpr (by decide)) dX6_areSuch_20 ?_
    refine cv_topr (b := .ref n3) (by rw [show (3 : Int32).toNatClampNeg = 3 from rfl, g14]; rfl) ?_
    refine lv_astore (lv' := [(4, .ref n3), (3, .int x_1), (0, .ref h0), (1, .ref sl0), (2, .int 3)]) hx hb dX6_areSuch_21 hl (by decide) rfl (fun ls hl => ?_)
    refine lv_iconst (v := 0) hx hb dX6_areSuch_23 (by decide) ?_
    refine lv_istore (lv' := [(5, .int 0), (4, .ref n3), (3, .int x_1), (0, .ref h0), (1, .ref sl0), (2, .int 3)]) hx hb dX6_areSuch_24 hl (by decide) rfl (fun ls hl => ?_)
    have key_5 : ∀ (nkey_5 : Nat) (u_4 : Int32) (ls : Array Slot), (0 ≤ u_4.toInt ∧ u_4.toInt ≤ 63) → (u_4.toInt % 3 = 0) → (sn a_pl.toInt u_4.toInt s_n3) → lv_has ls 9 [(5, .int u_4), (4, .ref n3), (3, .int x_1), (0, .ref h0), (1, .ref sl0), (2, .int 3)] → (x_1.toInt - u_4.toInt).toNat < nkey_5 → W p l e ({ frames := 1, cells := 0, slots := 0, locals := 60 }) s m ([.ref h0, .ref sl0, .int 3] : List Value).toArray below meth c s.heap [] 0 0 Q9 (F0 m 26 ls []) := by
      intro nkey_5
      induction nkey_5 with
      | zero => intro u_4 ls hu_4 hm9 hsn9 hl hnkey_5; exact absurd hnkey_5 (Nat.not_lt_zero _)
      | succ nkey_5 ihkey_5 =>
        intro u_4 ls hu_4 hm9 hsn9 hl hnkey_5
        refine lv_iload hx hb dX6_areSuch_26 (lv_at hl 0 rfl) ?_
        refine lv_iload_n hx hb dX6_areSuch_28 rfl (lv_at hl 2 rfl) ?_
        refine lv_icmp_ge (tgt := 154) hx hb dX6_areSuch_29 (by decide) (fun c_6 => ?_) (fun c_6 => ?_)
        · have c_6 : x_1.toInt ≤ u_4.toInt := cv_le c_6
          refine lv_iconst (v := 1) hx hb dX6_areSuch_154 (by decide) ?_
          rw [hQ9]
          exact W.zret (v := 1) (ty := .boolean) hx hb hr rfl (fun t ht hW => ⟨1, rfl, ⟨by decide, fun _ => sn_mono hsn9 (by omega)⟩, ht⟩) (fun q h => by cases h) dX6_areSuch_155
        · have c_6 : u_4.toInt < x_1.toInt := cv_nle c_6
          refine lv_aload hx hb dX6_areSuch_32 (lv_at hl 1 rfl) ?_
          refine lv_iload hx hb dX6_areSuch_34 (lv_at hl 0 rfl) ?_
          refine va_lald hx hb hK hP 8 2 rfl rfl (vp_in_iff.mpr (by omega)) dX6_areSuch_36 ?_
          refine lv_topl (fun x_7 ex_7 => ?_)
          refine lv_lconst (v := 0) hx hb dX6_areSuch_37 (by decide) ?_
          refine W.lcmp hx hb dX6_areSuch_38 ?_
          refine lv_if_lt (tgt := 60) hx hb dX6_areSuch_39 (by decide) (fun c_8 => ?_) (fun c_8 => ?_)
          · have c_8 : x_7.toInt < 0 := cv_clt c_8
            refine lv_iconst (v := 0) hx hb dX6_areSuch_60 (by decide) ?_
            refine lv_istore (lv' := [(6, .int 0), (5, .int u_4), (4, .ref n3), (3, .int x_1), (0, .ref h0), (1, .ref sl0), (2, .int 3)]) hx hb dX6_areSuch_61 hl (by decide) rfl (fun ls hl => ?_)
            refine lv_aload hx hb dX6_areSuch_63 (lv_at hl 2 rfl) ?_
            refine lv_iload hx hb dX6_areSuch_65 (lv_at hl 1 rfl) ?_
            refine lv_iconst (v := 1) hx hb dX6_areSuch_67 (by decide) ?_
            refine lv_iadd hx hb dX6_areSuch_68 ?_
            refine lv_topi (fun x_9 ex_9 => ?_)
            have fx_9 : x_9.toInt = u_4.toInt + 1 := by rw [ex_9]; exact cv_addI (by have : (1 : Int32).toInt = 1 := rfl; omega) (by have : (1 : Int32).toInt = 1 := rfl; omega)
            refine va_lald hx hb hK hP 8 2 rfl rfl (vp_in_iff.mpr (by omega)) dX6_areSuch_69 ?_
            refine lv_topl (fun x_10 ex_10 => ?_)
            refine lv_lconst (v := 0) hx hb dX6_areSuch_70 (by decide) ?_
            refine W.lcmp hx hb dX6_areSuch_71 ?_
            refine lv_if_lt (tgt := 93) hx hb dX6_areSuch_72 (by decide) (fun c_11 => ?_) (fun c_11 => ?_)
            · have c_11 : x_10.toInt < 0 := cv_clt c_11
              refine lv_iconst (v := 0) hx hb dX6_areSuch_93 (by decide) ?_
              refine lv_istore (lv' := [(7, .int 0), (6, .int 0), (5, .int u_4), (4, .ref n3), (3, .int x_1), (0, .ref h0), (1, .ref sl0), (2, .int 3)]) hx hb dX6_areSuch_94 hl (by decide) rfl (fun ls hl => ?_)
              refine lv_aload hx hb dX6_areSuch_96 (lv_at hl 3 rfl) ?_
              refine lv_iload hx hb dX6_areSuch_98 (lv_at hl 2 rfl) ?_
              refine lv_iconst (v := 2) hx hb dX6_areSuch_100 (by decide) ?_
              refine lv_iadd hx hb dX6_areSuch_101 ?_
              refine lv_topi (fun x_12 ex_12 => ?_)
              have fx_12 : x_12.toInt = u_4.toInt + 2 := by rw [ex_12]; exact cv_addI (by have : (2 : Int32).toInt = 2 := rfl; omega) (by have : (2 : Int32).toInt = 2 := rfl; omega)
              refine va_lald hx hb hK hP 8 2 rfl rfl (vp_in_iff.mpr (by omega)) dX6_areSuch_102 ?_
              refine lv_topl (fun x_13 ex_13 => ?_)
              refine lv_lconst (v := 0) hx hb dX6_areSuch_103 (by decide) ?_
              refine W.lcmp hx hb dX6_areSuch_104 ?_
              refine lv_if_lt (tgt := 128) hx hb dX6_areSuch_105 (by decide) (fun c_14 => ?_) (fun c_14 => ?_)
              · have c_14 : x_13.toInt < 0 := cv_clt c_14
                refine lv_iconst (v := 0) hx hb dX6_areSuch_128 (by decide) ?_
                refine lv_istore (lv' := [(8, .int 0), (7, .int 0), (6, .int 0), (5, .int u_4), (4, .ref n3), (3, .int x_1), (0, .ref h0), (1, .ref sl0), (2, .int 3)]) hx hb dX6_areSuch_129 hl (by decide) rfl (fun ls hl => ?_)
                refine lv_iload hx hb dX6_areSuch_131 (lv_at hl 2 rfl) ?_
                refine lv_if_eq (tgt := 146) hx hb dX6_areSuch_133 (by decide) (fun _ => ?_) (fun c_15 => absurd c_15 (by decide))
                refine lv_iconst (v := 0) hx hb dX6_areSuch_146 (by decide) ?_
                rw [hQ9]
                exact W.zret (v := 0) (ty := .boolean) hx hb hr rfl (fun t ht hW => ⟨0, rfl, ⟨by decide, fun h9 => absurd h9 (by decide)⟩, ht⟩) (fun q h => by cases h) dX6_areSuch_147
              · have c_14 : 0 ≤ x_13.toInt := cv_cnlt c_14
                refine lv_aload hx hb dX6_areSuch_108 (lv_at hl 3 rfl) ?_
                refine lv_iload hx hb dX6_areSuch_110 (lv_at hl 2 rfl) ?_
                refine lv_iconst (v := 2) hx hb dX6_areSuch_112 (by decide) ?_
                refine lv_iadd hx hb dX6_areSuch_113 ?_
                refine lv_topi (fun x_16 ex_16 => ?_)
                have fx_16 : x_16.toInt = u_4.toInt + 2 := by rw [ex_16]; exact cv_addI (by have : (2 : Int32).toInt = 2 := rfl; omega) (by have : (2 : Int32).toInt = 2 := rfl; omega)
                refine va_lald hx hb hK hP 8 2 rfl rfl (vp_in_iff.mpr (by omega)) dX6_areSuch_114 ?_
                refine cv_topl (b := x_13) (by rw [ex_13, ex_16, ex_12]) ?_
                refine lv_aload_n hx hb dX6_areSuch_115 rfl (lv_at hl 5 rfl) ?_
                refine va_get (D := (dC, dI)) (ci := 2) (v := .int a_pl) (C := RX2) (T := TX2) (N := 15) hx hb hts uinX2 hown hK hP 9 rfl rfl 0 (by decide) (hts _ wd_1_82) (fun _ h9 => h9) rfl dX6_areSuch_116 ?_
                obtain ⟨y_17, ey_17⟩ : ∃ z : Int64, z = a_pl.toInt64 := ⟨_, rfl⟩
                have fy_17 : y_17.toInt = a_pl.toInt := by rw [ey_17]; exact Int32.toInt_toInt64 _
                refine lv_i2l (v := y_17) hx hb dX6_areSuch_119 ey_17.symm ?_
                refine W.lcmp hx hb dX6_areSuch_120 ?_
                refine lv_if_ge (tgt := 128) hx hb dX6_areSuch_121 (by decide) (fun c_18 => ?_) (fun c_18 => ?_)
                · have c_18 : y_17.toInt ≤ x_13.toInt := cv_cge c_18
                  refine lv_iconst (v := 0) hx hb dX6_areSuch_128 (by decide) ?_
                  refine lv_istore (lv' := [(8, .int 0), (7, .int 0), (6, .int 0), (5, .int u_4), (4, .ref n3), (3, .int x_1), (0, .ref h0), (1, .ref sl0), (2, .int 3)]) hx hb dX6_areSuch_129 hl (by decide) rfl (fun ls hl => ?_)
                  refine lv_iload hx hb dX6_areSuch_131 (lv_at hl 2 rfl) ?_
                  refine lv_if_eq (tgt := 146) hx hb dX6_areSuch_133 (by decide) (fun _ => ?_) (fun c_19 => absurd c_19 (by decide))
                  refine lv_iconst (v := 0) hx hb dX6_areSuch_146 (by decide) ?_
                  rw [hQ9]
                  exact W.zret (v := 0) (ty := .boolean) hx hb hr rfl (fun t ht hW => ⟨0, rfl, ⟨by decide, fun h9 => absurd h9 (by decide)⟩, ht⟩) (fun q h => by cases h) dX6_areSuch_147
                · have c_18 : x_13.toInt < y_17.toInt := cv_cnge c_18
                  refine lv_iconst (v := 1) hx hb dX6_areSuch_124 (by decide) ?_
                  refine lv_goto (tgt := 129) hx hb dX6_areSuch_125 (by decide) ?_
                  refine lv_istore (lv' := [(8, .int 1), (7, .int 0), (6, .int 0), (5, .int u_4), (4, .ref n3), (3, .int x_1), (0, .ref h0), (1, .ref sl0), (2, .int 3)]) hx hb dX6_areSuch_129 hl (by decide) rfl (fun ls hl => ?_)
                  refine lv_iload hx hb dX6_areSuch_131 (lv_at hl 2 rfl) ?_
                  refine lv_if_eq (tgt := 146) hx hb dX6_areSuch_133 (by decide) (fun _ => ?_) (fun c_20 => absurd c_20 (by decide))
                  refine lv_iconst (v := 0) hx hb dX6_areSuch_146 (by decide) ?_
                  rw [hQ9]
                  exact W.zret (v := 0) (ty := .boolean) hx hb hr rfl (fun t ht hW => ⟨0, rfl, ⟨by decide, fun h9 => absurd h9 (by decide)⟩, ht⟩) (fun q h => by cases h) dX6_areSuch_147
            · have c_11 : 0 ≤ x_10.toInt := cv_cnlt c_11
              refine lv_aload hx hb dX6_areSuch_75 (lv_at hl 2 rfl) ?_
              refine lv_iload hx hb dX6_areSuch_77 (lv_at hl 1 rfl) ?_
              refine lv_iconst (v := 1) hx hb dX6_areSuch_79 (by decide) ?_
              refine lv_iadd hx hb dX6_areSuch_80 ?_
              refine lv_topi (fun x_21 ex_21 => ?_)
              have fx_21 : x_21.toInt = u_4.toInt + 1 := by rw [ex_21]; exact cv_addI (by have : (1 : Int32).toInt = 1 := rfl; omega) (by have : (1 : Int32).toInt = 1 := rfl; omega)
              refine va_lald hx hb hK hP 8 2 rfl rfl (vp_in_iff.mpr (by omega)) dX6_areSuch_81 ?_
              refine cv_topl (b := x_10) (by rw [ex_10, ex_21, ex_9]) ?_
              refine lv_ldc2 (v := 999) hx hb hown (hts _ wd_4_184) dX6_areSuch_82 ?_
              refine W.lcmp hx hb dX6_areSuch_85 ?_
              refine lv_if_gt (tgt := 93) hx hb dX6_areSuch_86 (by decide) (fun c_22 => ?_) (fun c_22 => ?_)
              · have c_22 : 999 < x_10.toInt := cv_cgt c_22
                refine lv_iconst (v := 0) hx hb dX6_areSuch_93 (by decide) ?_
                refine lv_istore (lv' := [(7, .int 0), (6, .int 0), (5, .int u_4), (4, .ref n3), (3, .int x_1), (0, .ref h0), (1, .ref sl0), (2, .int 3)]) hx hb dX6_areSuch_94 hl (by decide) rfl (fun ls hl => ?_)
                refine lv_aload hx hb dX6_areSuch_96 (lv_at hl 3 rfl) ?_
                refine lv_iload hx hb dX6_areSuch_98 (lv_at hl 2 rfl) ?_
                refine lv_iconst (v := 2) hx hb dX6_areSuch_100 (by decide) ?_
                refine lv_iadd hx hb dX6_areSuch_101 ?_
                refine lv_topi (fun x_23 ex_23 => ?_)
                have fx_23 : x_23.toInt = u_4.toInt + 2 := by rw [ex_23]; exact cv_addI (by have : (2 : Int32).toInt = 2 := rfl; omega) (by have : (2 : Int32).toInt = 2 := rfl; omega)
                refine va_lald hx hb hK hP 8 2 rfl rfl (vp_in_iff.mpr (by omega)) dX6_areSuch_102 ?_
                refine lv_topl (fun x_24 ex_24 => ?_)
                refine lv_lconst (v := 0) hx hb dX6_areSuch_103 (by decide) ?_
                refine W.lcmp hx hb dX6_areSuch_104 ?_
                refine lv_if_lt (tgt := 128) hx hb dX6_areSuch_105 (by decide) (fun c_25 => ?_) (fun c_25 => ?_)
                · have c_25 : x_24.toInt < 0 := cv_clt c_25
                  refine lv_iconst (v := 0) hx hb dX6_areSuch_128 (by decide) ?_
                  refine lv_istore (lv' := [(8, .int 0), (7, .int 0), (6, .int 0), (5, .int u_4), (4, .ref n3), (3, .int x_1), (0, .ref h0), (1, .ref sl0), (2, .int 3)]) hx hb dX6_areSuch_129 hl (by decide) rfl (fun ls hl => ?_)
                  refine lv_iload hx hb dX6_areSuch_131 (lv_at hl 2 rfl) ?_
                  refine lv_if_eq (tgt := 146) hx hb dX6_areSuch_133 (by decide) (fun _ => ?_) (fun c_26 => absurd c_26 (by decide))
                  refine lv_iconst (v := 0) hx hb dX6_areSuch_146 (by decide) ?_
                  rw [hQ9]
                  exact W.zret (v := 0) (ty := .boolean) hx hb hr rfl (fun t ht hW => ⟨0, rfl, ⟨by decide, fun h9 => absurd h9 (by decide)⟩, ht⟩) (fun q h => by cases h) dX6_areSuch_147
                · have c_25 : 0 ≤ x_24.toInt := cv_cnlt c_25
                  refine lv_aload hx hb dX6_areSuch_108 (lv_at hl 3 rfl) ?_
                  refine lv_iload hx hb dX6_areSuch_110 (lv_at hl 2 rfl) ?_
                  refine lv_iconst (v := 2) hx hb dX6_areSuch_112 (by decide) ?_
                  refine lv_iadd hx hb dX6_areSuch_113 ?_
                  refine lv_topi (fun x_27 ex_27 => ?_)
                  have fx_27 : x_27.toInt = u_4.toInt + 2 := by rw [ex_27]; exact cv_addI (by have : (2 : Int32).toInt = 2 := rfl; omega) (by have : (2 : Int32).toInt = 2 := rfl; omega)
                  refine va_lald hx hb hK hP 8 2 rfl rfl (vp_in_iff.mpr (by omega)) dX6_areSuch_114 ?_
                  refine cv_topl (b := x_24) (by rw [ex_24, ex_27, ex_23]) ?_
                  refine lv_aload_n hx hb dX6_areSuch_115 rfl (lv_at hl 5 rfl) ?_
                  refine va_get (D := (dC, dI)) (ci := 2) (v := .int a_pl) (C := RX2) (T := TX2) (N := 15) hx hb hts uinX2 hown hK hP 9 rfl rfl 0 (by decide) (hts _ wd_1_82) (fun _ h9 => h9) rfl dX6_areSuch_116 ?_
                  obtain ⟨y_28, ey_28⟩ : ∃ z : Int64, z = a_pl.toInt64 := ⟨_, rfl⟩
                  have fy_28 : y_28.toInt = a_pl.toInt := by rw [ey_28]; exact Int32.toInt_toInt64 _
                  refine lv_i2l (v := y_28) hx hb dX6_areSuch_119 ey_28.symm ?_
                  refine W.lcmp hx hb dX6_areSuch_120 ?_
                  refine lv_if_ge (tgt := 128) hx hb dX6_areSuch_121 (by decide) (fun c_29 => ?_) (fun c_29 => ?_)
                  · have c_29 : y_28.toInt ≤ x_24.toInt := cv_cge c_29
                    refine lv_iconst (v := 0) hx hb dX6_areSuch_128 (by decide) ?_
                    refine lv_istore (lv' := [(8, .int 0), (7, .int 0), (6, .int 0), (5, .int u_4), (4, .ref n3), (3, .int x_1), (0, .ref h0), (1, .ref sl0), (2, .int 3)]) hx hb dX6_areSuch_129 hl (by decide) rfl (fun ls hl => ?_)
                    refine lv_iload hx hb dX6_areSuch_131 (lv_at hl 2 rfl) ?_
                    refine lv_if_eq (tgt := 146) hx hb dX6_areSuch_133 (by decide) (fun _ => ?_) (fun c_30 => absurd c_30 (by decide))
                    refine lv_iconst (v := 0) hx hb dX6_areSuch_146 (by decide) ?_
                    rw [hQ9]
                    exact W.zret (v := 0) (ty := .boolean) hx hb hr rfl (fun t ht hW => ⟨0, rfl, ⟨by decide, fun h9 => absurd h9 (by decide)⟩, ht⟩) (fun q h => by cases h) dX6_areSuch_147
                  · have c_29 : x_24.toInt < y_28.toInt := cv_cnge c_29
                    refine lv_iconst (v := 1) hx hb dX6_areSuch_124 (by decide) ?_
                    refine lv_goto (tgt := 129) hx hb dX6_areSuch_125 (by decide) ?_
                    refine lv_istore (lv' := [(8, .int 1), (7, .int 0), (6, .int 0), (5, .int u_4), (4, .ref n3), (3, .int x_1), (0, .ref h0), (1, .ref sl0), (2, .int 3)]) hx hb dX6_areSuch_129 hl (by decide) rfl (fun ls hl => ?_)
                    refine lv_iload hx hb dX6_areSuch_131 (lv_at hl 2 rfl) ?_
                    refine lv_if_eq (tgt := 146) hx hb dX6_areSuch_133 (by decide) (fun _ => ?_) (fun c_31 => absurd c_31 (by decide))
                    refine lv_iconst (v := 0) hx hb dX6_areSuch_146 (by decide) ?_
                    rw [hQ9]
                    exact W.zret (v := 0) (ty := .boolean) hx hb hr rfl (fun t ht hW => ⟨0, rfl, ⟨by decide, fun h9 => absurd h9 (by decide)⟩, ht⟩) (fun q h => by cases h) dX6_areSuch_147
              · have c_22 : x_10.toInt ≤ 999 := cv_cngt c_22
                refine lv_iconst (v := 1) hx hb dX6_areSuch_89 (by decide) ?_
                refine lv_goto (tgt := 94) hx hb dX6_areSuch_90 (by decide) ?_
                refine lv_istore (lv' := [(7, .int 1), (6, .int 0), (5, .int u_4), (4, .ref n3), (3, .int x_1), (0, .ref h0), (1, .ref sl0), (2, .int 3)]) hx hb dX6_areSuch_94 hl (by decide) rfl (fun ls hl => ?_)
                refine lv_aload hx hb dX6_areSuch_96 (lv_at hl 3 rfl) ?_
                refine lv_iload hx hb dX6_areSuch_98 (lv_at hl 2 rfl) ?_
                refine lv_iconst (v := 2) hx hb dX6_areSuch_100 (by decide) ?_
                refine lv_iadd hx hb dX6_areSuch_101 ?_
                refine lv_topi (fun x_32 ex_32 => ?_)
                have fx_32 : x_32.toInt = u_4.toInt + 2 := by rw [ex_32]; exact cv_addI (by have : (2 : Int32).toInt = 2 := rfl; omega) (by have : (2 : Int32).toInt = 2 := rfl; omega)
                refine va_lald hx hb hK hP 8 2 rfl rfl (vp_in_iff.mpr (by omega)) dX6_areSuch_102 ?_
                refine lv_topl (fun x_33 ex_33 => ?_)
                refine lv_lconst (v := 0) hx hb dX6_areSuch_103 (by decide) ?_
                refine W.lcmp hx hb dX6_areSuch_104 ?_
                refine lv_if_lt (tgt := 128) hx hb dX6_areSuch_105 (by decide) (fun c_34 => ?_) (fun c_34 => ?_)
                · have c_34 : x_33.toInt < 0 := cv_clt c_34
                  refine lv_iconst (v := 0) hx hb dX6_areSuch_128 (by decide) ?_
                  refine lv_istore (lv' := [(8, .int 0), (7, .int 1), (6, .int 0), (5, .int u_4), (4, .ref n3), (3, .int x_1), (0, .ref h0), (1, .ref sl0), (2, .int 3)]) hx hb dX6_areSuch_129 hl (by decide) rfl (fun ls hl => ?_)
                  refine lv_iload hx hb dX6_areSuch_131 (lv_at hl 2 rfl) ?_
                  refine lv_if_eq (tgt := 146) hx hb dX6_areSuch_133 (by decide) (fun _ => ?_) (fun c_35 => absurd c_35 (by decide))
                  refine lv_iconst (v := 0) hx hb dX6_areSuch_146 (by decide) ?_
                  rw [hQ9]
                  exact W.zret (v := 0) (ty := .boolean) hx hb hr rfl (fun t ht hW => ⟨0, rfl, ⟨by decide, fun h9 => absurd h9 (by decide)⟩, ht⟩) (fun q h => by cases h) dX6_areSuch_147
                · have c_34 : 0 ≤ x_33.toInt := cv_cnlt c_34
                  refine lv_aload hx hb dX6_areSuch_108 (lv_at hl 3 rfl) ?_
                  refine lv_iload hx hb dX6_areSuch_110 (lv_at hl 2 rfl) ?_
                  refine lv_iconst (v := 2) hx hb dX6_areSuch_112 (by decide) ?_
                  refine lv_iadd hx hb dX6_areSuch_113 ?_
                  refine lv_topi (fun x_36 ex_36 => ?_)
                  have fx_36 : x_36.toInt = u_4.toInt + 2 := by rw [ex_36]; exact cv_addI (by have : (2 : Int32).toInt = 2 := rfl; omega) (by have : (2 : Int32).toInt = 2 := rfl; omega)
                  refine va_lald hx hb hK hP 8 2 rfl rfl (vp_in_iff.mpr (by omega)) dX6_areSuch_114 ?_
                  refine cv_topl (b := x_33) (by rw [ex_33, ex_36, ex_32]) ?_
                  refine lv_aload_n hx hb dX6_areSuch_115 rfl (lv_at hl 5 rfl) ?_
                  refine va_get (D := (dC, dI)) (ci := 2) (v := .int a_pl) (C := RX2) (T := TX2) (N := 15) hx hb hts uinX2 hown hK hP 9 rfl rfl 0 (by decide) (hts _ wd_1_82) (fun _ h9 => h9) rfl dX6_areSuch_116 ?_
                  obtain ⟨y_37, ey_37⟩ : ∃ z : Int64, z = a_pl.toInt64 := ⟨_, rfl⟩
                  have fy_37 : y_37.toInt = a_pl.toInt := by rw [ey_37]; exact Int32.toInt_toInt64 _
                  refine lv_i2l (v := y_37) hx hb dX6_areSuch_119 ey_37.symm ?_
                  refine W.lcmp hx hb dX6_areSuch_120 ?_
                  refine lv_if_ge (tgt := 128) hx hb dX6_areSuch_121 (by decide) (fun c_38 => ?_) (fun c_38 => ?_)
                  · have c_38 : y_37.toInt ≤ x_33.toInt := cv_cge c_38
                    refine lv_iconst (v := 0) hx hb dX6_areSuch_128 (by decide) ?_
                    refine lv_istore (lv' := [(8, .int 0), (7, .int 1), (6, .int 0), (5, .int u_4), (4, .ref n3), (3, .int x_1), (0, .ref h0), (1, .ref sl0), (2, .int 3)]) hx hb dX6_areSuch_129 hl (by decide) rfl (fun ls hl => ?_)
                    refine lv_iload hx hb dX6_areSuch_131 (lv_at hl 2 rfl) ?_
                    refine lv_if_eq (tgt := 146) hx hb dX6_areSuch_133 (by decide) (fun _ => ?_) (fun c_39 => absurd c_39 (by decide))
                    refine lv_iconst (v := 0) hx hb dX6_areSuch_146 (by decide) ?_
                    rw [hQ9]
                    exact W.zret (v := 0) (ty := .boolean) hx hb hr rfl (fun t ht hW => ⟨0, rfl, ⟨by decide, fun h9 => absurd h9 (by decide)⟩, ht⟩) (fun q h => by cases h) dX6_areSuch_147
                  · have c_38 : x_33.toInt < y_37.toInt := cv_cnge c_38
                    refine lv_iconst (v := 1) hx hb dX6_areSuch_124 (by decide) ?_
                    refine lv_goto (tgt := 129) hx hb dX6_areSuch_125 (by decide) ?_
                    refine lv_istore (lv' := [(8, .int 1), (7, .int 1), (6, .int 0), (5, .int u_4), (4, .ref n3), (3, .int x_1), (0, .ref h0), (1, .ref sl0), (2, .int 3)]) hx hb dX6_areSuch_129 hl (by decide) rfl (fun ls hl => ?_)
                    refine lv_iload hx hb dX6_areSuch_131 (lv_at hl 2 rfl) ?_
                    refine lv_if_eq (tgt := 146) hx hb dX6_areSuch_133 (by decide) (fun _ => ?_) (fun c_40 => absurd c_40 (by decide))
                    refine lv_iconst (v := 0) hx hb dX6_areSuch_146 (by decide) ?_
                    rw [hQ9]
                    exact W.zret (v := 0) (ty := .boolean) hx hb hr rfl (fun t ht hW => ⟨0, rfl, ⟨by decide, fun h9 => absurd h9 (by decide)⟩, ht⟩) (fun q h => by cases h) dX6_areSuch_147
          · have c_8 : 0 ≤ x_7.toInt := cv_cnlt c_8
            refine lv_aload hx hb dX6_areSuch_42 (lv_at hl 1 rfl) ?_
            refine lv_iload hx hb dX6_areSuch_44 (lv_at hl 0 rfl) ?_
            refine va_lald hx hb hK hP 8 2 rfl rfl (vp_in_iff.mpr (by omega)) dX6_areSuch_46 ?_
            refine cv_topl (b := x_7) ex_7.symm ?_
            refine lv_aload_n hx hb dX6_areSuch_47 rfl (lv_at hl 3 rfl) ?_
            refine va_get (D := (dC, dI)) (ci := 2) (v := .int a_pl) (C := RX2) (T := TX2) (N := 15) hx hb hts uinX2 hown hK hP 9 rfl rfl 0 (by decide) (hts _ wd_1_82) (fun _ h9 => h9) rfl dX6_areSuch_48 ?_
            obtain ⟨y_41, ey_41⟩ : ∃ z : Int64, z = a_pl.toInt64 := ⟨_, rfl⟩
            have fy_41 : y_41.toInt = a_pl.toInt := by rw [ey_41]; exact Int32.toInt_toInt64 _
            refine lv_i2l (v := y_41) hx hb dX6_areSuch_51 ey_41.symm ?_
            refine W.lcmp hx hb dX6_areSuch_52 ?_
            refine lv_if_ge (tgt := 60) hx hb dX6_areSuch_53 (by decide) (fun c_42 => ?_) (fun c_42 => ?_)
            · have c_42 : y_41.toInt ≤ x_7.toInt := cv_cge c_42
              refine lv_iconst (v := 0) hx hb dX6_areSuch_60 (by decide) ?_
              refine lv_istore (lv' := [(6, .int 0), (5, .int u_4), (4, .ref n3), (3, .int x_1), (0, .ref h0), (1, .ref sl0), (2, .int 3)]) hx hb dX6_areSuch_61 hl (by decide) rfl (fun ls hl => ?_)
              refine lv_aload hx hb dX6_areSuch_63 (lv_at hl 2 rfl) ?_
              refine lv_iload hx hb dX6_areSuch_65 (lv_at hl 1 rfl) ?_
              refine lv_iconst (v := 1) hx hb dX6_areSuch_67 (by decide) ?_
              refine lv_iadd hx hb dX6_areSuch_68 ?_
              refine lv_topi (fun x_43 ex_43 => ?_)
              have fx_43 : x_43.toInt = u_4.toInt + 1 := by rw [ex_43]; exact cv_addI (by have : (1 : Int32).toInt = 1 := rfl; omega) (by have : (1 : Int32).toInt = 1 := rfl; omega)
              refine va_lald hx hb hK hP 8 2 rfl rfl (vp_in_iff.mpr (by omega)) dX6_areSuch_69 ?_
              refine lv_topl (fun x_44 ex_44 => ?_)
              refine lv_lconst (v := 0) hx hb dX6_areSuch_70 (by decide) ?_
              refine W.lcmp hx hb dX6_areSuch_71 ?_
              refine lv_if_lt (tgt := 93) hx hb dX6_areSuch_72 (by decide) (fun c_45 => ?_) (fun c_45 => ?_)
              · have c_45 : x_44.toInt < 0 := cv_clt c_45
                refine lv_iconst (v := 0) hx hb dX6_areSuch_93 (by decide) ?_
                refine lv_istore (lv' := [(7, .int 0), (6, .int 0), (5, .int u_4), (4, .ref n3), (3, .int x_1), (0, .ref h0), (1, .ref sl0), (2, .int 3)]) hx hb dX6_areSuch_94 hl (by decide) rfl (fun ls hl => ?_)
                refine lv_aload hx hb dX6_areSuch_96 (lv_at hl 3 rfl) ?_
                refine lv_iload hx hb dX6_areSuch_98 (lv_at hl 2 rfl) ?_
                refine lv_iconst (v := 2) hx hb dX6_areSuch_100 (by decide) ?_
                refine lv_iadd hx hb dX6_areSuch_101 ?_
                refine lv_topi (fun x_46 ex_46 => ?_)
                have fx_46 : x_46.toInt = u_4.toInt + 2 := by rw [ex_46]; exact cv_addI (by have : (2 : Int32).toInt = 2 := rfl; omega) (by have : (2 : Int32).toInt = 2 := rfl; omega)
                refine va_lald hx hb hK hP 8 2 rfl rfl (vp_in_iff.mpr (by omega)) dX6_areSuch_102 ?_
                refine lv_topl (fun x_47 ex_47 => ?_)
                refine lv_lconst (v := 0) hx hb dX6_areSuch_103 (by decide) ?_
                refine W.lcmp hx hb dX6_areSuch_104 ?_
                refine lv_if_lt (tgt := 128) hx hb dX6_areSuch_105 (by decide) (fun c_48 => ?_) (fun c_48 => ?_)
                · have c_48 : x_47.toInt < 0 := cv_clt c_48
                  refine lv_iconst (v := 0) hx hb dX6_areSuch_128 (by decide) ?_
                  refine lv_istore (lv' := [(8, .int 0), (7, .int 0), (6, .int 0), (5, .int u_4), (4, .ref n3), (3, .int x_1), (0, .ref h0), (1, .ref sl0), (2, .int 3)]) hx hb dX6_areSuch_129 hl (by decide) rfl (fun ls hl => ?_)
                  refine lv_iload hx hb dX6_areSuch_131 (lv_at hl 2 rfl) ?_
                  refine lv_if_eq (tgt := 146) hx hb dX6_areSuch_133 (by decide) (fun _ => ?_) (fun c_49 => absurd c_49 (by decide))
                  refine lv_iconst (v := 0) hx hb dX6_areSuch_146 (by decide) ?_
                  rw [hQ9]
                  exact W.zret (v := 0) (ty := .boolean) hx hb hr rfl (fun t ht hW => ⟨0, rfl, ⟨by decide, fun h9 => absurd h9 (by decide)⟩, ht⟩) (fun q h => by cases h) dX6_areSuch_147
                · have c_48 : 0 ≤ x_47.toInt := cv_cnlt c_48
                  refine lv_aload hx hb dX6_areSuch_108 (lv_at hl 3 rfl) ?_
                  refine lv_iload hx hb dX6_areSuch_110 (lv_at hl 2 rfl) ?_
                  refine lv_iconst (v := 2) hx hb dX6_areSuch_112 (by decide) ?_
                  refine lv_iadd hx hb dX6_areSuch_113 ?_
                  refine lv_topi (fun x_50 ex_50 => ?_)
                  have fx_50 : x_50.toInt = u_4.toInt + 2 := by rw [ex_50]; exact cv_addI (by have : (2 : Int32).toInt = 2 := rfl; omega) (by have : (2 : Int32).toInt = 2 := rfl; omega)
                  refine va_lald hx hb hK hP 8 2 rfl rfl (vp_in_iff.mpr (by omega)) dX6_areSuch_114 ?_
                  refine cv_topl (b := x_47) (by rw [ex_47, ex_50, ex_46]) ?_
                  refine lv_aload_n hx hb dX6_areSuch_115 rfl (lv_at hl 5 rfl) ?_
                  refine va_get (D := (dC, dI)) (ci := 2) (v := .int a_pl) (C := RX2) (T := TX2) (N := 15) hx hb hts uinX2 hown hK hP 9 rfl rfl 0 (by decide) (hts _ wd_1_82) (fun _ h9 => h9) rfl dX6_areSuch_116 ?_
                  obtain ⟨y_51, ey_51⟩ : ∃ z : Int64, z = a_pl.toInt64 := ⟨_, rfl⟩
                  have fy_51 : y_51.toInt = a_pl.toInt := by rw [ey_51]; exact Int32.toInt_toInt64 _
                  refine lv_i2l (v := y_51) hx hb dX6_areSuch_119 ey_51.symm ?_
                  refine W.lcmp hx hb dX6_areSuch_120 ?_
                  refine lv_if_ge (tgt := 128) hx hb dX6_areSuch_121 (by decide) (fun c_52 => ?_) (fun c_52 => ?_)
                  · have c_52 : y_51.toInt ≤ x_47.toInt := cv_cge c_52
                    refine lv_iconst (v := 0) hx hb dX6_areSuch_128 (by decide) ?_
                    refine lv_istore (lv' := [(8, .int 0), (7, .int 0), (6, .int 0), (5, .int u_4), (4, .ref n3), (3, .int x_1), (0, .ref h0), (1, .ref sl0), (2, .int 3)]) hx hb dX6_areSuch_129 hl (by decide) rfl (fun ls hl => ?_)
                    refine lv_iload hx hb dX6_areSuch_131 (lv_at hl 2 rfl) ?_
                    refine lv_if_eq (tgt := 146) hx hb dX6_areSuch_133 (by decide) (fun _ => ?_) (fun c_53 => absurd c_53 (by decide))
                    refine lv_iconst (v := 0) hx hb dX6_areSuch_146 (by decide) ?_
                    rw [hQ9]
                    exact W.zret (v := 0) (ty := .boolean) hx hb hr rfl (fun t ht hW => ⟨0, rfl, ⟨by decide, fun h9 => absurd h9 (by decide)⟩, ht⟩) (fun q h => by cases h) dX6_areSuch_147
                  · have c_52 : x_47.toInt < y_51.toInt := cv_cnge c_52
                    refine lv_iconst (v := 1) hx hb dX6_areSuch_124 (by decide) ?_
                    refine lv_goto (tgt := 129) hx hb dX6_areSuch_125 (by decide) ?_
                    refine lv_istore (lv' := [(8, .int 1), (7, .int 0), (6, .int 0), (5, .int u_4), (4, .ref n3), (3, .int x_1), (0, .ref h0), (1, .ref sl0), (2, .int 3)]) hx hb dX6_areSuch_129 hl (by decide) rfl (fun ls hl => ?_)
                    refine lv_iload hx hb dX6_areSuch_131 (lv_at hl 2 rfl) ?_
                    refine lv_if_eq (tgt := 146) hx hb dX6_areSuch_133 (by decide) (fun _ => ?_) (fun c_54 => absurd c_54 (by decide))
                    refine lv_iconst (v := 0) hx hb dX6_areSuch_146 (by decide) ?_
                    rw [hQ9]
                    exact W.zret (v := 0) (ty := .boolean) hx hb hr rfl (fun t ht hW => ⟨0, rfl, ⟨by decide, fun h9 => absurd h9 (by decide)⟩, ht⟩) (fun q h => by cases h) dX6_areSuch_147
              · have c_45 : 0 ≤ x_44.toInt := cv_cnlt c_45
                refine lv_aload hx hb dX6_areSuch_75 (lv_at hl 2 rfl) ?_
                refine lv_iload hx hb dX6_areSuch_77 (lv_at hl 1 rfl) ?_
                refine lv_iconst (v := 1) hx hb dX6_areSuch_79 (by decide) ?_
                refine lv_iadd hx hb dX6_areSuch_80 ?_
                refine lv_topi (fun x_55 ex_55 => ?_)
                have fx_55 : x_55.toInt = u_4.toInt + 1 := by rw [ex_55]; exact cv_addI (by have : (1 : Int32).toInt = 1 := rfl; omega) (by have : (1 : Int32).toInt = 1 := rfl; omega)
                refine va_lald hx hb hK hP 8 2 rfl rfl (vp_in_iff.mpr (by omega)) dX6_areSuch_81 ?_
                refine cv_topl (b := x_44) (by rw [ex_44, ex_55, ex_43]) ?_
                refine lv_ldc2 (v := 999) hx hb hown (hts _ wd_4_184) dX6_areSuch_82 ?_
                refine W.lcmp hx hb dX6_areSuch_85 ?_
                refine lv_if_gt (tgt := 93) hx hb dX6_areSuch_86 (by decide) (fun c_56 => ?_) (fun c_56 => ?_)
                · have c_56 : 999 < x_44.toInt := cv_cgt c_56
                  refine lv_iconst (v := 0) hx hb dX6_areSuch_93 (by decide) ?_
                  refine lv_istore (lv' := [(7, .int 0), (6, .int 0), (5, .int u_4), (4, .ref n3), (3, .int x_1), (0, .ref h0), (1, .ref sl0), (2, .int 3)]) hx hb dX6_areSuch_94 hl (by decide) rfl (fun ls hl => ?_)
                  refine lv_aload hx hb dX6_areSuch_96 (lv_at hl 3 rfl) ?_
                  refine lv_iload hx hb dX6_areSuch_98 (lv_at hl 2 rfl) ?_
                  refine lv_iconst (v := 2) hx hb dX6_areSuch_100 (by decide) ?_
                  refine lv_iadd hx hb dX6_areSuch_101 ?_
                  refine lv_topi (fun x_57 ex_57 => ?_)
                  have fx_57 : x_57.toInt = u_4.toInt + 2 := by rw [ex_57]; exact cv_addI (by have : (2 : Int32).toInt = 2 := rfl; omega) (by have : (2 : Int32).toInt = 2 := rfl; omega)
                  refine va_lald hx hb hK hP 8 2 rfl rfl (vp_in_iff.mpr (by omega)) dX6_areSuch_102 ?_
                  refine lv_topl (fun x_58 ex_58 => ?_)
                  refine lv_lconst (v := 0) hx hb dX6_areSuch_103 (by decide) ?_
                  refine W.lcmp hx hb dX6_areSuch_104 ?_
                  refine lv_if_lt (tgt := 128) hx hb dX6_areSuch_105 (by decide) (fun c_59 => ?_) (fun c_59 => ?_)
                  · have c_59 : x_58.toInt < 0 := cv_clt c_59
                    refine lv_iconst (v := 0) hx hb dX6_areSuch_128 (by decide) ?_
                    refine lv_istore (lv' := [(8, .int 0), (7, .int 0), (6, .int 0), (5, .int u_4), (4, .ref n3), (3, .int x_1), (0, .ref h0), (1, .ref sl0), (2, .int 3)]) hx hb dX6_areSuch_129 hl (by decide) rfl (fun ls hl => ?_)
                    refine lv_iload hx hb dX6_areSuch_131 (lv_at hl 2 rfl) ?_
                    refine lv_if_eq (tgt := 146) hx hb dX6_areSuch_133 (by decide) (fun _ => ?_) (fun c_60 => absurd c_60 (by decide))
                    refine lv_iconst (v := 0) hx hb dX6_areSuch_146 (by decide) ?_
                    rw [hQ9]
                    exact W.zret (v := 0) (ty := .boolean) hx hb hr rfl (fun t ht hW => ⟨0, rfl, ⟨by decide, fun h9 => absurd h9 (by decide)⟩, ht⟩) (fun q h => by cases h) dX6_areSuch_147
                  · have c_59 : 0 ≤ x_58.toInt := cv_cnlt c_59
                    refine lv_aload hx hb dX6_areSuch_108 (lv_at hl 3 rfl) ?_
                    refine lv_iload hx hb dX6_areSuch_110 (lv_at hl 2 rfl) ?_
                    refine lv_iconst (v := 2) hx hb dX6_areSuch_112 (by decide) ?_
                    refine lv_iadd hx hb dX6_areSuch_113 ?_
                    refine lv_topi (fun x_61 ex_61 => ?_)
                    have fx_61 : x_61.toInt = u_4.toInt + 2 := by rw [ex_61]; exact cv_addI (by have : (2 : Int32).toInt = 2 := rfl; omega) (by have : (2 : Int32).toInt = 2 := rfl; omega)
                    refine va_lald hx hb hK hP 8 2 rfl rfl (vp_in_iff.mpr (by omega)) dX6_areSuch_114 ?_
                    refine cv_topl (b := x_58) (by rw [ex_58, ex_61, ex_57]) ?_
                    refine lv_aload_n hx hb dX6_areSuch_115 rfl (lv_at hl 5 rfl) ?_
                    refine va_get (D := (dC, dI)) (ci := 2) (v := .int a_pl) (C := RX2) (T := TX2) (N := 15) hx hb hts uinX2 hown hK hP 9 rfl rfl 0 (by decide) (hts _ wd_1_82) (fun _ h9 => h9) rfl dX6_areSuch_116 ?_
                    obtain ⟨y_62, ey_62⟩ : ∃ z : Int64, z = a_pl.toInt64 := ⟨_, rfl⟩
                    have fy_62 : y_62.toInt = a_pl.toInt := by rw [ey_62]; exact Int32.toInt_toInt64 _
                    refine lv_i2l (v := y_62) hx hb dX6_areSuch_119 ey_62.symm ?_
                    refine W.lcmp hx hb dX6_areSuch_120 ?_
                    refine lv_if_ge (tgt := 128) hx hb dX6_areSuch_121 (by decide) (fun c_63 => ?_) (fun c_63 => ?_)
                    · have c_63 : y_62.toInt ≤ x_58.toInt := cv_cge c_63
                      refine lv_iconst (v := 0) hx hb dX6_areSuch_128 (by decide) ?_
                      refine lv_istore (lv' := [(8, .int 0), (7, .int 0), (6, .int 0), (5, .int u_4), (4, .ref n3), (3, .int x_1), (0, .ref h0), (1, .ref sl0), (2, .int 3)]) hx hb dX6_areSuch_129 hl (by decide) rfl (fun ls hl => ?_)
                      refine lv_iload hx hb dX6_areSuch_131 (lv_at hl 2 rfl) ?_
                      refine lv_if_eq (tgt := 146) hx hb dX6_areSuch_133 (by decide) (fun _ => ?_) (fun c_64 => absurd c_64 (by decide))
                      refine lv_iconst (v := 0) hx hb dX6_areSuch_146 (by decide) ?_
                      rw [hQ9]
                      exact W.zret (v := 0) (ty := .boolean) hx hb hr rfl (fun t ht hW => ⟨0, rfl, ⟨by decide, fun h9 => absurd h9 (by decide)⟩, ht⟩) (fun q h => by cases h) dX6_areSuch_147
                    · have c_63 : x_58.toInt < y_62.toInt := cv_cnge c_63
                      refine lv_iconst (v := 1) hx hb dX6_areSuch_124 (by decide) ?_
                      refine lv_goto (tgt := 129) hx hb dX6_areSuch_125 (by decide) ?_
                      refine lv_istore (lv' := [(8, .int 1), (7, .int 0), (6, .int 0), (5, .int u_4), (4, .ref n3), (3, .int x_1), (0, .ref h0), (1, .ref sl0), (2, .int 3)]) hx hb dX6_areSuch_129 hl (by decide) rfl (fun ls hl => ?_)
                      refine lv_iload hx hb dX6_areSuch_131 (lv_at hl 2 rfl) ?_
                      refine lv_if_eq (tgt := 146) hx hb dX6_areSuch_133 (by decide) (fun _ => ?_) (fun c_65 => absurd c_65 (by decide))
                      refine lv_iconst (v := 0) hx hb dX6_areSuch_146 (by decide) ?_
                      rw [hQ9]
                      exact W.zret (v := 0) (ty := .boolean) hx hb hr rfl (fun t ht hW => ⟨0, rfl, ⟨by decide, fun h9 => absurd h9 (by decide)⟩, ht⟩) (fun q h => by cases h) dX6_areSuch_147
                · have c_56 : x_44.toInt ≤ 999 := cv_cngt c_56
                  refine lv_iconst (v := 1) hx hb dX6_areSuch_89 (by decide) ?_
                  refine lv_goto (tgt := 94) hx hb dX6_areSuch_90 (by decide) ?_
                  refine lv_istore (lv' := [(7, .int 1), (6, .int 0), (5, .int u_4), (4, .ref n3), (3, .int x_1), (0, .ref h0), (1, .ref sl0), (2, .int 3)]) hx hb dX6_areSuch_94 hl (by decide) rfl (fun ls hl => ?_)
                  refine lv_aload hx hb dX6_areSuch_96 (lv_at hl 3 rfl) ?_
                  refine lv_iload hx hb dX6_areSuch_98 (lv_at hl 2 rfl) ?_
                  refine lv_iconst (v := 2) hx hb dX6_areSuch_100 (by decide) ?_
                  refine lv_iadd hx hb dX6_areSuch_101 ?_
                  refine lv_topi (fun x_66 ex_66 => ?_)
                  have fx_66 : x_66.toInt = u_4.toInt + 2 := by rw [ex_66]; exact cv_addI (by have : (2 : Int32).toInt = 2 := rfl; omega) (by have : (2 : Int32).toInt = 2 := rfl; omega)
                  refine va_lald hx hb hK hP 8 2 rfl rfl (vp_in_iff.mpr (by omega)) dX6_areSuch_102 ?_
                  refine lv_topl (fun x_67 ex_67 => ?_)
                  refine lv_lconst (v := 0) hx hb dX6_areSuch_103 (by decide) ?_
                  refine W.lcmp hx hb dX6_areSuch_104 ?_
                  refine lv_if_lt (tgt := 128) hx hb dX6_areSuch_105 (by decide) (fun c_68 => ?_) (fun c_68 => ?_)
                  · have c_68 : x_67.toInt < 0 := cv_clt c_68
                    refine lv_iconst (v := 0) hx hb dX6_areSuch_128 (by decide) ?_
                    refine lv_istore (lv' := [(8, .int 0), (7, .int 1), (6, .int 0), (5, .int u_4), (4, .ref n3), (3, .int x_1), (0, .ref h0), (1, .ref sl0), (2, .int 3)]) hx hb dX6_areSuch_129 hl (by decide) rfl (fun ls hl => ?_)
                    refine lv_iload hx hb dX6_areSuch_131 (lv_at hl 2 rfl) ?_
                    refine lv_if_eq (tgt := 146) hx hb dX6_areSuch_133 (by decide) (fun _ => ?_) (fun c_69 => absurd c_69 (by decide))
                    refine lv_iconst (v := 0) hx hb dX6_areSuch_146 (by decide) ?_
                    rw [hQ9]
                    exact W.zret (v := 0) (ty := .boolean) hx hb hr rfl (fun t ht hW => ⟨0, rfl, ⟨by decide, fun h9 => absurd h9 (by decide)⟩, ht⟩) (fun q h => by cases h) dX6_areSuch_147
                  · have c_68 : 0 ≤ x_67.toInt := cv_cnlt c_68
                    refine lv_aload hx hb dX6_areSuch_108 (lv_at hl 3 rfl) ?_
                    refine lv_iload hx hb dX6_areSuch_110 (lv_at hl 2 rfl) ?_
                    refine lv_iconst (v := 2) hx hb dX6_areSuch_112 (by decide) ?_
                    refine lv_iadd hx hb dX6_areSuch_113 ?_
                    refine lv_topi (fun x_70 ex_70 => ?_)
                    have fx_70 : x_70.toInt = u_4.toInt + 2 := by rw [ex_70]; exact cv_addI (by have : (2 : Int32).toInt = 2 := rfl; omega) (by have : (2 : Int32).toInt = 2 := rfl; omega)
                    refine va_lald hx hb hK hP 8 2 rfl rfl (vp_in_iff.mpr (by omega)) dX6_areSuch_114 ?_
                    refine cv_topl (b := x_67) (by rw [ex_67, ex_70, ex_66]) ?_
                    refine lv_aload_n hx hb dX6_areSuch_115 rfl (lv_at hl 5 rfl) ?_
                    refine va_get (D := (dC, dI)) (ci := 2) (v := .int a_pl) (C := RX2) (T := TX2) (N := 15) hx hb hts uinX2 hown hK hP 9 rfl rfl 0 (by decide) (hts _ wd_1_82) (fun _ h9 => h9) rfl dX6_areSuch_116 ?_
                    obtain ⟨y_71, ey_71⟩ : ∃ z : Int64, z = a_pl.toInt64 := ⟨_, rfl⟩
                    have fy_71 : y_71.toInt = a_pl.toInt := by rw [ey_71]; exact Int32.toInt_toInt64 _
                    refine lv_i2l (v := y_71) hx hb dX6_areSuch_119 ey_71.symm ?_
                    refine W.lcmp hx hb dX6_areSuch_120 ?_
                    refine lv_if_ge (tgt := 128) hx hb dX6_areSuch_121 (by decide) (fun c_72 => ?_) (fun c_72 => ?_)
                    · have c_72 : y_71.toInt ≤ x_67.toInt := cv_cge c_72
                      refine lv_iconst (v := 0) hx hb dX6_areSuch_128 (by decide) ?_
                      refine lv_istore (lv' := [(8, .int 0), (7, .int 1), (6, .int 0), (5, .int u_4), (4, .ref n3), (3, .int x_1), (0, .ref h0), (1, .ref sl0), (2, .int 3)]) hx hb dX6_areSuch_129 hl (by decide) rfl (fun ls hl => ?_)
                      refine lv_iload hx hb dX6_areSuch_131 (lv_at hl 2 rfl) ?_
                      refine lv_if_eq (tgt := 146) hx hb dX6_areSuch_133 (by decide) (fun _ => ?_) (fun c_73 => absurd c_73 (by decide))
                      refine lv_iconst (v := 0) hx hb dX6_areSuch_146 (by decide) ?_
                      rw [hQ9]
                      exact W.zret (v := 0) (ty := .boolean) hx hb hr rfl (fun t ht hW => ⟨0, rfl, ⟨by decide, fun h9 => absurd h9 (by decide)⟩, ht⟩) (fun q h => by cases h) dX6_areSuch_147
                    · have c_72 : x_67.toInt < y_71.toInt := cv_cnge c_72
                      refine lv_iconst (v := 1) hx hb dX6_areSuch_124 (by decide) ?_
                      refine lv_goto (tgt := 129) hx hb dX6_areSuch_125 (by decide) ?_
                      refine lv_istore (lv' := [(8, .int 1), (7, .int 1), (6, .int 0), (5, .int u_4), (4, .ref n3), (3, .int x_1), (0, .ref h0), (1, .ref sl0), (2, .int 3)]) hx hb dX6_areSuch_129 hl (by decide) rfl (fun ls hl => ?_)
                      refine lv_iload hx hb dX6_areSuch_131 (lv_at hl 2 rfl) ?_
                      refine lv_if_eq (tgt := 146) hx hb dX6_areSuch_133 (by decide) (fun _ => ?_) (fun c_74 => absurd c_74 (by decide))
                      refine lv_iconst (v := 0) hx hb dX6_areSuch_146 (by decide) ?_
                      rw [hQ9]
                      exact W.zret (v := 0) (ty := .boolean) hx hb hr rfl (fun t ht hW => ⟨0, rfl, ⟨by decide, fun h9 => absurd h9 (by decide)⟩, ht⟩) (fun q h => by cases h) dX6_areSuch_147
            · have c_42 : x_7.toInt < y_41.toInt := cv_cnge c_42
              refine lv_iconst (v := 1) hx hb dX6_areSuch_56 (by decide) ?_
              refine lv_goto (tgt := 61) hx hb dX6_areSuch_57 (by decide) ?_
              refine lv_istore (lv' := [(6, .int 1), (5, .int u_4), (4, .ref n3), (3, .int x_1), (0, .ref h0), (1, .ref sl0), (2, .int 3)]) hx hb dX6_areSuch_61 hl (by decide) rfl (fun ls hl => ?_)
              refine lv_aload hx hb dX6_areSuch_63 (lv_at hl 2 rfl) ?_
              refine lv_iload hx hb dX6_areSuch_65 (lv_at hl 1 rfl) ?_
              refine lv_iconst (v := 1) hx hb dX6_areSuch_67 (by decide) ?_
              refine lv_iadd hx hb dX6_areSuch_68 ?_
              refine lv_topi (fun x_75 ex_75 => ?_)
              have fx_75 : x_75.toInt = u_4.toInt + 1 := by rw [ex_75]; exact cv_addI (by have : (1 : Int32).toInt = 1 := rfl; omega) (by have : (1 : Int32).toInt = 1 := rfl; omega)
              refine va_lald hx hb hK hP 8 2 rfl rfl (vp_in_iff.mpr (by omega)) dX6_areSuch_69 ?_
              refine lv_topl (fun x_76 ex_76 => ?_)
              refine lv_lconst (v := 0) hx hb dX6_areSuch_70 (by decide) ?_
              refine W.lcmp hx hb dX6_areSuch_71 ?_
              refine lv_if_lt (tgt := 93) hx hb dX6_areSuch_72 (by decide) (fun c_77 => ?_) (fun c_77 => ?_)
              · have c_77 : x_76.toInt < 0 := cv_clt c_77
                refine lv_iconst (v := 0) hx hb dX6_areSuch_93 (by decide) ?_
                refine lv_istore (lv' := [(7, .int 0), (6, .int 1), (5, .int u_4), (4, .ref n3), (3, .int x_1), (0, .ref h0), (1, .ref sl0), (2, .int 3)]) hx hb dX6_areSuch_94 hl (by decide) rfl (fun ls hl => ?_)
                refine lv_aload hx hb dX6_areSuch_96 (lv_at hl 3 rfl) ?_
                refine lv_iload hx hb dX6_areSuch_98 (lv_at hl 2 rfl) ?_
                refine lv_iconst (v := 2) hx hb dX6_areSuch_100 (by decide) ?_
                refine lv_iadd hx hb dX6_areSuch_101 ?_
                refine lv_topi (fun x_78 ex_78 => ?_)
                have fx_78 : x_78.toInt = u_4.toInt + 2 := by rw [ex_78]; exact cv_addI (by have : (2 : Int32).toInt = 2 := rfl; omega) (by have : (2 : Int32).toInt = 2 := rfl; omega)
                refine va_lald hx hb hK hP 8 2 rfl rfl (vp_in_iff.mpr (by omega)) dX6_areSuch_102 ?_
                refine lv_topl (fun x_79 ex_79 => ?_)
                refine lv_lconst (v := 0) hx hb dX6_areSuch_103 (by decide) ?_
                refine W.lcmp hx hb dX6_areSuch_104 ?_
                refine lv_if_lt (tgt := 128) hx hb dX6_areSuch_105 (by decide) (fun c_80 => ?_) (fun c_80 => ?_)
                · have c_80 : x_79.toInt < 0 := cv_clt c_80
                  refine lv_iconst (v := 0) hx hb dX6_areSuch_128 (by decide) ?_
                  refine lv_istore (lv' := [(8, .int 0), (7, .int 0), (6, .int 1), (5, .int u_4), (4, .ref n3), (3, .int x_1), (0, .ref h0), (1, .ref sl0), (2, .int 3)]) hx hb dX6_areSuch_129 hl (by decide) rfl (fun ls hl => ?_)
                  refine lv_iload hx hb dX6_areSuch_131 (lv_at hl 2 rfl) ?_
                  refine lv_if_eq (tgt := 146) hx hb dX6_areSuch_133 (by decide) (fun c_81 => absurd c_81 (by decide)) (fun _ => ?_)
                  refine lv_iload hx hb dX6_areSuch_136 (lv_at hl 1 rfl) ?_
                  refine lv_if_eq (tgt := 146) hx hb dX6_areSuch_138 (by decide) (fun _ => ?_) (fun c_82 => absurd c_82 (by decide))
                  refine lv_iconst (v := 0) hx hb dX6_areSuch_146 (by decide) ?_
                  rw [hQ9]
                  exact W.zret (v := 0) (ty := .boolean) hx hb hr rfl (fun t ht hW => ⟨0, rfl, ⟨by decide, fun h9 => absurd h9 (by decide)⟩, ht⟩) (fun q h => by cases h) dX6_areSuch_147
                · have c_80 : 0 ≤ x_79.toInt := cv_cnlt c_80
                  refine lv_aload hx hb dX6_areSuch_108 (lv_at hl 3 rfl) ?_
                  refine lv_iload hx hb dX6_areSuch_110 (lv_at hl 2 rfl) ?_
                  refine lv_iconst (v := 2) hx hb dX6_areSuch_112 (by decide) ?_
                  refine lv_iadd hx hb dX6_areSuch_113 ?_
                  refine lv_topi (fun x_83 ex_83 => ?_)
                  have fx_83 : x_83.toInt = u_4.toInt + 2 := by rw [ex_83]; exact cv_addI (by have : (2 : Int32).toInt = 2 := rfl; omega) (by have : (2 : Int32).toInt = 2 := rfl; omega)
                  refine va_lald hx hb hK hP 8 2 rfl rfl (vp_in_iff.mpr (by omega)) dX6_areSuch_114 ?_
                  refine cv_topl (b := x_79) (by rw [ex_79, ex_83, ex_78]) ?_
                  refine lv_aload_n hx hb dX6_areSuch_115 rfl (lv_at hl 5 rfl) ?_
                  refine va_get (D := (dC, dI)) (ci := 2) (v := .int a_pl) (C := RX2) (T := TX2) (N := 15) hx hb hts uinX2 hown hK hP 9 rfl rfl 0 (by decide) (hts _ wd_1_82) (fun _ h9 => h9) rfl dX6_areSuch_116 ?_
                  obtain ⟨y_84, ey_84⟩ : ∃ z : Int64, z = a_pl.toInt64 := ⟨_, rfl⟩
                  have fy_84 : y_84.toInt = a_pl.toInt := by rw [ey_84]; exact Int32.toInt_toInt64 _
                  refine lv_i2l (v := y_84) hx hb dX6_areSuch_119 ey_84.symm ?_
                  refine W.lcmp hx hb dX6_areSuch_120 ?_
                  refine lv_if_ge (tgt := 128) hx hb dX6_areSuch_121 (by decide) (fun c_85 => ?_) (fun c_85 => ?_)
                  · have c_85 : y_84.toInt ≤ x_79.toInt := cv_cge c_85
                    refine lv_iconst (v := 0) hx hb dX6_areSuch_128 (by decide) ?_
                    refine lv_istore (lv' := [(8, .int 0), (7, .int 0), (6, .int 1), (5, .int u_4), (4, .ref n3), (3, .int x_1), (0, .ref h0), (1, .ref sl0), (2, .int 3)]) hx hb dX6_areSuch_129 hl (by decide) rfl (fun ls hl => ?_)
                    refine lv_iload hx hb dX6_areSuch_131 (lv_at hl 2 rfl) ?_
                    refine lv_if_eq (tgt := 146) hx hb dX6_areSuch_133 (by decide) (fun c_86 => absurd c_86 (by decide)) (fun _ => ?_)
                    refine lv_iload hx hb dX6_areSuch_136 (lv_at hl 1 rfl) ?_
                    refine lv_if_eq (tgt := 146) hx hb dX6_areSuch_138 (by decide) (fun _ => ?_) (fun c_87 => absurd c_87 (by decide))
                    refine lv_iconst (v := 0) hx hb dX6_areSuch_146 (by decide) ?_
                    rw [hQ9]
                    exact W.zret (v := 0) (ty := .boolean) hx hb hr rfl (fun t ht hW => ⟨0, rfl, ⟨by decide, fun h9 => absurd h9 (by decide)⟩, ht⟩) (fun q h => by cases h) dX6_areSuch_147
                  · have c_85 : x_79.toInt < y_84.toInt := cv_cnge c_85
                    refine lv_iconst (v := 1) hx hb dX6_areSuch_124 (by decide) ?_
                    refine lv_goto (tgt := 129) hx hb dX6_areSuch_125 (by decide) ?_
                    refine lv_istore (lv' := [(8, .int 1), (7, .int 0), (6, .int 1), (5, .int u_4), (4, .ref n3), (3, .int x_1), (0, .ref h0), (1, .ref sl0), (2, .int 3)]) hx hb dX6_areSuch_129 hl (by decide) rfl (fun ls hl => ?_)
                    refine lv_iload hx hb dX6_areSuch_131 (lv_at hl 2 rfl) ?_
                    refine lv_if_eq (tgt := 146) hx hb dX6_areSuch_133 (by decide) (fun c_88 => absurd c_88 (by decide)) (fun _ => ?_)
                    refine lv_iload hx hb dX6_areSuch_136 (lv_at hl 1 rfl) ?_
                    refine lv_if_eq (tgt := 146) hx hb dX6_areSuch_138 (by decide) (fun _ => ?_) (fun c_89 => absurd c_89 (by decide))
                    refine lv_iconst (v := 0) hx hb dX6_areSuch_146 (by decide) ?_
                    rw [hQ9]
                    exact W.zret (v := 0) (ty := .boolean) hx hb hr rfl (fun t ht hW => ⟨0, rfl, ⟨by decide, fun h9 => absurd h9 (by decide)⟩, ht⟩) (fun q h => by cases h) dX6_areSuch_147
              · have c_77 : 0 ≤ x_76.toInt := cv_cnlt c_77
                refine lv_aload hx hb dX6_areSuch_75 (lv_at hl 2 rfl) ?_
                refine lv_iload hx hb dX6_areSuch_77 (lv_at hl 1 rfl) ?_
                refine lv_iconst (v := 1) hx hb dX6_areSuch_79 (by decide) ?_
                refine lv_iadd hx hb dX6_areSuch_80 ?_
                refine lv_topi (fun x_90 ex_90 => ?_)
                have fx_90 : x_90.toInt = u_4.toInt + 1 := by rw [ex_90]; exact cv_addI (by have : (1 : Int32).toInt = 1 := rfl; omega) (by have : (1 : Int32).toInt = 1 := rfl; omega)
                refine va_lald hx hb hK hP 8 2 rfl rfl (vp_in_iff.mpr (by omega)) dX6_areSuch_81 ?_
                refine cv_topl (b := x_76) (by rw [ex_76, ex_90, ex_75]) ?_
                refine lv_ldc2 (v := 999) hx hb hown (hts _ wd_4_184) dX6_areSuch_82 ?_
                refine W.lcmp hx hb dX6_areSuch_85 ?_
                refine lv_if_gt (tgt := 93) hx hb dX6_areSuch_86 (by decide) (fun c_91 => ?_) (fun c_91 => ?_)
                · have c_91 : 999 < x_76.toInt := cv_cgt c_91
                  refine lv_iconst (v := 0) hx hb dX6_areSuch_93 (by decide) ?_
                  refine lv_istore (lv' := [(7, .int 0), (6, .int 1), (5, .int u_4), (4, .ref n3), (3, .int x_1), (0, .ref h0), (1, .ref sl0), (2, .int 3)]) hx hb dX6_areSuch_94 hl (by decide) rfl (fun ls hl => ?_)
                  refine lv_aload hx hb dX6_areSuch_96 (lv_at hl 3 rfl) ?_
                  refine lv_iload hx hb dX6_areSuch_98 (lv_at hl 2 rfl) ?_
                  refine lv_iconst (v := 2) hx hb dX6_areSuch_100 (by decide) ?_
                  refine lv_iadd hx hb dX6_areSuch_101 ?_
                  refine lv_topi (fun x_92 ex_92 => ?_)
                  have fx_92 : x_92.toInt = u_4.toInt + 2 := by rw [ex_92]; exact cv_addI (by have : (2 : Int32).toInt = 2 := rfl; omega) (by have : (2 : Int32).toInt = 2 := rfl; omega)
                  refine va_lald hx hb hK hP 8 2 rfl rfl (vp_in_iff.mpr (by omega)) dX6_areSuch_102 ?_
                  refine lv_topl (fun x_93 ex_93 => ?_)
                  refine lv_lconst (v := 0) hx hb dX6_areSuch_103 (by decide) ?_
                  refine W.lcmp hx hb dX6_areSuch_104 ?_
                  refine lv_if_lt (tgt := 128) hx hb dX6_areSuch_105 (by decide) (fun c_94 => ?_) (fun c_94 => ?_)
                  · have c_94 : x_93.toInt < 0 := cv_clt c_94
                    refine lv_iconst (v := 0) hx hb dX6_areSuch_128 (by decide) ?_
                    refine lv_istore (lv' := [(8, .int 0), (7, .int 0), (6, .int 1), (5, .int u_4), (4, .ref n3), (3, .int x_1), (0, .ref h0), (1, .ref sl0), (2, .int 3)]) hx hb dX6_areSuch_129 hl (by decide) rfl (fun ls hl => ?_)
                    refine lv_iload hx hb dX6_areSuch_131 (lv_at hl 2 rfl) ?_
                    refine lv_if_eq (tgt := 146) hx hb dX6_areSuch_133 (by decide) (fun c_95 => absurd c_95 (by decide)) (fun _ => ?_)
                    refine lv_iload hx hb dX6_areSuch_136 (lv_at hl 1 rfl) ?_
                    refine lv_if_eq (tgt := 146) hx hb dX6_areSuch_138 (by decide) (fun _ => ?_) (fun c_96 => absurd c_96 (by decide))
                    refine lv_iconst (v := 0) hx hb dX6_areSuch_146 (by decide) ?_
                    rw [hQ9]
                    exact W.zret (v := 0) (ty := .boolean) hx hb hr rfl (fun t ht hW => ⟨0, rfl, ⟨by decide, fun h9 => absurd h9 (by decide)⟩, ht⟩) (fun q h => by cases h) dX6_areSuch_147
                  · have c_94 : 0 ≤ x_93.toInt := cv_cnlt c_94
                    refine lv_aload hx hb dX6_areSuch_108 (lv_at hl 3 rfl) ?_
                    refine lv_iload hx hb dX6_areSuch_110 (lv_at hl 2 rfl) ?_
                    refine lv_iconst (v := 2) hx hb dX6_areSuch_112 (by decide) ?_
                    refine lv_iadd hx hb dX6_areSuch_113 ?_
                    refine lv_topi (fun x_97 ex_97 => ?_)
                    have fx_97 : x_97.toInt = u_4.toInt + 2 := by rw [ex_97]; exact cv_addI (by have : (2 : Int32).toInt = 2 := rfl; omega) (by have : (2 : Int32).toInt = 2 := rfl; omega)
                    refine va_lald hx hb hK hP 8 2 rfl rfl (vp_in_iff.mpr (by omega)) dX6_areSuch_114 ?_
                    refine cv_topl (b := x_93) (by rw [ex_93, ex_97, ex_92]) ?_
                    refine lv_aload_n hx hb dX6_areSuch_115 rfl (lv_at hl 5 rfl) ?_
                    refine va_get (D := (dC, dI)) (ci := 2) (v := .int a_pl) (C := RX2) (T := TX2) (N := 15) hx hb hts uinX2 hown hK hP 9 rfl rfl 0 (by decide) (hts _ wd_1_82) (fun _ h9 => h9) rfl dX6_areSuch_116 ?_
                    obtain ⟨y_98, ey_98⟩ : ∃ z : Int64, z = a_pl.toInt64 := ⟨_, rfl⟩
                    have fy_98 : y_98.toInt = a_pl.toInt := by rw [ey_98]; exact Int32.toInt_toInt64 _
                    refine lv_i2l (v := y_98) hx hb dX6_areSuch_119 ey_98.symm ?_
                    refine W.lcmp hx hb dX6_areSuch_120 ?_
                    refine lv_if_ge (tgt := 128) hx hb dX6_areSuch_121 (by decide) (fun c_99 => ?_) (fun c_99 => ?_)
                    · have c_99 : y_98.toInt ≤ x_93.toInt := cv_cge c_99
                      refine lv_iconst (v := 0) hx hb dX6_areSuch_128 (by decide) ?_
                      refine lv_istore (lv' := [(8, .int 0), (7, .int 0), (6, .int 1), (5, .int u_4), (4, .ref n3), (3, .int x_1), (0, .ref h0), (1, .ref sl0), (2, .int 3)]) hx hb dX6_areSuch_129 hl (by decide) rfl (fun ls hl => ?_)
                      refine lv_iload hx hb dX6_areSuch_131 (lv_at hl 2 rfl) ?_
                      refine lv_if_eq (tgt := 146) hx hb dX6_areSuch_133 (by decide) (fun c_100 => absurd c_100 (by decide)) (fun _ => ?_)
                      refine lv_iload hx hb dX6_areSuch_136 (lv_at hl 1 rfl) ?_
                      refine lv_if_eq (tgt := 146) hx hb dX6_areSuch_138 (by decide) (fun _ => ?_) (fun c_101 => absurd c_101 (by decide))
                      refine lv_iconst (v := 0) hx hb dX6_areSuch_146 (by decide) ?_
                      rw [hQ9]
                      exact W.zret (v := 0) (ty := .boolean) hx hb hr rfl (fun t ht hW => ⟨0, rfl, ⟨by decide, fun h9 => absurd h9 (by decide)⟩, ht⟩) (fun q h => by cases h) dX6_areSuch_147
                    · have c_99 : x_93.toInt < y_98.toInt := cv_cnge c_99
                      refine lv_iconst (v := 1) hx hb dX6_areSuch_124 (by decide) ?_
                      refine lv_goto (tgt := 129) hx hb dX6_areSuch_125 (by decide) ?_
                      refine lv_istore (lv' := [(8, .int 1), (7, .int 0), (6, .int 1), (5, .int u_4), (4, .ref n3), (3, .int x_1), (0, .ref h0), (1, .ref sl0), (2, .int 3)]) hx hb dX6_areSuch_129 hl (by decide) rfl (fun ls hl => ?_)
                      refine lv_iload hx hb dX6_areSuch_131 (lv_at hl 2 rfl) ?_
                      refine lv_if_eq (tgt := 146) hx hb dX6_areSuch_133 (by decide) (fun c_102 => absurd c_102 (by decide)) (fun _ => ?_)
                      refine lv_iload hx hb dX6_areSuch_136 (lv_at hl 1 rfl) ?_
                      refine lv_if_eq (tgt := 146) hx hb dX6_areSuch_138 (by decide) (fun _ => ?_) (fun c_103 => absurd c_103 (by decide))
                      refine lv_iconst (v := 0) hx hb dX6_areSuch_146 (by decide) ?_
                      rw [hQ9]
                      exact W.zret (v := 0) (ty := .boolean) hx hb hr rfl (fun t ht hW => ⟨0, rfl, ⟨by decide, fun h9 => absurd h9 (by decide)⟩, ht⟩) (fun q h => by cases h) dX6_areSuch_147
                · have c_91 : x_76.toInt ≤ 999 := cv_cngt c_91
                  refine lv_iconst (v := 1) hx hb dX6_areSuch_89 (by decide) ?_
                  refine lv_goto (tgt := 94) hx hb dX6_areSuch_90 (by decide) ?_
                  refine lv_istore (lv' := [(7, .int 1), (6, .int 1), (5, .int u_4), (4, .ref n3), (3, .int x_1), (0, .ref h0), (1, .ref sl0), (2, .int 3)]) hx hb dX6_areSuch_94 hl (by decide) rfl (fun ls hl => ?_)
                  refine lv_aload hx hb dX6_areSuch_96 (lv_at hl 3 rfl) ?_
                  refine lv_iload hx hb dX6_areSuch_98 (lv_at hl 2 rfl) ?_
                  refine lv_iconst (v := 2) hx hb dX6_areSuch_100 (by decide) ?_
                  refine lv_iadd hx hb dX6_areSuch_101 ?_
                  refine lv_topi (fun x_104 ex_104 => ?_)
                  have fx_104 : x_104.toInt = u_4.toInt + 2 := by rw [ex_104]; exact cv_addI (by have : (2 : Int32).toInt = 2 := rfl; omega) (by have : (2 : Int32).toInt = 2 := rfl; omega)
                  refine va_lald hx hb hK hP 8 2 rfl rfl (vp_in_iff.mpr (by omega)) dX6_areSuch_102 ?_
                  refine lv_topl (fun x_105 ex_105 => ?_)
                  refine lv_lconst (v := 0) hx hb dX6_areSuch_103 (by decide) ?_
                  refine W.lcmp hx hb dX6_areSuch_104 ?_
                  refine lv_if_lt (tgt := 128) hx hb dX6_areSuch_105 (by decide) (fun c_106 => ?_) (fun c_106 => ?_)
                  · have c_106 : x_105.toInt < 0 := cv_clt c_106
                    refine lv_iconst (v := 0) hx hb dX6_areSuch_128 (by decide) ?_
                    refine lv_istore (lv' := [(8, .int 0), (7, .int 1), (6, .int 1), (5, .int u_4), (4, .ref n3), (3, .int x_1), (0, .ref h0), (1, .ref sl0), (2, .int 3)]) hx hb dX6_areSuch_129 hl (by decide) rfl (fun ls hl => ?_)
                    refine lv_iload hx hb dX6_areSuch_131 (lv_at hl 2 rfl) ?_
                    refine lv_if_eq (tgt := 146) hx hb dX6_areSuch_133 (by decide) (fun c_107 => absurd c_107 (by decide)) (fun _ => ?_)
                    refine lv_iload hx hb dX6_areSuch_136 (lv_at hl 1 rfl) ?_
                    refine lv_if_eq (tgt := 146) hx hb dX6_areSuch_138 (by decide) (fun c_108 => absurd c_108 (by decide)) (fun _ => ?_)
                    refine lv_iload hx hb dX6_areSuch_141 (lv_at hl 0 rfl) ?_
                    refine lv_if_ne (tgt := 148) hx hb dX6_areSuch_143 (by decide) (fun c_109 => absurd c_109 (by decide)) (fun _ => ?_)
                    refine lv_iconst (v := 0) hx hb dX6_areSuch_146 (by decide) ?_
                    rw [hQ9]
                    exact W.zret (v := 0) (ty := .boolean) hx hb hr rfl (fun t ht hW => ⟨0, rfl, ⟨by decide, fun h9 => absurd h9 (by decide)⟩, ht⟩) (fun q h => by cases h) dX6_areSuch_147
                  · have c_106 : 0 ≤ x_105.toInt := cv_cnlt c_106
                    refine lv_aload hx hb dX6_areSuch_108 (lv_at hl 3 rfl) ?_
                    refine lv_iload hx hb dX6_areSuch_110 (lv_at hl 2 rfl) ?_
                    refine lv_iconst (v := 2) hx hb dX6_areSuch_112 (by decide) ?_
                    refine lv_iadd hx hb dX6_areSuch_113 ?_
                    refine lv_topi (fun x_110 ex_110 => ?_)
                    have fx_110 : x_110.toInt = u_4.toInt + 2 := by rw [ex_110]; exact cv_addI (by have : (2 : Int32).toInt = 2 := rfl; omega) (by have : (2 : Int32).toInt = 2 := rfl; omega)
                    refine va_lald hx hb hK hP 8 2 rfl rfl (vp_in_iff.mpr (by omega)) dX6_areSuch_114 ?_
                    refine cv_topl (b := x_105) (by rw [ex_105, ex_110, ex_104]) ?_
                    refine lv_aload_n hx hb dX6_areSuch_115 rfl (lv_at hl 5 rfl) ?_
                    refine va_get (D := (dC, dI)) (ci := 2) (v := .int a_pl) (C := RX2) (T := TX2) (N := 15) hx hb hts uinX2 hown hK hP 9 rfl rfl 0 (by decide) (hts _ wd_1_82) (fun _ h9 => h9) rfl dX6_areSuch_116 ?_
                    obtain ⟨y_111, ey_111⟩ : ∃ z : Int64, z = a_pl.toInt64 := ⟨_, rfl⟩
                    have fy_111 : y_111.toInt = a_pl.toInt := by rw [ey_111]; exact Int32.toInt_toInt64 _
                    refine lv_i2l (v := y_111) hx hb dX6_areSuch_119 ey_111.symm ?_
                    refine W.lcmp hx hb dX6_areSuch_120 ?_
                    refine lv_if_ge (tgt := 128) hx hb dX6_areSuch_121 (by decide) (fun c_112 => ?_) (fun c_112 => ?_)
                    · have c_112 : y_111.toInt ≤ x_105.toInt := cv_cge c_112
                      refine lv_iconst (v := 0) hx hb dX6_areSuch_128 (by decide) ?_
                      refine lv_istore (lv' := [(8, .int 0), (7, .int 1), (6, .int 1), (5, .int u_4), (4, .ref n3), (3, .int x_1), (0, .ref h0), (1, .ref sl0), (2, .int 3)]) hx hb dX6_areSuch_129 hl (by decide) rfl (fun ls hl => ?_)
                      refine lv_iload hx hb dX6_areSuch_131 (lv_at hl 2 rfl) ?_
                      refine lv_if_eq (tgt := 146) hx hb dX6_areSuch_133 (by decide) (fun c_113 => absurd c_113 (by decide)) (fun _ => ?_)
                      refine lv_iload hx hb dX6_areSuch_136 (lv_at hl 1 rfl) ?_
                      refine lv_if_eq (tgt := 146) hx hb dX6_areSuch_138 (by decide) (fun c_114 => absurd c_114 (by decide)) (fun _ => ?_)
                      refine lv_iload hx hb dX6_areSuch_141 (lv_at hl 0 rfl) ?_
                      refine lv_if_ne (tgt := 148) hx hb dX6_areSuch_143 (by decide) (fun c_115 => absurd c_115 (by decide)) (fun _ => ?_)
                      refine lv_iconst (v := 0) hx hb dX6_areSuch_146 (by decide) ?_
                      rw [hQ9]
                      exact W.zret (v := 0) (ty := .boolean) hx hb hr rfl (fun t ht hW => ⟨0, rfl, ⟨by decide, fun h9 => absurd h9 (by decide)⟩, ht⟩) (fun q h => by cases h) dX6_areSuch_147
                    · have c_112 : x_105.toInt < y_111.toInt := cv_cnge c_112
                      refine lv_iconst (v := 1) hx hb dX6_areSuch_124 (by decide) ?_
                      refine lv_goto (tgt := 129) hx hb dX6_areSuch_125 (by decide) ?_
                      refine lv_istore (lv' := [(8, .int 1), (7, .int 1), (6, .int 1), (5, .int u_4), (4, .ref n3), (3, .int x_1), (0, .ref h0), (1, .ref sl0), (2, .int 3)]) hx hb dX6_areSuch_129 hl (by decide) rfl (fun ls hl => ?_)
                      refine lv_iload hx hb dX6_areSuch_131 (lv_at hl 2 rfl) ?_
                      refine lv_if_eq (tgt := 146) hx hb dX6_areSuch_133 (by decide) (fun c_116 => absurd c_116 (by decide)) (fun _ => ?_)
                      refine lv_iload hx hb dX6_areSuch_136 (lv_at hl 1 rfl) ?_
                      refine lv_if_eq (tgt := 146) hx hb dX6_areSuch_138 (by decide) (fun c_117 => absurd c_117 (by decide)) (fun _ => ?_)
                      refine lv_iload hx hb dX6_areSuch_141 (lv_at hl 0 rfl) ?_
                      refine lv_if_ne (tgt := 148) hx hb dX6_areSuch_143 (by decide) (fun _ => ?_) (fun c_118 => absurd c_118 (by decide))
                      obtain ⟨x_119, ex_119⟩ : ∃ y : Int32, y = u_4 + 3 := ⟨_, rfl⟩
                      refine lv_iinc (v := x_119) (lv' := [(5, .int x_119), (8, .int 1), (7, .int 1), (6, .int 1), (4, .ref n3), (3, .int x_1), (0, .ref h0), (1, .ref sl0), (2, .int 3)]) hx hb dX6_areSuch_148 hl (k := 3) rfl (by rw [ex_119]; rfl) (by decide) rfl (fun ls hl => ?_)
                      have fx_119 : x_119.toInt = u_4.toInt + 3 := by rw [ex_119]; exact cv_addI (by have : (3 : Int32).toInt = 3 := rfl; omega) (by have : (3 : Int32).toInt = 3 := rfl; omega)
                      refine lv_goto (tgt := 26) hx hb dX6_areSuch_151 (by decide) ?_
                      exact ihkey_5 x_119 _ (by omega) (by omega) (sn_step hsn9 hm9 ex_7 ex_76 ex_105 (by omega) (by omega) (by omega) (by omega) (by omega) (by omega) (by omega)) (lv_sub hl [0, 4, 5, 6, 7, 8] rfl) (by omega)
    exact key_5 _ 0 _ (by decide) (by decide) sn_zero (lv_sub hl [0, 1, 2, 3, 4, 5] rfl) (Nat.lt_succ_self _)
  · have c_3 : x_2.toInt ≠ 0 := cv_ne c_3
    refine lv_iconst (v := 0) hx hb dX6_areSuch_13 (by decide) ?_
    rw [hQ9]
    exact W.zret (v := 0) (ty := .boolean) hx hb hr rfl (fun t ht hW => ⟨0, rfl, ⟨by decide, fun h9 => absurd h9 (by decide)⟩, ht⟩) (fun q h => by cases h) dX6_areSuch_14

/- X6_take -/
set_option maxHeartbeats 4000000 in
set_option maxRecDepth 100000 in
theorem n_take0 (l : Launch) (dC : Nat → ClassId) (dI : Nat → Nat → Nat) (cyI cyB cyJ cyZ cyH cyN : ClassId) (tR tF : Nat) (aK aV : Nat → Nat) (sz : Nat) (v0 v_hung : Nat) (v_pl v_kn v_un v_tr : Int32) (v_f : Nat → Int32) (sl0 sNum sLen sWid sMade n0 n1 n2 n3 : Nat) (nF : Nat → Option Nat) (s_fm s_fl s_fw : Nat → Int32) (s_n0 s_n1 s_n2 s_n3 : Nat → Int64) (h0 a_first a_now a_lawPlace a_lawOther a_lawEach a_lawFrom a_foes a_suitTable a_acts : Nat) (a_pl a_li a_le a_lc a_ac a_ng : Int32) (a_f_first a_f_now a_f_lawPlace a_f_lawOther a_f_lawEach a_f_lawFrom a_f_foes a_f_suitTable a_f_acts : Nat → Int32) (c0 c_row c_origins c_before c_lawsByNight : Nat) (cnum : Int32) (c_f_row c_f_origins c_f_before c_f_lawsByNight : Nat → Int32) (hvv : Value) (g0 : rg (-1) 6 7 v_f) (g1 : rg 0 1 4 s_fm) (g2 : rg 0 60 4 s_fl) (g3 : rg 0 3 4 s_fw) (g4 : rg 0 6 7 a_f_first) (g5 : rg 0 6 7 a_f_now) (g6 : rg 0 6 6 a_f_lawPlace) (g7 : rg 0 6 6 a_f_lawOther) (g8 : ra 40 a_f_acts) (g9 : rg 0 6 7 c_f_row) (g10 : rg 0 6 7 c_f_origins) (g11 : rg 0 6 7 c_f_before) (g12 : 0 ≤ a_pl.toInt ∧ a_pl.toInt ≤ 7) (g13 : 0 ≤ a_lc.toInt ∧ a_lc.toInt ≤ 6) (g14 : 0 ≤ a_ac.toInt ∧ a_ac.toInt ≤ 40) (g15 : 0 ≤ v_pl.toInt ∧ v_pl.toInt ≤ 7) (g16 : 0 ≤ v_kn.toInt ∧ v_kn.toInt ≤ 127) (g17 : 0 ≤ v_tr.toInt ∧ v_tr.toInt ≤ 1) (g18 : nF 0 = some n0) (g19 : nF 1 = some n1) (g20 : nF 2 = some n2) (g21 : nF 3 = some n3) (g22 : v_un.toInt = v_pl.toInt - cb v_kn v_pl.toInt.toNat) : Met l yX6_take (wk yX6_take cX6_take 7 (some .boolean)) ({ frames := 5, cells := 0, slots := 0, locals := 150 }) (va_Pc [.ref v0, .ref h0, .ref sl0, .int 0, .ref c0] (fun U => U.heap.size = sz ∧ va_P (dC, dI) vwCl [(v0, .inr (5, [.ref v_hung, .int v_pl, .int v_kn, .int v_un, .int v_tr])), (v_hung, .inl (cyI, 7, .inl v_f)), (sl0, .inr (7, [.ref sNum, .ref sLen, .ref sWid, .ref sMade])), (sMade, .inl (cyZ, 4, .inl s_fm)), (sLen, .inl (cyI, 4, .inl s_fl)), (sWid, .inl (cyI, 4, .inl s_fw)), (sNum, .inl (cyN, 4, .inr (.inr (.inr (.inr nF))))), (n0, .inl (cyJ, 60, .inr (.inl s_n0))), (n1, .inl (cyJ, 60, .inr (.inl s_n1))), (n2, .inl (cyJ, 60, .inr (.inl s_n2))), (n3, .inl (cyJ, 60, .inr (.inl s_n3))), (h0, .inr (2, [.int a_pl, .int a_li, .int a_le, .int a_lc, .int a_ac, .int a_ng, .ref a_first, .ref a_now, .ref a_lawPlace, .ref a_lawOther, .ref a_lawEach, .ref a_lawFrom, .ref a_foes, .ref a_suitTable, .ref a_acts])), (a_first, .inl (cyI, 7, .inl a_f_first)), (a_now, .inl (cyI, 7, .inl a_f_now)), (a_lawPlace, .inl (cyI, 6, .inl a_f_lawPlace)), (a_lawOther, .inl (cyI, 6, .inl a_f_lawOther)), (a_lawEach, .inl (cyI, 6, .inl a_f_lawEach)), (a_lawFrom, .inl (cyI, 6, .inl a_f_lawFrom)), (a_foes, .inl (cyI, 7, .inl a_f_foes)), (a_suitTable, .inl (cyI, 49, .inl a_f_suitTable)), (a_acts, .inl (cyI, 40, .inl a_f_acts)), (c0, .inr (0, [.ref c_row, .ref c_origins, .ref c_before, .ref c_lawsByNight, hvv, .int cnum])), (c_row, .inl (cyI, 7, .inl c_f_row)), (c_origins, .inl (cyI, 7, .inl c_f_origins)), (c_before, .inl (cyI, 7, .inl c_f_before)), (c_lawsByNight, .inl (cyI, 60, .inl c_f_lawsByNight))] U.heap ∧ va_K (dC, dI) vwCl [(cyI, .int), (cyB, .byte), (cyJ, .long), (cyZ, .boolean), (cyH, .object RX2), (cyN, .array .long)] U ∧ va_D (fun _ => True) [(v0, .inr (5, [.ref v_hung, .int v_pl, .int v_kn, .int v_un, .int v_tr])), (v_hung, .inl (cyI, 7, .inl v_f)), (sl0, .inr (7, [.ref sNum, .ref sLen, .ref sWid, .ref sMade])), (sMade, .inl (cyZ, 4, .inl s_fm)), (sLen, .inl (cyI, 4, .inl s_fl)), (sWid, .inl (cyI, 4, .inl s_fw)), (sNum, .inl (cyN, 4, .inr (.inr (.inr (.inr nF))))), (n0, .inl (cyJ, 60, .inr (.inl s_n0))), (n1, .inl (cyJ, 60, .inr (.inl s_n1))), (n2, .inl (cyJ, 60, .inr (.inl s_n2))), (n3, .inl (cyJ, 60, .inr (.inl s_n3))), (h0, .inr (2, [.int a_pl, .int a_li, .int a_le, .int a_lc, .int a_ac, .int a_ng, .ref a_first, .ref a_now, .ref a_lawPlace, .ref a_lawOther, .ref a_lawEach, .ref a_lawFrom, .ref a_foes, .ref a_suitTable, .ref a_acts])), (a_first, .inl (cyI, 7, .inl a_f_first)), (a_now, .inl (cyI, 7, .inl a_f_now)), (a_lawPlace, .inl (cyI, 6, .inl a_f_lawPlace)), (a_lawOther, .inl (cyI, 6, .inl a_f_lawOther)), (a_lawEach, .inl (cyI, 6, .inl a_f_lawEach)), (a_lawFrom, .inl (cyI, 6, .inl a_f_lawFrom)), (a_foes, .inl (cyI, 7, .inl a_f_foes)), (a_suitTable, .inl (cyI, 49, .inl a_f_suitTable)), (a_acts, .inl (cyI, 40, .inl a_f_acts)), (c0, .inr (0, [.ref c_row, .ref c_origins, .ref c_before, .ref c_lawsByNight, hvv, .int cnum])), (c_row, .inl (cyI, 7, .inl c_f_row)), (c_origins, .inl (cyI, 7, .inl c_f_origins)), (c_before, .inl (cyI, 7, .inl c_f_before)), (c_lawsByNight, .inl (cyI, 60, .inl c_f_lawsByNight))] ∧ cv_FX tR tF aK aV (va_A [(v0, .inr (5, [.ref v_hung, .int v_pl, .int v_kn, .int v_un, .int v_tr])), (v_hung, .inl (cyI, 7, .inl v_f)), (sl0, .inr (7, [.ref sNum, .ref sLen, .ref sWid, .ref sMade])), (sMade, .inl (cyZ, 4, .inl s_fm)), (sLen, .inl (cyI, 4, .inl s_fl)), (sWid, .inl (cyI, 4, .inl s_fw)), (sNum, .inl (cyN, 4, .inr (.inr (.inr (.inr nF))))), (n0, .inl (cyJ, 60, .inr (.inl s_n0))), (n1, .inl (cyJ, 60, .inr (.inl s_n1))), (n2, .inl (cyJ, 60, .inr (.inl s_n2))), (n3, .inl (cyJ, 60, .inr (.inl s_n3))), (h0, .inr (2, [.int a_pl, .int a_li, .int a_le, .int a_lc, .int a_ac, .int a_ng, .ref a_first, .ref a_now, .ref a_lawPlace, .ref a_lawOther, .ref a_lawEach, .ref a_lawFrom, .ref a_foes, .ref a_suitTable, .ref a_acts])), (a_first, .inl (cyI, 7, .inl a_f_first)), (a_now, .inl (cyI, 7, .inl a_f_now)), (a_lawPlace, .inl (cyI, 6, .inl a_f_lawPlace)), (a_lawOther, .inl (cyI, 6, .inl a_f_lawOther)), (a_lawEach, .inl (cyI, 6, .inl a_f_lawEach)), (a_lawFrom, .inl (cyI, 6, .inl a_f_lawFrom)), (a_foes, .inl (cyI, 7, .inl a_f_foes)), (a_suitTable, .inl (cyI, 49, .inl a_f_suitTable)), (a_acts, .inl (cyI, 40, .inl a_f_acts)), (c0, .inr (0, [.ref c_row, .ref c_origins, .ref c_before, .ref c_lawsByNight, hvv, .int cnum])), (c_row, .inl (cyI, 7, .inl c_f_row)), (c_origins, .inl (cyI, 7, .inl c_f_origins)), (c_before, .inl (cyI, 7, .inl c_f_before)), (c_lawsByNight, .inl (cyI, 60, .inl c_f_lawsByNight))] sz) U U.heap)) (va_Qi (fun (r : Int32) (_ : Unit) => 0 ≤ r.toInt ∧ r.toInt ≤ 1) (fun (_ : Unit) (t : State) => ∃ z0 : Int32, ∃ z1 : Int32, ∃ z2 : Int32, ∃ z3 : Int32, ∃ y4 : Nat → Int32, ∃ z5 : Value, ∃ z6 : Int32, ∃ y7 : Nat → Int32, ∃ y8 : Nat → Int32, ∃ y9 : Nat → Int32, ∃ y10 : Nat → Int32, (0 ≤ z0.toInt ∧ z0.toInt ≤ 7) ∧ (0 ≤ z1.toInt ∧ z1.toInt ≤ 127) ∧ (0 ≤ z3.toInt ∧ z3.toInt ≤ 1) ∧ (rg (-1) 6 7 y4) ∧ (rg 0 6 7 y7) ∧ (rg 0 6 7 y8) ∧ (rg 0 6 7 y9) ∧ (z2.toInt = z0.toInt - cb z1 z0.toInt.toNat) ∧ va_P (dC, dI) vwCl [(v0, .inr (5, [.ref v_hung, .int z0, .int z1, .int z2, .int z3])), (v_hung, .inl (cyI, 7, .inl y4)), (sl0, .inr (7, [.ref sNum, .ref sLen, .ref sWid, .ref sMade])), (sMade, .inl (cyZ, 4, .inl s_fm)), (sLen, .inl (cyI, 4, .inl s_fl)), (sWid, .inl (cyI, 4, .inl s_fw)), (sNum, .inl (cyN, 4, .inr (.inr (.inr (.inr nF))))), (n0, .inl (cyJ, 60, .inr (.inl s_n0))), (n1, .inl (cyJ, 60, .inr (.inl s_n1))), (n2, .inl (cyJ, 60, .inr (.inl s_n2))), (n3, .inl (cyJ, 60, .inr (.inl s_n3))), (h0, .inr (2, [.int a_pl, .int a_li, .int a_le, .int a_lc, .int a_ac, .int a_ng, .ref a_first, .ref a_now, .ref a_lawPlace, .ref a_lawOther, .ref a_lawEach, .ref a_lawFrom, .ref a_foes, .ref a_suitTable, .ref a_acts])), (a_first, .inl (cyI, 7, .inl a_f_first)), (a_now, .inl (cyI, 7, .inl a_f_now)), (a_lawPlace, .inl (cyI, 6, .inl a_f_lawPlace)), (a_lawOther, .inl (cyI, 6, .inl a_f_lawOther)), (a_lawEach, .inl (cyI, 6, .inl a_f_lawEach)), (a_lawFrom, .inl (cyI, 6, .inl a_f_lawFrom)), (a_foes, .inl (cyI, 7, .inl a_f_foes)), (a_suitTable, .inl (cyI, 49, .inl a_f_suitTable)), (a_acts, .inl (cyI, 40, .inl a_f_acts)), (c0, .inr (0, [.ref c_row, .ref c_origins, .ref c_before, .ref c_lawsByNight, z5, .int z6])), (c_row, .inl (cyI, 7, .inl y7)), (c_origins, .inl (cyI, 7, .inl y8)), (c_before, .inl (cyI, 7, .inl y9)), (c_lawsByNight, .inl (cyI, 60, .inl y10))] t.heap ∧ va_D (va_A [(v0, .inr (5, [.ref v_hung, .int v_pl, .int v_kn, .int v_un, .int v_tr])), (v_hung, .inl (cyI, 7, .inl v_f)), (sl0, .inr (7, [.ref sNum, .ref sLen, .ref sWid, .ref sMade])), (sMade, .inl (cyZ, 4, .inl s_fm)), (sLen, .inl (cyI, 4, .inl s_fl)), (sWid, .inl (cyI, 4, .inl s_fw)), (sNum, .inl (cyN, 4, .inr (.inr (.inr (.inr nF))))), (n0, .inl (cyJ, 60, .inr (.inl s_n0))), (n1, .inl (cyJ, 60, .inr (.inl s_n1))), (n2, .inl (cyJ, 60, .inr (.inl s_n2))), (n3, .inl (cyJ, 60, .inr (.inl s_n3))), (h0, .inr (2, [.int a_pl, .int a_li, .int a_le, .int a_lc, .int a_ac, .int a_ng, .ref a_first, .ref a_now, .ref a_lawPlace, .ref a_lawOther, .ref a_lawEach, .ref a_lawFrom, .ref a_foes, .ref a_suitTable, .ref a_acts])), (a_first, .inl (cyI, 7, .inl a_f_first)), (a_now, .inl (cyI, 7, .inl a_f_now)), (a_lawPlace, .inl (cyI, 6, .inl a_f_lawPlace)), (a_lawOther, .inl (cyI, 6, .inl a_f_lawOther)), (a_lawEach, .inl (cyI, 6, .inl a_f_lawEach)), (a_lawFrom, .inl (cyI, 6, .inl a_f_lawFrom)), (a_foes, .inl (cyI, 7, .inl a_f_foes)), (a_suitTable, .inl (cyI, 49, .inl a_f_suitTable)), (a_acts, .inl (cyI, 40, .inl a_f_acts)), (c0, .inr (0, [.ref c_row, .ref c_origins, .ref c_before, .ref c_lawsByNight, hvv, .int cnum])), (c_row, .inl (cyI, 7, .inl c_f_row)), (c_origins, .inl (cyI, 7, .inl c_f_origins)), (c_before, .inl (cyI, 7, .inl c_f_before)), (c_lawsByNight, .inl (cyI, 60, .inl c_f_lawsByNight))] sz) [(v0, .inr (5, [.ref v_hung, .int z0, .int z1, .int z2, .int z3])), (v_hung, .inl (cyI, 7, .inl y4)), (sl0, .inr (7, [.ref sNum, .ref sLen, .ref sWid, .ref sMade])), (sMade, .inl (cyZ, 4, .inl s_fm)), (sLen, .inl (cyI, 4, .inl s_fl)), (sWid, .inl (cyI, 4, .inl s_fw)), (sNum, .inl (cyN, 4, .inr (.inr (.inr (.inr nF))))), (n0, .inl (cyJ, 60, .inr (.inl s_n0))), (n1, .inl (cyJ, 60, .inr (.inl s_n1))), (n2, .inl (cyJ, 60, .inr (.inl s_n2))), (n3, .inl (cyJ, 60, .inr (.inl s_n3))), (h0, .inr (2, [.int a_pl, .int a_li, .int a_le, .int a_lc, .int a_ac, .int a_ng, .ref a_first, .ref a_now, .ref a_lawPlace, .ref a_lawOther, .ref a_lawEach, .ref a_lawFrom, .ref a_foes, .ref a_suitTable, .ref a_acts])), (a_first, .inl (cyI, 7, .inl a_f_first)), (a_now, .inl (cyI, 7, .inl a_f_now)), (a_lawPlace, .inl (cyI, 6, .inl a_f_lawPlace)), (a_lawOther, .inl (cyI, 6, .inl a_f_lawOther)), (a_lawEach, .inl (cyI, 6, .inl a_f_lawEach)), (a_lawFrom, .inl (cyI, 6, .inl a_f_lawFrom)), (a_foes, .inl (cyI, 7, .inl a_f_foes)), (a_suitTable, .inl (cyI, 49, .inl a_f_suitTable)), (a_acts, .inl (cyI, 40, .inl a_f_acts)), (c0, .inr (0, [.ref c_row, .ref c_origins, .ref c_before, .ref c_lawsByNight, z5, .int z6])), (c_row, .inl (cyI, 7, .inl y7)), (c_origins, .inl (cyI, 7, .inl y8)), (c_before, .inl (cyI, 7, .inl y9)), (c_lawsByNight, .inl (cyI, 60, .inl y10))]) (va_A [(v0, .inr (5, [.ref v_hung, .int v_pl, .int v_kn, .int v_un, .int v_tr])), (v_hung, .inl (cyI, 7, .inl v_f)), (sl0, .inr (7, [.ref sNum, .ref sLen, .ref sWid, .ref sMade])), (sMade, .inl (cyZ, 4, .inl s_fm)), (sLen, .inl (cyI, 4, .inl s_fl)), (sWid, .inl (cyI, 4, .inl s_fw)), (sNum, .inl (cyN, 4, .inr (.inr (.inr (.inr nF))))), (n0, .inl (cyJ, 60, .inr (.inl s_n0))), (n1, .inl (cyJ, 60, .inr (.inl s_n1))), (n2, .inl (cyJ, 60, .inr (.inl s_n2))), (n3, .inl (cyJ, 60, .inr (.inl s_n3))), (h0, .inr (2, [.int a_pl, .int a_li, .int a_le, .int a_lc, .int a_ac, .int a_ng, .ref a_first, .ref a_now, .ref a_lawPlace, .ref a_lawOther, .ref a_lawEach, .ref a_lawFrom, .ref a_foes, .ref a_suitTable, .ref a_acts])), (a_first, .inl (cyI, 7, .inl a_f_first)), (a_now, .inl (cyI, 7, .inl a_f_now)), (a_lawPlace, .inl (cyI, 6, .inl a_f_lawPlace)), (a_lawOther, .inl (cyI, 6, .inl a_f_lawOther)), (a_lawEach, .inl (cyI, 6, .inl a_f_lawEach)), (a_lawFrom, .inl (cyI, 6, .inl a_f_lawFrom)), (a_foes, .inl (cyI, 7, .inl a_f_foes)), (a_suitTable, .inl (cyI, 49, .inl a_f_suitTable)), (a_acts, .inl (cyI, 40, .inl a_f_acts)), (c0, .inr (0, [.ref c_row, .ref c_origins, .ref c_before, .ref c_lawsByNight, hvv, .int cnum])), (c_row, .inl (cyI, 7, .inl c_f_row)), (c_origins, .inl (cyI, 7, .inl c_f_origins)), (c_before, .inl (cyI, 7, .inl c_f_before)), (c_lawsByNight, .inl (cyI, 60, .inl c_f_lawsByNight))] sz)) 0 0 (va_A [(v0, .inr (5, [.ref v_hung, .int v_pl, .int v_kn, .int v_un, .int v_tr])), (v_hung, .inl (cyI, 7, .inl v_f)), (sl0, .inr (7, [.ref sNum, .ref sLen, .ref sWid, .ref sMade])), (sMade, .inl (cyZ, 4, .inl s_fm)), (sLen, .inl (cyI, 4, .inl s_fl)), (sWid, .inl (cyI, 4, .inl s_fw)), (sNum, .inl (cyN, 4, .inr (.inr (.inr (.inr nF))))), (n0, .inl (cyJ, 60, .inr (.inl s_n0))), (n1, .inl (cyJ, 60, .inr (.inl s_n1))), (n2, .inl (cyJ, 60, .inr (.inl s_n2))), (n3, .inl (cyJ, 60, .inr (.inl s_n3))), (h0, .inr (2, [.int a_pl, .int a_li, .int a_le, .int a_lc, .int a_ac, .int a_ng, .ref a_first, .ref a_now, .ref a_lawPlace, .ref a_lawOther, .ref a_lawEach, .ref a_lawFrom, .ref a_foes, .ref a_suitTable, .ref a_acts])), (a_first, .inl (cyI, 7, .inl a_f_first)), (a_now, .inl (cyI, 7, .inl a_f_now)), (a_lawPlace, .inl (cyI, 6, .inl a_f_lawPlace)), (a_lawOther, .inl (cyI, 6, .inl a_f_lawOther)), (a_lawEach, .inl (cyI, 6, .inl a_f_lawEach)), (a_lawFrom, .inl (cyI, 6, .inl a_f_lawFrom)), (a_foes, .inl (cyI, 7, .inl a_f_foes)), (a_suitTable, .inl (cyI, 49, .inl a_f_suitTable)), (a_acts, .inl (cyI, 40, .inl a_f_acts)), (c0, .inr (0, [.ref c_row, .ref c_origins, .ref c_before, .ref c_lawsByNight, hvv, .int cnum])), (c_row, .inl (cyI, 7, .inl c_f_row)), (c_origins, .inl (cyI, 7, .inl c_f_origins)), (c_before, .inl (cyI, 7, .inl c_f_before)), (c_lawsByNight, .inl (cyI, 60, .inl c_f_lawsByNight))] sz) := by
  refine Met.ofW (cc := cX6_take) (maxL := 7) (ret := (some .boolean)) (by decide) rfl ?_
  intro p e s m args below meth c s₁ B hml hv
  obtain ⟨rfl, hsz, hP, hK, hD0, hFX⟩ := hv
  have hx := B.exec
  have hb := B.bytes
  have hr := B.returns
  have hts : ∀ w ∈ uU, w.before ([.ref v0, .ref h0, .ref sl0, .int 0, .ref c0] : List Value).toArray s = true := fun w h => atoms_spec (ws := wk yX6_take cX6_take 7 (some .boolean)) B.pre w (List.mem_cons_of_mem _ h)
  have hown : s.vm.findClass RX6 = some m.cls := findClass_of_methodNamed B.named
  have hlocks := B.notSynchronized
  subst hsz
  have hD := hD0.self (sz := s.heap.size)
  generalize hAe : va_A [(v0, .inr (5, [.ref v_hung, .int v_pl, .int v_kn, .int v_un, .int v_tr])), (v_hung, .inl (cyI, 7, .inl v_f)), (sl0, .inr (7, [.ref sNum, .ref sLen, .ref sWid, .ref sMade])), (sMade, .inl (cyZ, 4, .inl s_fm)), (sLen, .inl (cyI, 4, .inl s_fl)), (sWid, .inl (cyI, 4, .inl s_fw)), (sNum, .inl (cyN, 4, .inr (.inr (.inr (.inr nF))))), (n0, .inl (cyJ, 60, .inr (.inl s_n0))), (n1, .inl (cyJ, 60, .inr (.inl s_n1))), (n2, .inl (cyJ, 60, .inr (.inl s_n2))), (n3, .inl (cyJ, 60, .inr (.inl s_n3))), (h0, .inr (2, [.int a_pl, .int a_li, .int a_le, .int a_lc, .int a_ac, .int a_ng, .ref a_first, .ref a_now, .ref a_lawPlace, .ref a_lawOther, .ref a_lawEach, .ref a_lawFrom, .ref a_foes, .ref a_suitTable, .ref a_acts])), (a_first, .inl (cyI, 7, .inl a_f_first)), (a_now, .inl (cyI, 7, .inl a_f_now)), (a_lawPlace, .inl (cyI, 6, .inl a_f_lawPlace)), (a_lawOther, .inl (cyI, 6, .inl a_f_lawOther)), (a_lawEach, .inl (cyI, 6, .inl a_f_lawEach)), (a_lawFrom, .inl (cyI, 6, .inl a_f_lawFrom)), (a_foes, .inl (cyI, 7, .inl a_f_foes)), (a_suitTable, .inl (cyI, 49, .inl a_f_suitTable)), (a_acts, .inl (cyI, 40, .inl a_f_acts)), (c0, .inr (0, [.ref c_row, .ref c_origins, .ref c_before, .ref c_lawsByNight, hvv, .int cnum])), (c_row, .inl (cyI, 7, .inl c_f_row)), (c_origins, .inl (cyI, 7, .inl c_f_origins)), (c_before, .inl (cyI, 7, .inl c_f_before)), (c_lawsByNight, .inl (cyI, 60, .inl c_f_lawsByNight))] s.heap.size = A at hD hFX ⊢
  have hA : ∀ q : Nat, s.heap.size ≤ q → A q := fun q h => by rw [← hAe]; exact Or.inr h
  have hS : va_S A s.heap s.heap [] := va_S.rf
  have hP : va_P (dC, dI) vwCl [(v0, .inr (5, [.ref v_hung, .int v_pl, .int v_kn, .int v_un, .int v_tr])), (v_hung, .inl (cyI, 7, .inl v_f)), (sl0, .inr (7, [.ref sNum, .ref sLen, .ref sWid, .ref sMade])), (sMade, .inl (cyZ, 4, .inl s_fm)), (sLen, .inl (cyI, 4, .inl s_fl)), (sWid, .inl (cyI, 4, .inl s_fw)), (sNum, .inl (cyN, 4, .inr (.inr (.inr (.inr nF))))), (n0, .inl (cyJ, 60, .inr (.inl s_n0))), (n1, .inl (cyJ, 60, .inr (.inl s_n1))), (n2, .inl (cyJ, 60, .inr (.inl s_n2))), (n3, .inl (cyJ, 60, .inr (.inl s_n3))), (h0, .inr (2, [.int a_pl, .int a_li, .int a_le, .int a_lc, .int a_ac, .int a_ng, .ref a_first, .ref a_now, .ref a_lawPlace, .ref a_lawOther, .ref a_lawEach, .ref a_lawFrom, .ref a_foes, .ref a_suitTable, .ref a_acts])), (a_first, .inl (cyI, 7, .inl a_f_first)), (a_now, .inl (cyI, 7, .inl a_f_now)), (a_lawPlace, .inl (cyI, 6, .inl a_f_lawPlace)), (a_lawOther, .inl (cyI, 6, .inl a_f_lawOther)), (a_lawEach, .inl (cyI, 6, .inl a_f_lawEach)), (a_lawFrom, .inl (cyI, 6, .inl a_f_lawFrom)), (a_foes, .inl (cyI, 7, .inl a_f_foes)), (a_suitTable, .inl (cyI, 49, .inl a_f_suitTable)), (a_acts, .inl (cyI, 40, .inl a_f_acts)), (c0, .inr (0, [.ref c_row, .ref c_origins, .ref c_before, .ref c_lawsByNight, hvv, .int cnum])), (c_row, .inl (cyI, 7, .inl c_f_row)), (c_origins, .inl (cyI, 7, .inl c_f_origins)), (c_before, .inl (cyI, 7, .inl c_f_before)), (c_lawsByNight, .inl (cyI, 60, .inl c_f_lawsByNight))] s.heap := hP
  have hl := lv_entry ([.ref v0, .ref h0, .ref sl0, .int 0, .ref c0]) (n := 7) (Nat.le_of_ble_eq_true rfl)
  rw [lg_entry_eq]
  generalize (lg_sl ([.ref v0, .ref h0, .ref sl0, .int 0, .ref c0]) ++ List.replicate (7 - (lg_sl ([.ref v0, .ref h0, .ref sl0, .int 0, .ref c0])).length) Slot.unset).toArray = ls at hl ⊢
  have hl : lv_has ls 7 [(0, .ref v0), (1, .ref h0), (2, .ref sl0), (3, .int 0), (4, .ref c0)] := hl
  obtain ⟨H, hHe⟩ : ∃ H, H = s.heap := ⟨_, rfl⟩
  have hP : va_P (dC, dI) vwCl [(v0, .inr (5, [.ref v_hung, .int v_pl, .int v_kn, .int v_un, .int v_tr])), (v_hung, .inl (cyI, 7, .inl v_f)), (sl0, .inr (7, [.ref sNum, .ref sLen, .ref sWid, .ref sMade])), (sMade, .inl (cyZ, 4, .inl s_fm)), (sLen, .inl (cyI, 4, .inl s_fl)), (sWid, .inl (cyI, 4, .inl s_fw)), (sNum, .inl (cyN, 4, .inr (.inr (.inr (.inr nF))))), (n0, .inl (cyJ, 60, .inr (.inl s_n0))), (n1, .inl (cyJ, 60, .inr (.inl s_n1))), (n2, .inl (cyJ, 60, .inr (.inl s_n2))), (n3, .inl (cyJ, 60, .inr (.inl s_n3))), (h0, .inr (2, [.int a_pl, .int a_li, .int a_le, .int a_lc, .int a_ac, .int a_ng, .ref a_first, .ref a_now, .ref a_lawPlace, .ref a_lawOther, .ref a_lawEach, .ref a_lawFrom, .ref a_foes, .ref a_suitTable, .ref a_acts])), (a_first, .inl (cyI, 7, .inl a_f_first)), (a_now, .inl (cyI, 7, .inl a_f_now)), (a_lawPlace, .inl (cyI, 6, .inl a_f_lawPlace)), (a_lawOther, .inl (cyI, 6, .inl a_f_lawOther)), (a_lawEach, .inl (cyI, 6, .inl a_f_lawEach)), (a_lawFrom, .inl (cyI, 6, .inl a_f_lawFrom)), (a_foes, .inl (cyI, 7, .inl a_f_foes)), (a_suitTable, .inl (cyI, 49, .inl a_f_suitTable)), (a_acts, .inl (cyI, 40, .inl a_f_acts)), (c0, .inr (0, [.ref c_row, .ref c_origins, .ref c_before, .ref c_lawsByNight, hvv, .int cnum])), (c_row, .inl (cyI, 7, .inl c_f_row)), (c_origins, .inl (cyI, 7, .inl c_f_origins)), (c_before, .inl (cyI, 7, .inl c_f_before)), (c_lawsByNight, .inl (cyI, 60, .inl c_f_lawsByNight))] H := by rw [hHe]; exact hP
  have hS : va_S A s.heap H [] := by rw [hHe]; exact hS
  refine cv_heap hHe ?_
  obtain ⟨Q9, hQ9⟩ : ∃ Q9 : State → Prop, Q9 = MQ below (va_Qi (fun (r : Int32) (_ : Unit) => 0 ≤ r.toInt ∧ r.toInt ≤ 1) (fun (_ : Unit) (t : State) => ∃ z0 : Int32, ∃ z1 : Int32, ∃ z2 : Int32, ∃ z3 : Int32, ∃ y4 : Nat → Int32, ∃ z5 : Value, ∃ z6 : Int32, ∃ y7 : Nat → Int32, ∃ y8 : Nat → Int32, ∃ y9 : Nat → Int32, ∃ y10 : Nat → Int32, (0 ≤ z0.toInt ∧ z0.toInt ≤ 7) ∧ (0 ≤ z1.toInt ∧ z1.toInt ≤ 127) ∧ (0 ≤ z3.toInt ∧ z3.toInt ≤ 1) ∧ (rg (-1) 6 7 y4) ∧ (rg 0 6 7 y7) ∧ (rg 0 6 7 y8) ∧ (rg 0 6 7 y9) ∧ (z2.toInt = z0.toInt - cb z1 z0.toInt.toNat) ∧ va_P (dC, dI) vwCl [(v0, .inr (5, [.ref v_hung, .int z0, .int z1, .int z2, .int z3])), (v_hung, .inl (cyI, 7, .inl y4)), (sl0, .inr (7, [.ref sNum, .ref sLen, .ref sWid, .ref sMade])), (sMade, .inl (cyZ, 4, .inl s_fm)), (sLen, .inl (cyI, 4, .inl s_fl)), (sWid, .inl (cyI, 4, .inl s_fw)), (sNum, .inl (cyN, 4, .inr (.inr (.inr (.inr nF))))), (n0, .inl (cyJ, 60, .inr (.inl s_n0))), (n1, .inl (cyJ, 60, .inr (.inl s_n1))), (n2, .inl (cyJ, 60, .inr (.inl s_n2))), (n3, .inl (cyJ, 60, .inr (.inl s_n3))), (h0, .inr (2, [.int a_pl, .int a_li, .int a_le, .int a_lc, .int a_ac, .int a_ng, .ref a_first, .ref a_now, .ref a_lawPlace, .ref a_lawOther, .ref a_lawEach, .ref a_lawFrom, .ref a_foes, .ref a_suitTable, .ref a_acts])), (a_first, .inl (cyI, 7, .inl a_f_first)), (a_now, .inl (cyI, 7, .inl a_f_now)), (a_lawPlace, .inl (cyI, 6, .inl a_f_lawPlace)), (a_lawOther, .inl (cyI, 6, .inl a_f_lawOther)), (a_lawEach, .inl (cyI, 6, .inl a_f_lawEach)), (a_lawFrom, .inl (cyI, 6, .inl a_f_lawFrom)), (a_foes, .inl (cyI, 7, .inl a_f_foes)), (a_suitTable, .inl (cyI, 49, .inl a_f_suitTable)), (a_acts, .inl (cyI, 40, .inl a_f_acts)), (c0, .inr (0, [.ref c_row, .ref c_origins, .ref c_before, .ref c_lawsByNight, z5, .int z6])), (c_row, .inl (cyI, 7, .inl y7)), (c_origins, .inl (cyI, 7, .inl y8)), (c_before, .inl (cyI, 7, .inl y9)), (c_lawsByNight, .inl (cyI, 60, .inl y10))] t.heap ∧ va_D A [(v0, .inr (5, [.ref v_hung, .int z0, .int z1, .int z2, .int z3])), (v_hung, .inl (cyI, 7, .inl y4)), (sl0, .inr (7, [.ref sNum, .ref sLen, .ref sWid, .ref sMade])), (sMade, .inl (cyZ, 4, .inl s_fm)), (sLen, .inl (cyI, 4, .inl s_fl)), (sWid, .inl (cyI, 4, .inl s_fw)), (sNum, .inl (cyN, 4, .inr (.inr (.inr (.inr nF))))), (n0, .inl (cyJ, 60, .inr (.inl s_n0))), (n1, .inl (cyJ, 60, .inr (.inl s_n1))), (n2, .inl (cyJ, 60, .inr (.inl s_n2))), (n3, .inl (cyJ, 60, .inr (.inl s_n3))), (h0, .inr (2, [.int a_pl, .int a_li, .int a_le, .int a_lc, .int a_ac, .int a_ng, .ref a_first, .ref a_now, .ref a_lawPlace, .ref a_lawOther, .ref a_lawEach, .ref a_lawFrom, .ref a_foes, .ref a_suitTable, .ref a_acts])), (a_first, .inl (cyI, 7, .inl a_f_first)), (a_now, .inl (cyI, 7, .inl a_f_now)), (a_lawPlace, .inl (cyI, 6, .inl a_f_lawPlace)), (a_lawOther, .inl (cyI, 6, .inl a_f_lawOther)), (a_lawEach, .inl (cyI, 6, .inl a_f_lawEach)), (a_lawFrom, .inl (cyI, 6, .inl a_f_lawFrom)), (a_foes, .inl (cyI, 7, .inl a_f_foes)), (a_suitTable, .inl (cyI, 49, .inl a_f_suitTable)), (a_acts, .inl (cyI, 40, .inl a_f_acts)), (c0, .inr (0, [.ref c_row, .ref c_origins, .ref c_before, .ref c_lawsByNight, z5, .int z6])), (c_row, .inl (cyI, 7, .inl y7)), (c_origins, .inl (cyI, 7, .inl y8)), (c_before, .inl (cyI, 7, .inl y9)), (c_lawsByNight, .inl (cyI, 60, .inl y10))]) A) ([.ref v0, .ref h0, .ref sl0, .int 0, .ref c0] : List Value).toArray s 0 0 A := ⟨_, rfl⟩
  rw [← hQ9]
  refine lv_aload_n hx hb dX6_take_0 rfl (lv_at hl 1 rfl) ?_
  refine lv_aload_n hx hb dX6_take_1 rfl (lv_at hl 2 rfl) ?_
  refine lv_iload_n hx hb dX6_take_2 rfl (lv_at hl 3 rfl) ?_
  have hPc := hP.sub (ws' := [(sl0, .inr (7, [.ref sNum, .ref sLen, .ref sWid, .ref sMade])), (sMade, .inl (cyZ, 4, .inl s_fm)), (sLen, .inl (cyI, 4, .inl s_fl)), (sWid, .inl (cyI, 4, .inl s_fw)), (sNum, .inl (cyN, 4, .inr (.inr (.inr (.inr nF))))), (n0, .inl (cyJ, 60, .inr (.inl s_n0))), (n1, .inl (cyJ, 60, .inr (.inl s_n1))), (n2, .inl (cyJ, 60, .inr (.inl s_n2))), (n3, .inl (cyJ, 60, .inr (.inl s_n3))), (h0, .inr (2, [.int a_pl, .int a_li, .int a_le, .int a_lc, .int a_ac, .int a_ng, .ref a_first, .ref a_now, .ref a_lawPlace, .ref a_lawOther, .ref a_lawEach, .ref a_lawFrom, .ref a_foes, .ref a_suitTable, .ref a_acts])), (a_first, .inl (cyI, 7, .inl a_f_first)), (a_now, .inl (cyI, 7, .inl a_f_now)), (a_lawPlace, .inl (cyI, 6, .inl a_f_lawPlace)), (a_lawOther, .inl (cyI, 6, .inl a_f_lawOther)), (a_lawEach, .inl (cyI, 6, .inl a_f_lawEach)), (a_lawFrom, .inl (cyI, 6, .inl a_f_lawFrom)), (a_foes, .inl (cyI, 7, .inl a_f_foes)), (a_suitTable, .inl (cyI, 49, .inl a_f_suitTable)), (a_acts, .inl (cyI, 40, .inl a_f_acts))]) [2, 3, 4, 5, 6, 7, 8, 9, 10, 11, 12, 13, 14, 15, 16, 17, 18, 19, 20] rfl
  have hKc := hK.sub (tys' := [(cyI, .int), (cyB, .byte), (cyJ, .long), (cyZ, .boolean), (cyH, .object RX2), (cyN, .array .long)]) [0, 1, 2, 3, 4, 5] rfl
  refine vp_callSi (va_Run.run (va_runS (As := [.ref h0, .ref sl0, .int 0]) (rest := []) ⟨hx, hb, hml, hown, hts⟩ (n_areSuch0 l dC dI cyI cyB cyJ cyZ cyH cyN sl0 sNum sLen sWid sMade n0 n1 n2 n3 nF s_fm s_fl s_fw s_n0 s_n1 s_n2 s_n3 h0 a_first a_now a_lawPlace a_lawOther a_lawEach a_lawFrom a_foes a_suitTable a_acts a_pl a_li a_le a_lc a_ac a_ng a_f_first a_f_now a_f_lawPlace a_f_lawOther a_f_lawEach a_f_lawFrom a_f_foes a_f_suitTable a_f_acts g1 g2 g3 g4 g5 g6 g7 g8 (by omega) (by omega) (by omega) g18 g19 g20 g21) (va_cwS 3 hts (gdS wd_4_181 wd_4_182 wd_1_6 wd_4_183) rfl rfl rfl (by decide +kernel) ⟨Nat.le_of_ble_eq_true rfl, Nat.le_of_ble_eq_true rfl⟩) ⟨fun a U g mk q => by obtain ⟨q0, qP, qK⟩ := q; exact ⟨q0, qP, va_K.moved (u := U) (U := U.calling g mk a) (Vm.Alike.refl U.vm) qK⟩, fun U hU hW => ⟨rfl, by rw [hU]; exact hPc, va_K.moved hW.alike hKc⟩⟩ rfl rfl hl.1 rfl (lv_room (Nat.le_of_ble_eq_true rfl)) dX6_take_3 ⟨Nat.le_of_ble_eq_true rfl, Nat.le_of_ble_eq_true rfl⟩)) (fun r_1 hw => ?_)
  rcases cv_01 hw.1 with c_2 | c_2
  · subst c_2
    refine lv_if_ne (tgt := 11) hx hb dX6_take_6 (by decide) (fun c_4 => absurd c_4 (by decide)) (fun _ => ?_)
    refine lv_iconst (v := 0) hx hb dX6_take_9 (by decide) ?_
    rw [hQ9]
    have hP9 := hP.sub (ws' := [(v0, .inr (5, [.ref v_hung, .int v_pl, .int v_kn, .int v_un, .int v_tr])), (v_hung, .inl (cyI, 7, .inl v_f)), (sl0, .inr (7, [.ref sNum, .ref sLen, .ref sWid, .ref sMade])), (sMade, .inl (cyZ, 4, .inl s_fm)), (sLen, .inl (cyI, 4, .inl s_fl)), (sWid, .inl (cyI, 4, .inl s_fw)), (sNum, .inl (cyN, 4, .inr (.inr (.inr (.inr nF))))), (n0, .inl (cyJ, 60, .inr (.inl s_n0))), (n1, .inl (cyJ, 60, .inr (.inl s_n1))), (n2, .inl (cyJ, 60, .inr (.inl s_n2))), (n3, .inl (cyJ, 60, .inr (.inl s_n3))), (h0, .inr (2, [.int a_pl, .int a_li, .int a_le, .int a_lc, .int a_ac, .int a_ng, .ref a_first, .ref a_now, .ref a_lawPlace, .ref a_lawOther, .ref a_lawEach, .ref a_lawFrom, .ref a_foes, .ref a_suitTable, .ref a_acts])), (a_first, .inl (cyI, 7, .inl a_f_first)), (a_now, .inl (cyI, 7, .inl a_f_now)), (a_lawPlace, .inl (cyI, 6, .inl a_f_lawPlace)), (a_lawOther, .inl (cyI, 6, .inl a_f_lawOther)), (a_lawEach, .inl (cyI, 6, .inl a_f_lawEach)), (a_lawFrom, .inl (cyI, 6, .inl a_f_lawFrom)), (a_foes, .inl (cyI, 7, .inl a_f_foes)), (a_suitTable, .inl (cyI, 49, .inl a_f_suitTable)), (a_acts, .inl (cyI, 40, .inl a_f_acts)), (c0, .inr (0, [.ref c_row, .ref c_origins, .ref c_before, .ref c_lawsByNight, hvv, .int cnum])), (c_row, .inl (cyI, 7, .inl c_f_row)), (c_origins, .inl (cyI, 7, .inl c_f_origins)), (c_before, .inl (cyI, 7, .inl c_f_before)), (c_lawsByNight, .inl (cyI, 60, .inl c_f_lawsByNight))]) [0, 1, 2, 3, 4, 5, 6, 7, 8, 9, 10, 11, 12, 13, 14, 15, 16, 17, 18, 19, 20, 21, 22, 23, 24, 25] rfl
    have hD9 := hD.sub (ws' := [(v0, .inr (5, [.ref v_hung, .int v_pl, .int v_kn, .int v_un, .int v_tr])), (v_hung, .inl (cyI, 7, .inl v_f)), (sl0, .inr (7, [.ref sNum, .ref sLen, .ref sWid, .ref sMade])), (sMade, .inl (cyZ, 4, .inl s_fm)), (sLen, .inl (cyI, 4, .inl s_fl)), (sWid, .inl (cyI, 4, .inl s_fw)), (sNum, .inl (cyN, 4, .inr (.inr (.inr (.inr nF))))), (n0, .inl (cyJ, 60, .inr (.inl s_n0))), (n1, .inl (cyJ, 60, .inr (.inl s_n1))), (n2, .inl (cyJ, 60, .inr (.inl s_n2))), (n3, .inl (cyJ, 60, .inr (.inl s_n3))), (h0, .inr (2, [.int a_pl, .int a_li, .int a_le, .int a_lc, .int a_ac, .int a_ng, .ref a_first, .ref a_now, .ref a_lawPlace, .ref a_lawOther, .ref a_lawEach, .ref a_lawFrom, .ref a_foes, .ref a_suitTable, .ref a_acts])), (a_first, .inl (cyI, 7, .inl a_f_first)), (a_now, .inl (cyI, 7, .inl a_f_now)), (a_lawPlace, .inl (cyI, 6, .inl a_f_lawPlace)), (a_lawOther, .inl (cyI, 6, .inl a_f_lawOther)), (a_lawEach, .inl (cyI, 6, .inl a_f_lawEach)), (a_lawFrom, .inl (cyI, 6, .inl a_f_lawFrom)), (a_foes, .inl (cyI, 7, .inl a_f_foes)), (a_suitTable, .inl (cyI, 49, .inl a_f_suitTable)), (a_acts, .inl (cyI, 40, .inl a_f_acts)), (c0, .inr (0, [.ref c_row, .ref c_origins, .ref c_before, .ref c_lawsByNight, hvv, .int cnum])), (c_row, .inl (cyI, 7, .inl c_f_row)), (c_origins, .inl (cyI, 7, .inl c_f_origins)), (c_before, .inl (cyI, 7, .inl c_f_before)), (c_lawsByNight, .inl (cyI, 60, .inl c_f_lawsByNight))]) [0, 1, 2, 3, 4, 5, 6, 7, 8, 9, 10, 11, 12, 13, 14, 15, 16, 17, 18, 19, 20, 21, 22, 23, 24, 25] (by decide) rfl
    exact W.zret (v := 0) (ty := .boolean) hx hb hr rfl (fun t ht hW => ⟨⟨0, (), rfl, (by decide), ⟨v_pl, v_kn, v_un, v_tr, v_f, hvv, cnum, c_f_row, c_f_origins, c_f_before, c_f_lawsByNight, (by omega), (by omega), (by omega), g0, g9, g10, g11, g22, by rw [ht]; exact hP9, hD9⟩⟩, hS.F ht⟩) hS.2.2 dX6_take_10
  · subst c_2; have hq_3 := hw.2 rfl
    refine lv_if_ne (tgt := 11) hx hb dX6_take_6 (by decide) (fun _ => ?_) (fun c_5 => absurd c_5 (by decide))
    refine lv_aload_n hx hb dX6_take_11 rfl (lv_at hl 0 rfl) ?_
    refine lv_aload_n hx hb dX6_take_12 rfl (lv_at hl 1 rfl) ?_
    refine va_get (D := (dC, dI)) (ci := 2) (v := .int a_pl) (C := RX2) (T := TX2) (N := 15) hx hb hts uinX2 hown hK hP 11 rfl rfl 0 (by decide) (hts _ wd_1_82) (fun _ h9 => h9) rfl dX6_take_13 ?_
    refine va_put (D := (dC, dI)) (ci := 5) (v := .int a_pl) (ty := .int) (C := RX6) (T := TX6) (N := 5) hx hb hts uinX6 tyX6 tyX6_ok nmX6 hown hK hP hD hS 0 rfl rfl 1 (by decide) (hts _ wd_1_219) (fun _ h9 => h9) rfl (by decide +kernel) rfl rfl (Nat.le_of_ble_eq_true rfl) dX6_take_16 (fun H locs hP hD hS => ?_)
    have hP : va_P (dC, dI) vwCl [(v0, .inr (5, [.ref v_hung, .int a_pl, .int v_kn, .int v_un, .int v_tr])), (v_hung, .inl (cyI, 7, .inl v_f)), (sl0, .inr (7, [.ref sNum, .ref sLen, .ref sWid, .ref sMade])), (sMade, .inl (cyZ, 4, .inl s_fm)), (sLen, .inl (cyI, 4, .inl s_fl)), (sWid, .inl (cyI, 4, .inl s_fw)), (sNum, .inl (cyN, 4, .inr (.inr (.inr (.inr nF))))), (n0, .inl (cyJ, 60, .inr (.inl s_n0))), (n1, .inl (cyJ, 60, .inr (.inl s_n1))), (n2, .inl (cyJ, 60, .inr (.inl s_n2))), (n3, .inl (cyJ, 60, .inr (.inl s_n3))), (h0, .inr (2, [.int a_pl, .int a_li, .int a_le, .int a_lc, .int a_ac, .int a_ng, .ref a_first, .ref a_now, .ref a_lawPlace, .ref a_lawOther, .ref a_lawEach, .ref a_lawFrom, .ref a_foes, .ref a_suitTable, .ref a_acts])), (a_first, .inl (cyI, 7, .inl a_f_first)), (a_now, .inl (cyI, 7, .inl a_f_now)), (a_lawPlace, .inl (cyI, 6, .inl a_f_lawPlace)), (a_lawOther, .inl (cyI, 6, .inl a_f_lawOther)), (a_lawEach, .inl (cyI, 6, .inl a_f_lawEach)), (a_lawFrom, .inl (cyI, 6, .inl a_f_lawFrom)), (a_foes, .inl (cyI, 7, .inl a_f_foes)), (a_suitTable, .inl (cyI, 49, .inl a_f_suitTable)), (a_acts, .inl (cyI, 40, .inl a_f_acts)), (c0, .inr (0, [.ref c_row, .ref c_origins, .ref c_before, .ref c_lawsByNight, hvv, .int cnum])), (c_row, .inl (cyI, 7, .inl c_f_row)), (c_origins, .inl (cyI, 7, .inl c_f_origins)), (c_before, .inl (cyI, 7, .inl c_f_before)), (c_lawsByNight, .inl (cyI, 60, .inl c_f_lawsByNight))] H := hP
    have hD : va_D A [(v0, .inr (5, [.ref v_hung, .int a_pl, .int v_kn, .int v_un, .int v_tr])), (v_hung, .inl (cyI, 7, .inl v_f)), (sl0, .inr (7, [.ref sNum, .ref sLen, .ref sWid, .ref sMade])), (sMade, .inl (cyZ, 4, .inl s_fm)), (sLen, .inl (cyI, 4, .inl s_fl)), (sWid, .inl (cyI, 4, .inl s_fw)), (sNum, .inl (cyN, 4, .inr (.inr (.inr (.inr nF))))), (n0, .inl (cyJ, 60, .inr (.inl s_n0))), (n1, .inl (cyJ, 60, .inr (.inl s_n1))), (n2, .inl (cyJ, 60, .inr (.inl s_n2))), (n3, .inl (cyJ, 60, .inr (.inl s_n3))), (h0, .inr (2, [.int a_pl, .int a_li, .int a_le, .int a_lc, .int a_ac, .int a_ng, .ref a_first, .ref a_now, .ref a_lawPlace, .ref a_lawOther, .ref a_lawEach, .ref a_lawFrom, .ref a_foes, .ref a_suitTable, .ref a_acts])), (a_first, .inl (cyI, 7, .inl a_f_first)), (a_now, .inl (cyI, 7, .inl a_f_now)), (a_lawPlace, .inl (cyI, 6, .inl a_f_lawPlace)), (a_lawOther, .inl (cyI, 6, .inl a_f_lawOther)), (a_lawEach, .inl (cyI, 6, .inl a_f_lawEach)), (a_lawFrom, .inl (cyI, 6, .inl a_f_lawFrom)), (a_foes, .inl (cyI, 7, .inl a_f_foes)), (a_suitTable, .inl (cyI, 49, .inl a_f_suitTable)), (a_acts, .inl (cyI, 40, .inl a_f_acts)), (c0, .inr (0, [.ref c_row, .ref c_origins, .ref c_before, .ref c_lawsByNight, hvv, .int cnum])), (c_row, .inl (cyI, 7, .inl c_f_row)), (c_origins, .inl (cyI, 7, .inl c_f_origins)), (c_before, .inl (cyI, 7, .inl c_f_before)), (c_lawsByNight, .inl (cyI, 60, .inl c_f_lawsByNight))] := hD
    refine lv_aload_n hx hb dX6_take_19 rfl (lv_at hl 0 rfl) ?_
    refine lv_iconst (v := 0) hx hb dX6_take_20 (by decide) ?_
    refine va_put (D := (dC, dI)) (ci := 5) (v := .int 0) (ty := .int) (C := RX6) (T := TX6) (N := 5) hx hb hts uinX6 tyX6 tyX6_ok nmX6 hown hK hP hD hS 0 rfl rfl 2 (by decide) (hts _ wd_1_220) (fun _ h9 => h9) rfl (by decide +kernel) rfl rfl (Nat.le_of_ble_eq_true rfl) dX6_take_21 (fun H locs hP hD hS => ?_)
    have hP : va_P (dC, dI) vwCl [(v0, .inr (5, [.ref v_hung, .int a_pl, .int 0, .int v_un, .int v_tr])), (v_hung, .inl (cyI, 7, .inl v_f)), (sl0, .inr (7, [.ref sNum, .ref sLen, .ref sWid, .ref sMade])), (sMade, .inl (cyZ, 4, .inl s_fm)), (sLen, .inl (cyI, 4, .inl s_fl)), (sWid, .inl (cyI, 4, .inl s_fw)), (sNum, .inl (cyN, 4, .inr (.inr (.inr (.inr nF))))), (n0, .inl (cyJ, 60, .inr (.inl s_n0))), (n1, .inl (cyJ, 60, .inr (.inl s_n1))), (n2, .inl (cyJ, 60, .inr (.inl s_n2))), (n3, .inl (cyJ, 60, .inr (.inl s_n3))), (h0, .inr (2, [.int a_pl, .int a_li, .int a_le, .int a_lc, .int a_ac, .int a_ng, .ref a_first, .ref a_now, .ref a_lawPlace, .ref a_lawOther, .ref a_lawEach, .ref a_lawFrom, .ref a_foes, .ref a_suitTable, .ref a_acts])), (a_first, .inl (cyI, 7, .inl a_f_first)), (a_now, .inl (cyI, 7, .inl a_f_now)), (a_lawPlace, .inl (cyI, 6, .inl a_f_lawPlace)), (a_lawOther, .inl (cyI, 6, .inl a_f_lawOther)), (a_lawEach, .inl (cyI, 6, .inl a_f_lawEach)), (a_lawFrom, .inl (cyI, 6, .inl a_f_lawFrom)), (a_foes, .inl (cyI, 7, .inl a_f_foes)), (a_suitTable, .inl (cyI, 49, .inl a_f_suitTable)), (a_acts, .inl (cyI, 40, .inl a_f_acts)), (c0, .inr (0, [.ref c_row, .ref c_origins, .ref c_before, .ref c_lawsByNight, hvv, .int cnum])), (c_row, .inl (cyI, 7, .inl c_f_row)), (c_origins, .inl (cyI, 7, .inl c_f_origins)), (c_before, .inl (cyI, 7, .inl c_f_before)), (c_lawsByNight, .inl (cyI, 60, .inl c_f_lawsByNight))] H := hP
    have hD : va_D A [(v0, .inr (5, [.ref v_hung, .int a_pl, .int 0, .int v_un, .int v_tr])), (v_hung, .inl (cyI, 7, .inl v_f)), (sl0, .inr (7, [.ref sNum, .ref sLen, .ref sWid, .ref sMade])), (sMade, .inl (cyZ, 4, .inl s_fm)), (sLen, .inl (cyI, 4, .inl s_fl)), (sWid, .inl (cyI, 4, .inl s_fw)), (sNum, .inl (cyN, 4, .inr (.inr (.inr (.inr nF))))), (n0, .inl (cyJ, 60, .inr (.inl s_n0))), (n1, .inl (cyJ, 60, .inr (.inl s_n1))), (n2, .inl (cyJ, 60, .inr (.inl s_n2))), (n3, .inl (cyJ, 60, .inr (.inl s_n3))), (h0, .inr (2, [.int a_pl, .int a_li, .int a_le, .int a_lc, .int a_ac, .int a_ng, .ref a_first, .ref a_now, .ref a_lawPlace, .ref a_lawOther, .ref a_lawEach, .ref a_lawFrom, .ref a_foes, .ref a_suitTable, .ref a_acts])), (a_first, .inl (cyI, 7, .inl a_f_first)), (a_now, .inl (cyI, 7, .inl a_f_now)), (a_lawPlace, .inl (cyI, 6, .inl a_f_lawPlace)), (a_lawOther, .inl (cyI, 6, .inl a_f_lawOther)), (a_lawEach, .inl (cyI, 6, .inl a_f_lawEach)), (a_lawFrom, .inl (cyI, 6, .inl a_f_lawFrom)), (a_foes, .inl (cyI, 7, .inl a_f_foes)), (a_suitTable, .inl (cyI, 49, .inl a_f_suitTable)), (a_acts, .inl (cyI, 40, .inl a_f_acts)), (c0, .inr (0, [.ref c_row, .ref c_origins, .ref c_before, .ref c_lawsByNight, hvv, .int cnum])), (c_row, .inl (cyI, 7, .inl c_f_row)), (c_origins, .inl (cyI, 7, .inl c_f_origins)), (c_before, .inl (cyI, 7, .inl c_f_before)), (c_lawsByNight, .inl (cyI, 60, .inl c_f_lawsByNight))] := hD
    refine lv_aload_n hx hb dX6_take_24 rfl (lv_at hl 0 rfl) ?_
    refine lv_aload_n hx hb dX6_take_25 rfl (lv_at hl 0 rfl) ?_
    refine va_get (D := (dC, dI)) (ci := 5) (v := .int a_pl) (C := RX6) (T := TX6) (N := 5) hx hb hts uinX6 hown hK hP 0 rfl rfl 1 (by decide) (hts _ wd_1_219) (fun _ h9 => h9) rfl dX6_take_26 ?_
    refine va_put (D := (dC, dI)) (ci := 5) (v := .int a_pl) (ty := .int) (C := RX6) (T := TX6) (N := 5) hx hb hts uinX6 tyX6 tyX6_ok nmX6 hown hK hP hD hS 0 rfl rfl 3 (by decide) (hts _ wd_1_221) (fun _ h9 => h9) rfl (by decide +kernel) rfl rfl (Nat.le_of_ble_eq_true rfl) dX6_take_29 (fun H locs hP hD hS => ?_)
    have hP : va_P (dC, dI) vwCl [(v0, .inr (5, [.ref v_hung, .int a_pl, .int 0, .int a_pl, .int v_tr])), (v_hung, .inl (cyI, 7, .inl v_f)), (sl0, .inr (7, [.ref sNum, .ref sLen, .ref sWid, .ref sMade])), (sMade, .inl (cyZ, 4, .inl s_fm)), (sLen, .inl (cyI, 4, .inl s_fl)), (sWid, .inl (cyI, 4, .inl s_fw)), (sNum, .inl (cyN, 4, .inr (.inr (.inr (.inr nF))))), (n0, .inl (cyJ, 60, .inr (.inl s_n0))), (n1, .inl (cyJ, 60, .inr (.inl s_n1))), (n2, .inl (cyJ, 60, .inr (.inl s_n2))), (n3, .inl (cyJ, 60, .inr (.inl s_n3))), (h0, .inr (2, [.int a_pl, .int a_li, .int a_le, .int a_lc, .int a_ac, .int a_ng, .ref a_first, .ref a_now, .ref a_lawPlace, .ref a_lawOther, .ref a_lawEach, .ref a_lawFrom, .ref a_foes, .ref a_suitTable, .ref a_acts])), (a_first, .inl (cyI, 7, .inl a_f_first)), (a_now, .inl (cyI, 7, .inl a_f_now)), (a_lawPlace, .inl (cyI, 6, .inl a_f_lawPlace)), (a_lawOther, .inl (cyI, 6, .inl a_f_lawOther)), (a_lawEach, .inl (cyI, 6, .inl a_f_lawEach)), (a_lawFrom, .inl (cyI, 6, .inl a_f_lawFrom)), (a_foes, .inl (cyI, 7, .inl a_f_foes)), (a_suitTable, .inl (cyI, 49, .inl a_f_suitTable)), (a_acts, .inl (cyI, 40, .inl a_f_acts)), (c0, .inr (0, [.ref c_row, .ref c_origins, .ref c_before, .ref c_lawsByNight, hvv, .int cnum])), (c_row, .inl (cyI, 7, .inl c_f_row)), (c_origins, .inl (cyI, 7, .inl c_f_origins)), (c_before, .inl (cyI, 7, .inl c_f_before)), (c_lawsByNight, .inl (cyI, 60, .inl c_f_lawsByNight))] H := hP
    have hD : va_D A [(v0, .inr (5, [.ref v_hung, .int a_pl, .int 0, .int a_pl, .int v_tr])), (v_hung, .inl (cyI, 7, .inl v_f)), (sl0, .inr (7, [.ref sNum, .ref sLen, .ref sWid, .ref sMade])), (sMade, .inl (cyZ, 4, .inl s_fm)), (sLen, .inl (cyI, 4, .inl s_fl)), (sWid, .inl (cyI, 4, .inl s_fw)), (sNum, .inl (cyN, 4, .inr (.inr (.inr (.inr nF))))), (n0, .inl (cyJ, 60, .inr (.inl s_n0))), (n1, .inl (cyJ, 60, .inr (.inl s_n1))), (n2, .inl (cyJ, 60, .inr (.inl s_n2))), (n3, .inl (cyJ, 60, .inr (.inl s_n3))), (h0, .inr (2, [.int a_pl, .int a_li, .int a_le, .int a_lc, .int a_ac, .int a_ng, .ref a_first, .ref a_now, .ref a_lawPlace, .ref a_lawOther, .ref a_lawEach, .ref a_lawFrom, .ref a_foes, .ref a_suitTable, .ref a_acts])), (a_first, .inl (cyI, 7, .inl a_f_first)), (a_now, .inl (cyI, 7, .inl a_f_now)), (a_lawPlace, .inl (cyI, 6, .inl a_f_lawPlace)), (a_lawOther, .inl (cyI, 6, .inl a_f_lawOther)), (a_lawEach, .inl (cyI, 6, .inl a_f_lawEach)), (a_lawFrom, .inl (cyI, 6, .inl a_f_lawFrom)), (a_foes, .inl (cyI, 7, .inl a_f_foes)), (a_suitTable, .inl (cyI, 49, .inl a_f_suitTable)), (a_acts, .inl (cyI, 40, .inl a_f_acts)), (c0, .inr (0, [.ref c_row, .ref c_origins, .ref c_before, .ref c_lawsByNight, hvv, .int cnum])), (c_row, .inl (cyI, 7, .inl c_f_row)), (c_origins, .inl (cyI, 7, .inl c_f_origins)), (c_before, .inl (cyI, 7, .inl c_f_before)), (c_lawsByNight, .inl (cyI, 60, .inl c_f_lawsByNight))] := hD
    refine lv_aload_n hx hb dX6_take_32 rfl (lv_at hl 0 rfl) ?_
    refine lv_iconst (v := 1) hx hb dX6_take_33 (by decide) ?_
    refine va_put (D := (dC, dI)) (ci := 5) (v := .int 1) (ty := .boolean) (C := RX6) (T := TX6) (N := 5) hx hb hts uinX6 tyX6 tyX6_ok nmX6 hown hK hP hD hS 0 rfl rfl 4 (by decide) (hts _ wd_1_222) (fun _ h9 => h9) rfl (by decide +kernel) rfl rfl (Nat.le_of_ble_eq_true rfl) dX6_take_34 (fun H locs hP hD hS => ?_)
    have hP : va_P (dC, dI) vwCl [(v0, .inr (5, [.ref v_hung, .int a_pl, .int 0, .int a_pl, .int 1])), (v_hung, .inl (cyI, 7, .inl v_f)), (sl0, .inr (7, [.ref sNum, .ref sLen, .ref sWid, .ref sMade])), (sMade, .inl (cyZ, 4, .inl s_fm)), (sLen, .inl (cyI, 4, .inl s_fl)), (sWid, .inl (cyI, 4, .inl s_fw)), (sNum, .inl (cyN, 4, .inr (.inr (.inr (.inr nF))))), (n0, .inl (cyJ, 60, .inr (.inl s_n0))), (n1, .inl (cyJ, 60, .inr (.inl s_n1))), (n2, .inl (cyJ, 60, .inr (.inl s_n2))), (n3, .inl (cyJ, 60, .inr (.inl s_n3))), (h0, .inr (2, [.int a_pl, .int a_li, .int a_le, .int a_lc, .int a_ac, .int a_ng, .ref a_first, .ref a_now, .ref a_lawPlace, .ref a_lawOther, .ref a_lawEach, .ref a_lawFrom, .ref a_foes, .ref a_suitTable, .ref a_acts])), (a_first, .inl (cyI, 7, .inl a_f_first)), (a_now, .inl (cyI, 7, .inl a_f_now)), (a_lawPlace, .inl (cyI, 6, .inl a_f_lawPlace)), (a_lawOther, .inl (cyI, 6, .inl a_f_lawOther)), (a_lawEach, .inl (cyI, 6, .inl a_f_lawEach)), (a_lawFrom, .inl (cyI, 6, .inl a_f_lawFrom)), (a_foes, .inl (cyI, 7, .inl a_f_foes)), (a_suitTable, .inl (cyI, 49, .inl a_f_suitTable)), (a_acts, .inl (cyI, 40, .inl a_f_acts)), (c0, .inr (0, [.ref c_row, .ref c_origins, .ref c_before, .ref c_lawsByNight, hvv, .int cnum])), (c_row, .inl (cyI, 7, .inl c_f_row)), (c_origins, .inl (cyI, 7, .inl c_f_origins)), (c_before, .inl (cyI, 7, .inl c_f_before)), (c_lawsByNight, .inl (cyI, 60, .inl c_f_lawsByNight))] H := hP
    have hD : va_D A [(v0, .inr (5, [.ref v_hung, .int a_pl, .int 0, .int a_pl, .int 1])), (v_hung, .inl (cyI, 7, .inl v_f)), (sl0, .inr (7, [.ref sNum, .ref sLen, .ref sWid, .ref sMade])), (sMade, .inl (cyZ, 4, .inl s_fm)), (sLen, .inl (cyI, 4, .inl s_fl)), (sWid, .inl (cyI, 4, .inl s_fw)), (sNum, .inl (cyN, 4, .inr (.inr (.inr (.inr nF))))), (n0, .inl (cyJ, 60, .inr (.inl s_n0))), (n1, .inl (cyJ, 60, .inr (.inl s_n1))), (n2, .inl (cyJ, 60, .inr (.inl s_n2))), (n3, .inl (cyJ, 60, .inr (.inl s_n3))), (h0, .inr (2, [.int a_pl, .int a_li, .int a_le, .int a_lc, .int a_ac, .int a_ng, .ref a_first, .ref a_now, .ref a_lawPlace, .ref a_lawOther, .ref a_lawEach, .ref a_lawFrom, .ref a_foes, .ref a_suitTable, .ref a_acts])), (a_first, .inl (cyI, 7, .inl a_f_first)), (a_now, .inl (cyI, 7, .inl a_f_now)), (a_lawPlace, .inl (cyI, 6, .inl a_f_lawPlace)), (a_lawOther, .inl (cyI, 6, .inl a_f_lawOther)), (a_lawEach, .inl (cyI, 6, .inl a_f_lawEach)), (a_lawFrom, .inl (cyI, 6, .inl a_f_lawFrom)), (a_foes, .inl (cyI, 7, .inl a_f_foes)), (a_suitTable, .inl (cyI, 49, .inl a_f_suitTable)), (a_acts, .inl (cyI, 40, .inl a_f_acts)), (c0, .inr (0, [.ref c_row, .ref c_origins, .ref c_before, .ref c_lawsByNight, hvv, .int cnum])), (c_row, .inl (cyI, 7, .inl c_f_row)), (c_origins, .inl (cyI, 7, .inl c_f_origins)), (c_before, .inl (cyI, 7, .inl c_f_before)), (c_lawsByNight, .inl (cyI, 60, .inl c_f_lawsByNight))] := hD
    refine lv_aload_n hx hb dX6_take_37 rfl (lv_at hl 0 rfl) ?_
    refine va_get (D := (dC, dI)) (ci := 5) (v := .ref v_hung) (C := RX6) (T := TX6) (N := 5) hx hb hts uinX6 hown hK hP 0 rfl rfl 0 (by decide) (hts _ wd_1_218) (fun _ h9 => h9) rfl dX6_take_38 ?_
    refine lv_iconst (v := (-1)) hx hb dX6_take_41 (by decide) ?_
    have hPc := hP.sub (ws' := [(v_hung, .inl (cyI, 7, .inl v_f))]) [1] rfl
    have hKc := hK.sub (tys' := [(cyI, .int), (cyB, .byte), (cyJ, .long), (cyZ, .boolean), (cyH, .object RX2), (cyN, .array .long)]) [0, 1, 2, 3, 4, 5] rfl
    have hDc := hD.sub (ws' := [(v_hung, .inl (cyI, 7, .inl v_f))]) [1] (by decide) rfl
    have hFc := va_free (wc := [(v_hung, .inl (cyI, 7, .inl v_f))]) hD hS hA [1] rfl
    refine va_callv (va_runS (As := [.ref v_hung, .int (-1)]) (rest := []) ⟨hx, hb, hml, hown, hts⟩ (n_fillNone l dC dI cyI cyB cyJ cyZ cyH cyN H.size v_hung v_f) (va_cwS 2 hts (gdS wd_4_185 wd_2_140 wd_1_12 wd_2_141) rfl rfl rfl (by decide +kernel) ⟨Nat.le_of_ble_eq_true rfl, Nat.le_of_ble_eq_true rfl⟩) ⟨fun a U g mk q => by obtain ⟨q0, q1, qP, qK, qD⟩ := q; exact ⟨q0, q1, qP, va_K.moved (u := U) (U := U.calling g mk a) (Vm.Alike.refl U.vm) qK, qD⟩, fun U hU hW => ⟨rfl, by rw [hU], by rw [hU]; exact hPc, va_K.moved hW.alike hKc, hDc.weaken (fun _ _ _ _ => trivial)⟩⟩ rfl rfl hl.1 rfl (lv_room (Nat.le_of_ble_eq_true rfl)) dX6_take_42 ⟨Nat.le_of_ble_eq_true rfl, Nat.le_of_ble_eq_true rfl⟩) hS (fun q _ h => hFc q h) hFc (fun  u t H1 locs ht hvm hw hB hz1 hk1 hS => ?_)
    obtain ⟨y0_6, hp_7, hP1, hD1⟩ := hB
    rw [ht] at hP1
    obtain ⟨hP, hD⟩ := va_join (wr := [(v0, .inr (5, [.ref v_hung, .int a_pl, .int 0, .int a_pl, .int 1])), (sl0, .inr (7, [.ref sNum, .ref sLen, .ref sWid, .ref sMade])), (sMade, .inl (cyZ, 4, .inl s_fm)), (sLen, .inl (cyI, 4, .inl s_fl)), (sWid, .inl (cyI, 4, .inl s_fw)), (sNum, .inl (cyN, 4, .inr (.inr (.inr (.inr nF))))), (n0, .inl (cyJ, 60, .inr (.inl s_n0))), (n1, .inl (cyJ, 60, .inr (.inl s_n1))), (n2, .inl (cyJ, 60, .inr (.inl s_n2))), (n3, .inl (cyJ, 60, .inr (.inl s_n3))), (h0, .inr (2, [.int a_pl, .int a_li, .int a_le, .int a_lc, .int a_ac, .int a_ng, .ref a_first, .ref a_now, .ref a_lawPlace, .ref a_lawOther, .ref a_lawEach, .ref a_lawFrom, .ref a_foes, .ref a_suitTable, .ref a_acts])), (a_first, .inl (cyI, 7, .inl a_f_first)), (a_now, .inl (cyI, 7, .inl a_f_now)), (a_lawPlace, .inl (cyI, 6, .inl a_f_lawPlace)), (a_lawOther, .inl (cyI, 6, .inl a_f_lawOther)), (a_lawEach, .inl (cyI, 6, .inl a_f_lawEach)), (a_lawFrom, .inl (cyI, 6, .inl a_f_lawFrom)), (a_foes, .inl (cyI, 7, .inl a_f_foes)), (a_suitTable, .inl (cyI, 49, .inl a_f_suitTable)), (a_acts, .inl (cyI, 40, .inl a_f_acts)), (c0, .inr (0, [.ref c_row, .ref c_origins, .ref c_before, .ref c_lawsByNight, hvv, .int cnum])), (c_row, .inl (cyI, 7, .inl c_f_row)), (c_origins, .inl (cyI, 7, .inl c_f_origins)), (c_before, .inl (cyI, 7, .inl c_f_before)), (c_lawsByNight, .inl (cyI, 60, .inl c_f_lawsByNight))]) (w1 := [(v_hung, .inl (cyI, 7, .inl y0_6))]) hP hD [1] [0, 2, 3, 4, 5, 6, 7, 8, 9, 10, 11, 12, 13, 14, 15, 16, 17, 18, 19, 20, 21, 22, 23, 24, 25] rfl rfl (by decide) (by decide) hk1 hFc hP1 hD1
    generalize H1 = H at hP hS ⊢
    have hP : va_P (dC, dI) vwCl [(v0, .inr (5, [.ref v_hung, .int a_pl, .int 0, .int a_pl, .int 1])), (sl0, .inr (7, [.ref sNum, .ref sLen, .ref sWid, .ref sMade])), (sMade, .inl (cyZ, 4, .inl s_fm)), (sLen, .inl (cyI, 4, .inl s_fl)), (sWid, .inl (cyI, 4, .inl s_fw)), (sNum, .inl (cyN, 4, .inr (.inr (.inr (.inr nF))))), (n0, .inl (cyJ, 60, .inr (.inl s_n0))), (n1, .inl (cyJ, 60, .inr (.inl s_n1))), (n2, .inl (cyJ, 60, .inr (.inl s_n2))), (n3, .inl (cyJ, 60, .inr (.inl s_n3))), (h0, .inr (2, [.int a_pl, .int a_li, .int a_le, .int a_lc, .int a_ac, .int a_ng, .ref a_first, .ref a_now, .ref a_lawPlace, .ref a_lawOther, .ref a_lawEach, .ref a_lawFrom, .ref a_foes, .ref a_suitTable, .ref a_acts])), (a_first, .inl (cyI, 7, .inl a_f_first)), (a_now, .inl (cyI, 7, .inl a_f_now)), (a_lawPlace, .inl (cyI, 6, .inl a_f_lawPlace)), (a_lawOther, .inl (cyI, 6, .inl a_f_lawOther)), (a_lawEach, .inl (cyI, 6, .inl a_f_lawEach)), (a_lawFrom, .inl (cyI, 6, .inl a_f_lawFrom)), (a_foes, .inl (cyI, 7, .inl a_f_foes)), (a_suitTable, .inl (cyI, 49, .inl a_f_suitTable)), (a_acts, .inl (cyI, 40, .inl a_f_acts)), (c0, .inr (0, [.ref c_row, .ref c_origins, .ref c_before, .ref c_lawsByNight, hvv, .int cnum])), (c_row, .inl (cyI, 7, .inl c_f_row)), (c_origins, .inl (cyI, 7, .inl c_f_origins)), (c_before, .inl (cyI, 7, .inl c_f_before)), (c_lawsByNight, .inl (cyI, 60, .inl c_f_lawsByNight)), (v_hung, .inl (cyI, 7, .inl y0_6))] H := hP
    have hD : va_D A [(v0, .inr (5, [.ref v_hung, .int a_pl, .int 0, .int a_pl, .int 1])), (sl0, .inr (7, [.ref sNum, .ref sLen, .ref sWid, .ref sMade])), (sMade, .inl (cyZ, 4, .inl s_fm)), (sLen, .inl (cyI, 4, .inl s_fl)), (sWid, .inl (cyI, 4, .inl s_fw)), (sNum, .inl (cyN, 4, .inr (.inr (.inr (.inr nF))))), (n0, .inl (cyJ, 60, .inr (.inl s_n0))), (n1, .inl (cyJ, 60, .inr (.inl s_n1))), (n2, .inl (cyJ, 60, .inr (.inl s_n2))), (n3, .inl (cyJ, 60, .inr (.inl s_n3))), (h0, .inr (2, [.int a_pl, .int a_li, .int a_le, .int a_lc, .int a_ac, .int a_ng, .ref a_first, .ref a_now, .ref a_lawPlace, .ref a_lawOther, .ref a_lawEach, .ref a_lawFrom, .ref a_foes, .ref a_suitTable, .ref a_acts])), (a_first, .inl (cyI, 7, .inl a_f_first)), (a_now, .inl (cyI, 7, .inl a_f_now)), (a_lawPlace, .inl (cyI, 6, .inl a_f_lawPlace)), (a_lawOther, .inl (cyI, 6, .inl a_f_lawOther)), (a_lawEach, .inl (cyI, 6, .inl a_f_lawEach)), (a_lawFrom, .inl (cyI, 6, .inl a_f_lawFrom)), (a_foes, .inl (cyI, 7, .inl a_f_foes)), (a_suitTable, .inl (cyI, 49, .inl a_f_suitTable)), (a_acts, .inl (cyI, 40, .inl a_f_acts)), (c0, .inr (0, [.ref c_row, .ref c_origins, .ref c_before, .ref c_lawsByNight, hvv, .int cnum])), (c_row, .inl (cyI, 7, .inl c_f_row)), (c_origins, .inl (cyI, 7, .inl c_f_origins)), (c_before, .inl (cyI, 7, .inl c_f_before)), (c_lawsByNight, .inl (cyI, 60, .inl c_f_lawsByNight)), (v_hung, .inl (cyI, 7, .inl y0_6))] := hD
    have hP := hP.sub (ws' := [(v0, .inr (5, [.ref v_hung, .int a_pl, .int 0, .int a_pl, .int 1])), (v_hung, .inl (cyI, 7, .inl y0_6)), (sl0, .inr (7, [.ref sNum, .ref sLen, .ref sWid, .ref sMade])), (sMade, .inl (cyZ, 4, .inl s_fm)), (sLen, .inl (cyI, 4, .inl s_fl)), (sWid, .inl (cyI, 4, .inl s_fw)), (sNum, .inl (cyN, 4, .inr (.inr (.inr (.inr nF))))), (n0, .inl (cyJ, 60, .inr (.inl s_n0))), (n1, .inl (cyJ, 60, .inr (.inl s_n1))), (n2, .inl (cyJ, 60, .inr (.inl s_n2))), (n3, .inl (cyJ, 60, .inr (.inl s_n3))), (h0, .inr (2, [.int a_pl, .int a_li, .int a_le, .int a_lc, .int a_ac, .int a_ng, .ref a_first, .ref a_now, .ref a_lawPlace, .ref a_lawOther, .ref a_lawEach, .ref a_lawFrom, .ref a_foes, .ref a_suitTable, .ref a_acts])), (a_first, .inl (cyI, 7, .inl a_f_first)), (a_now, .inl (cyI, 7, .inl a_f_now)), (a_lawPlace, .inl (cyI, 6, .inl a_f_lawPlace)), (a_lawOther, .inl (cyI, 6, .inl a_f_lawOther)), (a_lawEach, .inl (cyI, 6, .inl a_f_lawEach)), (a_lawFrom, .inl (cyI, 6, .inl a_f_lawFrom)), (a_foes, .inl (cyI, 7, .inl a_f_foes)), (a_suitTable, .inl (cyI, 49, .inl a_f_suitTable)), (a_acts, .inl (cyI, 40, .inl a_f_acts)), (c0, .inr (0, [.ref c_row, .ref c_origins, .ref c_before, .ref c_lawsByNight, hvv, .int cnum])), (c_row, .inl (cyI, 7, .inl c_f_row)), (c_origins, .inl (cyI, 7, .inl c_f_origins)), (c_before, .inl (cyI, 7, .inl c_f_before)), (c_lawsByNight, .inl (cyI, 60, .inl c_f_lawsByNight))]) [0, 25, 1, 2, 3, 4, 5, 6, 7, 8, 9, 10, 11, 12, 13, 14, 15, 16, 17, 18, 19, 20, 21, 22, 23, 24] rfl
    have hD := hD.sub (ws' := [(v0, .inr (5, [.ref v_hung, .int a_pl, .int 0, .int a_pl, .int 1])), (v_hung, .inl (cyI, 7, .inl y0_6)), (sl0, .inr (7, [.ref sNum, .ref sLen, .ref sWid, .ref sMade])), (sMade, .inl (cyZ, 4, .inl s_fm)), (sLen, .inl (cyI, 4, .inl s_fl)), (sWid, .inl (cyI, 4, .inl s_fw)), (sNum, .inl (cyN, 4, .inr (.inr (.inr (.inr nF))))), (n0, .inl (cyJ, 60, .inr (.inl s_n0))), (n1, .inl (cyJ, 60, .inr (.inl s_n1))), (n2, .inl (cyJ, 60, .inr (.inl s_n2))), (n3, .inl (cyJ, 60, .inr (.inl s_n3))), (h0, .inr (2, [.int a_pl, .int a_li, .int a_le, .int a_lc, .int a_ac, .int a_ng, .ref a_first, .ref a_now, .ref a_lawPlace, .ref a_lawOther, .ref a_lawEach, .ref a_lawFrom, .ref a_foes, .ref a_suitTable, .ref a_acts])), (a_first, .inl (cyI, 7, .inl a_f_first)), (a_now, .inl (cyI, 7, .inl a_f_now)), (a_lawPlace, .inl (cyI, 6, .inl a_f_lawPlace)), (a_lawOther, .inl (cyI, 6, .inl a_f_lawOther)), (a_lawEach, .inl (cyI, 6, .inl a_f_lawEach)), (a_lawFrom, .inl (cyI, 6, .inl a_f_lawFrom)), (a_foes, .inl (cyI, 7, .inl a_f_foes)), (a_suitTable, .inl (cyI, 49, .inl a_f_suitTable)), (a_acts, .inl (cyI, 40, .inl a_f_acts)), (c0, .inr (0, [.ref c_row, .ref c_origins, .ref c_before, .ref c_lawsByNight, hvv, .int cnum])), (c_row, .inl (cyI, 7, .inl c_f_row)), (c_origins, .inl (cyI, 7, .inl c_f_origins)), (c_before, .inl (cyI, 7, .inl c_f_before)), (c_lawsByNight, .inl (cyI, 60, .inl c_f_lawsByNight))]) [0, 25, 1, 2, 3, 4, 5, 6, 7, 8, 9, 10, 11, 12, 13, 14, 15, 16, 17, 18, 19, 20, 21, 22, 23, 24] (by decide) rfl
    refine lv_aload_n hx hb dX6_take_45 rfl (lv_at hl 2 rfl) ?_
    refine va_get (D := (dC, dI)) (ci := 7) (v := .ref sNum) (C := RX8) (T := TX8) (N := 4) hx hb hts uinX8 hown hK hP 2 rfl rfl 0 (by decide) (hts _ wd_1_166) (fun _ h9 => h9) rfl dX6_take_46 ?_
    refine lv_iload_n hx hb dX6_take_49 rfl (lv_at hl 3 rfl) ?_
    refine cv_aldA hx hb hK hP 6 5 rfl rfl (vp_in_iff.mpr (by decide)) dX6_take_50 ?_
    refine cv_topr (b := .ref n0) (by rw [show (0 : Int32).toNatClampNeg = 0 from rfl, g18]; rfl) ?_
    refine lv_astore (lv' := [(5, .ref n0), (0, .ref v0), (1, .ref h0), (2, .ref sl0), (3, .int 0), (4, .ref c0)]) hx hb dX6_take_51 hl (by decide) rfl (fun ls hl => ?_)
    refine lv_iconst (v := 0) hx hb dX6_take_53 (by decide) ?_
    refine lv_istore (lv' := [(6, .int 0), (5, .ref n0), (0, .ref v0), (1, .ref h0), (2, .ref sl0), (3, .int 0), (4, .ref c0)]) hx hb dX6_take_54 hl (by decide) rfl (fun ls hl => ?_)
    have key_19 : ∀ (nkey_19 : Nat) (u_8 : Int32) (w_9 : Int32) (w_10 : Int32) (w_11 : Int32) (f_12 : Nat → Int32) (w_13 : Value) (w_14 : Int32) (f_15 : Nat → Int32) (f_16 : Nat → Int32) (f_17 : Nat → Int32) (f_18 : Nat → Int32) (H : Heap) (locs : List Loc) (ls : Array Slot), (0 ≤ u_8.toInt ∧ u_8.toInt ≤ 63) → (0 ≤ w_9.toInt ∧ w_9.toInt ≤ 127) → ((-1) ≤ w_10.toInt ∧ w_10.toInt ≤ 7) → (0 ≤ w_11.toInt ∧ w_11.toInt ≤ 1) → rg (-1) 6 7 f_12 → rg 0 6 7 f_15 → rg 0 6 7 f_16 → rg 0 6 7 f_17 → (u_8.toInt % 3 = 0) → (w_10.toInt = a_pl.toInt - cb w_9 a_pl.toInt.toNat) → va_P (dC, dI) vwCl [(v0, .inr (5, [.ref v_hung, .int a_pl, .int w_9, .int w_10, .int w_11])), (v_hung, .inl (cyI, 7, .inl f_12)), (sl0, .inr (7, [.ref sNum, .ref sLen, .ref sWid, .ref sMade])), (sMade, .inl (cyZ, 4, .inl s_fm)), (sLen, .inl (cyI, 4, .inl s_fl)), (sWid, .inl (cyI, 4, .inl s_fw)), (sNum, .inl (cyN, 4, .inr (.inr (.inr (.inr nF))))), (n0, .inl (cyJ, 60, .inr (.inl s_n0))), (n1, .inl (cyJ, 60, .inr (.inl s_n1))), (n2, .inl (cyJ, 60, .inr (.inl s_n2))), (n3, .inl (cyJ, 60, .inr (.inl s_n3))), (h0, .inr (2, [.int a_pl, .int a_li, .int a_le, .int a_lc, .int a_ac, .int a_ng, .ref a_first, .ref a_now, .ref a_lawPlace, .ref a_lawOther, .ref a_lawEach, .ref a_lawFrom, .ref a_foes, .ref a_suitTable, .ref a_acts])), (a_first, .inl (cyI, 7, .inl a_f_first)), (a_now, .inl (cyI, 7, .inl a_f_now)), (a_lawPlace, .inl (cyI, 6, .inl a_f_lawPlace)), (a_lawOther, .inl (cyI, 6, .inl a_f_lawOther)), (a_lawEach, .inl (cyI, 6, .inl a_f_lawEach)), (a_lawFrom, .inl (cyI, 6, .inl a_f_lawFrom)), (a_foes, .inl (cyI, 7, .inl a_f_foes)), (a_suitTable, .inl (cyI, 49, .inl a_f_suitTable)), (a_acts, .inl (cyI, 40, .inl a_f_acts)), (c0, .inr (0, [.ref c_row, .ref c_origins, .ref c_before, .ref c_lawsByNight, w_13, .int w_14])), (c_row, .inl (cyI, 7, .inl f_15)), (c_origins, .inl (cyI, 7, .inl f_16)), (c_before, .inl (cyI, 7, .inl f_17)), (c_lawsByNight, .inl (cyI, 60, .inl f_18))] H → va_D A [(v0, .inr (5, [.ref v_hung, .int a_pl, .int w_9, .int w_10, .int w_11])), (v_hung, .inl (cyI, 7, .inl f_12)), (sl0, .inr (7, [.ref sNum, .ref sLen, .ref sWid, .ref sMade])), (sMade, .inl (cyZ, 4, .inl s_fm)), (sLen, .inl (cyI, 4, .inl s_fl)), (sWid, .inl (cyI, 4, .inl s_fw)), (sNum, .inl (cyN, 4, .inr (.inr (.inr (.inr nF))))), (n0, .inl (cyJ, 60, .inr (.inl s_n0))), (n1, .inl (cyJ, 60, .inr (.inl s_n1))), (n2, .inl (cyJ, 60, .inr (.inl s_n2))), (n3, .inl (cyJ, 60, .inr (.inl s_n3))), (h0, .inr (2, [.int a_pl, .int a_li, .int a_le, .int a_lc, .int a_ac, .int a_ng, .ref a_first, .ref a_now, .ref a_lawPlace, .ref a_lawOther, .ref a_lawEach, .ref a_lawFrom, .ref a_foes, .ref a_suitTable, .ref a_acts])), (a_first, .inl (cyI, 7, .inl a_f_first)), (a_now, .inl (cyI, 7, .inl a_f_now)), (a_lawPlace, .inl (cyI, 6, .inl a_f_lawPlace)), (a_lawOther, .inl (cyI, 6, .inl a_f_lawOther)), (a_lawEach, .inl (cyI, 6, .inl a_f_lawEach)), (a_lawFrom, .inl (cyI, 6, .inl a_f_lawFrom)), (a_foes, .inl (cyI, 7, .inl a_f_foes)), (a_suitTable, .inl (cyI, 49, .inl a_f_suitTable)), (a_acts, .inl (cyI, 40, .inl a_f_acts)), (c0, .inr (0, [.ref c_row, .ref c_origins, .ref c_before, .ref c_lawsByNight, w_13, .int w_14])), (c_row, .inl (cyI, 7, .inl f_15)), (c_origins, .inl (cyI, 7, .inl f_16)), (c_before, .inl (cyI, 7, .inl f_17)), (c_lawsByNight, .inl (cyI, 60, .inl f_18))] → va_S A s.heap H locs → lv_has ls 7 [(6, .int u_8), (5, .ref n0), (0, .ref v0), (1, .ref h0), (2, .ref sl0), (3, .int 0), (4, .ref c0)] → (60 - u_8.toInt).toNat < nkey_19 → W p l e ({ frames := 5, cells := 0, slots := 0, locals := 150 }) s m ([.ref v0, .ref h0, .ref sl0, .int 0, .ref c0] : List Value).toArray below meth c H locs 0 0 Q9 (F0 m 56 ls []) := by
      intro nkey_19
      induction nkey_19 with
      | zero => intro u_8 w_9 w_10 w_11 f_12 w_13 w_14 f_15 f_16 f_17 f_18 H locs ls hu_8 hw_9 hw_10 hw_11 hf_12 hf_15 hf_16 hf_17 hm9 hun8 hP hD hS hl hnkey_19; exact absurd hnkey_19 (Nat.not_lt_zero _)
      | succ nkey_19 ihkey_19 =>
        intro u_8 w_9 w_10 w_11 f_12 w_13 w_14 f_15 f_16 f_17 f_18 H locs ls hu_8 hw_9 hw_10 hw_11 hf_12 hf_15 hf_16 hf_17 hm9 hun8 hP hD hS hl hnkey_19
        refine lv_iload hx hb dX6_take_56 (lv_at hl 0 rfl) ?_
        refine lv_aload_n hx hb dX6_take_58 rfl (lv_at hl 4 rfl) ?_
        refine va_get (D := (dC, dI)) (ci := 7) (v := .ref sLen) (C := RX8) (T := TX8) (N := 4) hx hb hts uinX8 hown hK hP 2 rfl rfl 1 (by decide) (hts _ wd_1_169) (fun _ h9 => h9) rfl dX6_take_59 ?_
        refine lv_iload_n hx hb dX6_take_62 rfl (lv_at hl 5 rfl) ?_
        refine va_iald hx hb hK hP 4 0 rfl rfl (vp_in_iff.mpr (by decide)) dX6_take_63 ?_
        refine lv_topi (fun x_20 ex_20 => ?_)
        have qx_20 : x_20.toInt = (s_fl 0).toInt := by rw [ex_20]; rfl
        have fx_20 : 0 ≤ x_20.toInt ∧ x_20.toInt ≤ 60 := by rw [ex_20]; exact g2 _ (cv_ix (by decide) (by decide))
        refine lv_icmp_ge (tgt := 116) hx hb dX6_take_64 (by decide) (fun c_21 => ?_) (fun c_21 => ?_)
        · have c_21 : x_20.toInt ≤ u_8.toInt := cv_le c_21
          refine lv_iconst (v := 1) hx hb dX6_take_116 (by decide) ?_
          rw [hQ9]
          have hP9 := hP.sub (ws' := [(v0, .inr (5, [.ref v_hung, .int a_pl, .int w_9, .int w_10, .int w_11])), (v_hung, .inl (cyI, 7, .inl f_12)), (sl0, .inr (7, [.ref sNum, .ref sLen, .ref sWid, .ref sMade])), (sMade, .inl (cyZ, 4, .inl s_fm)), (sLen, .inl (cyI, 4, .inl s_fl)), (sWid, .inl (cyI, 4, .inl s_fw)), (sNum, .inl (cyN, 4, .inr (.inr (.inr (.inr nF))))), (n0, .inl (cyJ, 60, .inr (.inl s_n0))), (n1, .inl (cyJ, 60, .inr (.inl s_n1))), (n2, .inl (cyJ, 60, .inr (.inl s_n2))), (n3, .inl (cyJ, 60, .inr (.inl s_n3))), (h0, .inr (2, [.int a_pl, .int a_li, .int a_le, .int a_lc, .int a_ac, .int a_ng, .ref a_first, .ref a_now, .ref a_lawPlace, .ref a_lawOther, .ref a_lawEach, .ref a_lawFrom, .ref a_foes, .ref a_suitTable, .ref a_acts])), (a_first, .inl (cyI, 7, .inl a_f_first)), (a_now, .inl (cyI, 7, .inl a_f_now)), (a_lawPlace, .inl (cyI, 6, .inl a_f_lawPlace)), (a_lawOther, .inl (cyI, 6, .inl a_f_lawOther)), (a_lawEach, .inl (cyI, 6, .inl a_f_lawEach)), (a_lawFrom, .inl (cyI, 6, .inl a_f_lawFrom)), (a_foes, .inl (cyI, 7, .inl a_f_foes)), (a_suitTable, .inl (cyI, 49, .inl a_f_suitTable)), (a_acts, .inl (cyI, 40, .inl a_f_acts)), (c0, .inr (0, [.ref c_row, .ref c_origins, .ref c_before, .ref c_lawsByNight, w_13, .int w_14])), (c_row, .inl (cyI, 7, .inl f_15)), (c_origins, .inl (cyI, 7, .inl f_16)), (c_before, .inl (cyI, 7, .inl f_17)), (c_lawsByNight, .inl (cyI, 60, .inl f_18))]) [0, 1, 2, 3, 4, 5, 6, 7, 8, 9, 10, 11, 12, 13, 14, 15, 16, 17, 18, 19, 20, 21, 22, 23, 24, 25] rfl
          have hD9 := hD.sub (ws' := [(v0, .inr (5, [.ref v_hung, .int a_pl, .int w_9, .int w_10, .int w_11])), (v_hung, .inl (cyI, 7, .inl f_12)), (sl0, .inr (7, [.ref sNum, .ref sLen, .ref sWid, .ref sMade])), (sMade, .inl (cyZ, 4, .inl s_fm)), (sLen, .inl (cyI, 4, .inl s_fl)), (sWid, .inl (cyI, 4, .inl s_fw)), (sNum, .inl (cyN, 4, .inr (.inr (.inr (.inr nF))))), (n0, .inl (cyJ, 60, .inr (.inl s_n0))), (n1, .inl (cyJ, 60, .inr (.inl s_n1))), (n2, .inl (cyJ, 60, .inr (.inl s_n2))), (n3, .inl (cyJ, 60, .inr (.inl s_n3))), (h0, .inr (2, [.int a_pl, .int a_li, .int a_le, .int a_lc, .int a_ac, .int a_ng, .ref a_first, .ref a_now, .ref a_lawPlace, .ref a_lawOther, .ref a_lawEach, .ref a_lawFrom, .ref a_foes, .ref a_suitTable, .ref a_acts])), (a_first, .inl (cyI, 7, .inl a_f_first)), (a_now, .inl (cyI, 7, .inl a_f_now)), (a_lawPlace, .inl (cyI, 6, .inl a_f_lawPlace)), (a_lawOther, .inl (cyI, 6, .inl a_f_lawOther)), (a_lawEach, .inl (cyI, 6, .inl a_f_lawEach)), (a_lawFrom, .inl (cyI, 6, .inl a_f_lawFrom)), (a_foes, .inl (cyI, 7, .inl a_f_foes)), (a_suitTable, .inl (cyI, 49, .inl a_f_suitTable)), (a_acts, .inl (cyI, 40, .inl a_f_acts)), (c0, .inr (0, [.ref c_row, .ref c_origins, .ref c_before, .ref c_lawsByNight, w_13, .int w_14])), (c_row, .inl (cyI, 7, .inl f_15)), (c_origins, .inl (cyI, 7, .inl f_16)), (c_before, .inl (cyI, 7, .inl f_17)), (c_lawsByNight, .inl (cyI, 60, .inl f_18))]) [0, 1, 2, 3, 4, 5, 6, 7, 8, 9, 10, 11, 12, 13, 14, 15, 16, 17, 18, 19, 20, 21, 22, 23, 24, 25] (by decide) rfl
          exact W.zret (v := 1) (ty := .boolean) hx hb hr rfl (fun t ht hW => ⟨⟨1, (), rfl, (by decide), ⟨a_pl, w_9, w_10, w_11, f_12, w_13, w_14, f_15, f_16, f_17, f_18, (by omega), (by omega), (by omega), hf_12, hf_15, hf_16, hf_17, hun8, by rw [ht]; exact hP9, hD9⟩⟩, hS.F ht⟩) hS.2.2 dX6_take_117
        · have c_21 : u_8.toInt < x_20.toInt := cv_nle c_21
          refine lv_aload hx hb dX6_take_67 (lv_at hl 6 rfl) ?_
          refine lv_aload_n hx hb dX6_take_69 rfl (lv_at hl 3 rfl) ?_
          have hPc := hP.sub (ws' := [(c0, .inr (0, [.ref c_row, .ref c_origins, .ref c_before, .ref c_lawsByNight, w_13, .int w_14])), (c_row, .inl (cyI, 7, .inl f_15)), (c_origins, .inl (cyI, 7, .inl f_16)), (c_before, .inl (cyI, 7, .inl f_17)), (c_lawsByNight, .inl (cyI, 60, .inl f_18)), (h0, .inr (2, [.int a_pl, .int a_li, .int a_le, .int a_lc, .int a_ac, .int a_ng, .ref a_first, .ref a_now, .ref a_lawPlace, .ref a_lawOther, .ref a_lawEach, .ref a_lawFrom, .ref a_foes, .ref a_suitTable, .ref a_acts])), (a_first, .inl (cyI, 7, .inl a_f_first)), (a_now, .inl (cyI, 7, .inl a_f_now)), (a_lawPlace, .inl (cyI, 6, .inl a_f_lawPlace)), (a_lawOther, .inl (cyI, 6, .inl a_f_lawOther)), (a_lawEach, .inl (cyI, 6, .inl a_f_lawEach)), (a_lawFrom, .inl (cyI, 6, .inl a_f_lawFrom)), (a_foes, .inl (cyI, 7, .inl a_f_foes)), (a_suitTable, .inl (cyI, 49, .inl a_f_suitTable)), (a_acts, .inl (cyI, 40, .inl a_f_acts))]) [21, 22, 23, 24, 25, 11, 12, 13, 14, 15, 16, 17, 18, 19, 20] rfl
          have hKc := hK.sub (tys' := [(cyI, .int), (cyB, .byte), (cyJ, .long), (cyZ, .boolean), (cyH, .object RX2), (cyN, .array .long)]) [0, 1, 2, 3, 4, 5] rfl
          have hDc := hD.sub (ws' := [(c0, .inr (0, [.ref c_row, .ref c_origins, .ref c_before, .ref c_lawsByNight, w_13, .int w_14])), (c_row, .inl (cyI, 7, .inl f_15)), (c_origins, .inl (cyI, 7, .inl f_16)), (c_before, .inl (cyI, 7, .inl f_17)), (c_lawsByNight, .inl (cyI, 60, .inl f_18)), (h0, .inr (2, [.int a_pl, .int a_li, .int a_le, .int a_lc, .int a_ac, .int a_ng, .ref a_first, .ref a_now, .ref a_lawPlace, .ref a_lawOther, .ref a_lawEach, .ref a_lawFrom, .ref a_foes, .ref a_suitTable, .ref a_acts])), (a_first, .inl (cyI, 7, .inl a_f_first)), (a_now, .inl (cyI, 7, .inl a_f_now)), (a_lawPlace, .inl (cyI, 6, .inl a_f_lawPlace)), (a_lawOther, .inl (cyI, 6, .inl a_f_lawOther)), (a_lawEach, .inl (cyI, 6, .inl a_f_lawEach)), (a_lawFrom, .inl (cyI, 6, .inl a_f_lawFrom)), (a_foes, .inl (cyI, 7, .inl a_f_foes)), (a_suitTable, .inl (cyI, 49, .inl a_f_suitTable)), (a_acts, .inl (cyI, 40, .inl a_f_acts))]) [21, 22, 23, 24, 25, 11, 12, 13, 14, 15, 16, 17, 18, 19, 20] (by decide) rfl
          have hFc := va_free (wc := [(c0, .inr (0, [.ref c_row, .ref c_origins, .ref c_before, .ref c_lawsByNight, w_13, .int w_14])), (c_row, .inl (cyI, 7, .inl f_15)), (c_origins, .inl (cyI, 7, .inl f_16)), (c_before, .inl (cyI, 7, .inl f_17)), (c_lawsByNight, .inl (cyI, 60, .inl f_18)), (h0, .inr (2, [.int a_pl, .int a_li, .int a_le, .int a_lc, .int a_ac, .int a_ng, .ref a_first, .ref a_now, .ref a_lawPlace, .ref a_lawOther, .ref a_lawEach, .ref a_lawFrom, .ref a_foes, .ref a_suitTable, .ref a_acts])), (a_first, .inl (cyI, 7, .inl a_f_first)), (a_now, .inl (cyI, 7, .inl a_f_now)), (a_lawPlace, .inl (cyI, 6, .inl a_f_lawPlace)), (a_lawOther, .inl (cyI, 6, .inl a_f_lawOther)), (a_lawEach, .inl (cyI, 6, .inl a_f_lawEach)), (a_lawFrom, .inl (cyI, 6, .inl a_f_lawFrom)), (a_foes, .inl (cyI, 7, .inl a_f_foes)), (a_suitTable, .inl (cyI, 49, .inl a_f_suitTable)), (a_acts, .inl (cyI, 40, .inl a_f_acts))]) hD hS hA [21, 22, 23, 24, 25, 11, 12, 13, 14, 15, 16, 17, 18, 19, 20] rfl
          refine va_callv (va_runV (As := [.ref h0]) (rest := []) ⟨hx, hb, hml, hown, hts⟩ (n_beginAtFirst l dC dI cyI cyB cyJ cyZ cyH cyN tR tF aK aV H.size c0 c_row c_origins c_before c_lawsByNight w_14 f_15 f_16 f_17 f_18 w_13 h0 a_first a_now a_lawPlace a_lawOther a_lawEach a_lawFrom a_foes a_suitTable a_acts a_pl a_li a_le a_lc a_ac a_ng a_f_first a_f_now a_f_lawPlace a_f_lawOther a_f_lawEach a_f_lawFrom a_f_foes a_f_suitTable a_f_acts hf_15 hf_16 hf_17 g4 g5 g6 g7 g8 (by omega) (by omega) (by omega)) (cwV 1 hts (gdV wd_4_186 wd_4_187 wd_4_188 wd_1_5 wd_4_189) rfl rfl rfl (by decide +kernel) ⟨Nat.le_of_ble_eq_true rfl, Nat.le_of_ble_eq_true rfl⟩) ⟨fun a U g mk q => by obtain ⟨q0, q1, qP, qK, qD, qF⟩ := q; exact ⟨q0, q1, qP, va_K.moved (u := U) (U := U.calling g mk a) (Vm.Alike.refl U.vm) qK, qD, cv_FX.same qF rfl rfl⟩, va_recv hKc hPc (ci := 0) (q0 := 0) rfl rfl, fun U hU hW => ⟨rfl, by rw [hU], by rw [hU]; exact hPc, va_K.moved hW.alike hKc, hDc.weaken (fun _ _ _ _ => trivial), cv_FX.go hFX hW hS hFc hU⟩⟩ rfl rfl hl.1 rfl (lv_room (Nat.le_of_ble_eq_true rfl)) dX6_take_70 ⟨Nat.le_of_ble_eq_true rfl, Nat.le_of_ble_eq_true rfl⟩) hS (fun q _ h => hFc q h) hFc (fun  u t H1 locs ht hvm hw hB hz1 hk1 hS => ?_)
          obtain ⟨z0_22, y1_23, y2_24, hp_25, hp_26, hP1, hD1⟩ := hB
          rw [ht] at hP1
          obtain ⟨hP, hD⟩ := va_join (wr := [(v0, .inr (5, [.ref v_hung, .int a_pl, .int w_9, .int w_10, .int w_11])), (v_hung, .inl (cyI, 7, .inl f_12)), (sl0, .inr (7, [.ref sNum, .ref sLen, .ref sWid, .ref sMade])), (sMade, .inl (cyZ, 4, .inl s_fm)), (sLen, .inl (cyI, 4, .inl s_fl)), (sWid, .inl (cyI, 4, .inl s_fw)), (sNum, .inl (cyN, 4, .inr (.inr (.inr (.inr nF))))), (n0, .inl (cyJ, 60, .inr (.inl s_n0))), (n1, .inl (cyJ, 60, .inr (.inl s_n1))), (n2, .inl (cyJ, 60, .inr (.inl s_n2))), (n3, .inl (cyJ, 60, .inr (.inl s_n3)))]) (w1 := [(c0, .inr (0, [.ref c_row, .ref c_origins, .ref c_before, .ref c_lawsByNight, .ref h0, .int z0_22])), (c_row, .inl (cyI, 7, .inl y1_23)), (c_origins, .inl (cyI, 7, .inl f_16)), (c_before, .inl (cyI, 7, .inl f_17)), (c_lawsByNight, .inl (cyI, 60, .inl y2_24)), (h0, .inr (2, [.int a_pl, .int a_li, .int a_le, .int a_lc, .int a_ac, .int a_ng, .ref a_first, .ref a_now, .ref a_lawPlace, .ref a_lawOther, .ref a_lawEach, .ref a_lawFrom, .ref a_foes, .ref a_suitTable, .ref a_acts])), (a_first, .inl (cyI, 7, .inl a_f_first)), (a_now, .inl (cyI, 7, .inl a_f_now)), (a_lawPlace, .inl (cyI, 6, .inl a_f_lawPlace)), (a_lawOther, .inl (cyI, 6, .inl a_f_lawOther)), (a_lawEach, .inl (cyI, 6, .inl a_f_lawEach)), (a_lawFrom, .inl (cyI, 6, .inl a_f_lawFrom)), (a_foes, .inl (cyI, 7, .inl a_f_foes)), (a_suitTable, .inl (cyI, 49, .inl a_f_suitTable)), (a_acts, .inl (cyI, 40, .inl a_f_acts))]) hP hD [21, 22, 23, 24, 25, 11, 12, 13, 14, 15, 16, 17, 18, 19, 20] [0, 1, 2, 3, 4, 5, 6, 7, 8, 9, 10] rfl rfl (by decide) (by decide) hk1 hFc hP1 hD1
          generalize H1 = H at hP hS ⊢
          have hP : va_P (dC, dI) vwCl [(v0, .inr (5, [.ref v_hung, .int a_pl, .int w_9, .int w_10, .int w_11])), (v_hung, .inl (cyI, 7, .inl f_12)), (sl0, .inr (7, [.ref sNum, .ref sLen, .ref sWid, .ref sMade])), (sMade, .inl (cyZ, 4, .inl s_fm)), (sLen, .inl (cyI, 4, .inl s_fl)), (sWid, .inl (cyI, 4, .inl s_fw)), (sNum, .inl (cyN, 4, .inr (.inr (.inr (.inr nF))))), (n0, .inl (cyJ, 60, .inr (.inl s_n0))), (n1, .inl (cyJ, 60, .inr (.inl s_n1))), (n2, .inl (cyJ, 60, .inr (.inl s_n2))), (n3, .inl (cyJ, 60, .inr (.inl s_n3))), (c0, .inr (0, [.ref c_row, .ref c_origins, .ref c_before, .ref c_lawsByNight, .ref h0, .int z0_22])), (c_row, .inl (cyI, 7, .inl y1_23)), (c_origins, .inl (cyI, 7, .inl f_16)), (c_before, .inl (cyI, 7, .inl f_17)), (c_lawsByNight, .inl (cyI, 60, .inl y2_24)), (h0, .inr (2, [.int a_pl, .int a_li, .int a_le, .int a_lc, .int a_ac, .int a_ng, .ref a_first, .ref a_now, .ref a_lawPlace, .ref a_lawOther, .ref a_lawEach, .ref a_lawFrom, .ref a_foes, .ref a_suitTable, .ref a_acts])), (a_first, .inl (cyI, 7, .inl a_f_first)), (a_now, .inl (cyI, 7, .inl a_f_now)), (a_lawPlace, .inl (cyI, 6, .inl a_f_lawPlace)), (a_lawOther, .inl (cyI, 6, .inl a_f_lawOther)), (a_lawEach, .inl (cyI, 6, .inl a_f_lawEach)), (a_lawFrom, .inl (cyI, 6, .inl a_f_lawFrom)), (a_foes, .inl (cyI, 7, .inl a_f_foes)), (a_suitTable, .inl (cyI, 49, .inl a_f_suitTable)), (a_acts, .inl (cyI, 40, .inl a_f_acts))] H := hP
          have hD : va_D A [(v0, .inr (5, [.ref v_hung, .int a_pl, .int w_9, .int w_10, .int w_11])), (v_hung, .inl (cyI, 7, .inl f_12)), (sl0, .inr (7, [.ref sNum, .ref sLen, .ref sWid, .ref sMade])), (sMade, .inl (cyZ, 4, .inl s_fm)), (sLen, .inl (cyI, 4, .inl s_fl)), (sWid, .inl (cyI, 4, .inl s_fw)), (sNum, .inl (cyN, 4, .inr (.inr (.inr (.inr nF))))), (n0, .inl (cyJ, 60, .inr (.inl s_n0))), (n1, .inl (cyJ, 60, .inr (.inl s_n1))), (n2, .inl (cyJ, 60, .inr (.inl s_n2))), (n3, .inl (cyJ, 60, .inr (.inl s_n3))), (c0, .inr (0, [.ref c_row, .ref c_origins, .ref c_before, .ref c_lawsByNight, .ref h0, .int z0_22])), (c_row, .inl (cyI, 7, .inl y1_23)), (c_origins, .inl (cyI, 7, .inl f_16)), (c_before, .inl (cyI, 7, .inl f_17)), (c_lawsByNight, .inl (cyI, 60, .inl y2_24)), (h0, .inr (2, [.int a_pl, .int a_li, .int a_le, .int a_lc, .int a_ac, .int a_ng, .ref a_first, .ref a_now, .ref a_lawPlace, .ref a_lawOther, .ref a_lawEach, .ref a_lawFrom, .ref a_foes, .ref a_suitTable, .ref a_acts])), (a_first, .inl (cyI, 7, .inl a_f_first)), (a_now, .inl (cyI, 7, .inl a_f_now)), (a_lawPlace, .inl (cyI, 6, .inl a_f_lawPlace)), (a_lawOther, .inl (cyI, 6, .inl a_f_lawOther)), (a_lawEach, .inl (cyI, 6, .inl a_f_lawEach)), (a_lawFrom, .inl (cyI, 6, .inl a_f_lawFrom)), (a_foes, .inl (cyI, 7, .inl a_f_foes)), (a_suitTable, .inl (cyI, 49, .inl a_f_suitTable)), (a_acts, .inl (cyI, 40, .inl a_f_acts))] := hD
          have hP := hP.sub (ws' := [(v0, .inr (5, [.ref v_hung, .int a_pl, .int w_9, .int w_10, .int w_11])), (v_hung, .inl (cyI, 7, .inl f_12)), (sl0, .inr (7, [.ref sNum, .ref sLen, .ref sWid, .ref sMade])), (sMade, .inl (cyZ, 4, .inl s_fm)), (sLen, .inl (cyI, 4, .inl s_fl)), (sWid, .inl (cyI, 4, .inl s_fw)), (sNum, .inl (cyN, 4, .inr (.inr (.inr (.inr nF))))), (n0, .inl (cyJ, 60, .inr (.inl s_n0))), (n1, .inl (cyJ, 60, .inr (.inl s_n1))), (n2, .inl (cyJ, 60, .inr (.inl s_n2))), (n3, .inl (cyJ, 60, .inr (.inl s_n3))), (h0, .inr (2, [.int a_pl, .int a_li, .int a_le, .int a_lc, .int a_ac, .int a_ng, .ref a_first, .ref a_now, .ref a_lawPlace, .ref a_lawOther, .ref a_lawEach, .ref a_lawFrom, .ref a_foes, .ref a_suitTable, .ref a_acts])), (a_first, .inl (cyI, 7, .inl a_f_first)), (a_now, .inl (cyI, 7, .inl a_f_now)), (a_lawPlace, .inl (cyI, 6, .inl a_f_lawPlace)), (a_lawOther, .inl (cyI, 6, .inl a_f_lawOther)), (a_lawEach, .inl (cyI, 6, .inl a_f_lawEach)), (a_lawFrom, .inl (cyI, 6, .inl a_f_lawFrom)), (a_foes, .inl (cyI, 7, .inl a_f_foes)), (a_suitTable, .inl (cyI, 49, .inl a_f_suitTable)), (a_acts, .inl (cyI, 40, .inl a_f_acts)), (c0, .inr (0, [.ref c_row, .ref c_origins, .ref c_before, .ref c_lawsByNight, .ref h0, .int z0_22])), (c_row, .inl (cyI, 7, .inl y1_23)), (c_origins, .inl (cyI, 7, .inl f_16)), (c_before, .inl (cyI, 7, .inl f_17)), (c_lawsByNight, .inl (cyI, 60, .inl y2_24))]) [0, 1, 2, 3, 4, 5, 6, 7, 8, 9, 10, 16, 17, 18, 19, 20, 21, 22, 23, 24, 25, 11, 12, 13, 14, 15] rfl
          have hD := hD.sub (ws' := [(v0, .inr (5, [.ref v_hung, .int a_pl, .int w_9, .int w_10, .int w_11])), (v_hung, .inl (cyI, 7, .inl f_12)), (sl0, .inr (7, [.ref sNum, .ref sLen, .ref sWid, .ref sMade])), (sMade, .inl (cyZ, 4, .inl s_fm)), (sLen, .inl (cyI, 4, .inl s_fl)), (sWid, .inl (cyI, 4, .inl s_fw)), (sNum, .inl (cyN, 4, .inr (.inr (.inr (.inr nF))))), (n0, .inl (cyJ, 60, .inr (.inl s_n0))), (n1, .inl (cyJ, 60, .inr (.inl s_n1))), (n2, .inl (cyJ, 60, .inr (.inl s_n2))), (n3, .inl (cyJ, 60, .inr (.inl s_n3))), (h0, .inr (2, [.int a_pl, .int a_li, .int a_le, .int a_lc, .int a_ac, .int a_ng, .ref a_first, .ref a_now, .ref a_lawPlace, .ref a_lawOther, .ref a_lawEach, .ref a_lawFrom, .ref a_foes, .ref a_suitTable, .ref a_acts])), (a_first, .inl (cyI, 7, .inl a_f_first)), (a_now, .inl (cyI, 7, .inl a_f_now)), (a_lawPlace, .inl (cyI, 6, .inl a_f_lawPlace)), (a_lawOther, .inl (cyI, 6, .inl a_f_lawOther)), (a_lawEach, .inl (cyI, 6, .inl a_f_lawEach)), (a_lawFrom, .inl (cyI, 6, .inl a_f_lawFrom)), (a_foes, .inl (cyI, 7, .inl a_f_foes)), (a_suitTable, .inl (cyI, 49, .inl a_f_suitTable)), (a_acts, .inl (cyI, 40, .inl a_f_acts)), (c0, .inr (0, [.ref c_row, .ref c_origins, .ref c_before, .ref c_lawsByNight, .ref h0, .int z0_22])), (c_row, .inl (cyI, 7, .inl y1_23)), (c_origins, .inl (cyI, 7, .inl f_16)), (c_before, .inl (cyI, 7, .inl f_17)), (c_lawsByNight, .inl (cyI, 60, .inl y2_24))]) [0, 1, 2, 3, 4, 5, 6, 7, 8, 9, 10, 16, 17, 18, 19, 20, 21, 22, 23, 24, 25, 11, 12, 13, 14, 15] (by decide) rfl
          refine lv_aload hx hb dX6_take_73 (lv_at hl 6 rfl) ?_
          refine lv_aload hx hb dX6_take_75 (lv_at hl 1 rfl) ?_
          refine lv_iload hx hb dX6_take_77 (lv_at hl 0 rfl) ?_
          refine lv_iconst (v := 1) hx hb dX6_take_79 (by decide) ?_
          refine lv_iadd hx hb dX6_take_80 ?_
          refine lv_topi (fun x_27 ex_27 => ?_)
          have fx_27 : x_27.toInt = u_8.toInt + 1 := by rw [ex_27]; exact cv_addI (by have : (1 : Int32).toInt = 1 := rfl; omega) (by have : (1 : Int32).toInt = 1 := rfl; omega)
          refine va_lald hx hb hK hP 7 2 rfl rfl (vp_in_iff.mpr (by omega)) dX6_take_81 ?_
          refine lv_topl (fun x_28 ex_28 => ?_)
          have qx_28 := sn_get (i := u_8) hq_3 (by omega) hm9 (by omega)
          have ax_28 : x_27.toNatClampNeg = u_8.toNatClampNeg + 1 := sn_at (by omega) (by omega)
          have fx_28 : 0 ≤ x_28.toInt ∧ x_28.toInt ≤ 999 := by rw [ex_28, ax_28]; omega
          refine lv_l2i hx hb dX6_take_82 rfl ?_
          refine lv_topi (fun x_29 ex_29 => ?_)
          have fx_29 : x_29.toInt = x_28.toInt := by rw [ex_29]; exact cv_l2i (by omega) (by omega)
          have hPc := hP.sub (ws' := [(c0, .inr (0, [.ref c_row, .ref c_origins, .ref c_before, .ref c_lawsByNight, .ref h0, .int z0_22])), (c_row, .inl (cyI, 7, .inl y1_23)), (c_origins, .inl (cyI, 7, .inl f_16)), (c_before, .inl (cyI, 7, .inl f_17)), (c_lawsByNight, .inl (cyI, 60, .inl y2_24)), (h0, .inr (2, [.int a_pl, .int a_li, .int a_le, .int a_lc, .int a_ac, .int a_ng, .ref a_first, .ref a_now, .ref a_lawPlace, .ref a_lawOther, .ref a_lawEach, .ref a_lawFrom, .ref a_foes, .ref a_suitTable, .ref a_acts])), (a_first, .inl (cyI, 7, .inl a_f_first)), (a_now, .inl (cyI, 7, .inl a_f_now)), (a_lawPlace, .inl (cyI, 6, .inl a_f_lawPlace)), (a_lawOther, .inl (cyI, 6, .inl a_f_lawOther)), (a_lawEach, .inl (cyI, 6, .inl a_f_lawEach)), (a_lawFrom, .inl (cyI, 6, .inl a_f_lawFrom)), (a_foes, .inl (cyI, 7, .inl a_f_foes)), (a_suitTable, .inl (cyI, 49, .inl a_f_suitTable)), (a_acts, .inl (cyI, 40, .inl a_f_acts))]) [21, 22, 23, 24, 25, 11, 12, 13, 14, 15, 16, 17, 18, 19, 20] rfl
          have hKc := hK.sub (tys' := [(cyI, .int), (cyB, .byte), (cyJ, .long), (cyZ, .boolean), (cyH, .object RX2), (cyN, .array .long)]) [0, 1, 2, 3, 4, 5] rfl
          have hDc := hD.sub (ws' := [(c0, .inr (0, [.ref c_row, .ref c_origins, .ref c_before, .ref c_lawsByNight, .ref h0, .int z0_22])), (c_row, .inl (cyI, 7, .inl y1_23)), (c_origins, .inl (cyI, 7, .inl f_16)), (c_before, .inl (cyI, 7, .inl f_17)), (c_lawsByNight, .inl (cyI, 60, .inl y2_24)), (h0, .inr (2, [.int a_pl, .int a_li, .int a_le, .int a_lc, .int a_ac, .int a_ng, .ref a_first, .ref a_now, .ref a_lawPlace, .ref a_lawOther, .ref a_lawEach, .ref a_lawFrom, .ref a_foes, .ref a_suitTable, .ref a_acts])), (a_first, .inl (cyI, 7, .inl a_f_first)), (a_now, .inl (cyI, 7, .inl a_f_now)), (a_lawPlace, .inl (cyI, 6, .inl a_f_lawPlace)), (a_lawOther, .inl (cyI, 6, .inl a_f_lawOther)), (a_lawEach, .inl (cyI, 6, .inl a_f_lawEach)), (a_lawFrom, .inl (cyI, 6, .inl a_f_lawFrom)), (a_foes, .inl (cyI, 7, .inl a_f_foes)), (a_suitTable, .inl (cyI, 49, .inl a_f_suitTable)), (a_acts, .inl (cyI, 40, .inl a_f_acts))]) [21, 22, 23, 24, 25, 11, 12, 13, 14, 15, 16, 17, 18, 19, 20] (by decide) rfl
          have hFc := va_free (wc := [(c0, .inr (0, [.ref c_row, .ref c_origins, .ref c_before, .ref c_lawsByNight, .ref h0, .int z0_22])), (c_row, .inl (cyI, 7, .inl y1_23)), (c_origins, .inl (cyI, 7, .inl f_16)), (c_before, .inl (cyI, 7, .inl f_17)), (c_lawsByNight, .inl (cyI, 60, .inl y2_24)), (h0, .inr (2, [.int a_pl, .int a_li, .int a_le, .int a_lc, .int a_ac, .int a_ng, .ref a_first, .ref a_now, .ref a_lawPlace, .ref a_lawOther, .ref a_lawEach, .ref a_lawFrom, .ref a_foes, .ref a_suitTable, .ref a_acts])), (a_first, .inl (cyI, 7, .inl a_f_first)), (a_now, .inl (cyI, 7, .inl a_f_now)), (a_lawPlace, .inl (cyI, 6, .inl a_f_lawPlace)), (a_lawOther, .inl (cyI, 6, .inl a_f_lawOther)), (a_lawEach, .inl (cyI, 6, .inl a_f_lawEach)), (a_lawFrom, .inl (cyI, 6, .inl a_f_lawFrom)), (a_foes, .inl (cyI, 7, .inl a_f_foes)), (a_suitTable, .inl (cyI, 49, .inl a_f_suitTable)), (a_acts, .inl (cyI, 40, .inl a_f_acts))]) hD hS hA [21, 22, 23, 24, 25, 11, 12, 13, 14, 15, 16, 17, 18, 19, 20] rfl
          refine va_callv (va_runV (As := [.int x_29]) (rest := []) ⟨hx, hb, hml, hown, hts⟩ (n_goOn l dC dI cyI cyB cyJ cyZ cyH cyN tR tF aK aV H.size c0 c_row c_origins c_before c_lawsByNight z0_22 y1_23 f_16 f_17 y2_24 h0 a_first a_now a_lawPlace a_lawOther a_lawEach a_lawFrom a_foes a_suitTable a_acts a_pl a_li a_le a_lc a_ac a_ng a_f_first a_f_now a_f_lawPlace a_f_lawOther a_f_lawEach a_f_lawFrom a_f_foes a_f_suitTable a_f_acts x_29 hp_26 hf_16 hf_17 g4 g5 g6 g7 g8 (by omega) (by omega) (by omega) (by omega) (by omega)) (cwV 1 hts (gdV wd_4_190 wd_3_105 wd_3_106 wd_1_5 wd_3_107) rfl rfl rfl (by decide +kernel) ⟨Nat.le_of_ble_eq_true rfl, Nat.le_of_ble_eq_true rfl⟩) ⟨fun a U g mk q => by obtain ⟨q0, q1, qP, qK, qD, qF⟩ := q; exact ⟨q0, q1, qP, va_K.moved (u := U) (U := U.calling g mk a) (Vm.Alike.refl U.vm) qK, qD, cv_FX.same qF rfl rfl⟩, va_recv hKc hPc (ci := 0) (q0 := 0) rfl rfl, fun U hU hW => ⟨rfl, by rw [hU], by rw [hU]; exact hPc, va_K.moved hW.alike hKc, hDc.weaken (fun _ _ _ _ => trivial), cv_FX.go hFX hW hS hFc hU⟩⟩ rfl rfl hl.1 rfl (lv_room (Nat.le_of_ble_eq_true rfl)) dX6_take_83 ⟨Nat.le_of_ble_eq_true rfl, Nat.le_of_ble_eq_true rfl⟩) hS (fun q _ h => hFc q h) hFc (fun  u t H1 locs ht hvm hw hB hz1 hk1 hS => ?_)
          obtain ⟨z0_30, y1_31, y2_32, y3_33, hp_34, hp_35, hp_36, hp_37, hP1, hD1⟩ := hB
          rw [ht] at hP1
          obtain ⟨hP, hD⟩ := va_join (wr := [(v0, .inr (5, [.ref v_hung, .int a_pl, .int w_9, .int w_10, .int w_11])), (v_hung, .inl (cyI, 7, .inl f_12)), (sl0, .inr (7, [.ref sNum, .ref sLen, .ref sWid, .ref sMade])), (sMade, .inl (cyZ, 4, .inl s_fm)), (sLen, .inl (cyI, 4, .inl s_fl)), (sWid, .inl (cyI, 4, .inl s_fw)), (sNum, .inl (cyN, 4, .inr (.inr (.inr (.inr nF))))), (n0, .inl (cyJ, 60, .inr (.inl s_n0))), (n1, .inl (cyJ, 60, .inr (.inl s_n1))), (n2, .inl (cyJ, 60, .inr (.inl s_n2))), (n3, .inl (cyJ, 60, .inr (.inl s_n3)))]) (w1 := [(c0, .inr (0, [.ref c_row, .ref c_origins, .ref c_before, .ref c_lawsByNight, .ref h0, .int z0_30])), (c_row, .inl (cyI, 7, .inl y1_31)), (c_origins, .inl (cyI, 7, .inl y2_32)), (c_before, .inl (cyI, 7, .inl y3_33)), (c_lawsByNight, .inl (cyI, 60, .inl y2_24)), (h0, .inr (2, [.int a_pl, .int a_li, .int a_le, .int a_lc, .int a_ac, .int a_ng, .ref a_first, .ref a_now, .ref a_lawPlace, .ref a_lawOther, .ref a_lawEach, .ref a_lawFrom, .ref a_foes, .ref a_suitTable, .ref a_acts])), (a_first, .inl (cyI, 7, .inl a_f_first)), (a_now, .inl (cyI, 7, .inl a_f_now)), (a_lawPlace, .inl (cyI, 6, .inl a_f_lawPlace)), (a_lawOther, .inl (cyI, 6, .inl a_f_lawOther)), (a_lawEach, .inl (cyI, 6, .inl a_f_lawEach)), (a_lawFrom, .inl (cyI, 6, .inl a_f_lawFrom)), (a_foes, .inl (cyI, 7, .inl a_f_foes)), (a_suitTable, .inl (cyI, 49, .inl a_f_suitTable)), (a_acts, .inl (cyI, 40, .inl a_f_acts))]) hP hD [21, 22, 23, 24, 25, 11, 12, 13, 14, 15, 16, 17, 18, 19, 20] [0, 1, 2, 3, 4, 5, 6, 7, 8, 9, 10] rfl rfl (by decide) (by decide) hk1 hFc hP1 hD1
          generalize H1 = H at hP hS ⊢
          have hP : va_P (dC, dI) vwCl [(v0, .inr (5, [.ref v_hung, .int a_pl, .int w_9, .int w_10, .int w_11])), (v_hung, .inl (cyI, 7, .inl f_12)), (sl0, .inr (7, [.ref sNum, .ref sLen, .ref sWid, .ref sMade])), (sMade, .inl (cyZ, 4, .inl s_fm)), (sLen, .inl (cyI, 4, .inl s_fl)), (sWid, .inl (cyI, 4, .inl s_fw)), (sNum, .inl (cyN, 4, .inr (.inr (.inr (.inr nF))))), (n0, .inl (cyJ, 60, .inr (.inl s_n0))), (n1, .inl (cyJ, 60, .inr (.inl s_n1))), (n2, .inl (cyJ, 60, .inr (.inl s_n2))), (n3, .inl (cyJ, 60, .inr (.inl s_n3))), (c0, .inr (0, [.ref c_row, .ref c_origins, .ref c_before, .ref c_lawsByNight, .ref h0, .int z0_30])), (c_row, .inl (cyI, 7, .inl y1_31)), (c_origins, .inl (cyI, 7, .inl y2_32)), (c_before, .inl (cyI, 7, .inl y3_33)), (c_lawsByNight, .inl (cyI, 60, .inl y2_24)), (h0, .inr (2, [.int a_pl, .int a_li, .int a_le, .int a_lc, .int a_ac, .int a_ng, .ref a_first, .ref a_now, .ref a_lawPlace, .ref a_lawOther, .ref a_lawEach, .ref a_lawFrom, .ref a_foes, .ref a_suitTable, .ref a_acts])), (a_first, .inl (cyI, 7, .inl a_f_first)), (a_now, .inl (cyI, 7, .inl a_f_now)), (a_lawPlace, .inl (cyI, 6, .inl a_f_lawPlace)), (a_lawOther, .inl (cyI, 6, .inl a_f_lawOther)), (a_lawEach, .inl (cyI, 6, .inl a_f_lawEach)), (a_lawFrom, .inl (cyI, 6, .inl a_f_lawFrom)), (a_foes, .inl (cyI, 7, .inl a_f_foes)), (a_suitTable, .inl (cyI, 49, .inl a_f_suitTable)), (a_acts, .inl (cyI, 40, .inl a_f_acts))] H := hP
          have hD : va_D A [(v0, .inr (5, [.ref v_hung, .int a_pl, .int w_9, .int w_10, .int w_11])), (v_hung, .inl (cyI, 7, .inl f_12)), (sl0, .inr (7, [.ref sNum, .ref sLen, .ref sWid, .ref sMade])), (sMade, .inl (cyZ, 4, .inl s_fm)), (sLen, .inl (cyI, 4, .inl s_fl)), (sWid, .inl (cyI, 4, .inl s_fw)), (sNum, .inl (cyN, 4, .inr (.inr (.inr (.inr nF))))), (n0, .inl (cyJ, 60, .inr (.inl s_n0))), (n1, .inl (cyJ, 60, .inr (.inl s_n1))), (n2, .inl (cyJ, 60, .inr (.inl s_n2))), (n3, .inl (cyJ, 60, .inr (.inl s_n3))), (c0, .inr (0, [.ref c_row, .ref c_origins, .ref c_before, .ref c_lawsByNight, .ref h0, .int z0_30])), (c_row, .inl (cyI, 7, .inl y1_31)), (c_origins, .inl (cyI, 7, .inl y2_32)), (c_before, .inl (cyI, 7, .inl y3_33)), (c_lawsByNight, .inl (cyI, 60, .inl y2_24)), (h0, .inr (2, [.int a_pl, .int a_li, .int a_le, .int a_lc, .int a_ac, .int a_ng, .ref a_first, .ref a_now, .ref a_lawPlace, .ref a_lawOther, .ref a_lawEach, .ref a_lawFrom, .ref a_foes, .ref a_suitTable, .ref a_acts])), (a_first, .inl (cyI, 7, .inl a_f_first)), (a_now, .inl (cyI, 7, .inl a_f_now)), (a_lawPlace, .inl (cyI, 6, .inl a_f_lawPlace)), (a_lawOther, .inl (cyI, 6, .inl a_f_lawOther)), (a_lawEach, .inl (cyI, 6, .inl a_f_lawEach)), (a_lawFrom, .inl (cyI, 6, .inl a_f_lawFrom)), (a_foes, .inl (cyI, 7, .inl a_f_foes)), (a_suitTable, .inl (cyI, 49, .inl a_f_suitTable)), (a_acts, .inl (cyI, 40, .inl a_f_acts))] := hD
          have hP := hP.sub (ws' := [(v0, .inr (5, [.ref v_hung, .int a_pl, .int w_9, .int w_10, .int w_11])), (v_hung, .inl (cyI, 7, .inl f_12)), (sl0, .inr (7, [.ref sNum, .ref sLen, .ref sWid, .ref sMade])), (sMade, .inl (cyZ, 4, .inl s_fm)), (sLen, .inl (cyI, 4, .inl s_fl)), (sWid, .inl (cyI, 4, .inl s_fw)), (sNum, .inl (cyN, 4, .inr (.inr (.inr (.inr nF))))), (n0, .inl (cyJ, 60, .inr (.inl s_n0))), (n1, .inl (cyJ, 60, .inr (.inl s_n1))), (n2, .inl (cyJ, 60, .inr (.inl s_n2))), (n3, .inl (cyJ, 60, .inr (.inl s_n3))), (h0, .inr (2, [.int a_pl, .int a_li, .int a_le, .int a_lc, .int a_ac, .int a_ng, .ref a_first, .ref a_now, .ref a_lawPlace, .ref a_lawOther, .ref a_lawEach, .ref a_lawFrom, .ref a_foes, .ref a_suitTable, .ref a_acts])), (a_first, .inl (cyI, 7, .inl a_f_first)), (a_now, .inl (cyI, 7, .inl a_f_now)), (a_lawPlace, .inl (cyI, 6, .inl a_f_lawPlace)), (a_lawOther, .inl (cyI, 6, .inl a_f_lawOther)), (a_lawEach, .inl (cyI, 6, .inl a_f_lawEach)), (a_lawFrom, .inl (cyI, 6, .inl a_f_lawFrom)), (a_foes, .inl (cyI, 7, .inl a_f_foes)), (a_suitTable, .inl (cyI, 49, .inl a_f_suitTable)), (a_acts, .inl (cyI, 40, .inl a_f_acts)), (c0, .inr (0, [.ref c_row, .ref c_origins, .ref c_before, .ref c_lawsByNight, .ref h0, .int z0_30])), (c_row, .inl (cyI, 7, .inl y1_31)), (c_origins, .inl (cyI, 7, .inl y2_32)), (c_before, .inl (cyI, 7, .inl y3_33)), (c_lawsByNight, .inl (cyI, 60, .inl y2_24))]) [0, 1, 2, 3, 4, 5, 6, 7, 8, 9, 10, 16, 17, 18, 19, 20, 21, 22, 23, 24, 25, 11, 12, 13, 14, 15] rfl
          have hD := hD.sub (ws' := [(v0, .inr (5, [.ref v_hung, .int a_pl, .int w_9, .int w_10, .int w_11])), (v_hung, .inl (cyI, 7, .inl f_12)), (sl0, .inr (7, [.ref sNum, .ref sLen, .ref sWid, .ref sMade])), (sMade, .inl (cyZ, 4, .inl s_fm)), (sLen, .inl (cyI, 4, .inl s_fl)), (sWid, .inl (cyI, 4, .inl s_fw)), (sNum, .inl (cyN, 4, .inr (.inr (.inr (.inr nF))))), (n0, .inl (cyJ, 60, .inr (.inl s_n0))), (n1, .inl (cyJ, 60, .inr (.inl s_n1))), (n2, .inl (cyJ, 60, .inr (.inl s_n2))), (n3, .inl (cyJ, 60, .inr (.inl s_n3))), (h0, .inr (2, [.int a_pl, .int a_li, .int a_le, .int a_lc, .int a_ac, .int a_ng, .ref a_first, .ref a_now, .ref a_lawPlace, .ref a_lawOther, .ref a_lawEach, .ref a_lawFrom, .ref a_foes, .ref a_suitTable, .ref a_acts])), (a_first, .inl (cyI, 7, .inl a_f_first)), (a_now, .inl (cyI, 7, .inl a_f_now)), (a_lawPlace, .inl (cyI, 6, .inl a_f_lawPlace)), (a_lawOther, .inl (cyI, 6, .inl a_f_lawOther)), (a_lawEach, .inl (cyI, 6, .inl a_f_lawEach)), (a_lawFrom, .inl (cyI, 6, .inl a_f_lawFrom)), (a_foes, .inl (cyI, 7, .inl a_f_foes)), (a_suitTable, .inl (cyI, 49, .inl a_f_suitTable)), (a_acts, .inl (cyI, 40, .inl a_f_acts)), (c0, .inr (0, [.ref c_row, .ref c_origins, .ref c_before, .ref c_lawsByNight, .ref h0, .int z0_30])), (c_row, .inl (cyI, 7, .inl y1_31)), (c_origins, .inl (cyI, 7, .inl y2_32)), (c_before, .inl (cyI, 7, .inl y3_33)), (c_lawsByNight, .inl (cyI, 60, .inl y2_24))]) [0, 1, 2, 3, 4, 5, 6, 7, 8, 9, 10, 16, 17, 18, 19, 20, 21, 22, 23, 24, 25, 11, 12, 13, 14, 15] (by decide) rfl
          refine lv_aload_n hx hb dX6_take_86 rfl (lv_at hl 2 rfl) ?_
          refine lv_aload hx hb dX6_take_87 (lv_at hl 6 rfl) ?_
          refine va_get (D := (dC, dI)) (ci := 0) (v := .ref c_row) (C := RX0) (T := TX0) (N := 6) hx hb hts uinX0 hown hK hP 21 rfl rfl 0 (by decide) (hts _ wd_1_192) (fun _ h9 => h9) rfl dX6_take_89 ?_
          refine lv_aload hx hb dX6_take_92 (lv_at hl 1 rfl) ?_
          refine lv_iload hx hb dX6_take_94 (lv_at hl 0 rfl) ?_
          refine va_lald hx hb hK hP 7 2 rfl rfl (vp_in_iff.mpr (by omega)) dX6_take_96 ?_
          refine lv_topl (fun x_38 ex_38 => ?_)
          have qx_38 := sn_get (i := u_8) hq_3 (by omega) hm9 (by omega)
          have fx_38 : 0 ≤ x_38.toInt ∧ x_38.toInt ≤ 6 := by rw [ex_38]; omega
          refine lv_l2i hx hb dX6_take_97 rfl ?_
          refine lv_topi (fun x_39 ex_39 => ?_)
          have fx_39 : x_39.toInt = x_38.toInt := by rw [ex_39]; exact cv_l2i (by omega) (by omega)
          refine va_iald hx hb hK hP 22 0 rfl rfl (vp_in_iff.mpr (by omega)) dX6_take_98 ?_
          refine lv_topi (fun x_40 ex_40 => ?_)
          have fx_40 : 0 ≤ x_40.toInt ∧ x_40.toInt ≤ 6 := by rw [ex_40]; exact hp_35 _ (cv_ix (by omega) (by omega))
          refine lv_aload hx hb dX6_take_99 (lv_at hl 1 rfl) ?_
          refine lv_iload hx hb dX6_take_101 (lv_at hl 0 rfl) ?_
          refine lv_iconst (v := 2) hx hb dX6_take_103 (by decide) ?_
          refine lv_iadd hx hb dX6_take_104 ?_
          refine lv_topi (fun x_41 ex_41 => ?_)
          have fx_41 : x_41.toInt = u_8.toInt + 2 := by rw [ex_41]; exact cv_addI (by have : (2 : Int32).toInt = 2 := rfl; omega) (by have : (2 : Int32).toInt = 2 := rfl; omega)
          refine va_lald hx hb hK hP 7 2 rfl rfl (vp_in_iff.mpr (by omega)) dX6_take_105 ?_
          refine lv_topl (fun x_42 ex_42 => ?_)
          have qx_42 := sn_get (i := u_8) hq_3 (by omega) hm9 (by omega)
          have ax_42 : x_41.toNatClampNeg = u_8.toNatClampNeg + 2 := sn_at (by omega) (by omega)
          have fx_42 : 0 ≤ x_42.toInt ∧ x_42.toInt ≤ 6 := by rw [ex_42, ax_42]; omega
          have gx_42 : x_42.toInt < a_pl.toInt := by rw [ex_42, ax_42]; omega
          refine lv_l2i hx hb dX6_take_106 rfl ?_
          refine lv_topi (fun x_43 ex_43 => ?_)
          have fx_43 : x_43.toInt = x_42.toInt := by rw [ex_43]; exact cv_l2i (by omega) (by omega)
          have hPc := hP.sub (ws' := [(v0, .inr (5, [.ref v_hung, .int a_pl, .int w_9, .int w_10, .int w_11])), (v_hung, .inl (cyI, 7, .inl f_12))]) [0, 1] rfl
          have hKc := hK.sub (tys' := [(cyI, .int), (cyB, .byte), (cyJ, .long), (cyZ, .boolean), (cyH, .object RX2), (cyN, .array .long)]) [0, 1, 2, 3, 4, 5] rfl
          have hDc := hD.sub (ws' := [(v0, .inr (5, [.ref v_hung, .int a_pl, .int w_9, .int w_10, .int w_11])), (v_hung, .inl (cyI, 7, .inl f_12))]) [0, 1] (by decide) rfl
          have hFc := va_free (wc := [(v0, .inr (5, [.ref v_hung, .int a_pl, .int w_9, .int w_10, .int w_11])), (v_hung, .inl (cyI, 7, .inl f_12))]) hD hS hA [0, 1] rfl
          refine va_callv (va_runV (As := [.int x_40, .int x_43]) (rest := []) ⟨hx, hb, hml, hown, hts⟩ (n_learn l dC dI cyI cyB cyJ cyZ cyH cyN H.size v0 v_hung a_pl w_9 w_10 w_11 f_12 x_40 x_43 hf_12 (by omega) (by omega) (by omega) (by omega) (by omega) hun8 (by omega)) (cwV 2 hts (gdV wd_4_191 wd_4_193 wd_s2_13 wd_1_6 wd_4_194) rfl rfl rfl (by decide +kernel) ⟨Nat.le_of_ble_eq_true rfl, Nat.le_of_ble_eq_true rfl⟩) ⟨fun a U g mk q => by obtain ⟨q0, q1, qP, qK, qD⟩ := q; exact ⟨q0, q1, qP, va_K.moved (u := U) (U := U.calling g mk a) (Vm.Alike.refl U.vm) qK, qD⟩, va_recv hKc hPc (ci := 5) (q0 := 0) rfl rfl, fun U hU hW => ⟨rfl, by rw [hU], by rw [hU]; exact hPc, va_K.moved hW.alike hKc, hDc.weaken (fun _ _ _ _ => trivial)⟩⟩ rfl rfl hl.1 rfl (lv_room (Nat.le_of_ble_eq_true rfl)) dX6_take_107 ⟨Nat.le_of_ble_eq_true rfl, Nat.le_of_ble_eq_true rfl⟩) hS (fun q _ h => hFc q h) hFc (fun  u t H1 locs ht hvm hw hB hz1 hk1 hS => ?_)
          obtain ⟨z0_44, z1_45, z2_46, y3_47, hp_48, hp_49, hp_50, hp_51, hp_52, hP1, hD1⟩ := hB
          rw [ht] at hP1
          obtain ⟨hP, hD⟩ := va_join (wr := [(sl0, .inr (7, [.ref sNum, .ref sLen, .ref sWid, .ref sMade])), (sMade, .inl (cyZ, 4, .inl s_fm)), (sLen, .inl (cyI, 4, .inl s_fl)), (sWid, .inl (cyI, 4, .inl s_fw)), (sNum, .inl (cyN, 4, .inr (.inr (.inr (.inr nF))))), (n0, .inl (cyJ, 60, .inr (.inl s_n0))), (n1, .inl (cyJ, 60, .inr (.inl s_n1))), (n2, .inl (cyJ, 60, .inr (.inl s_n2))), (n3, .inl (cyJ, 60, .inr (.inl s_n3))), (h0, .inr (2, [.int a_pl, .int a_li, .int a_le, .int a_lc, .int a_ac, .int a_ng, .ref a_first, .ref a_now, .ref a_lawPlace, .ref a_lawOther, .ref a_lawEach, .ref a_lawFrom, .ref a_foes, .ref a_suitTable, .ref a_acts])), (a_first, .inl (cyI, 7, .inl a_f_first)), (a_now, .inl (cyI, 7, .inl a_f_now)), (a_lawPlace, .inl (cyI, 6, .inl a_f_lawPlace)), (a_lawOther, .inl (cyI, 6, .inl a_f_lawOther)), (a_lawEach, .inl (cyI, 6, .inl a_f_lawEach)), (a_lawFrom, .inl (cyI, 6, .inl a_f_lawFrom)), (a_foes, .inl (cyI, 7, .inl a_f_foes)), (a_suitTable, .inl (cyI, 49, .inl a_f_suitTable)), (a_acts, .inl (cyI, 40, .inl a_f_acts)), (c0, .inr (0, [.ref c_row, .ref c_origins, .ref c_before, .ref c_lawsByNight, .ref h0, .int z0_30])), (c_row, .inl (cyI, 7, .inl y1_31)), (c_origins, .inl (cyI, 7, .inl y2_32)), (c_before, .inl (cyI, 7, .inl y3_33)), (c_lawsByNight, .inl (cyI, 60, .inl y2_24))]) (w1 := [(v0, .inr (5, [.ref v_hung, .int a_pl, .int z0_44, .int z1_45, .int z2_46])), (v_hung, .inl (cyI, 7, .inl y3_47))]) hP hD [0, 1] [2, 3, 4, 5, 6, 7, 8, 9, 10, 11, 12, 13, 14, 15, 16, 17, 18, 19, 20, 21, 22, 23, 24, 25] rfl rfl (by decide) (by decide) hk1 hFc hP1 hD1
          generalize H1 = H at hP hS ⊢
          have hP : va_P (dC, dI) vwCl [(sl0, .inr (7, [.ref sNum, .ref sLen, .ref sWid, .ref sMade])), (sMade, .inl (cyZ, 4, .inl s_fm)), (sLen, .inl (cyI, 4, .inl s_fl)), (sWid, .inl (cyI, 4, .inl s_fw)), (sNum, .inl (cyN, 4, .inr (.inr (.inr (.inr nF))))), (n0, .inl (cyJ, 60, .inr (.inl s_n0))), (n1, .inl (cyJ, 60, .inr (.inl s_n1))), (n2, .inl (cyJ, 60, .inr (.inl s_n2))), (n3, .inl (cyJ, 60, .inr (.inl s_n3))), (h0, .inr (2, [.int a_pl, .int a_li, .int a_le, .int a_lc, .int a_ac, .int a_ng, .ref a_first, .ref a_now, .ref a_lawPlace, .ref a_lawOther, .ref a_lawEach, .ref a_lawFrom, .ref a_foes, .ref a_suitTable, .ref a_acts])), (a_first, .inl (cyI, 7, .inl a_f_first)), (a_now, .inl (cyI, 7, .inl a_f_now)), (a_lawPlace, .inl (cyI, 6, .inl a_f_lawPlace)), (a_lawOther, .inl (cyI, 6, .inl a_f_lawOther)), (a_lawEach, .inl (cyI, 6, .inl a_f_lawEach)), (a_lawFrom, .inl (cyI, 6, .inl a_f_lawFrom)), (a_foes, .inl (cyI, 7, .inl a_f_foes)), (a_suitTable, .inl (cyI, 49, .inl a_f_suitTable)), (a_acts, .inl (cyI, 40, .inl a_f_acts)), (c0, .inr (0, [.ref c_row, .ref c_origins, .ref c_before, .ref c_lawsByNight, .ref h0, .int z0_30])), (c_row, .inl (cyI, 7, .inl y1_31)), (c_origins, .inl (cyI, 7, .inl y2_32)), (c_before, .inl (cyI, 7, .inl y3_33)), (c_lawsByNight, .inl (cyI, 60, .inl y2_24)), (v0, .inr (5, [.ref v_hung, .int a_pl, .int z0_44, .int z1_45, .int z2_46])), (v_hung, .inl (cyI, 7, .inl y3_47))] H := hP
          have hD : va_D A [(sl0, .inr (7, [.ref sNum, .ref sLen, .ref sWid, .ref sMade])), (sMade, .inl (cyZ, 4, .inl s_fm)), (sLen, .inl (cyI, 4, .inl s_fl)), (sWid, .inl (cyI, 4, .inl s_fw)), (sNum, .inl (cyN, 4, .inr (.inr (.inr (.inr nF))))), (n0, .inl (cyJ, 60, .inr (.inl s_n0))), (n1, .inl (cyJ, 60, .inr (.inl s_n1))), (n2, .inl (cyJ, 60, .inr (.inl s_n2))), (n3, .inl (cyJ, 60, .inr (.inl s_n3))), (h0, .inr (2, [.int a_pl, .int a_li, .int a_le, .int a_lc, .int a_ac, .int a_ng, .ref a_first, .ref a_now, .ref a_lawPlace, .ref a_lawOther, .ref a_lawEach, .ref a_lawFrom, .ref a_foes, .ref a_suitTable, .ref a_acts])), (a_first, .inl (cyI, 7, .inl a_f_first)), (a_now, .inl (cyI, 7, .inl a_f_now)), (a_lawPlace, .inl (cyI, 6, .inl a_f_lawPlace)), (a_lawOther, .inl (cyI, 6, .inl a_f_lawOther)), (a_lawEach, .inl (cyI, 6, .inl a_f_lawEach)), (a_lawFrom, .inl (cyI, 6, .inl a_f_lawFrom)), (a_foes, .inl (cyI, 7, .inl a_f_foes)), (a_suitTable, .inl (cyI, 49, .inl a_f_suitTable)), (a_acts, .inl (cyI, 40, .inl a_f_acts)), (c0, .inr (0, [.ref c_row, .ref c_origins, .ref c_before, .ref c_lawsByNight, .ref h0, .int z0_30])), (c_row, .inl (cyI, 7, .inl y1_31)), (c_origins, .inl (cyI, 7, .inl y2_32)), (c_before, .inl (cyI, 7, .inl y3_33)), (c_lawsByNight, .inl (cyI, 60, .inl y2_24)), (v0, .inr (5, [.ref v_hung, .int a_pl, .int z0_44, .int z1_45, .int z2_46])), (v_hung, .inl (cyI, 7, .inl y3_47))] := hD
          have hP := hP.sub (ws' := [(v0, .inr (5, [.ref v_hung, .int a_pl, .int z0_44, .int z1_45, .int z2_46])), (v_hung, .inl (cyI, 7, .inl y3_47)), (sl0, .inr (7, [.ref sNum, .ref sLen, .ref sWid, .ref sMade])), (sMade, .inl (cyZ, 4, .inl s_fm)), (sLen, .inl (cyI, 4, .inl s_fl)), (sWid, .inl (cyI, 4, .inl s_fw)), (sNum, .inl (cyN, 4, .inr (.inr (.inr (.inr nF))))), (n0, .inl (cyJ, 60, .inr (.inl s_n0))), (n1, .inl (cyJ, 60, .inr (.inl s_n1))), (n2, .inl (cyJ, 60, .inr (.inl s_n2))), (n3, .inl (cyJ, 60, .inr (.inl s_n3))), (h0, .inr (2, [.int a_pl, .int a_li, .int a_le, .int a_lc, .int a_ac, .int a_ng, .ref a_first, .ref a_now, .ref a_lawPlace, .ref a_lawOther, .ref a_lawEach, .ref a_lawFrom, .ref a_foes, .ref a_suitTable, .ref a_acts])), (a_first, .inl (cyI, 7, .inl a_f_first)), (a_now, .inl (cyI, 7, .inl a_f_now)), (a_lawPlace, .inl (cyI, 6, .inl a_f_lawPlace)), (a_lawOther, .inl (cyI, 6, .inl a_f_lawOther)), (a_lawEach, .inl (cyI, 6, .inl a_f_lawEach)), (a_lawFrom, .inl (cyI, 6, .inl a_f_lawFrom)), (a_foes, .inl (cyI, 7, .inl a_f_foes)), (a_suitTable, .inl (cyI, 49, .inl a_f_suitTable)), (a_acts, .inl (cyI, 40, .inl a_f_acts)), (c0, .inr (0, [.ref c_row, .ref c_origins, .ref c_before, .ref c_lawsByNight, .ref h0, .int z0_30])), (c_row, .inl (cyI, 7, .inl y1_31)), (c_origins, .inl (cyI, 7, .inl y2_32)), (c_before, .inl (cyI, 7, .inl y3_33)), (c_lawsByNight, .inl (cyI, 60, .inl y2_24))]) [24, 25, 0, 1, 2, 3, 4, 5, 6, 7, 8, 9, 10, 11, 12, 13, 14, 15, 16, 17, 18, 19, 20, 21, 22, 23] rfl
          have hD := hD.sub (ws' := [(v0, .inr (5, [.ref v_hung, .int a_pl, .int z0_44, .int z1_45, .int z2_46])), (v_hung, .inl (cyI, 7, .inl y3_47)), (sl0, .inr (7, [.ref sNum, .ref sLen, .ref sWid, .ref sMade])), (sMade, .inl (cyZ, 4, .inl s_fm)), (sLen, .inl (cyI, 4, .inl s_fl)), (sWid, .inl (cyI, 4, .inl s_fw)), (sNum, .inl (cyN, 4, .inr (.inr (.inr (.inr nF))))), (n0, .inl (cyJ, 60, .inr (.inl s_n0))), (n1, .inl (cyJ, 60, .inr (.inl s_n1))), (n2, .inl (cyJ, 60, .inr (.inl s_n2))), (n3, .inl (cyJ, 60, .inr (.inl s_n3))), (h0, .inr (2, [.int a_pl, .int a_li, .int a_le, .int a_lc, .int a_ac, .int a_ng, .ref a_first, .ref a_now, .ref a_lawPlace, .ref a_lawOther, .ref a_lawEach, .ref a_lawFrom, .ref a_foes, .ref a_suitTable, .ref a_acts])), (a_first, .inl (cyI, 7, .inl a_f_first)), (a_now, .inl (cyI, 7, .inl a_f_now)), (a_lawPlace, .inl (cyI, 6, .inl a_f_lawPlace)), (a_lawOther, .inl (cyI, 6, .inl a_f_lawOther)), (a_lawEach, .inl (cyI, 6, .inl a_f_lawEach)), (a_lawFrom, .inl (cyI, 6, .inl a_f_lawFrom)), (a_foes, .inl (cyI, 7, .inl a_f_foes)), (a_suitTable, .inl (cyI, 49, .inl a_f_suitTable)), (a_acts, .inl (cyI, 40, .inl a_f_acts)), (c0, .inr (0, [.ref c_row, .ref c_origins, .ref c_before, .ref c_lawsByNight, .ref h0, .int z0_30])), (c_row, .inl (cyI, 7, .inl y1_31)), (c_origins, .inl (cyI, 7, .inl y2_32)), (c_before, .inl (cyI, 7, .inl y3_33)), (c_lawsByNight, .inl (cyI, 60, .inl y2_24))]) [24, 25, 0, 1, 2, 3, 4, 5, 6, 7, 8, 9, 10, 11, 12, 13, 14, 15, 16, 17, 18, 19, 20, 21, 22, 23] (by decide) rfl
          obtain ⟨x_53, ex_53⟩ : ∃ y : Int32, y = u_8 + 3 := ⟨_, rfl⟩
          refine lv_iinc (v := x_53) (lv' := [(6, .int x_53), (5, .ref n0), (0, .ref v0), (1, .ref h0), (2, .ref sl0), (3, .int 0), (4, .ref c0)]) hx hb dX6_take_110 hl (k := 0) rfl (by rw [ex_53]; rfl) (by decide) rfl (fun ls hl => ?_)
          have fx_53 : x_53.toInt = u_8.toInt + 3 := by rw [ex_53]; exact cv_addI (by have : (3 : Int32).toInt = 3 := rfl; omega) (by have : (3 : Int32).toInt = 3 := rfl; omega)
          refine lv_goto (tgt := 56) hx hb dX6_take_113 (by decide) ?_
          exact ihkey_19 x_53 z0_44 z1_45 z2_46 y3_47 (.ref h0) z0_30 y1_31 y2_32 y3_33 y2_24 _ _ _ (by omega) (by omega) (by omega) (by omega) hp_51 hp_35 hp_36 hp_37 (by omega) hp_52 hP hD hS (lv_sub hl [0, 1, 2, 3, 4, 5, 6] rfl) (by omega)
    exact key_19 _ 0 0 a_pl 1 y0_6 hvv cnum c_f_row c_f_origins c_f_before c_f_lawsByNight _ _ _ (by decide) (by decide) (by omega) (by decide) hp_7 g9 g10 g11 (by decide) (by rw [cb_zero _ (by omega)]; omega) hP hD hS (lv_sub hl [0, 1, 2, 3, 4, 5, 6] rfl) (Nat.lt_succ_self _)

/- X6_take -/
set_option maxHeartbeats 4000000 in
set_option maxRecDepth 100000 in
theorem n_take1 (l : Launch) (dC : Nat → ClassId) (dI : Nat → Nat → Nat) (cyI cyB cyJ cyZ cyH cyN : ClassId) (tR tF : Nat) (aK aV : Nat → Nat) (sz : Nat) (v0 v_hung : Nat) (v_pl v_kn v_un v_tr : Int32) (v_f : Nat → Int32) (sl0 sNum sLen sWid sMade n0 n1 n2 n3 : Nat) (nF : Nat → Option Nat) (s_fm s_fl s_fw : Nat → Int32) (s_n0 s_n1 s_n2 s_n3 : Nat → Int64) (h0 a_first a_now a_lawPlace a_lawOther a_lawEach a_lawFrom a_foes a_suitTable a_acts : Nat) (a_pl a_li a_le a_lc a_ac a_ng : Int32) (a_f_first a_f_now a_f_lawPlace a_f_lawOther a_f_lawEach a_f_lawFrom a_f_foes a_f_suitTable a_f_acts : Nat → Int32) (c0 c_row c_origins c_before c_lawsByNight : Nat) (cnum : Int32) (c_f_row c_f_origins c_f_before c_f_lawsByNight : Nat → Int32) (hvv : Value) (g0 : rg (-1) 6 7 v_f) (g1 : rg 0 1 4 s_fm) (g2 : rg 0 60 4 s_fl) (g3 : rg 0 3 4 s_fw) (g4 : rg 0 6 7 a_f_first) (g5 : rg 0 6 7 a_f_now) (g6 : rg 0 6 6 a_f_lawPlace) (g7 : rg 0 6 6 a_f_lawOther) (g8 : ra 40 a_f_acts) (g9 : rg 0 6 7 c_f_row) (g10 : rg 0 6 7 c_f_origins) (g11 : rg 0 6 7 c_f_before) (g12 : 0 ≤ a_pl.toInt ∧ a_pl.toInt ≤ 7) (g13 : 0 ≤ a_lc.toInt ∧ a_lc.toInt ≤ 6) (g14 : 0 ≤ a_ac.toInt ∧ a_ac.toInt ≤ 40) (g15 : 0 ≤ v_pl.toInt ∧ v_pl.toInt ≤ 7) (g16 : 0 ≤ v_kn.toInt ∧ v_kn.toInt ≤ 127) (g17 : 0 ≤ v_tr.toInt ∧ v_tr.toInt ≤ 1) (g18 : nF 0 = some n0) (g19 : nF 1 = some n1) (g20 : nF 2 = some n2) (g21 : nF 3 = some n3) (g22 : v_un.toInt = v_pl.toInt - cb v_kn v_pl.toInt.toNat) : Met l yX6_take (wk yX6_take cX6_take 7 (some .boolean)) ({ frames := 5, cells := 0, slots := 0, locals := 150 }) (va_Pc [.ref v0, .ref h0, .ref sl0, .int 1, .ref c0] (fun U => U.heap.size = sz ∧ va_P (dC, dI) vwCl [(v0, .inr (5, [.ref v_hung, .int v_pl, .int v_kn, .int v_un, .int v_tr])), (v_hung, .inl (cyI, 7, .inl v_f)), (sl0, .inr (7, [.ref sNum, .ref sLen, .ref sWid, .ref sMade])), (sMade, .inl (cyZ, 4, .inl s_fm)), (sLen, .inl (cyI, 4, .inl s_fl)), (sWid, .inl (cyI, 4, .inl s_fw)), (sNum, .inl (cyN, 4, .inr (.inr (.inr (.inr nF))))), (n0, .inl (cyJ, 60, .inr (.inl s_n0))), (n1, .inl (cyJ, 60, .inr (.inl s_n1))), (n2, .inl (cyJ, 60, .inr (.inl s_n2))), (n3, .inl (cyJ, 60, .inr (.inl s_n3))), (h0, .inr (2, [.int a_pl, .int a_li, .int a_le, .int a_lc, .int a_ac, .int a_ng, .ref a_first, .ref a_now, .ref a_lawPlace, .ref a_lawOther, .ref a_lawEach, .ref a_lawFrom, .ref a_foes, .ref a_suitTable, .ref a_acts])), (a_first, .inl (cyI, 7, .inl a_f_first)), (a_now, .inl (cyI, 7, .inl a_f_now)), (a_lawPlace, .inl (cyI, 6, .inl a_f_lawPlace)), (a_lawOther, .inl (cyI, 6, .inl a_f_lawOther)), (a_lawEach, .inl (cyI, 6, .inl a_f_lawEach)), (a_lawFrom, .inl (cyI, 6, .inl a_f_lawFrom)), (a_foes, .inl (cyI, 7, .inl a_f_foes)), (a_suitTable, .inl (cyI, 49, .inl a_f_suitTable)), (a_acts, .inl (cyI, 40, .inl a_f_acts)), (c0, .inr (0, [.ref c_row, .ref c_origins, .ref c_before, .ref c_lawsByNight, hvv, .int cnum])), (c_row, .inl (cyI, 7, .inl c_f_row)), (c_origins, .inl (cyI, 7, .inl c_f_origins)), (c_before, .inl (cyI, 7, .inl c_f_before)), (c_lawsByNight, .inl (cyI, 60, .inl c_f_lawsByNight))] U.heap ∧ va_K (dC, dI) vwCl [(cyI, .int), (cyB, .byte), (cyJ, .long), (cyZ, .boolean), (cyH, .object RX2), (cyN, .array .long)] U ∧ va_D (fun _ => True) [(v0, .inr (5, [.ref v_hung, .int v_pl, .int v_kn, .int v_un, .int v_tr])), (v_hung, .inl (cyI, 7, .inl v_f)), (sl0, .inr (7, [.ref sNum, .ref sLen, .ref sWid, .ref sMade])), (sMade, .inl (cyZ, 4, .inl s_fm)), (sLen, .inl (cyI, 4, .inl s_fl)), (sWid, .inl (cyI, 4, .inl s_fw)), (sNum, .inl (cyN, 4, .inr (.inr (.inr (.inr nF))))), (n0, .inl (cyJ, 60, .inr (.inl s_n0))), (n1, .inl (cyJ, 60, .inr (.inl s_n1))), (n2, .inl (cyJ, 60, .inr (.inl s_n2))), (n3, .inl (cyJ, 60, .inr (.inl s_n3))), (h0, .inr (2, [.int a_pl, .int a_li, .int a_le, .int a_lc, .int a_ac, .int a_ng, .ref a_first, .ref a_now, .ref a_lawPlace, .ref a_lawOther, .ref a_lawEach, .ref a_lawFrom, .ref a_foes, .ref a_suitTable, .ref a_acts])), (a_first, .inl (cyI, 7, .inl a_f_first)), (a_now, .inl (cyI, 7, .inl a_f_now)), (a_lawPlace, .inl (cyI, 6, .inl a_f_lawPlace)), (a_lawOther, .inl (cyI, 6, .inl a_f_lawOther)), (a_lawEach, .inl (cyI, 6, .inl a_f_lawEach)), (a_lawFrom, .inl (cyI, 6, .inl a_f_lawFrom)), (a_foes, .inl (cyI, 7, .inl a_f_foes)), (a_suitTable, .inl (cyI, 49, .inl a_f_suitTable)), (a_acts, .inl (cyI, 40, .inl a_f_acts)), (c0, .inr (0, [.ref c_row, .ref c_origins, .ref c_before, .ref c_lawsByNight, hvv, .int cnum])), (c_row, .inl (cyI, 7, .inl c_f_row)), (c_origins, .inl (cyI, 7, .inl c_f_origins)), (c_before, .inl (cyI, 7, .inl c_f_before)), (c_lawsByNight, .inl (cyI, 60, .inl c_f_lawsByNight))] ∧ cv_FX tR tF aK aV (va_A [(v0, .inr (5, [.ref v_hung, .int v_pl, .int v_kn, .int v_un, .int v_tr])), (v_hung, .inl (cyI, 7, .inl v_f)), (sl0, .inr (7, [.ref sNum, .ref sLen, .ref sWid, .ref sMade])), (sMade, .inl (cyZ, 4, .inl s_fm)), (sLen, .inl (cyI, 4, .inl s_fl)), (sWid, .inl (cyI, 4, .inl s_fw)), (sNum, .inl (cyN, 4, .inr (.inr (.inr (.inr nF))))), (n0, .inl (cyJ, 60, .inr (.inl s_n0))), (n1, .inl (cyJ, 60, .inr (.inl s_n1))), (n2, .inl (cyJ, 60, .inr (.inl s_n2))), (n3, .inl (cyJ, 60, .inr (.inl s_n3))), (h0, .inr (2, [.int a_pl, .int a_li, .int a_le, .int a_lc, .int a_ac, .int a_ng, .ref a_first, .ref a_now, .ref a_lawPlace, .ref a_lawOther, .ref a_lawEach, .ref a_lawFrom, .ref a_foes, .ref a_suitTable, .ref a_acts])), (a_first, .inl (cyI, 7, .inl a_f_first)), (a_now, .inl (cyI, 7, .inl a_f_now)), (a_lawPlace, .inl (cyI, 6, .inl a_f_lawPlace)), (a_lawOther, .inl (cyI, 6, .inl a_f_lawOther)), (a_lawEach, .inl (cyI, 6, .inl a_f_lawEach)), (a_lawFrom, .inl (cyI, 6, .inl a_f_lawFrom)), (a_foes, .inl (cyI, 7, .inl a_f_foes)), (a_suitTable, .inl (cyI, 49, .inl a_f_suitTable)), (a_acts, .inl (cyI, 40, .inl a_f_acts)), (c0, .inr (0, [.ref c_row, .ref c_origins, .ref c_before, .ref c_lawsByNight, hvv, .int cnum])), (c_row, .inl (cyI, 7, .inl c_f_row)), (c_origins, .inl (cyI, 7, .inl c_f_origins)), (c_before, .inl (cyI, 7, .inl c_f_before)), (c_lawsByNight, .inl (cyI, 60, .inl c_f_lawsByNight))] sz) U U.heap)) (va_Qi (fun (r : Int32) (_ : Unit) => 0 ≤ r.toInt ∧ r.toInt ≤ 1) (fun (_ : Unit) (t : State) => ∃ z0 : Int32, ∃ z1 : Int32, ∃ z2 : Int32, ∃ z3 : Int32, ∃ y4 : Nat → Int32, ∃ z5 : Value, ∃ z6 : Int32, ∃ y7 : Nat → Int32, ∃ y8 : Nat → Int32, ∃ y9 : Nat → Int32, ∃ y10 : Nat → Int32, (0 ≤ z0.toInt ∧ z0.toInt ≤ 7) ∧ (0 ≤ z1.toInt ∧ z1.toInt ≤ 127) ∧ (0 ≤ z3.toInt ∧ z3.toInt ≤ 1) ∧ (rg (-1) 6 7 y4) ∧ (rg 0 6 7 y7) ∧ (rg 0 6 7 y8) ∧ (rg 0 6 7 y9) ∧ (z2.toInt = z0.toInt - cb z1 z0.toInt.toNat) ∧ va_P (dC, dI) vwCl [(v0, .inr (5, [.ref v_hung, .int z0, .int z1, .int z2, .int z3])), (v_hung, .inl (cyI, 7, .inl y4)), (sl0, .inr (7, [.ref sNum, .ref sLen, .ref sWid, .ref sMade])), (sMade, .inl (cyZ, 4, .inl s_fm)), (sLen, .inl (cyI, 4, .inl s_fl)), (sWid, .inl (cyI, 4, .inl s_fw)), (sNum, .inl (cyN, 4, .inr (.inr (.inr (.inr nF))))), (n0, .inl (cyJ, 60, .inr (.inl s_n0))), (n1, .inl (cyJ, 60, .inr (.inl s_n1))), (n2, .inl (cyJ, 60, .inr (.inl s_n2))), (n3, .inl (cyJ, 60, .inr (.inl s_n3))), (h0, .inr (2, [.int a_pl, .int a_li, .int a_le, .int a_lc, .int a_ac, .int a_ng, .ref a_first, .ref a_now, .ref a_lawPlace, .ref a_lawOther, .ref a_lawEach, .ref a_lawFrom, .ref a_foes, .ref a_suitTable, .ref a_acts])), (a_first, .inl (cyI, 7, .inl a_f_first)), (a_now, .inl (cyI, 7, .inl a_f_now)), (a_lawPlace, .inl (cyI, 6, .inl a_f_lawPlace)), (a_lawOther, .inl (cyI, 6, .inl a_f_lawOther)), (a_lawEach, .inl (cyI, 6, .inl a_f_lawEach)), (a_lawFrom, .inl (cyI, 6, .inl a_f_lawFrom)), (a_foes, .inl (cyI, 7, .inl a_f_foes)), (a_suitTable, .inl (cyI, 49, .inl a_f_suitTable)), (a_acts, .inl (cyI, 40, .inl a_f_acts)), (c0, .inr (0, [.ref c_row, .ref c_origins, .ref c_before, .ref c_lawsByNight, z5, .int z6])), (c_row, .inl (cyI, 7, .inl y7)), (c_origins, .inl (cyI, 7, .inl y8)), (c_before, .inl (cyI, 7, .inl y9)), (c_lawsByNight, .inl (cyI, 60, .inl y10))] t.heap ∧ va_D (va_A [(v0, .inr (5, [.ref v_hung, .int v_pl, .int v_kn, .int v_un, .int v_tr])), (v_hung, .inl (cyI, 7, .inl v_f)), (sl0, .inr (7, [.ref sNum, .ref sLen, .ref sWid, .ref sMade])), (sMade, .inl (cyZ, 4, .inl s_fm)), (sLen, .inl (cyI, 4, .inl s_fl)), (sWid, .inl (cyI, 4, .inl s_fw)), (sNum, .inl (cyN, 4, .inr (.inr (.inr (.inr nF))))), (n0, .inl (cyJ, 60, .inr (.inl s_n0))), (n1, .inl (cyJ, 60, .inr (.inl s_n1))), (n2, .inl (cyJ, 60, .inr (.inl s_n2))), (n3, .inl (cyJ, 60, .inr (.inl s_n3))), (h0, .inr (2, [.int a_pl, .int a_li, .int a_le, .int a_lc, .int a_ac, .int a_ng, .ref a_first, .ref a_now, .ref a_lawPlace, .ref a_lawOther, .ref a_lawEach, .ref a_lawFrom, .ref a_foes, .ref a_suitTable, .ref a_acts])), (a_first, .inl (cyI, 7, .inl a_f_first)), (a_now, .inl (cyI, 7, .inl a_f_now)), (a_lawPlace, .inl (cyI, 6, .inl a_f_lawPlace)), (a_lawOther, .inl (cyI, 6, .inl a_f_lawOther)), (a_lawEach, .inl (cyI, 6, .inl a_f_lawEach)), (a_lawFrom, .inl (cyI, 6, .inl a_f_lawFrom)), (a_foes, .inl (cyI, 7, .inl a_f_foes)), (a_suitTable, .inl (cyI, 49, .inl a_f_suitTable)), (a_acts, .inl (cyI, 40, .inl a_f_acts)), (c0, .inr (0, [.ref c_row, .ref c_origins, .ref c_before, .ref c_lawsByNight, hvv, .int cnum])), (c_row, .inl (cyI, 7, .inl c_f_row)), (c_origins, .inl (cyI, 7, .inl c_f_origins)), (c_before, .inl (cyI, 7, .inl c_f_before)), (c_lawsByNight, .inl (cyI, 60, .inl c_f_lawsByNight))] sz) [(v0, .inr (5, [.ref v_hung, .int z0, .int z1, .int z2, .int z3])), (v_hung, .inl (cyI, 7, .inl y4)), (sl0, .inr (7, [.ref sNum, .ref sLen, .ref sWid, .ref sMade])), (sMade, .inl (cyZ, 4, .inl s_fm)), (sLen, .inl (cyI, 4, .inl s_fl)), (sWid, .inl (cyI, 4, .inl s_fw)), (sNum, .inl (cyN, 4, .inr (.inr (.inr (.inr nF))))), (n0, .inl (cyJ, 60, .inr (.inl s_n0))), (n1, .inl (cyJ, 60, .inr (.inl s_n1))), (n2, .inl (cyJ, 60, .inr (.inl s_n2))), (n3, .inl (cyJ, 60, .inr (.inl s_n3))), (h0, .inr (2, [.int a_pl, .int a_li, .int a_le, .int a_lc, .int a_ac, .int a_ng, .ref a_first, .ref a_now, .ref a_lawPlace, .ref a_lawOther, .ref a_lawEach, .ref a_lawFrom, .ref a_foes, .ref a_suitTable, .ref a_acts])), (a_first, .inl (cyI, 7, .inl a_f_first)), (a_now, .inl (cyI, 7, .inl a_f_now)), (a_lawPlace, .inl (cyI, 6, .inl a_f_lawPlace)), (a_lawOther, .inl (cyI, 6, .inl a_f_lawOther)), (a_lawEach, .inl (cyI, 6, .inl a_f_lawEach)), (a_lawFrom, .inl (cyI, 6, .inl a_f_lawFrom)), (a_foes, .inl (cyI, 7, .inl a_f_foes)), (a_suitTable, .inl (cyI, 49, .inl a_f_suitTable)), (a_acts, .inl (cyI, 40, .inl a_f_acts)), (c0, .inr (0, [.ref c_row, .ref c_origins, .ref c_before, .ref c_lawsByNight, z5, .int z6])), (c_row, .inl (cyI, 7, .inl y7)), (c_origins, .inl (cyI, 7, .inl y8)), (c_before, .inl (cyI, 7, .inl y9)), (c_lawsByNight, .inl (cyI, 60, .inl y10))]) (va_A [(v0, .inr (5, [.ref v_hung, .int v_pl, .int v_kn, .int v_un, .int v_tr])), (v_hung, .inl (cyI, 7, .inl v_f)), (sl0, .inr (7, [.ref sNum, .ref sLen, .ref sWid, .ref sMade])), (sMade, .inl (cyZ, 4, .inl s_fm)), (sLen, .inl (cyI, 4, .inl s_fl)), (sWid, .inl (cyI, 4, .inl s_fw)), (sNum, .inl (cyN, 4, .inr (.inr (.inr (.inr nF))))), (n0, .inl (cyJ, 60, .inr (.inl s_n0))), (n1, .inl (cyJ, 60, .inr (.inl s_n1))), (n2, .inl (cyJ, 60, .inr (.inl s_n2))), (n3, .inl (cyJ, 60, .inr (.inl s_n3))), (h0, .inr (2, [.int a_pl, .int a_li, .int a_le, .int a_lc, .int a_ac, .int a_ng, .ref a_first, .ref a_now, .ref a_lawPlace, .ref a_lawOther, .ref a_lawEach, .ref a_lawFrom, .ref a_foes, .ref a_suitTable, .ref a_acts])), (a_first, .inl (cyI, 7, .inl a_f_first)), (a_now, .inl (cyI, 7, .inl a_f_now)), (a_lawPlace, .inl (cyI, 6, .inl a_f_lawPlace)), (a_lawOther, .inl (cyI, 6, .inl a_f_lawOther)), (a_lawEach, .inl (cyI, 6, .inl a_f_lawEach)), (a_lawFrom, .inl (cyI, 6, .inl a_f_lawFrom)), (a_foes, .inl (cyI, 7, .inl a_f_foes)), (a_suitTable, .inl (cyI, 49, .inl a_f_suitTable)), (a_acts, .inl (cyI, 40, .inl a_f_acts)), (c0, .inr (0, [.ref c_row, .ref c_origins, .ref c_before, .ref c_lawsByNight, hvv, .int cnum])), (c_row, .inl (cyI, 7, .inl c_f_row)), (c_origins, .inl (cyI, 7, .inl c_f_origins)), (c_before, .inl (cyI, 7, .inl c_f_before)), (c_lawsByNight, .inl (cyI, 60, .inl c_f_lawsByNight))] sz)) 0 0 (va_A [(v0, .inr (5, [.ref v_hung, .int v_pl, .int v_kn, .int v_un, .int v_tr])), (v_hung, .inl (cyI, 7, .inl v_f)), (sl0, .inr (7, [.ref sNum, .ref sLen, .ref sWid, .ref sMade])), (sMade, .inl (cyZ, 4, .inl s_fm)), (sLen, .inl (cyI, 4, .inl s_fl)), (sWid, .inl (cyI, 4, .inl s_fw)), (sNum, .inl (cyN, 4, .inr (.inr (.inr (.inr nF))))), (n0, .inl (cyJ, 60, .inr (.inl s_n0))), (n1, .inl (cyJ, 60, .inr (.inl s_n1))), (n2, .inl (cyJ, 60, .inr (.inl s_n2))), (n3, .inl (cyJ, 60, .inr (.inl s_n3))), (h0, .inr (2, [.int a_pl, .int a_li, .int a_le, .int a_lc, .int a_ac, .int a_ng, .ref a_first, .ref a_now, .ref a_lawPlace, .ref a_lawOther, .ref a_lawEach, .ref a_lawFrom, .ref a_foes, .ref a_suitTable, .ref a_acts])), (a_first, .inl (cyI, 7, .inl a_f_first)), (a_now, .inl (cyI, 7, .inl a_f_now)), (a_lawPlace, .inl (cyI, 6, .inl a_f_lawPlace)), (a_lawOther, .inl (cyI, 6, .inl a_f_lawOther)), (a_lawEach, .inl (cyI, 6, .inl a_f_lawEach)), (a_lawFrom, .inl (cyI, 6, .inl a_f_lawFrom)), (a_foes, .inl (cyI, 7, .inl a_f_foes)), (a_suitTable, .inl (cyI, 49, .inl a_f_suitTable)), (a_acts, .inl (cyI, 40, .inl a_f_acts)), (c0, .inr (0, [.ref c_row, .ref c_origins, .ref c_before, .ref c_lawsByNight, hvv, .int cnum])), (c_row, .inl (cyI, 7, .inl c_f_row)), (c_origins, .inl (cyI, 7, .inl c_f_origins)), (c_before, .inl (cyI, 7, .inl c_f_before)), (c_lawsByNight, .inl (cyI, 60, .inl c_f_lawsByNight))] sz) := by
  refine Met.ofW (cc := cX6_take) (maxL := 7) (ret := (some .boolean)) (by decide) rfl ?_
  intro p e s m args below meth c s₁ B hml hv
  obtain ⟨rfl, hsz, hP, hK, hD0, hFX⟩ := hv
  have hx := B.exec
  have hb := B.bytes
  have hr := B.returns
  have hts : ∀ w ∈ uU, w.before ([.ref v0, .ref h0, .ref sl0, .int 1, .ref c0] : List Value).toArray s = true := fun w h => atoms_spec (ws := wk yX6_take cX6_take 7 (some .boolean)) B.pre w (List.mem_cons_of_mem _ h)
  have hown : s.vm.findClass RX6 = some m.cls := findClass_of_methodNamed B.named
  have hlocks := B.notSynchronized
  subst hsz
  have hD := hD0.self (sz := s.heap.size)
  generalize hAe : va_A [(v0, .inr (5, [.ref v_hung, .int v_pl, .int v_kn, .int v_un, .int v_tr])), (v_hung, .inl (cyI, 7, .inl v_f)), (sl0, .inr (7, [.ref sNum, .ref sLen, .ref sWid, .ref sMade])), (sMade, .inl (cyZ, 4, .inl s_fm)), (sLen, .inl (cyI, 4, .inl s_fl)), (sWid, .inl (cyI, 4, .inl s_fw)), (sNum, .inl (cyN, 4, .inr (.inr (.inr (.inr nF))))), (n0, .inl (cyJ, 60, .inr (.inl s_n0))), (n1, .inl (cyJ, 60, .inr (.inl s_n1))), (n2, .inl (cyJ, 60, .inr (.inl s_n2))), (n3, .inl (cyJ, 60, .inr (.inl s_n3))), (h0, .inr (2, [.int a_pl, .int a_li, .int a_le, .int a_lc, .int a_ac, .int a_ng, .ref a_first, .ref a_now, .ref a_lawPlace, .ref a_lawOther, .ref a_lawEach, .ref a_lawFrom, .ref a_foes, .ref a_suitTable, .ref a_acts])), (a_first, .inl (cyI, 7, .inl a_f_first)), (a_now, .inl (cyI, 7, .inl a_f_now)), (a_lawPlace, .inl (cyI, 6, .inl a_f_lawPlace)), (a_lawOther, .inl (cyI, 6, .inl a_f_lawOther)), (a_lawEach, .inl (cyI, 6, .inl a_f_lawEach)), (a_lawFrom, .inl (cyI, 6, .inl a_f_lawFrom)), (a_foes, .inl (cyI, 7, .inl a_f_foes)), (a_suitTable, .inl (cyI, 49, .inl a_f_suitTable)), (a_acts, .inl (cyI, 40, .inl a_f_acts)), (c0, .inr (0, [.ref c_row, .ref c_origins, .ref c_before, .ref c_lawsByNight, hvv, .int cnum])), (c_row, .inl (cyI, 7, .inl c_f_row)), (c_origins, .inl (cyI, 7, .inl c_f_origins)), (c_before, .inl (cyI, 7, .inl c_f_before)), (c_lawsByNight, .inl (cyI, 60, .inl c_f_lawsByNight))] s.heap.size = A at hD hFX ⊢
  have hA : ∀ q : Nat, s.heap.size ≤ q → A q := fun q h => by rw [← hAe]; exact Or.inr h
  have hS : va_S A s.heap s.heap [] := va_S.rf
  have hP : va_P (dC, dI) vwCl [(v0, .inr (5, [.ref v_hung, .int v_pl, .int v_kn, .int v_un, .int v_tr])), (v_hung, .inl (cyI, 7, .inl v_f)), (sl0, .inr (7, [.ref sNum, .ref sLen, .ref sWid, .ref sMade])), (sMade, .inl (cyZ, 4, .inl s_fm)), (sLen, .inl (cyI, 4, .inl s_fl)), (sWid, .inl (cyI, 4, .inl s_fw)), (sNum, .inl (cyN, 4, .inr (.inr (.inr (.inr nF))))), (n0, .inl (cyJ, 60, .inr (.inl s_n0))), (n1, .inl (cyJ, 60, .inr (.inl s_n1))), (n2, .inl (cyJ, 60, .inr (.inl s_n2))), (n3, .inl (cyJ, 60, .inr (.inl s_n3))), (h0, .inr (2, [.int a_pl, .int a_li, .int a_le, .int a_lc, .int a_ac, .int a_ng, .ref a_first, .ref a_now, .ref a_lawPlace, .ref a_lawOther, .ref a_lawEach, .ref a_lawFrom, .ref a_foes, .ref a_suitTable, .ref a_acts])), (a_first, .inl (cyI, 7, .inl a_f_first)), (a_now, .inl (cyI, 7, .inl a_f_now)), (a_lawPlace, .inl (cyI, 6, .inl a_f_lawPlace)), (a_lawOther, .inl (cyI, 6, .inl a_f_lawOther)), (a_lawEach, .inl (cyI, 6, .inl a_f_lawEach)), (a_lawFrom, .inl (cyI, 6, .inl a_f_lawFrom)), (a_foes, .inl (cyI, 7, .inl a_f_foes)), (a_suitTable, .inl (cyI, 49, .inl a_f_suitTable)), (a_acts, .inl (cyI, 40, .inl a_f_acts)), (c0, .inr (0, [.ref c_row, .ref c_origins, .ref c_before, .ref c_lawsByNight, hvv, .int cnum])), (c_row, .inl (cyI, 7, .inl c_f_row)), (c_origins, .inl (cyI, 7, .inl c_f_origins)), (c_before, .inl (cyI, 7, .inl c_f_before)), (c_lawsByNight, .inl (cyI, 60, .inl c_f_lawsByNight))] s.heap := hP
  have hl := lv_entry ([.ref v0, .ref h0, .ref sl0, .int 1, .ref c0]) (n := 7) (Nat.le_of_ble_eq_true rfl)
  rw [lg_entry_eq]
  generalize (lg_sl ([.ref v0, .ref h0, .ref sl0, .int 1, .ref c0]) ++ List.replicate (7 - (lg_sl ([.ref v0, .ref h0, .ref sl0, .int 1, .ref c0])).length) Slot.unset).toArray = ls at hl ⊢
  have hl : lv_has ls 7 [(0, .ref v0), (1, .ref h0), (2, .ref sl0), (3, .int 1), (4, .ref c0)] := hl
  obtain ⟨H, hHe⟩ : ∃ H, H = s.heap := ⟨_, rfl⟩
  have hP : va_P (dC, dI) vwCl [(v0, .inr (5, [.ref v_hung, .int v_pl, .int v_kn, .int v_un, .int v_tr])), (v_hung, .inl (cyI, 7, .inl v_f)), (sl0, .inr (7, [.ref sNum, .ref sLen, .ref sWid, .ref sMade])), (sMade, .inl (cyZ, 4, .inl s_fm)), (sLen, .inl (cyI, 4, .inl s_fl)), (sWid, .inl (cyI, 4, .inl s_fw)), (sNum, .inl (cyN, 4, .inr (.inr (.inr (.inr nF))))), (n0, .inl (cyJ, 60, .inr (.inl s_n0))), (n1, .inl (cyJ, 60, .inr (.inl s_n1))), (n2, .inl (cyJ, 60, .inr (.inl s_n2))), (n3, .inl (cyJ, 60, .inr (.inl s_n3))), (h0, .inr (2, [.int a_pl, .int a_li, .int a_le, .int a_lc, .int a_ac, .int a_ng, .ref a_first, .ref a_now, .ref a_lawPlace, .ref a_lawOther, .ref a_lawEach, .ref a_lawFrom, .ref a_foes, .ref a_suitTable, .ref a_acts])), (a_first, .inl (cyI, 7, .inl a_f_first)), (a_now, .inl (cyI, 7, .inl a_f_now)), (a_lawPlace, .inl (cyI, 6, .inl a_f_lawPlace)), (a_lawOther, .inl (cyI, 6, .inl a_f_lawOther)), (a_lawEach, .inl (cyI, 6, .inl a_f_lawEach)), (a_lawFrom, .inl (cyI, 6, .inl a_f_lawFrom)), (a_foes, .inl (cyI, 7, .inl a_f_foes)), (a_suitTable, .inl (cyI, 49, .inl a_f_suitTable)), (a_acts, .inl (cyI, 40, .inl a_f_acts)), (c0, .inr (0, [.ref c_row, .ref c_origins, .ref c_before, .ref c_lawsByNight, hvv, .int cnum])), (c_row, .inl (cyI, 7, .inl c_f_row)), (c_origins, .inl (cyI, 7, .inl c_f_origins)), (c_before, .inl (cyI, 7, .inl c_f_before)), (c_lawsByNight, .inl (cyI, 60, .inl c_f_lawsByNight))] H := by rw [hHe]; exact hP
  have hS : va_S A s.heap H [] := by rw [hHe]; exact hS
  refine cv_heap hHe ?_
  obtain ⟨Q9, hQ9⟩ : ∃ Q9 : State → Prop, Q9 = MQ below (va_Qi (fun (r : Int32) (_ : Unit) => 0 ≤ r.toInt ∧ r.toInt ≤ 1) (fun (_ : Unit) (t : State) => ∃ z0 : Int32, ∃ z1 : Int32, ∃ z2 : Int32, ∃ z3 : Int32, ∃ y4 : Nat → Int32, ∃ z5 : Value, ∃ z6 : Int32, ∃ y7 : Nat → Int32, ∃ y8 : Nat → Int32, ∃ y9 : Nat → Int32, ∃ y10 : Nat → Int32, (0 ≤ z0.toInt ∧ z0.toInt ≤ 7) ∧ (0 ≤ z1.toInt ∧ z1.toInt ≤ 127) ∧ (0 ≤ z3.toInt ∧ z3.toInt ≤ 1) ∧ (rg (-1) 6 7 y4) ∧ (rg 0 6 7 y7) ∧ (rg 0 6 7 y8) ∧ (rg 0 6 7 y9) ∧ (z2.toInt = z0.toInt - cb z1 z0.toInt.toNat) ∧ va_P (dC, dI) vwCl [(v0, .inr (5, [.ref v_hung, .int z0, .int z1, .int z2, .int z3])), (v_hung, .inl (cyI, 7, .inl y4)), (sl0, .inr (7, [.ref sNum, .ref sLen, .ref sWid, .ref sMade])), (sMade, .inl (cyZ, 4, .inl s_fm)), (sLen, .inl (cyI, 4, .inl s_fl)), (sWid, .inl (cyI, 4, .inl s_fw)), (sNum, .inl (cyN, 4, .inr (.inr (.inr (.inr nF))))), (n0, .inl (cyJ, 60, .inr (.inl s_n0))), (n1, .inl (cyJ, 60, .inr (.inl s_n1))), (n2, .inl (cyJ, 60, .inr (.inl s_n2))), (n3, .inl (cyJ, 60, .inr (.inl s_n3))), (h0, .inr (2, [.int a_pl, .int a_li, .int a_le, .int a_lc, .int a_ac, .int a_ng, .ref a_first, .ref a_now, .ref a_lawPlace, .ref a_lawOther, .ref a_lawEach, .ref a_lawFrom, .ref a_foes, .ref a_suitTable, .ref a_acts])), (a_first, .inl (cyI, 7, .inl a_f_first)), (a_now, .inl (cyI, 7, .inl a_f_now)), (a_lawPlace, .inl (cyI, 6, .inl a_f_lawPlace)), (a_lawOther, .inl (cyI, 6, .inl a_f_lawOther)), (a_lawEach, .inl (cyI, 6, .inl a_f_lawEach)), (a_lawFrom, .inl (cyI, 6, .inl a_f_lawFrom)), (a_foes, .inl (cyI, 7, .inl a_f_foes)), (a_suitTable, .inl (cyI, 49, .inl a_f_suitTable)), (a_acts, .inl (cyI, 40, .inl a_f_acts)), (c0, .inr (0, [.ref c_row, .ref c_origins, .ref c_before, .ref c_lawsByNight, z5, .int z6])), (c_row, .inl (cyI, 7, .inl y7)), (c_origins, .inl (cyI, 7, .inl y8)), (c_before, .inl (cyI, 7, .inl y9)), (c_lawsByNight, .inl (cyI, 60, .inl y10))] t.heap ∧ va_D A [(v0, .inr (5, [.ref v_hung, .int z0, .int z1, .int z2, .int z3])), (v_hung, .inl (cyI, 7, .inl y4)), (sl0, .inr (7, [.ref sNum, .ref sLen, .ref sWid, .ref sMade])), (sMade, .inl (cyZ, 4, .inl s_fm)), (sLen, .inl (cyI, 4, .inl s_fl)), (sWid, .inl (cyI, 4, .inl s_fw)), (sNum, .inl (cyN, 4, .inr (.inr (.inr (.inr nF))))), (n0, .inl (cyJ, 60, .inr (.inl s_n0))), (n1, .inl (cyJ, 60, .inr (.inl s_n1))), (n2, .inl (cyJ, 60, .inr (.inl s_n2))), (n3, .inl (cyJ, 60, .inr (.inl s_n3))), (h0, .inr (2, [.int a_pl, .int a_li, .int a_le, .int a_lc, .int a_ac, .int a_ng, .ref a_first, .ref a_now, .ref a_lawPlace, .ref a_lawOther, .ref a_lawEach, .ref a_lawFrom, .ref a_foes, .ref a_suitTable, .ref a_acts])), (a_first, .inl (cyI, 7, .inl a_f_first)), (a_now, .inl (cyI, 7, .inl a_f_now)), (a_lawPlace, .inl (cyI, 6, .inl a_f_lawPlace)), (a_lawOther, .inl (cyI, 6, .inl a_f_lawOther)), (a_lawEach, .inl (cyI, 6, .inl a_f_lawEach)), (a_lawFrom, .inl (cyI, 6, .inl a_f_lawFrom)), (a_foes, .inl (cyI, 7, .inl a_f_foes)), (a_suitTable, .inl (cyI, 49, .inl a_f_suitTable)), (a_acts, .inl (cyI, 40, .inl a_f_acts)), (c0, .inr (0, [.ref c_row, .ref c_origins, .ref c_before, .ref c_lawsByNight, z5, .int z6])), (c_row, .inl (cyI, 7, .inl y7)), (c_origins, .inl (cyI, 7, .inl y8)), (c_before, .inl (cyI, 7, .inl y9)), (c_lawsByNight, .inl (cyI, 60, .inl y10))]) A) ([.ref v0, .ref h0, .ref sl0, .int 1, .ref c0] : List Value).toArray s 0 0 A := ⟨_, rfl⟩
  rw [← hQ9]
  refine lv_aload_n hx hb dX6_take_0 rfl (lv_at hl 1 rfl) ?_
  refine lv_aload_n hx hb dX6_take_1 rfl (lv_at hl 2 rfl) ?_
  refine lv_iload_n hx hb dX6_take_2 rfl (lv_at hl 3 rfl) ?_
  have hPc := hP.sub (ws' := [(sl0, .inr (7, [.ref sNum, .ref sLen, .ref sWid, .ref sMade])), (sMade, .inl (cyZ, 4, .inl s_fm)), (sLen, .inl (cyI, 4, .inl s_fl)), (sWid, .inl (cyI, 4, .inl s_fw)), (sNum, .inl (cyN, 4, .inr (.inr (.inr (.inr nF))))), (n0, .inl (cyJ, 60, .inr (.inl s_n0))), (n1, .inl (cyJ, 60, .inr (.inl s_n1))), (n2, .inl (cyJ, 60, .inr (.inl s_n2))), (n3, .inl (cyJ, 60, .inr (.inl s_n3))), (h0, .inr (2, [.int a_pl, .int a_li, .int a_le, .int a_lc, .int a_ac, .int a_ng, .ref a_first, .ref a_now, .ref a_lawPlace, .ref a_lawOther, .ref a_lawEach, .ref a_lawFrom, .ref a_foes, .ref a_suitTable, .ref a_acts])), (a_first, .inl (cyI, 7, .inl a_f_first)), (a_now, .inl (cyI, 7, .inl a_f_now)), (a_lawPlace, .inl (cyI, 6, .inl a_f_lawPlace)), (a_lawOther, .inl (cyI, 6, .inl a_f_lawOther)), (a_lawEach, .inl (cyI, 6, .inl a_f_lawEach)), (a_lawFrom, .inl (cyI, 6, .inl a_f_lawFrom)), (a_foes, .inl (cyI, 7, .inl a_f_foes)), (a_suitTable, .inl (cyI, 49, .inl a_f_suitTable)), (a_acts, .inl (cyI, 40, .inl a_f_acts))]) [2, 3, 4, 5, 6, 7, 8, 9, 10, 11, 12, 13, 14, 15, 16, 17, 18, 19, 20] rfl
  have hKc := hK.sub (tys' := [(cyI, .int), (cyB, .byte), (cyJ, .long), (cyZ, .boolean), (cyH, .object RX2), (cyN, .array .long)]) [0, 1, 2, 3, 4, 5] rfl
  refine vp_callSi (va_Run.run (va_runS (As := [.ref h0, .ref sl0, .int 1]) (rest := []) ⟨hx, hb, hml, hown, hts⟩ (n_areSuch1 l dC dI cyI cyB cyJ cyZ cyH cyN sl0 sNum sLen sWid sMade n0 n1 n2 n3 nF s_fm s_fl s_fw s_n0 s_n1 s_n2 s_n3 h0 a_first a_now a_lawPlace a_lawOther a_lawEach a_lawFrom a_foes a_suitTable a_acts a_pl a_li a_le a_lc a_ac a_ng a_f_first a_f_now a_f_lawPlace a_f_lawOther a_f_lawEach a_f_lawFrom a_f_foes a_f_suitTable a_f_acts g1 g2 g3 g4 g5 g6 g7 g8 (by omega) (by omega) (by omega) g18 g19 g20 g21) (va_cwS 3 hts (gdS wd_4_181 wd_4_182 wd_1_6 wd_4_183) rfl rfl rfl (by decide +kernel) ⟨Nat.le_of_ble_eq_true rfl, Nat.le_of_ble_eq_true rfl⟩) ⟨fun a U g mk q => by obtain ⟨q0, qP, qK⟩ := q; exact ⟨q0, qP, va_K.moved (u := U) (U := U.calling g mk a) (Vm.Alike.refl U.vm) qK⟩, fun U hU hW => ⟨rfl, by rw [hU]; exact hPc, va_K.moved hW.alike hKc⟩⟩ rfl rfl hl.1 rfl (lv_room (Nat.le_of_ble_eq_true rfl)) dX6_take_3 ⟨Nat.le_of_ble_eq_true rfl, Nat.le_of_ble_eq_true rfl⟩)) (fun r_1 hw => ?_)
  rcases cv_01 hw.1 with c_2 | c_2
  · subst c_2
    refine lv_if_ne (tgt := 11) hx hb dX6_take_6 (by decide) (fun c_4 => absurd c_4 (by decide)) (fun _ => ?_)
    refine lv_iconst (v := 0) hx hb dX6_take_9 (by decide) ?_
    rw [hQ9]
    have hP9 := hP.sub (ws' := [(v0, .inr (5, [.ref v_hung, .int v_pl, .int v_kn, .int v_un, .int v_tr])), (v_hung, .inl (cyI, 7, .inl v_f)), (sl0, .inr (7, [.ref sNum, .ref sLen, .ref sWid, .ref sMade])), (sMade, .inl (cyZ, 4, .inl s_fm)), (sLen, .inl (cyI, 4, .inl s_fl)), (sWid, .inl (cyI, 4, .inl s_fw)), (sNum, .inl (cyN, 4, .inr (.inr (.inr (.inr nF))))), (n0, .inl (cyJ, 60, .inr (.inl s_n0))), (n1, .inl (cyJ, 60, .inr (.inl s_n1))), (n2, .inl (cyJ, 60, .inr (.inl s_n2))), (n3, .inl (cyJ, 60, .inr (.inl s_n3))), (h0, .inr (2, [.int a_pl, .int a_li, .int a_le, .int a_lc, .int a_ac, .int a_ng, .ref a_first, .ref a_now, .ref a_lawPlace, .ref a_lawOther, .ref a_lawEach, .ref a_lawFrom, .ref a_foes, .ref a_suitTable, .ref a_acts])), (a_first, .inl (cyI, 7, .inl a_f_first)), (a_now, .inl (cyI, 7, .inl a_f_now)), (a_lawPlace, .inl (cyI, 6, .inl a_f_lawPlace)), (a_lawOther, .inl (cyI, 6, .inl a_f_lawOther)), (a_lawEach, .inl (cyI, 6, .inl a_f_lawEach)), (a_lawFrom, .inl (cyI, 6, .inl a_f_lawFrom)), (a_foes, .inl (cyI, 7, .inl a_f_foes)), (a_suitTable, .inl (cyI, 49, .inl a_f_suitTable)), (a_acts, .inl (cyI, 40, .inl a_f_acts)), (c0, .inr (0, [.ref c_row, .ref c_origins, .ref c_before, .ref c_lawsByNight, hvv, .int cnum])), (c_row, .inl (cyI, 7, .inl c_f_row)), (c_origins, .inl (cyI, 7, .inl c_f_origins)), (c_before, .inl (cyI, 7, .inl c_f_before)), (c_lawsByNight, .inl (cyI, 60, .inl c_f_lawsByNight))]) [0, 1, 2, 3, 4, 5, 6, 7, 8, 9, 10, 11, 12, 13, 14, 15, 16, 17, 18, 19, 20, 21, 22, 23, 24, 25] rfl
    have hD9 := hD.sub (ws' := [(v0, .inr (5, [.ref v_hung, .int v_pl, .int v_kn, .int v_un, .int v_tr])), (v_hung, .inl (cyI, 7, .inl v_f)), (sl0, .inr (7, [.ref sNum, .ref sLen, .ref sWid, .ref sMade])), (sMade, .inl (cyZ, 4, .inl s_fm)), (sLen, .inl (cyI, 4, .inl s_fl)), (sWid, .inl (cyI, 4, .inl s_fw)), (sNum, .inl (cyN, 4, .inr (.inr (.inr (.inr nF))))), (n0, .inl (cyJ, 60, .inr (.inl s_n0))), (n1, .inl (cyJ, 60, .inr (.inl s_n1))), (n2, .inl (cyJ, 60, .inr (.inl s_n2))), (n3, .inl (cyJ, 60, .inr (.inl s_n3))), (h0, .inr (2, [.int a_pl, .int a_li, .int a_le, .int a_lc, .int a_ac, .int a_ng, .ref a_first, .ref a_now, .ref a_lawPlace, .ref a_lawOther, .ref a_lawEach, .ref a_lawFrom, .ref a_foes, .ref a_suitTable, .ref a_acts])), (a_first, .inl (cyI, 7, .inl a_f_first)), (a_now, .inl (cyI, 7, .inl a_f_now)), (a_lawPlace, .inl (cyI, 6, .inl a_f_lawPlace)), (a_lawOther, .inl (cyI, 6, .inl a_f_lawOther)), (a_lawEach, .inl (cyI, 6, .inl a_f_lawEach)), (a_lawFrom, .inl (cyI, 6, .inl a_f_lawFrom)), (a_foes, .inl (cyI, 7, .inl a_f_foes)), (a_suitTable, .inl (cyI, 49, .inl a_f_suitTable)), (a_acts, .inl (cyI, 40, .inl a_f_acts)), (c0, .inr (0, [.ref c_row, .ref c_origins, .ref c_before, .ref c_lawsByNight, hvv, .int cnum])), (c_row, .inl (cyI, 7, .inl c_f_row)), (c_origins, .inl (cyI, 7, .inl c_f_origins)), (c_before, .inl (cyI, 7, .inl c_f_before)), (c_lawsByNight, .inl (cyI, 60, .inl c_f_lawsByNight))]) [0, 1, 2, 3, 4, 5, 6, 7, 8, 9, 10, 11, 12, 13, 14, 15, 16, 17, 18, 19, 20, 21, 22, 23, 24, 25] (by decide) rfl
    exact W.zret (v := 0) (ty := .boolean) hx hb hr rfl (fun t ht hW => ⟨⟨0, (), rfl, (by decide), ⟨v_pl, v_kn, v_un, v_tr, v_f, hvv, cnum, c_f_row, c_f_origins, c_f_before, c_f_lawsByNight, (by omega), (by omega), (by omega), g0, g9, g10, g11, g22, by rw [ht]; exact hP9, hD9⟩⟩, hS.F ht⟩) hS.2.2 dX6_take_10
  · subst c_2; have hq_3 := hw.2 rfl
    refine lv_if_ne (tgt := 11) hx hb dX6_take_6 (by decide) (fun _ => ?_) (fun c_5 => absurd c_5 (by decide))
    refine lv_aload_n hx hb dX6_take_11 rfl (lv_at hl 0 rfl) ?_
    refine lv_aload_n hx hb dX6_take_12 rfl (lv_at hl 1 rfl) ?_
    refine va_get (D := (dC, dI)) (ci := 2) (v := .int a_pl) (C := RX2) (T := TX2) (N := 15) hx hb hts uinX2 hown hK hP 11 rfl rfl 0 (by decide) (hts _ wd_1_82) (fun _ h9 => h9) rfl dX6_take_13 ?_
    refine va_put (D := (dC, dI)) (ci := 5) (v := .int a_pl) (ty := .int) (C := RX6) (T := TX6) (N := 5) hx hb hts uinX6 tyX6 tyX6_ok nmX6 hown hK hP hD hS 0 rfl rfl 1 (by decide) (hts _ wd_1_219) (fun _ h9 => h9) rfl (by decide +kernel) rfl rfl (Nat.le_of_ble_eq_true rfl) dX6_take_16 (fun H locs hP hD hS => ?_)
    have hP : va_P (dC, dI) vwCl [(v0, .inr (5, [.ref v_hung, .int a_pl, .int v_kn, .int v_un, .int v_tr])), (v_hung, .inl (cyI, 7, .inl v_f)), (sl0, .inr (7, [.ref sNum, .ref sLen, .ref sWid, .ref sMade])), (sMade, .inl (cyZ, 4, .inl s_fm)), (sLen, .inl (cyI, 4, .inl s_fl)), (sWid, .inl (cyI, 4, .inl s_fw)), (sNum, .inl (cyN, 4, .inr (.inr (.inr (.inr nF))))), (n0, .inl (cyJ, 60, .inr (.inl s_n0))), (n1, .inl (cyJ, 60, .inr (.inl s_n1))), (n2, .inl (cyJ, 60, .inr (.inl s_n2))), (n3, .inl (cyJ, 60, .inr (.inl s_n3))), (h0, .inr (2, [.int a_pl, .int a_li, .int a_le, .int a_lc, .int a_ac, .int a_ng, .ref a_first, .ref a_now, .ref a_lawPlace, .ref a_lawOther, .ref a_lawEach, .ref a_lawFrom, .ref a_foes, .ref a_suitTable, .ref a_acts])), (a_first, .inl (cyI, 7, .inl a_f_first)), (a_now, .inl (cyI, 7, .inl a_f_now)), (a_lawPlace, .inl (cyI, 6, .inl a_f_lawPlace)), (a_lawOther, .inl (cyI, 6, .inl a_f_lawOther)), (a_lawEach, .inl (cyI, 6, .inl a_f_lawEach)), (a_lawFrom, .inl (cyI, 6, .inl a_f_lawFrom)), (a_foes, .inl (cyI, 7, .inl a_f_foes)), (a_suitTable, .inl (cyI, 49, .inl a_f_suitTable)), (a_acts, .inl (cyI, 40, .inl a_f_acts)), (c0, .inr (0, [.ref c_row, .ref c_origins, .ref c_before, .ref c_lawsByNight, hvv, .int cnum])), (c_row, .inl (cyI, 7, .inl c_f_row)), (c_origins, .inl (cyI, 7, .inl c_f_origins)), (c_before, .inl (cyI, 7, .inl c_f_before)), (c_lawsByNight, .inl (cyI, 60, .inl c_f_lawsByNight))] H := hP
    have hD : va_D A [(v0, .inr (5, [.ref v_hung, .int a_pl, .int v_kn, .int v_un, .int v_tr])), (v_hung, .inl (cyI, 7, .inl v_f)), (sl0, .inr (7, [.ref sNum, .ref sLen, .ref sWid, .ref sMade])), (sMade, .inl (cyZ, 4, .inl s_fm)), (sLen, .inl (cyI, 4, .inl s_fl)), (sWid, .inl (cyI, 4, .inl s_fw)), (sNum, .inl (cyN, 4, .inr (.inr (.inr (.inr nF))))), (n0, .inl (cyJ, 60, .inr (.inl s_n0))), (n1, .inl (cyJ, 60, .inr (.inl s_n1))), (n2, .inl (cyJ, 60, .inr (.inl s_n2))), (n3, .inl (cyJ, 60, .inr (.inl s_n3))), (h0, .inr (2, [.int a_pl, .int a_li, .int a_le, .int a_lc, .int a_ac, .int a_ng, .ref a_first, .ref a_now, .ref a_lawPlace, .ref a_lawOther, .ref a_lawEach, .ref a_lawFrom, .ref a_foes, .ref a_suitTable, .ref a_acts])), (a_first, .inl (cyI, 7, .inl a_f_first)), (a_now, .inl (cyI, 7, .inl a_f_now)), (a_lawPlace, .inl (cyI, 6, .inl a_f_lawPlace)), (a_lawOther, .inl (cyI, 6, .inl a_f_lawOther)), (a_lawEach, .inl (cyI, 6, .inl a_f_lawEach)), (a_lawFrom, .inl (cyI, 6, .inl a_f_lawFrom)), (a_foes, .inl (cyI, 7, .inl a_f_foes)), (a_suitTable, .inl (cyI, 49, .inl a_f_suitTable)), (a_acts, .inl (cyI, 40, .inl a_f_acts)), (c0, .inr (0, [.ref c_row, .ref c_origins, .ref c_before, .ref c_lawsByNight, hvv, .int cnum])), (c_row, .inl (cyI, 7, .inl c_f_row)), (c_origins, .inl (cyI, 7, .inl c_f_origins)), (c_before, .inl (cyI, 7, .inl c_f_before)), (c_lawsByNight, .inl (cyI, 60, .inl c_f_lawsByNight))] := hD
    refine lv_aload_n hx hb dX6_take_19 rfl (lv_at hl 0 rfl) ?_
    refine lv_iconst (v := 0) hx hb dX6_take_20 (by decide) ?_
    refine va_put (D := (dC, dI)) (ci := 5) (v := .int 0) (ty := .int) (C := RX6) (T := TX6) (N := 5) hx hb hts uinX6 tyX6 tyX6_ok nmX6 hown hK hP hD hS 0 rfl rfl 2 (by decide) (hts _ wd_1_220) (fun _ h9 => h9) rfl (by decide +kernel) rfl rfl (Nat.le_of_ble_eq_true rfl) dX6_take_21 (fun H locs hP hD hS => ?_)
    have hP : va_P (dC, dI) vwCl [(v0, .inr (5, [.ref v_hung, .int a_pl, .int 0, .int v_un, .int v_tr])), (v_hung, .inl (cyI, 7, .inl v_f)), (sl0, .inr (7, [.ref sNum, .ref sLen, .ref sWid, .ref sMade])), (sMade, .inl (cyZ, 4, .inl s_fm)), (sLen, .inl (cyI, 4, .inl s_fl)), (sWid, .inl (cyI, 4, .inl s_fw)), (sNum, .inl (cyN, 4, .inr (.inr (.inr (.inr nF))))), (n0, .inl (cyJ, 60, .inr (.inl s_n0))), (n1, .inl (cyJ, 60, .inr (.inl s_n1))), (n2, .inl (cyJ, 60, .inr (.inl s_n2))), (n3, .inl (cyJ, 60, .inr (.inl s_n3))), (h0, .inr (2, [.int a_pl, .int a_li, .int a_le, .int a_lc, .int a_ac, .int a_ng, .ref a_first, .ref a_now, .ref a_lawPlace, .ref a_lawOther, .ref a_lawEach, .ref a_lawFrom, .ref a_foes, .ref a_suitTable, .ref a_acts])), (a_first, .inl (cyI, 7, .inl a_f_first)), (a_now, .inl (cyI, 7, .inl a_f_now)), (a_lawPlace, .inl (cyI, 6, .inl a_f_lawPlace)), (a_lawOther, .inl (cyI, 6, .inl a_f_lawOther)), (a_lawEach, .inl (cyI, 6, .inl a_f_lawEach)), (a_lawFrom, .inl (cyI, 6, .inl a_f_lawFrom)), (a_foes, .inl (cyI, 7, .inl a_f_foes)), (a_suitTable, .inl (cyI, 49, .inl a_f_suitTable)), (a_acts, .inl (cyI, 40, .inl a_f_acts)), (c0, .inr (0, [.ref c_row, .ref c_origins, .ref c_before, .ref c_lawsByNight, hvv, .int cnum])), (c_row, .inl (cyI, 7, .inl c_f_row)), (c_origins, .inl (cyI, 7, .inl c_f_origins)), (c_before, .inl (cyI, 7, .inl c_f_before)), (c_lawsByNight, .inl (cyI, 60, .inl c_f_lawsByNight))] H := hP
    have hD : va_D A [(v0, .inr (5, [.ref v_hung, .int a_pl, .int 0, .int v_un, .int v_tr])), (v_hung, .inl (cyI, 7, .inl v_f)), (sl0, .inr (7, [.ref sNum, .ref sLen, .ref sWid, .ref sMade])), (sMade, .inl (cyZ, 4, .inl s_fm)), (sLen, .inl (cyI, 4, .inl s_fl)), (sWid, .inl (cyI, 4, .inl s_fw)), (sNum, .inl (cyN, 4, .inr (.inr (.inr (.inr nF))))), (n0, .inl (cyJ, 60, .inr (.inl s_n0))), (n1, .inl (cyJ, 60, .inr (.inl s_n1))), (n2, .inl (cyJ, 60, .inr (.inl s_n2))), (n3, .inl (cyJ, 60, .inr (.inl s_n3))), (h0, .inr (2, [.int a_pl, .int a_li, .int a_le, .int a_lc, .int a_ac, .int a_ng, .ref a_first, .ref a_now, .ref a_lawPlace, .ref a_lawOther, .ref a_lawEach, .ref a_lawFrom, .ref a_foes, .ref a_suitTable, .ref a_acts])), (a_first, .inl (cyI, 7, .inl a_f_first)), (a_now, .inl (cyI, 7, .inl a_f_now)), (a_lawPlace, .inl (cyI, 6, .inl a_f_lawPlace)), (a_lawOther, .inl (cyI, 6, .inl a_f_lawOther)), (a_lawEach, .inl (cyI, 6, .inl a_f_lawEach)), (a_lawFrom, .inl (cyI, 6, .inl a_f_lawFrom)), (a_foes, .inl (cyI, 7, .inl a_f_foes)), (a_suitTable, .inl (cyI, 49, .inl a_f_suitTable)), (a_acts, .inl (cyI, 40, .inl a_f_acts)), (c0, .inr (0, [.ref c_row, .ref c_origins, .ref c_before, .ref c_lawsByNight, hvv, .int cnum])), (c_row, .inl (cyI, 7, .inl c_f_row)), (c_origins, .inl (cyI, 7, .inl c_f_origins)), (c_before, .inl (cyI, 7, .inl c_f_before)), (c_lawsByNight, .inl (cyI, 60, .inl c_f_lawsByNight))] := hD
    refine lv_aload_n hx hb dX6_take_24 rfl (lv_at hl 0 rfl) ?_
    refine lv_aload_n hx hb dX6_take_25 rfl (lv_at hl 0 rfl) ?_
    refine va_get (D := (dC, dI)) (ci := 5) (v := .int a_pl) (C := RX6) (T := TX6) (N := 5) hx hb hts uinX6 hown hK hP 0 rfl rfl 1 (by decide) (hts _ wd_1_219) (fun _ h9 => h9) rfl dX6_take_26 ?_
    refine va_put (D := (dC, dI)) (ci := 5) (v := .int a_pl) (ty := .int) (C := RX6) (T := TX6) (N := 5) hx hb hts uinX6 tyX6 tyX6_ok nmX6 hown hK hP hD hS 0 rfl rfl 3 (by decide) (hts _ wd_1_221) (fun _ h9 => h9) rfl (by decide +kernel) rfl rfl (Nat.le_of_ble_eq_true rfl) dX6_take_29 (fun H locs hP hD hS => ?_)
    have hP : va_P (dC, dI) vwCl [(v0, .inr (5, [.ref v_hung, .int a_pl, .int 0, .int a_pl, .int v_tr])), (v_hung, .inl (cyI, 7, .inl v_f)), (sl0, .inr (7, [.ref sNum, .ref sLen, .ref sWid, .ref sMade])), (sMade, .inl (cyZ, 4, .inl s_fm)), (sLen, .inl (cyI, 4, .inl s_fl)), (sWid, .inl (cyI, 4, .inl s_fw)), (sNum, .inl (cyN, 4, .inr (.inr (.inr (.inr nF))))), (n0, .inl (cyJ, 60, .inr (.inl s_n0))), (n1, .inl (cyJ, 60, .inr (.inl s_n1))), (n2, .inl (cyJ, 60, .inr (.inl s_n2))), (n3, .inl (cyJ, 60, .inr (.inl s_n3))), (h0, .inr (2, [.int a_pl, .int a_li, .int a_le, .int a_lc, .int a_ac, .int a_ng, .ref a_first, .ref a_now, .ref a_lawPlace, .ref a_lawOther, .ref a_lawEach, .ref a_lawFrom, .ref a_foes, .ref a_suitTable, .ref a_acts])), (a_first, .inl (cyI, 7, .inl a_f_first)), (a_now, .inl (cyI, 7, .inl a_f_now)), (a_lawPlace, .inl (cyI, 6, .inl a_f_lawPlace)), (a_lawOther, .inl (cyI, 6, .inl a_f_lawOther)), (a_lawEach, .inl (cyI, 6, .inl a_f_lawEach)), (a_lawFrom, .inl (cyI, 6, .inl a_f_lawFrom)), (a_foes, .inl (cyI, 7, .inl a_f_foes)), (a_suitTable, .inl (cyI, 49, .inl a_f_suitTable)), (a_acts, .inl (cyI, 40, .inl a_f_acts)), (c0, .inr (0, [.ref c_row, .ref c_origins, .ref c_before, .ref c_lawsByNight, hvv, .int cnum])), (c_row, .inl (cyI, 7, .inl c_f_row)), (c_origins, .inl (cyI, 7, .inl c_f_origins)), (c_before, .inl (cyI, 7, .inl c_f_before)), (c_lawsByNight, .inl (cyI, 60, .inl c_f_lawsByNight))] H := hP
    have hD : va_D A [(v0, .inr (5, [.ref v_hung, .int a_pl, .int 0, .int a_pl, .int v_tr])), (v_hung, .inl (cyI, 7, .inl v_f)), (sl0, .inr (7, [.ref sNum, .ref sLen, .ref sWid, .ref sMade])), (sMade, .inl (cyZ, 4, .inl s_fm)), (sLen, .inl (cyI, 4, .inl s_fl)), (sWid, .inl (cyI, 4, .inl s_fw)), (sNum, .inl (cyN, 4, .inr (.inr (.inr (.inr nF))))), (n0, .inl (cyJ, 60, .inr (.inl s_n0))), (n1, .inl (cyJ, 60, .inr (.inl s_n1))), (n2, .inl (cyJ, 60, .inr (.inl s_n2))), (n3, .inl (cyJ, 60, .inr (.inl s_n3))), (h0, .inr (2, [.int a_pl, .int a_li, .int a_le, .int a_lc, .int a_ac, .int a_ng, .ref a_first, .ref a_now, .ref a_lawPlace, .ref a_lawOther, .ref a_lawEach, .ref a_lawFrom, .ref a_foes, .ref a_suitTable, .ref a_acts])), (a_first, .inl (cyI, 7, .inl a_f_first)), (a_now, .inl (cyI, 7, .inl a_f_now)), (a_lawPlace, .inl (cyI, 6, .inl a_f_lawPlace)), (a_lawOther, .inl (cyI, 6, .inl a_f_lawOther)), (a_lawEach, .inl (cyI, 6, .inl a_f_lawEach)), (a_lawFrom, .inl (cyI, 6, .inl a_f_lawFrom)), (a_foes, .inl (cyI, 7, .inl a_f_foes)), (a_suitTable, .inl (cyI, 49, .inl a_f_suitTable)), (a_acts, .inl (cyI, 40, .inl a_f_acts)), (c0, .inr (0, [.ref c_row, .ref c_origins, .ref c_before, .ref c_lawsByNight, hvv, .int cnum])), (c_row, .inl (cyI, 7, .inl c_f_row)), (c_origins, .inl (cyI, 7, .inl c_f_origins)), (c_before, .inl (cyI, 7, .inl c_f_before)), (c_lawsByNight, .inl (cyI, 60, .inl c_f_lawsByNight))] := hD
    refine lv_aload_n hx hb dX6_take_32 rfl (lv_at hl 0 rfl) ?_
    refine lv_iconst (v := 1) hx hb dX6_take_33 (by decide) ?_
    refine va_put (D := (dC, dI)) (ci := 5) (v := .int 1) (ty := .boolean) (C := RX6) (T := TX6) (N := 5) hx hb hts uinX6 tyX6 tyX6_ok nmX6 hown hK hP hD hS 0 rfl rfl 4 (by decide) (hts _ wd_1_222) (fun _ h9 => h9) rfl (by decide +kernel) rfl rfl (Nat.le_of_ble_eq_true rfl) dX6_take_34 (fun H locs hP hD hS => ?_)
    have hP : va_P (dC, dI) vwCl [(v0, .inr (5, [.ref v_hung, .int a_pl, .int 0, .int a_pl, .int 1])), (v_hung, .inl (cyI, 7, .inl v_f)), (sl0, .inr (7, [.ref sNum, .ref sLen, .ref sWid, .ref sMade])), (sMade, .inl (cyZ, 4, .inl s_fm)), (sLen, .inl (cyI, 4, .inl s_fl)), (sWid, .inl (cyI, 4, .inl s_fw)), (sNum, .inl (cyN, 4, .inr (.inr (.inr (.inr nF))))), (n0, .inl (cyJ, 60, .inr (.inl s_n0))), (n1, .inl (cyJ, 60, .inr (.inl s_n1))), (n2, .inl (cyJ, 60, .inr (.inl s_n2))), (n3, .inl (cyJ, 60, .inr (.inl s_n3))), (h0, .inr (2, [.int a_pl, .int a_li, .int a_le, .int a_lc, .int a_ac, .int a_ng, .ref a_first, .ref a_now, .ref a_lawPlace, .ref a_lawOther, .ref a_lawEach, .ref a_lawFrom, .ref a_foes, .ref a_suitTable, .ref a_acts])), (a_first, .inl (cyI, 7, .inl a_f_first)), (a_now, .inl (cyI, 7, .inl a_f_now)), (a_lawPlace, .inl (cyI, 6, .inl a_f_lawPlace)), (a_lawOther, .inl (cyI, 6, .inl a_f_lawOther)), (a_lawEach, .inl (cyI, 6, .inl a_f_lawEach)), (a_lawFrom, .inl (cyI, 6, .inl a_f_lawFrom)), (a_foes, .inl (cyI, 7, .inl a_f_foes)), (a_suitTable, .inl (cyI, 49, .inl a_f_suitTable)), (a_acts, .inl (cyI, 40, .inl a_f_acts)), (c0, .inr (0, [.ref c_row, .ref c_origins, .ref c_before, .ref c_lawsByNight, hvv, .int cnum])), (c_row, .inl (cyI, 7, .inl c_f_row)), (c_origins, .inl (cyI, 7, .inl c_f_origins)), (c_before, .inl (cyI, 7, .inl c_f_before)), (c_lawsByNight, .inl (cyI, 60, .inl c_f_lawsByNight))] H := hP
    have hD : va_D A [(v0, .inr (5, [.ref v_hung, .int a_pl, .int 0, .int a_pl, .int 1])), (v_hung, .inl (cyI, 7, .inl v_f)), (sl0, .inr (7, [.ref sNum, .ref sLen, .ref sWid, .ref sMade])), (sMade, .inl (cyZ, 4, .inl s_fm)), (sLen, .inl (cyI, 4, .inl s_fl)), (sWid, .inl (cyI, 4, .inl s_fw)), (sNum, .inl (cyN, 4, .inr (.inr (.inr (.inr nF))))), (n0, .inl (cyJ, 60, .inr (.inl s_n0))), (n1, .inl (cyJ, 60, .inr (.inl s_n1))), (n2, .inl (cyJ, 60, .inr (.inl s_n2))), (n3, .inl (cyJ, 60, .inr (.inl s_n3))), (h0, .inr (2, [.int a_pl, .int a_li, .int a_le, .int a_lc, .int a_ac, .int a_ng, .ref a_first, .ref a_now, .ref a_lawPlace, .ref a_lawOther, .ref a_lawEach, .ref a_lawFrom, .ref a_foes, .ref a_suitTable, .ref a_acts])), (a_first, .inl (cyI, 7, .inl a_f_first)), (a_now, .inl (cyI, 7, .inl a_f_now)), (a_lawPlace, .inl (cyI, 6, .inl a_f_lawPlace)), (a_lawOther, .inl (cyI, 6, .inl a_f_lawOther)), (a_lawEach, .inl (cyI, 6, .inl a_f_lawEach)), (a_lawFrom, .inl (cyI, 6, .inl a_f_lawFrom)), (a_foes, .inl (cyI, 7, .inl a_f_foes)), (a_suitTable, .inl (cyI, 49, .inl a_f_suitTable)), (a_acts, .inl (cyI, 40, .inl a_f_acts)), (c0, .inr (0, [.ref c_row, .ref c_origins, .ref c_before, .ref c_lawsByNight, hvv, .int cnum])), (c_row, .inl (cyI, 7, .inl c_f_row)), (c_origins, .inl (cyI, 7, .inl c_f_origins)), (c_before, .inl (cyI, 7, .inl c_f_before)), (c_lawsByNight, .inl (cyI, 60, .inl c_f_lawsByNight))] := hD
    refine lv_aload_n hx hb dX6_take_37 rfl (lv_at hl 0 rfl) ?_
    refine va_get (D := (dC, dI)) (ci := 5) (v := .ref v_hung) (C := RX6) (T := TX6) (N := 5) hx hb hts uinX6 hown hK hP 0 rfl rfl 0 (by decide) (hts _ wd_1_218) (fun _ h9 => h9) rfl dX6_take_38 ?_
    refine lv_iconst (v := (-1)) hx hb dX6_take_41 (by decide) ?_
    have hPc := hP.sub (ws' := [(v_hung, .inl (cyI, 7, .inl v_f))]) [1] rfl
    have hKc := hK.sub (tys' := [(cyI, .int), (cyB, .byte), (cyJ, .long), (cyZ, .boolean), (cyH, .object RX2), (cyN, .array .long)]) [0, 1, 2, 3, 4, 5] rfl
    have hDc := hD.sub (ws' := [(v_hung, .inl (cyI, 7, .inl v_f))]) [1] (by decide) rfl
    have hFc := va_free (wc := [(v_hung, .inl (cyI, 7, .inl v_f))]) hD hS hA [1] rfl
    refine va_callv (va_runS (As := [.ref v_hung, .int (-1)]) (rest := []) ⟨hx, hb, hml, hown, hts⟩ (n_fillNone l dC dI cyI cyB cyJ cyZ cyH cyN H.size v_hung v_f) (va_cwS 2 hts (gdS wd_4_185 wd_2_140 wd_1_12 wd_2_141) rfl rfl rfl (by decide +kernel) ⟨Nat.le_of_ble_eq_true rfl, Nat.le_of_ble_eq_true rfl⟩) ⟨fun a U g mk q => by obtain ⟨q0, q1, qP, qK, qD⟩ := q; exact ⟨q0, q1, qP, va_K.moved (u := U) (U := U.calling g mk a) (Vm.Alike.refl U.vm) qK, qD⟩, fun U hU hW => ⟨rfl, by rw [hU], by rw [hU]; exact hPc, va_K.moved hW.alike hKc, hDc.weaken (fun _ _ _ _ => trivial)⟩⟩ rfl rfl hl.1 rfl (lv_room (Nat.le_of_ble_eq_true rfl)) dX6_take_42 ⟨Nat.le_of_ble_eq_true rfl, Nat.le_of_ble_eq_true rfl⟩) hS (fun q _ h => hFc q h) hFc (fun  u t H1 locs ht hvm hw hB hz1 hk1 hS => ?_)
    obtain ⟨y0_6, hp_7, hP1, hD1⟩ := hB
    rw [ht] at hP1
    obtain ⟨hP, hD⟩ := va_join (wr := [(v0, .inr (5, [.ref v_hung, .int a_pl, .int 0, .int a_pl, .int 1])), (sl0, .inr (7, [.ref sNum, .ref sLen, .ref sWid, .ref sMade])), (sMade, .inl (cyZ, 4, .inl s_fm)), (sLen, .inl (cyI, 4, .inl s_fl)), (sWid, .inl (cyI, 4, .inl s_fw)), (sNum, .inl (cyN, 4, .inr (.inr (.inr (.inr nF))))), (n0, .inl (cyJ, 60, .inr (.inl s_n0))), (n1, .inl (cyJ, 60, .inr (.inl s_n1))), (n2, .inl (cyJ, 60, .inr (.inl s_n2))), (n3, .inl (cyJ, 60, .inr (.inl s_n3))), (h0, .inr (2, [.int a_pl, .int a_li, .int a_le, .int a_lc, .int a_ac, .int a_ng, .ref a_first, .ref a_now, .ref a_lawPlace, .ref a_lawOther, .ref a_lawEach, .ref a_lawFrom, .ref a_foes, .ref a_suitTable, .ref a_acts])), (a_first, .inl (cyI, 7, .inl a_f_first)), (a_now, .inl (cyI, 7, .inl a_f_now)), (a_lawPlace, .inl (cyI, 6, .inl a_f_lawPlace)), (a_lawOther, .inl (cyI, 6, .inl a_f_lawOther)), (a_lawEach, .inl (cyI, 6, .inl a_f_lawEach)), (a_lawFrom, .inl (cyI, 6, .inl a_f_lawFrom)), (a_foes, .inl (cyI, 7, .inl a_f_foes)), (a_suitTable, .inl (cyI, 49, .inl a_f_suitTable)), (a_acts, .inl (cyI, 40, .inl a_f_acts)), (c0, .inr (0, [.ref c_row, .ref c_origins, .ref c_before, .ref c_lawsByNight, hvv, .int cnum])), (c_row, .inl (cyI, 7, .inl c_f_row)), (c_origins, .inl (cyI, 7, .inl c_f_origins)), (c_before, .inl (cyI, 7, .inl c_f_before)), (c_lawsByNight, .inl (cyI, 60, .inl c_f_lawsByNight))]) (w1 := [(v_hung, .inl (cyI, 7, .inl y0_6))]) hP hD [1] [0, 2, 3, 4, 5, 6, 7, 8, 9, 10, 11, 12, 13, 14, 15, 16, 17, 18, 19, 20, 21, 22, 23, 24, 25] rfl rfl (by decide) (by decide) hk1 hFc hP1 hD1
    generalize H1 = H at hP hS ⊢
    have hP : va_P (dC, dI) vwCl [(v0, .inr (5, [.ref v_hung, .int a_pl, .int 0, .int a_pl, .int 1])), (sl0, .inr (7, [.ref sNum, .ref sLen, .ref sWid, .ref sMade])), (sMade, .inl (cyZ, 4, .inl s_fm)), (sLen, .inl (cyI, 4, .inl s_fl)), (sWid, .inl (cyI, 4, .inl s_fw)), (sNum, .inl (cyN, 4, .inr (.inr (.inr (.inr nF))))), (n0, .inl (cyJ, 60, .inr (.inl s_n0))), (n1, .inl (cyJ, 60, .inr (.inl s_n1))), (n2, .inl (cyJ, 60, .inr (.inl s_n2))), (n3, .inl (cyJ, 60, .inr (.inl s_n3))), (h0, .inr (2, [.int a_pl, .int a_li, .int a_le, .int a_lc, .int a_ac, .int a_ng, .ref a_first, .ref a_now, .ref a_lawPlace, .ref a_lawOther, .ref a_lawEach, .ref a_lawFrom, .ref a_foes, .ref a_suitTable, .ref a_acts])), (a_first, .inl (cyI, 7, .inl a_f_first)), (a_now, .inl (cyI, 7, .inl a_f_now)), (a_lawPlace, .inl (cyI, 6, .inl a_f_lawPlace)), (a_lawOther, .inl (cyI, 6, .inl a_f_lawOther)), (a_lawEach, .inl (cyI, 6, .inl a_f_lawEach)), (a_lawFrom, .inl (cyI, 6, .inl a_f_lawFrom)), (a_foes, .inl (cyI, 7, .inl a_f_foes)), (a_suitTable, .inl (cyI, 49, .inl a_f_suitTable)), (a_acts, .inl (cyI, 40, .inl a_f_acts)), (c0, .inr (0, [.ref c_row, .ref c_origins, .ref c_before, .ref c_lawsByNight, hvv, .int cnum])), (c_row, .inl (cyI, 7, .inl c_f_row)), (c_origins, .inl (cyI, 7, .inl c_f_origins)), (c_before, .inl (cyI, 7, .inl c_f_before)), (c_lawsByNight, .inl (cyI, 60, .inl c_f_lawsByNight)), (v_hung, .inl (cyI, 7, .inl y0_6))] H := hP
    have hD : va_D A [(v0, .inr (5, [.ref v_hung, .int a_pl, .int 0, .int a_pl, .int 1])), (sl0, .inr (7, [.ref sNum, .ref sLen, .ref sWid, .ref sMade])), (sMade, .inl (cyZ, 4, .inl s_fm)), (sLen, .inl (cyI, 4, .inl s_fl)), (sWid, .inl (cyI, 4, .inl s_fw)), (sNum, .inl (cyN, 4, .inr (.inr (.inr (.inr nF))))), (n0, .inl (cyJ, 60, .inr (.inl s_n0))), (n1, .inl (cyJ, 60, .inr (.inl s_n1))), (n2, .inl (cyJ, 60, .inr (.inl s_n2))), (n3, .inl (cyJ, 60, .inr (.inl s_n3))), (h0, .inr (2, [.int a_pl, .int a_li, .int a_le, .int a_lc, .int a_ac, .int a_ng, .ref a_first, .ref a_now, .ref a_lawPlace, .ref a_lawOther, .ref a_lawEach, .ref a_lawFrom, .ref a_foes, .ref a_suitTable, .ref a_acts])), (a_first, .inl (cyI, 7, .inl a_f_first)), (a_now, .inl (cyI, 7, .inl a_f_now)), (a_lawPlace, .inl (cyI, 6, .inl a_f_lawPlace)), (a_lawOther, .inl (cyI, 6, .inl a_f_lawOther)), (a_lawEach, .inl (cyI, 6, .inl a_f_lawEach)), (a_lawFrom, .inl (cyI, 6, .inl a_f_lawFrom)), (a_foes, .inl (cyI, 7, .inl a_f_foes)), (a_suitTable, .inl (cyI, 49, .inl a_f_suitTable)), (a_acts, .inl (cyI, 40, .inl a_f_acts)), (c0, .inr (0, [.ref c_row, .ref c_origins, .ref c_before, .ref c_lawsByNight, hvv, .int cnum])), (c_row, .inl (cyI, 7, .inl c_f_row)), (c_origins, .inl (cyI, 7, .inl c_f_origins)), (c_before, .inl (cyI, 7, .inl c_f_before)), (c_lawsByNight, .inl (cyI, 60, .inl c_f_lawsByNight)), (v_hung, .inl (cyI, 7, .inl y0_6))] := hD
    have hP := hP.sub (ws' := [(v0, .inr (5, [.ref v_hung, .int a_pl, .int 0, .int a_pl, .int 1])), (v_hung, .inl (cyI, 7, .inl y0_6)), (sl0, .inr (7, [.ref sNum, .ref sLen, .ref sWid, .ref sMade])), (sMade, .inl (cyZ, 4, .inl s_fm)), (sLen, .inl (cyI, 4, .inl s_fl)), (sWid, .inl (cyI, 4, .inl s_fw)), (sNum, .inl (cyN, 4, .inr (.inr (.inr (.inr nF))))), (n0, .inl (cyJ, 60, .inr (.inl s_n0))), (n1, .inl (cyJ, 60, .inr (.inl s_n1))), (n2, .inl (cyJ, 60, .inr (.inl s_n2))), (n3, .inl (cyJ, 60, .inr (.inl s_n3))), (h0, .inr (2, [.int a_pl, .int a_li, .int a_le, .int a_lc, .int a_ac, .int a_ng, .ref a_first, .ref a_now, .ref a_lawPlace, .ref a_lawOther, .ref a_lawEach, .ref a_lawFrom, .ref a_foes, .ref a_suitTable, .ref a_acts])), (a_first, .inl (cyI, 7, .inl a_f_first)), (a_now, .inl (cyI, 7, .inl a_f_now)), (a_lawPlace, .inl (cyI, 6, .inl a_f_lawPlace)), (a_lawOther, .inl (cyI, 6, .inl a_f_lawOther)), (a_lawEach, .inl (cyI, 6, .inl a_f_lawEach)), (a_lawFrom, .inl (cyI, 6, .inl a_f_lawFrom)), (a_foes, .inl (cyI, 7, .inl a_f_foes)), (a_suitTable, .inl (cyI, 49, .inl a_f_suitTable)), (a_acts, .inl (cyI, 40, .inl a_f_acts)), (c0, .inr (0, [.ref c_row, .ref c_origins, .ref c_before, .ref c_lawsByNight, hvv, .int cnum])), (c_row, .inl (cyI, 7, .inl c_f_row)), (c_origins, .inl (cyI, 7, .inl c_f_origins)), (c_before, .inl (cyI, 7, .inl c_f_before)), (c_lawsByNight, .inl (cyI, 60, .inl c_f_lawsByNight))]) [0, 25, 1, 2, 3, 4, 5, 6, 7, 8, 9, 10, 11, 12, 13, 14, 15, 16, 17, 18, 19, 20, 21, 22, 23, 24] rfl
    have hD := hD.sub (ws' := [(v0, .inr (5, [.ref v_hung, .int a_pl, .int 0, .int a_pl, .int 1])), (v_hung, .inl (cyI, 7, .inl y0_6)), (sl0, .inr (7, [.ref sNum, .ref sLen, .ref sWid, .ref sMade])), (sMade, .inl (cyZ, 4, .inl s_fm)), (sLen, .inl (cyI, 4, .inl s_fl)), (sWid, .inl (cyI, 4, .inl s_fw)), (sNum, .inl (cyN, 4, .inr (.inr (.inr (.inr nF))))), (n0, .inl (cyJ, 60, .inr (.inl s_n0))), (n1, .inl (cyJ, 60, .inr (.inl s_n1))), (n2, .inl (cyJ, 60, .inr (.inl s_n2))), (n3, .inl (cyJ, 60, .inr (.inl s_n3))), (h0, .inr (2, [.int a_pl, .int a_li, .int a_le, .int a_lc, .int a_ac, .int a_ng, .ref a_first, .ref a_now, .ref a_lawPlace, .ref a_lawOther, .ref a_lawEach, .ref a_lawFrom, .ref a_foes, .ref a_suitTable, .ref a_acts])), (a_first, .inl (cyI, 7, .inl a_f_first)), (a_now, .inl (cyI, 7, .inl a_f_now)), (a_lawPlace, .inl (cyI, 6, .inl a_f_lawPlace)), (a_lawOther, .inl (cyI, 6, .inl a_f_lawOther)), (a_lawEach, .inl (cyI, 6, .inl a_f_lawEach)), (a_lawFrom, .inl (cyI, 6, .inl a_f_lawFrom)), (a_foes, .inl (cyI, 7, .inl a_f_foes)), (a_suitTable, .inl (cyI, 49, .inl a_f_suitTable)), (a_acts, .inl (cyI, 40, .inl a_f_acts)), (c0, .inr (0, [.ref c_row, .ref c_origins, .ref c_before, .ref c_lawsByNight, hvv, .int cnum])), (c_row, .inl (cyI, 7, .inl c_f_row)), (c_origins, .inl (cyI, 7, .inl c_f_origins)), (c_before, .inl (cyI, 7, .inl c_f_before)), (c_lawsByNight, .inl (cyI, 60, .inl c_f_lawsByNight))]) [0, 25, 1, 2, 3, 4, 5, 6, 7, 8, 9, 10, 11, 12, 13, 14, 15, 16, 17, 18, 19, 20, 21, 22, 23, 24] (by decide) rfl
    refine lv_aload_n hx hb dX6_take_45 rfl (lv_at hl 2 rfl) ?_
    refine va_get (D := (dC, dI)) (ci := 7) (v := .ref sNum) (C := RX8) (T := TX8) (N := 4) hx hb hts uinX8 hown hK hP 2 rfl rfl 0 (by decide) (hts _ wd_1_166) (fun _ h9 => h9) rfl dX6_take_46 ?_
    refine lv_iload_n hx hb dX6_take_49 rfl (lv_at hl 3 rfl) ?_
    refine cv_aldA hx hb hK hP 6 5 rfl rfl (vp_in_iff.mpr (by decide)) dX6_take_50 ?_
    refine cv_topr (b := .ref n1) (by rw [show (1 : Int32).toNatClampNeg = 1 from rfl, g19]; rfl) ?_
    refine lv_astore (lv' := [(5, .ref n1), (0, .ref v0), (1, .ref h0), (2, .ref sl0), (3, .int 1), (4, .ref c0)]) hx hb dX6_take_51 hl (by decide) rfl (fun ls hl => ?_)
    refine lv_iconst (v := 0) hx hb dX6_take_53 (by decide) ?_
    refine lv_istore (lv' := [(6, .int 0), (5, .ref n1), (0, .ref v0), (1, .ref h0), (2, .ref sl0), (3, .int 1), (4, .ref c0)]) hx hb dX6_take_54 hl (by decide) rfl (fun ls hl => ?_)
    have key_19 : ∀ (nkey_19 : Nat) (u_8 : Int32) (w_9 : Int32) (w_10 : Int32) (w_11 : Int32) (f_12 : Nat → Int32) (w_13 : Value) (w_14 : Int32) (f_15 : Nat → Int32) (f_16 : Nat → Int32) (f_17 : Nat → Int32) (f_18 : Nat → Int32) (H : Heap) (locs : List Loc) (ls : Array Slot), (0 ≤ u_8.toInt ∧ u_8.toInt ≤ 63) → (0 ≤ w_9.toInt ∧ w_9.toInt ≤ 127) → ((-1) ≤ w_10.toInt ∧ w_10.toInt ≤ 7) → (0 ≤ w_11.toInt ∧ w_11.toInt ≤ 1) → rg (-1) 6 7 f_12 → rg 0 6 7 f_15 → rg 0 6 7 f_16 → rg 0 6 7 f_17 → (u_8.toInt % 3 = 0) → (w_10.toInt = a_pl.toInt - cb w_9 a_pl.toInt.toNat) → va_P (dC, dI) vwCl [(v0, .inr (5, [.ref v_hung, .int a_pl, .int w_9, .int w_10, .int w_11])), (v_hung, .inl (cyI, 7, .inl f_12)), (sl0, .inr (7, [.ref sNum, .ref sLen, .ref sWid, .ref sMade])), (sMade, .inl (cyZ, 4, .inl s_fm)), (sLen, .inl (cyI, 4, .inl s_fl)), (sWid, .inl (cyI, 4, .inl s_fw)), (sNum, .inl (cyN, 4, .inr (.inr (.inr (.inr nF))))), (n0, .inl (cyJ, 60, .inr (.inl s_n0))), (n1, .inl (cyJ, 60, .inr (.inl s_n1))), (n2, .inl (cyJ, 60, .inr (.inl s_n2))), (n3, .inl (cyJ, 60, .inr (.inl s_n3))), (h0, .inr (2, [.int a_pl, .int a_li, .int a_le, .int a_lc, .int a_ac, .int a_ng, .ref a_first, .ref a_now, .ref a_lawPlace, .ref a_lawOther, .ref a_lawEach, .ref a_lawFrom, .ref a_foes, .ref a_suitTable, .ref a_acts])), (a_first, .inl (cyI, 7, .inl a_f_first)), (a_now, .inl (cyI, 7, .inl a_f_now)), (a_lawPlace, .inl (cyI, 6, .inl a_f_lawPlace)), (a_lawOther, .inl (cyI, 6, .inl a_f_lawOther)), (a_lawEach, .inl (cyI, 6, .inl a_f_lawEach)), (a_lawFrom, .inl (cyI, 6, .inl a_f_lawFrom)), (a_foes, .inl (cyI, 7, .inl a_f_foes)), (a_suitTable, .inl (cyI, 49, .inl a_f_suitTable)), (a_acts, .inl (cyI, 40, .inl a_f_acts)), (c0, .inr (0, [.ref c_row, .ref c_origins, .ref c_before, .ref c_lawsByNight, w_13, .int w_14])), (c_row, .inl (cyI, 7, .inl f_15)), (c_origins, .inl (cyI, 7, .inl f_16)), (c_before, .inl (cyI, 7, .inl f_17)), (c_lawsByNight, .inl (cyI, 60, .inl f_18))] H → va_D A [(v0, .inr (5, [.ref v_hung, .int a_pl, .int w_9, .int w_10, .int w_11])), (v_hung, .inl (cyI, 7, .inl f_12)), (sl0, .inr (7, [.ref sNum, .ref sLen, .ref sWid, .ref sMade])), (sMade, .inl (cyZ, 4, .inl s_fm)), (sLen, .inl (cyI, 4, .inl s_fl)), (sWid, .inl (cyI, 4, .inl s_fw)), (sNum, .inl (cyN, 4, .inr (.inr (.inr (.inr nF))))), (n0, .inl (cyJ, 60, .inr (.inl s_n0))), (n1, .inl (cyJ, 60, .inr (.inl s_n1))), (n2, .inl (cyJ, 60, .inr (.inl s_n2))), (n3, .inl (cyJ, 60, .inr (.inl s_n3))), (h0, .inr (2, [.int a_pl, .int a_li, .int a_le, .int a_lc, .int a_ac, .int a_ng, .ref a_first, .ref a_now, .ref a_lawPlace, .ref a_lawOther, .ref a_lawEach, .ref a_lawFrom, .ref a_foes, .ref a_suitTable, .ref a_acts])), (a_first, .inl (cyI, 7, .inl a_f_first)), (a_now, .inl (cyI, 7, .inl a_f_now)), (a_lawPlace, .inl (cyI, 6, .inl a_f_lawPlace)), (a_lawOther, .inl (cyI, 6, .inl a_f_lawOther)), (a_lawEach, .inl (cyI, 6, .inl a_f_lawEach)), (a_lawFrom, .inl (cyI, 6, .inl a_f_lawFrom)), (a_foes, .inl (cyI, 7, .inl a_f_foes)), (a_suitTable, .inl (cyI, 49, .inl a_f_suitTable)), (a_acts, .inl (cyI, 40, .inl a_f_acts)), (c0, .inr (0, [.ref c_row, .ref c_origins, .ref c_before, .ref c_lawsByNight, w_13, .int w_14])), (c_row, .inl (cyI, 7, .inl f_15)), (c_origins, .inl (cyI, 7, .inl f_16)), (c_before, .inl (cyI, 7, .inl f_17)), (c_lawsByNight, .inl (cyI, 60, .inl f_18))] → va_S A s.heap H locs → lv_has ls 7 [(6, .int u_8), (5, .ref n1), (0, .ref v0), (1, .ref h0), (2, .ref sl0), (3, .int 1), (4, .ref c0)] → (60 - u_8.toInt).toNat < nkey_19 → W p l e ({ frames := 5, cells := 0, slots := 0, locals := 150 }) s m ([.ref v0, .ref h0, .ref sl0, .int 1, .ref c0] : List Value).toArray below meth c H locs 0 0 Q9 (F0 m 56 ls []) := by
      intro nkey_19
      induction nkey_19 with
      | zero => intro u_8 w_9 w_10 w_11 f_12 w_13 w_14 f_15 f_16 f_17 f_18 H locs ls hu_8 hw_9 hw_10 hw_11 hf_12 hf_15 hf_16 hf_17 hm9 hun8 hP hD hS hl hnkey_19; exact absurd hnkey_19 (Nat.not_lt_zero _)
      | succ nkey_19 ihkey_19 =>
        intro u_8 w_9 w_10 w_11 f_12 w_13 w_14 f_15 f_16 f_17 f_18 H locs ls hu_8 hw_9 hw_10 hw_11 hf_12 hf_15 hf_16 hf_17 hm9 hun8 hP hD hS hl hnkey_19
        refine lv_iload hx hb dX6_take_56 (lv_at hl 0 rfl) ?_
        refine lv_aload_n hx hb dX6_take_58 rfl (lv_at hl 4 rfl) ?_
        refine va_get (D := (dC, dI)) (ci := 7) (v := .ref sLen) (C := RX8) (T := TX8) (N := 4) hx hb hts uinX8 hown hK hP 2 rfl rfl 1 (by decide) (hts _ wd_1_169) (fun _ h9 => h9) rfl dX6_take_59 ?_
        refine lv_iload_n hx hb dX6_take_62 rfl (lv_at hl 5 rfl) ?_
        refine va_iald hx hb hK hP 4 0 rfl rfl (vp_in_iff.mpr (by decide)) dX6_take_63 ?_
        refine lv_topi (fun x_20 ex_20 => ?_)
        have qx_20 : x_20.toInt = (s_fl 1).toInt := by rw [ex_20]; rfl
        have fx_20 : 0 ≤ x_20.toInt ∧ x_20.toInt ≤ 60 := by rw [ex_20]; exact g2 _ (cv_ix (by decide) (by decide))
        refine lv_icmp_ge (tgt := 116) hx hb dX6_take_64 (by decide) (fun c_21 => ?_) (fun c_21 => ?_)
        · have c_21 : x_20.toInt ≤ u_8.toInt := cv_le c_21
          refine lv_iconst (v := 1) hx hb dX6_take_116 (by decide) ?_
          rw [hQ9]
          have hP9 := hP.sub (ws' := [(v0, .inr (5, [.ref v_hung, .int a_pl, .int w_9, .int w_10, .int w_11])), (v_hung, .inl (cyI, 7, .inl f_12)), (sl0, .inr (7, [.ref sNum, .ref sLen, .ref sWid, .ref sMade])), (sMade, .inl (cyZ, 4, .inl s_fm)), (sLen, .inl (cyI, 4, .inl s_fl)), (sWid, .inl (cyI, 4, .inl s_fw)), (sNum, .inl (cyN, 4, .inr (.inr (.inr (.inr nF))))), (n0, .inl (cyJ, 60, .inr (.inl s_n0))), (n1, .inl (cyJ, 60, .inr (.inl s_n1))), (n2, .inl (cyJ, 60, .inr (.inl s_n2))), (n3, .inl (cyJ, 60, .inr (.inl s_n3))), (h0, .inr (2, [.int a_pl, .int a_li, .int a_le, .int a_lc, .int a_ac, .int a_ng, .ref a_first, .ref a_now, .ref a_lawPlace, .ref a_lawOther, .ref a_lawEach, .ref a_lawFrom, .ref a_foes, .ref a_suitTable, .ref a_acts])), (a_first, .inl (cyI, 7, .inl a_f_first)), (a_now, .inl (cyI, 7, .inl a_f_now)), (a_lawPlace, .inl (cyI, 6, .inl a_f_lawPlace)), (a_lawOther, .inl (cyI, 6, .inl a_f_lawOther)), (a_lawEach, .inl (cyI, 6, .inl a_f_lawEach)), (a_lawFrom, .inl (cyI, 6, .inl a_f_lawFrom)), (a_foes, .inl (cyI, 7, .inl a_f_foes)), (a_suitTable, .inl (cyI, 49, .inl a_f_suitTable)), (a_acts, .inl (cyI, 40, .inl a_f_acts)), (c0, .inr (0, [.ref c_row, .ref c_origins, .ref c_before, .ref c_lawsByNight, w_13, .int w_14])), (c_row, .inl (cyI, 7, .inl f_15)), (c_origins, .inl (cyI, 7, .inl f_16)), (c_before, .inl (cyI, 7, .inl f_17)), (c_lawsByNight, .inl (cyI, 60, .inl f_18))]) [0, 1, 2, 3, 4, 5, 6, 7, 8, 9, 10, 11, 12, 13, 14, 15, 16, 17, 18, 19, 20, 21, 22, 23, 24, 25] rfl
          have hD9 := hD.sub (ws' := [(v0, .inr (5, [.ref v_hung, .int a_pl, .int w_9, .int w_10, .int w_11])), (v_hung, .inl (cyI, 7, .inl f_12)), (sl0, .inr (7, [.ref sNum, .ref sLen, .ref sWid, .ref sMade])), (sMade, .inl (cyZ, 4, .inl s_fm)), (sLen, .inl (cyI, 4, .inl s_fl)), (sWid, .inl (cyI, 4, .inl s_fw)), (sNum, .inl (cyN, 4, .inr (.inr (.inr (.inr nF))))), (n0, .inl (cyJ, 60, .inr (.inl s_n0))), (n1, .inl (cyJ, 60, .inr (.inl s_n1))), (n2, .inl (cyJ, 60, .inr (.inl s_n2))), (n3, .inl (cyJ, 60, .inr (.inl s_n3))), (h0, .inr (2, [.int a_pl, .int a_li, .int a_le, .int a_lc, .int a_ac, .int a_ng, .ref a_first, .ref a_now, .ref a_lawPlace, .ref a_lawOther, .ref a_lawEach, .ref a_lawFrom, .ref a_foes, .ref a_suitTable, .ref a_acts])), (a_first, .inl (cyI, 7, .inl a_f_first)), (a_now, .inl (cyI, 7, .inl a_f_now)), (a_lawPlace, .inl (cyI, 6, .inl a_f_lawPlace)), (a_lawOther, .inl (cyI, 6, .inl a_f_lawOther)), (a_lawEach, .inl (cyI, 6, .inl a_f_lawEach)), (a_lawFrom, .inl (cyI, 6, .inl a_f_lawFrom)), (a_foes, .inl (cyI, 7, .inl a_f_foes)), (a_suitTable, .inl (cyI, 49, .inl a_f_suitTable)), (a_acts, .inl (cyI, 40, .inl a_f_acts)), (c0, .inr (0, [.ref c_row, .ref c_origins, .ref c_before, .ref c_lawsByNight, w_13, .int w_14])), (c_row, .inl (cyI, 7, .inl f_15)), (c_origins, .inl (cyI, 7, .inl f_16)), (c_before, .inl (cyI, 7, .inl f_17)), (c_lawsByNight, .inl (cyI, 60, .inl f_18))]) [0, 1, 2, 3, 4, 5, 6, 7, 8, 9, 10, 11, 12, 13, 14, 15, 16, 17, 18, 19, 20, 21, 22, 23, 24, 25] (by decide) rfl
          exact W.zret (v := 1) (ty := .boolean) hx hb hr rfl (fun t ht hW => ⟨⟨1, (), rfl, (by decide), ⟨a_pl, w_9, w_10, w_11, f_12, w_13, w_14, f_15, f_16, f_17, f_18, (by omega), (by omega), (by omega), hf_12, hf_15, hf_16, hf_17, hun8, by rw [ht]; exact hP9, hD9⟩⟩, hS.F ht⟩) hS.2.2 dX6_take_117
        · have c_21 : u_8.toInt < x_20.toInt := cv_nle c_21
          refine lv_aload hx hb dX6_take_67 (lv_at hl 6 rfl) ?_
          refine lv_aload_n hx hb dX6_take_69 rfl (lv_at hl 3 rfl) ?_
          have hPc := hP.sub (ws' := [(c0, .inr (0, [.ref c_row, .ref c_origins, .ref c_before, .ref c_lawsByNight, w_13, .int w_14])), (c_row, .inl (cyI, 7, .inl f_15)), (c_origins, .inl (cyI, 7, .inl f_16)), (c_before, .inl (cyI, 7, .inl f_17)), (c_lawsByNight, .inl (cyI, 60, .inl f_18)), (h0, .inr (2, [.int a_pl, .int a_li, .int a_le, .int a_lc, .int a_ac, .int a_ng, .ref a_first, .ref a_now, .ref a_lawPlace, .ref a_lawOther, .ref a_lawEach, .ref a_lawFrom, .ref a_foes, .ref a_suitTable, .ref a_acts])), (a_first, .inl (cyI, 7, .inl a_f_first)), (a_now, .inl (cyI, 7, .inl a_f_now)), (a_lawPlace, .inl (cyI, 6, .inl a_f_lawPlace)), (a_lawOther, .inl (cyI, 6, .inl a_f_lawOther)), (a_lawEach, .inl (cyI, 6, .inl a_f_lawEach)), (a_lawFrom, .inl (cyI, 6, .inl a_f_lawFrom)), (a_foes, .inl (cyI, 7, .inl a_f_foes)), (a_suitTable, .inl (cyI, 49, .inl a_f_suitTable)), (a_acts, .inl (cyI, 40, .inl a_f_acts))]) [21, 22, 23, 24, 25, 11, 12, 13, 14, 15, 16, 17, 18, 19, 20] rfl
          have hKc := hK.sub (tys' := [(cyI, .int), (cyB, .byte), (cyJ, .long), (cyZ, .boolean), (cyH, .object RX2), (cyN, .array .long)]) [0, 1, 2, 3, 4, 5] rfl
          have hDc := hD.sub (ws' := [(c0, .inr (0, [.ref c_row, .ref c_origins, .ref c_before, .ref c_lawsByNight, w_13, .int w_14])), (c_row, .inl (cyI, 7, .inl f_15)), (c_origins, .inl (cyI, 7, .inl f_16)), (c_before, .inl (cyI, 7, .inl f_17)), (c_lawsByNight, .inl (cyI, 60, .inl f_18)), (h0, .inr (2, [.int a_pl, .int a_li, .int a_le, .int a_lc, .int a_ac, .int a_ng, .ref a_first, .ref a_now, .ref a_lawPlace, .ref a_lawOther, .ref a_lawEach, .ref a_lawFrom, .ref a_foes, .ref a_suitTable, .ref a_acts])), (a_first, .inl (cyI, 7, .inl a_f_first)), (a_now, .inl (cyI, 7, .inl a_f_now)), (a_lawPlace, .inl (cyI, 6, .inl a_f_lawPlace)), (a_lawOther, .inl (cyI, 6, .inl a_f_lawOther)), (a_lawEach, .inl (cyI, 6, .inl a_f_lawEach)), (a_lawFrom, .inl (cyI, 6, .inl a_f_lawFrom)), (a_foes, .inl (cyI, 7, .inl a_f_foes)), (a_suitTable, .inl (cyI, 49, .inl a_f_suitTable)), (a_acts, .inl (cyI, 40, .inl a_f_acts))]) [21, 22, 23, 24, 25, 11, 12, 13, 14, 15, 16, 17, 18, 19, 20] (by decide) rfl
          have hFc := va_free (wc := [(c0, .inr (0, [.ref c_row, .ref c_origins, .ref c_before, .ref c_lawsByNight, w_13, .int w_14])), (c_row, .inl (cyI, 7, .inl f_15)), (c_origins, .inl (cyI, 7, .inl f_16)), (c_before, .inl (cyI, 7, .inl f_17)), (c_lawsByNight, .inl (cyI, 60, .inl f_18)), (h0, .inr (2, [.int a_pl, .int a_li, .int a_le, .int a_lc, .int a_ac, .int a_ng, .ref a_first, .ref a_now, .ref a_lawPlace, .ref a_lawOther, .ref a_lawEach, .ref a_lawFrom, .ref a_foes, .ref a_suitTable, .ref a_acts])), (a_first, .inl (cyI, 7, .inl a_f_first)), (a_now, .inl (cyI, 7, .inl a_f_now)), (a_lawPlace, .inl (cyI, 6, .inl a_f_lawPlace)), (a_lawOther, .inl (cyI, 6, .inl a_f_lawOther)), (a_lawEach, .inl (cyI, 6, .inl a_f_lawEach)), (a_lawFrom, .inl (cyI, 6, .inl a_f_lawFrom)), (a_foes, .inl (cyI, 7, .inl a_f_foes)), (a_suitTable, .inl (cyI, 49, .inl a_f_suitTable)), (a_acts, .inl (cyI, 40, .inl a_f_acts))]) hD hS hA [21, 22, 23, 24, 25, 11, 12, 13, 14, 15, 16, 17, 18, 19, 20] rfl
          refine va_callv (va_runV (As := [.ref h0]) (rest := []) ⟨hx, hb, hml, hown, hts⟩ (n_beginAtFirst l dC dI cyI cyB cyJ cyZ cyH cyN tR tF aK aV H.size c0 c_row c_origins c_before c_lawsByNight w_14 f_15 f_16 f_17 f_18 w_13 h0 a_first a_now a_lawPlace a_lawOther a_lawEach a_lawFrom a_foes a_suitTable a_acts a_pl a_li a_le a_lc a_ac a_ng a_f_first a_f_now a_f_lawPlace a_f_lawOther a_f_lawEach a_f_lawFrom a_f_foes a_f_suitTable a_f_acts hf_15 hf_16 hf_17 g4 g5 g6 g7 g8 (by omega) (by omega) (by omega)) (cwV 1 hts (gdV wd_4_186 wd_4_187 wd_4_188 wd_1_5 wd_4_189) rfl rfl rfl (by decide +kernel) ⟨Nat.le_of_ble_eq_true rfl, Nat.le_of_ble_eq_true rfl⟩) ⟨fun a U g mk q => by obtain ⟨q0, q1, qP, qK, qD, qF⟩ := q; exact ⟨q0, q1, qP, va_K.moved (u := U) (U := U.calling g mk a) (Vm.Alike.refl U.vm) qK, qD, cv_FX.same qF rfl rfl⟩, va_recv hKc hPc (ci := 0) (q0 := 0) rfl rfl, fun U hU hW => ⟨rfl, by rw [hU], by rw [hU]; exact hPc, va_K.moved hW.alike hKc, hDc.weaken (fun _ _ _ _ => trivial), cv_FX.go hFX hW hS hFc hU⟩⟩ rfl rfl hl.1 rfl (lv_room (Nat.le_of_ble_eq_true rfl)) dX6_take_70 ⟨Nat.le_of_ble_eq_true rfl, Nat.le_of_ble_eq_true rfl⟩) hS (fun q _ h => hFc q h) hFc (fun  u t H1 locs ht hvm hw hB hz1 hk1 hS => ?_)
          obtain ⟨z0_22, y1_23, y2_24, hp_25, hp_26, hP1, hD1⟩ := hB
          rw [ht] at hP1
          obtain ⟨hP, hD⟩ := va_join (wr := [(v0, .inr (5, [.ref v_hung, .int a_pl, .int w_9, .int w_10, .int w_11])), (v_hung, .inl (cyI, 7, .inl f_12)), (sl0, .inr (7, [.ref sNum, .ref sLen, .ref sWid, .ref sMade])), (sMade, .inl (cyZ, 4, .inl s_fm)), (sLen, .inl (cyI, 4, .inl s_fl)), (sWid, .inl (cyI, 4, .inl s_fw)), (sNum, .inl (cyN, 4, .inr (.inr (.inr (.inr nF))))), (n0, .inl (cyJ, 60, .inr (.inl s_n0))), (n1, .inl (cyJ, 60, .inr (.inl s_n1))), (n2, .inl (cyJ, 60, .inr (.inl s_n2))), (n3, .inl (cyJ, 60, .inr (.inl s_n3)))]) (w1 := [(c0, .inr (0, [.ref c_row, .ref c_origins, .ref c_before, .ref c_lawsByNight, .ref h0, .int z0_22])), (c_row, .inl (cyI, 7, .inl y1_23)), (c_origins, .inl (cyI, 7, .inl f_16)), (c_before, .inl (cyI, 7, .inl f_17)), (c_lawsByNight, .inl (cyI, 60, .inl y2_24)), (h0, .inr (2, [.int a_pl, .int a_li, .int a_le, .int a_lc, .int a_ac, .int a_ng, .ref a_first, .ref a_now, .ref a_lawPlace, .ref a_lawOther, .ref a_lawEach, .ref a_lawFrom, .ref a_foes, .ref a_suitTable, .ref a_acts])), (a_first, .inl (cyI, 7, .inl a_f_first)), (a_now, .inl (cyI, 7, .inl a_f_now)), (a_lawPlace, .inl (cyI, 6, .inl a_f_lawPlace)), (a_lawOther, .inl (cyI, 6, .inl a_f_lawOther)), (a_lawEach, .inl (cyI, 6, .inl a_f_lawEach)), (a_lawFrom, .inl (cyI, 6, .inl a_f_lawFrom)), (a_foes, .inl (cyI, 7, .inl a_f_foes)), (a_suitTable, .inl (cyI, 49, .inl a_f_suitTable)), (a_acts, .inl (cyI, 40, .inl a_f_acts))]) hP hD [21, 22, 23, 24, 25, 11, 12, 13, 14, 15, 16, 17, 18, 19, 20] [0, 1, 2, 3, 4, 5, 6, 7, 8, 9, 10] rfl rfl (by decide) (by decide) hk1 hFc hP1 hD1
          generalize H1 = H at hP hS ⊢
          have hP : va_P (dC, dI) vwCl [(v0, .inr (5, [.ref v_hung, .int a_pl, .int w_9, .int w_10, .int w_11])), (v_hung, .inl (cyI, 7, .inl f_12)), (sl0, .inr (7, [.ref sNum, .ref sLen, .ref sWid, .ref sMade])), (sMade, .inl (cyZ, 4, .inl s_fm)), (sLen, .inl (cyI, 4, .inl s_fl)), (sWid, .inl (cyI, 4, .inl s_fw)), (sNum, .inl (cyN, 4, .inr (.inr (.inr (.inr nF))))), (n0, .inl (cyJ, 60, .inr (.inl s_n0))), (n1, .inl (cyJ, 60, .inr (.inl s_n1))), (n2, .inl (cyJ, 60, .inr (.inl s_n2))), (n3, .inl (cyJ, 60, .inr (.inl s_n3))), (c0, .inr (0, [.ref c_row, .ref c_origins, .ref c_before, .ref c_lawsByNight, .ref h0, .int z0_22])), (c_row, .inl (cyI, 7, .inl y1_23)), (c_origins, .inl (cyI, 7, .inl f_16)), (c_before, .inl (cyI, 7, .inl f_17)), (c_lawsByNight, .inl (cyI, 60, .inl y2_24)), (h0, .inr (2, [.int a_pl, .int a_li, .int a_le, .int a_lc, .int a_ac, .int a_ng, .ref a_first, .ref a_now, .ref a_lawPlace, .ref a_lawOther, .ref a_lawEach, .ref a_lawFrom, .ref a_foes, .ref a_suitTable, .ref a_acts])), (a_first, .inl (cyI, 7, .inl a_f_first)), (a_now, .inl (cyI, 7, .inl a_f_now)), (a_lawPlace, .inl (cyI, 6, .inl a_f_lawPlace)), (a_lawOther, .inl (cyI, 6, .inl a_f_lawOther)), (a_lawEach, .inl (cyI, 6, .inl a_f_lawEach)), (a_lawFrom, .inl (cyI, 6, .inl a_f_lawFrom)), (a_foes, .inl (cyI, 7, .inl a_f_foes)), (a_suitTable, .inl (cyI, 49, .inl a_f_suitTable)), (a_acts, .inl (cyI, 40, .inl a_f_acts))] H := hP
          have hD : va_D A [(v0, .inr (5, [.ref v_hung, .int a_pl, .int w_9, .int w_10, .int w_11])), (v_hung, .inl (cyI, 7, .inl f_12)), (sl0, .inr (7, [.ref sNum, .ref sLen, .ref sWid, .ref sMade])), (sMade, .inl (cyZ, 4, .inl s_fm)), (sLen, .inl (cyI, 4, .inl s_fl)), (sWid, .inl (cyI, 4, .inl s_fw)), (sNum, .inl (cyN, 4, .inr (.inr (.inr (.inr nF))))), (n0, .inl (cyJ, 60, .inr (.inl s_n0))), (n1, .inl (cyJ, 60, .inr (.inl s_n1))), (n2, .inl (cyJ, 60, .inr (.inl s_n2))), (n3, .inl (cyJ, 60, .inr (.inl s_n3))), (c0, .inr (0, [.ref c_row, .ref c_origins, .ref c_before, .ref c_lawsByNight, .ref h0, .int z0_22])), (c_row, .inl (cyI, 7, .inl y1_23)), (c_origins, .inl (cyI, 7, .inl f_16)), (c_before, .inl (cyI, 7, .inl f_17)), (c_lawsByNight, .inl (cyI, 60, .inl y2_24)), (h0, .inr (2, [.int a_pl, .int a_li, .int a_le, .int a_lc, .int a_ac, .int a_ng, .ref a_first, .ref a_now, .ref a_lawPlace, .ref a_lawOther, .ref a_lawEach, .ref a_lawFrom, .ref a_foes, .ref a_suitTable, .ref a_acts])), (a_first, .inl (cyI, 7, .inl a_f_first)), (a_now, .inl (cyI, 7, .inl a_f_now)), (a_lawPlace, .inl (cyI, 6, .inl a_f_lawPlace)), (a_lawOther, .inl (cyI, 6, .inl a_f_lawOther)), (a_lawEach, .inl (cyI, 6, .inl a_f_lawEach)), (a_lawFrom, .inl (cyI, 6, .inl a_f_lawFrom)), (a_foes, .inl (cyI, 7, .inl a_f_foes)), (a_suitTable, .inl (cyI, 49, .inl a_f_suitTable)), (a_acts, .inl (cyI, 40, .inl a_f_acts))] := hD
          have hP := hP.sub (ws' := [(v0, .inr (5, [.ref v_hung, .int a_pl, .int w_9, .int w_10, .int w_11])), (v_hung, .inl (cyI, 7, .inl f_12)), (sl0, .inr (7, [.ref sNum, .ref sLen, .ref sWid, .ref sMade])), (sMade, .inl (cyZ, 4, .inl s_fm)), (sLen, .inl (cyI, 4, .inl s_fl)), (sWid, .inl (cyI, 4, .inl s_fw)), (sNum, .inl (cyN, 4, .inr (.inr (.inr (.inr nF))))), (n0, .inl (cyJ, 60, .inr (.inl s_n0))), (n1, .inl (cyJ, 60, .inr (.inl s_n1))), (n2, .inl (cyJ, 60, .inr (.inl s_n2))), (n3, .inl (cyJ, 60, .inr (.inl s_n3))), (h0, .inr (2, [.int a_pl, .int a_li, .int a_le, .int a_lc, .int a_ac, .int a_ng, .ref a_first, .ref a_now, .ref a_lawPlace, .ref a_lawOther, .ref a_lawEach, .ref a_lawFrom, .ref a_foes, .ref a_suitTable, .ref a_acts])), (a_first, .inl (cyI, 7, .inl a_f_first)), (a_now, .inl (cyI, 7, .inl a_f_now)), (a_lawPlace, .inl (cyI, 6, .inl a_f_lawPlace)), (a_lawOther, .inl (cyI, 6, .inl a_f_lawOther)), (a_lawEach, .inl (cyI, 6, .inl a_f_lawEach)), (a_lawFrom, .inl (cyI, 6, .inl a_f_lawFrom)), (a_foes, .inl (cyI, 7, .inl a_f_foes)), (a_suitTable, .inl (cyI, 49, .inl a_f_suitTable)), (a_acts, .inl (cyI, 40, .inl a_f_acts)), (c0, .inr (0, [.ref c_row, .ref c_origins, .ref c_before, .ref c_lawsByNight, .ref h0, .int z0_22])), (c_row, .inl (cyI, 7, .inl y1_23)), (c_origins, .inl (cyI, 7, .inl f_16)), (c_before, .inl (cyI, 7, .inl f_17)), (c_lawsByNight, .inl (cyI, 60, .inl y2_24))]) [0, 1, 2, 3, 4, 5, 6, 7, 8, 9, 10, 16, 17, 18, 19, 20, 21, 22, 23, 24, 25, 11, 12, 13, 14, 15] rfl
          have hD := hD.sub (ws' := [(v0, .inr (5, [.ref v_hung, .int a_pl, .int w_9, .int w_10, .int w_11])), (v_hung, .inl (cyI, 7, .inl f_12)), (sl0, .inr (7, [.ref sNum, .ref sLen, .ref sWid, .ref sMade])), (sMade, .inl (cyZ, 4, .inl s_fm)), (sLen, .inl (cyI, 4, .inl s_fl)), (sWid, .inl (cyI, 4, .inl s_fw)), (sNum, .inl (cyN, 4, .inr (.inr (.inr (.inr nF))))), (n0, .inl (cyJ, 60, .inr (.inl s_n0))), (n1, .inl (cyJ, 60, .inr (.inl s_n1))), (n2, .inl (cyJ, 60, .inr (.inl s_n2))), (n3, .inl (cyJ, 60, .inr (.inl s_n3))), (h0, .inr (2, [.int a_pl, .int a_li, .int a_le, .int a_lc, .int a_ac, .int a_ng, .ref a_first, .ref a_now, .ref a_lawPlace, .ref a_lawOther, .ref a_lawEach, .ref a_lawFrom, .ref a_foes, .ref a_suitTable, .ref a_acts])), (a_first, .inl (cyI, 7, .inl a_f_first)), (a_now, .inl (cyI, 7, .inl a_f_now)), (a_lawPlace, .inl (cyI, 6, .inl a_f_lawPlace)), (a_lawOther, .inl (cyI, 6, .inl a_f_lawOther)), (a_lawEach, .inl (cyI, 6, .inl a_f_lawEach)), (a_lawFrom, .inl (cyI, 6, .inl a_f_lawFrom)), (a_foes, .inl (cyI, 7, .inl a_f_foes)), (a_suitTable, .inl (cyI, 49, .inl a_f_suitTable)), (a_acts, .inl (cyI, 40, .inl a_f_acts)), (c0, .inr (0, [.ref c_row, .ref c_origins, .ref c_before, .ref c_lawsByNight, .ref h0, .int z0_22])), (c_row, .inl (cyI, 7, .inl y1_23)), (c_origins, .inl (cyI, 7, .inl f_16)), (c_before, .inl (cyI, 7, .inl f_17)), (c_lawsByNight, .inl (cyI, 60, .inl y2_24))]) [0, 1, 2, 3, 4, 5, 6, 7, 8, 9, 10, 16, 17, 18, 19, 20, 21, 22, 23, 24, 25, 11, 12, 13, 14, 15] (by decide) rfl
          refine lv_aload hx hb dX6_take_73 (lv_at hl 6 rfl) ?_
          refine lv_aload hx hb dX6_take_75 (lv_at hl 1 rfl) ?_
          refine lv_iload hx hb dX6_take_77 (lv_at hl 0 rfl) ?_
          refine lv_iconst (v := 1) hx hb dX6_take_79 (by decide) ?_
          refine lv_iadd hx hb dX6_take_80 ?_
          refine lv_topi (fun x_27 ex_27 => ?_)
          have fx_27 : x_27.toInt = u_8.toInt + 1 := by rw [ex_27]; exact cv_addI (by have : (1 : Int32).toInt = 1 := rfl; omega) (by have : (1 : Int32).toInt = 1 := rfl; omega)
          refine va_lald hx hb hK hP 8 2 rfl rfl (vp_in_iff.mpr (by omega)) dX6_take_81 ?_
          refine lv_topl (fun x_28 ex_28 => ?_)
          have qx_28 := sn_get (i := u_8) hq_3 (by omega) hm9 (by omega)
          have ax_28 : x_27.toNatClampNeg = u_8.toNatClampNeg + 1 := sn_at (by omega) (by omega)
          have fx_28 : 0 ≤ x_28.toInt ∧ x_28.toInt ≤ 999 := by rw [ex_28, ax_28]; omega
          refine lv_l2i hx hb dX6_take_82 rfl ?_
          refine lv_topi (fun x_29 ex_29 => ?_)
          have fx_29 : x_29.toInt = x_28.toInt := by rw [ex_29]; exact cv_l2i (by omega) (by omega)
          have hPc := hP.sub (ws' := [(c0, .inr (0, [.ref c_row, .ref c_origins, .ref c_before, .ref c_lawsByNight, .ref h0, .int z0_22])), (c_row, .inl (cyI, 7, .inl y1_23)), (c_origins, .inl (cyI, 7, .inl f_16)), (c_before, .inl (cyI, 7, .inl f_17)), (c_lawsByNight, .inl (cyI, 60, .inl y2_24)), (h0, .inr (2, [.int a_pl, .int a_li, .int a_le, .int a_lc, .int a_ac, .int a_ng, .ref a_first, .ref a_now, .ref a_lawPlace, .ref a_lawOther, .ref a_lawEach, .ref a_lawFrom, .ref a_foes, .ref a_suitTable, .ref a_acts])), (a_first, .inl (cyI, 7, .inl a_f_first)), (a_now, .inl (cyI, 7, .inl a_f_now)), (a_lawPlace, .inl (cyI, 6, .inl a_f_lawPlace)), (a_lawOther, .inl (cyI, 6, .inl a_f_lawOther)), (a_lawEach, .inl (cyI, 6, .inl a_f_lawEach)), (a_lawFrom, .inl (cyI, 6, .inl a_f_lawFrom)), (a_foes, .inl (cyI, 7, .inl a_f_foes)), (a_suitTable, .inl (cyI, 49, .inl a_f_suitTable)), (a_acts, .inl (cyI, 40, .inl a_f_acts))]) [21, 22, 23, 24, 25, 11, 12, 13, 14, 15, 16, 17, 18, 19, 20] rfl
          have hKc := hK.sub (tys' := [(cyI, .int), (cyB, .byte), (cyJ, .long), (cyZ, .boolean), (cyH, .object RX2), (cyN, .array .long)]) [0, 1, 2, 3, 4, 5] rfl
          have hDc := hD.sub (ws' := [(c0, .inr (0, [.ref c_row, .ref c_origins, .ref c_before, .ref c_lawsByNight, .ref h0, .int z0_22])), (c_row, .inl (cyI, 7, .inl y1_23)), (c_origins, .inl (cyI, 7, .inl f_16)), (c_before, .inl (cyI, 7, .inl f_17)), (c_lawsByNight, .inl (cyI, 60, .inl y2_24)), (h0, .inr (2, [.int a_pl, .int a_li, .int a_le, .int a_lc, .int a_ac, .int a_ng, .ref a_first, .ref a_now, .ref a_lawPlace, .ref a_lawOther, .ref a_lawEach, .ref a_lawFrom, .ref a_foes, .ref a_suitTable, .ref a_acts])), (a_first, .inl (cyI, 7, .inl a_f_first)), (a_now, .inl (cyI, 7, .inl a_f_now)), (a_lawPlace, .inl (cyI, 6, .inl a_f_lawPlace)), (a_lawOther, .inl (cyI, 6, .inl a_f_lawOther)), (a_lawEach, .inl (cyI, 6, .inl a_f_lawEach)), (a_lawFrom, .inl (cyI, 6, .inl a_f_lawFrom)), (a_foes, .inl (cyI, 7, .inl a_f_foes)), (a_suitTable, .inl (cyI, 49, .inl a_f_suitTable)), (a_acts, .inl (cyI, 40, .inl a_f_acts))]) [21, 22, 23, 24, 25, 11, 12, 13, 14, 15, 16, 17, 18, 19, 20] (by decide) rfl
          have hFc := va_free (wc := [(c0, .inr (0, [.ref c_row, .ref c_origins, .ref c_before, .ref c_lawsByNight, .ref h0, .int z0_22])), (c_row, .inl (cyI, 7, .inl y1_23)), (c_origins, .inl (cyI, 7, .inl f_16)), (c_before, .inl (cyI, 7, .inl f_17)), (c_lawsByNight, .inl (cyI, 60, .inl y2_24)), (h0, .inr (2, [.int a_pl, .int a_li, .int a_le, .int a_lc, .int a_ac, .int a_ng, .ref a_first, .ref a_now, .ref a_lawPlace, .ref a_lawOther, .ref a_lawEach, .ref a_lawFrom, .ref a_foes, .ref a_suitTable, .ref a_acts])), (a_first, .inl (cyI, 7, .inl a_f_first)), (a_now, .inl (cyI, 7, .inl a_f_now)), (a_lawPlace, .inl (cyI, 6, .inl a_f_lawPlace)), (a_lawOther, .inl (cyI, 6, .inl a_f_lawOther)), (a_lawEach, .inl (cyI, 6, .inl a_f_lawEach)), (a_lawFrom, .inl (cyI, 6, .inl a_f_lawFrom)), (a_foes, .inl (cyI, 7, .inl a_f_foes)), (a_suitTable, .inl (cyI, 49, .inl a_f_suitTable)), (a_acts, .inl (cyI, 40, .inl a_f_acts))]) hD hS hA [21, 22, 23, 24, 25, 11, 12, 13, 14, 15, 16, 17, 18, 19, 20] rfl
          refine va_callv (va_runV (As := [.int x_29]) (rest := []) ⟨hx, hb, hml, hown, hts⟩ (n_goOn l dC dI cyI cyB cyJ cyZ cyH cyN tR tF aK aV H.size c0 c_row c_origins c_before c_lawsByNight z0_22 y1_23 f_16 f_17 y2_24 h0 a_first a_now a_lawPlace a_lawOther a_lawEach a_lawFrom a_foes a_suitTable a_acts a_pl a_li a_le a_lc a_ac a_ng a_f_first a_f_now a_f_lawPlace a_f_lawOther a_f_lawEach a_f_lawFrom a_f_foes a_f_suitTable a_f_acts x_29 hp_26 hf_16 hf_17 g4 g5 g6 g7 g8 (by omega) (by omega) (by omega) (by omega) (by omega)) (cwV 1 hts (gdV wd_4_190 wd_3_105 wd_3_106 wd_1_5 wd_3_107) rfl rfl rfl (by decide +kernel) ⟨Nat.le_of_ble_eq_true rfl, Nat.le_of_ble_eq_true rfl⟩) ⟨fun a U g mk q => by obtain ⟨q0, q1, qP, qK, qD, qF⟩ := q; exact ⟨q0, q1, qP, va_K.moved (u := U) (U := U.calling g mk a) (Vm.Alike.refl U.vm) qK, qD, cv_FX.same qF rfl rfl⟩, va_recv hKc hPc (ci := 0) (q0 := 0) rfl rfl, fun U hU hW => ⟨rfl, by rw [hU], by rw [hU]; exact hPc, va_K.moved hW.alike hKc, hDc.weaken (fun _ _ _ _ => trivial), cv_FX.go hFX hW hS hFc hU⟩⟩ rfl rfl hl.1 rfl (lv_room (Nat.le_of_ble_eq_true rfl)) dX6_take_83 ⟨Nat.le_of_ble_eq_true rfl, Nat.le_of_ble_eq_true rfl⟩) hS (fun q _ h => hFc q h) hFc (fun  u t H1 locs ht hvm hw hB hz1 hk1 hS => ?_)
          obtain ⟨z0_30, y1_31, y2_32, y3_33, hp_34, hp_35, hp_36, hp_37, hP1, hD1⟩ := hB
          rw [ht] at hP1
          obtain ⟨hP, hD⟩ := va_join (wr := [(v0, .inr (5, [.ref v_hung, .int a_pl, .int w_9, .int w_10, .int w_11])), (v_hung, .inl (cyI, 7, .inl f_12)), (sl0, .inr (7, [.ref sNum, .ref sLen, .ref sWid, .ref sMade])), (sMade, .inl (cyZ, 4, .inl s_fm)), (sLen, .inl (cyI, 4, .inl s_fl)), (sWid, .inl (cyI, 4, .inl s_fw)), (sNum, .inl (cyN, 4, .inr (.inr (.inr (.inr nF))))), (n0, .inl (cyJ, 60, .inr (.inl s_n0))), (n1, .inl (cyJ, 60, .inr (.inl s_n1))), (n2, .inl (cyJ, 60, .inr (.inl s_n2))), (n3, .inl (cyJ, 60, .inr (.inl s_n3)))]) (w1 := [(c0, .inr (0, [.ref c_row, .ref c_origins, .ref c_before, .ref c_lawsByNight, .ref h0, .int z0_30])), (c_row, .inl (cyI, 7, .inl y1_31)), (c_origins, .inl (cyI, 7, .inl y2_32)), (c_before, .inl (cyI, 7, .inl y3_33)), (c_lawsByNight, .inl (cyI, 60, .inl y2_24)), (h0, .inr (2, [.int a_pl, .int a_li, .int a_le, .int a_lc, .int a_ac, .int a_ng, .ref a_first, .ref a_now, .ref a_lawPlace, .ref a_lawOther, .ref a_lawEach, .ref a_lawFrom, .ref a_foes, .ref a_suitTable, .ref a_acts])), (a_first, .inl (cyI, 7, .inl a_f_first)), (a_now, .inl (cyI, 7, .inl a_f_now)), (a_lawPlace, .inl (cyI, 6, .inl a_f_lawPlace)), (a_lawOther, .inl (cyI, 6, .inl a_f_lawOther)), (a_lawEach, .inl (cyI, 6, .inl a_f_lawEach)), (a_lawFrom, .inl (cyI, 6, .inl a_f_lawFrom)), (a_foes, .inl (cyI, 7, .inl a_f_foes)), (a_suitTable, .inl (cyI, 49, .inl a_f_suitTable)), (a_acts, .inl (cyI, 40, .inl a_f_acts))]) hP hD [21, 22, 23, 24, 25, 11, 12, 13, 14, 15, 16, 17, 18, 19, 20] [0, 1, 2, 3, 4, 5, 6, 7, 8, 9, 10] rfl rfl (by decide) (by decide) hk1 hFc hP1 hD1
          generalize H1 = H at hP hS ⊢
          have hP : va_P (dC, dI) vwCl [(v0, .inr (5, [.ref v_hung, .int a_pl, .int w_9, .int w_10, .int w_11])), (v_hung, .inl (cyI, 7, .inl f_12)), (sl0, .inr (7, [.ref sNum, .ref sLen, .ref sWid, .ref sMade])), (sMade, .inl (cyZ, 4, .inl s_fm)), (sLen, .inl (cyI, 4, .inl s_fl)), (sWid, .inl (cyI, 4, .inl s_fw)), (sNum, .inl (cyN, 4, .inr (.inr (.inr (.inr nF))))), (n0, .inl (cyJ, 60, .inr (.inl s_n0))), (n1, .inl (cyJ, 60, .inr (.inl s_n1))), (n2, .inl (cyJ, 60, .inr (.inl s_n2))), (n3, .inl (cyJ, 60, .inr (.inl s_n3))), (c0, .inr (0, [.ref c_row, .ref c_origins, .ref c_before, .ref c_lawsByNight, .ref h0, .int z0_30])), (c_row, .inl (cyI, 7, .inl y1_31)), (c_origins, .inl (cyI, 7, .inl y2_32)), (c_before, .inl (cyI, 7, .inl y3_33)), (c_lawsByNight, .inl (cyI, 60, .inl y2_24)), (h0, .inr (2, [.int a_pl, .int a_li, .int a_le, .int a_lc, .int a_ac, .int a_ng, .ref a_first, .ref a_now, .ref a_lawPlace, .ref a_lawOther, .ref a_lawEach, .ref a_lawFrom, .ref a_foes, .ref a_suitTable, .ref a_acts])), (a_first, .inl (cyI, 7, .inl a_f_first)), (a_now, .inl (cyI, 7, .inl a_f_now)), (a_lawPlace, .inl (cyI, 6, .inl a_f_lawPlace)), (a_lawOther, .inl (cyI, 6, .inl a_f_lawOther)), (a_lawEach, .inl (cyI, 6, .inl a_f_lawEach)), (a_lawFrom, .inl (cyI, 6, .inl a_f_lawFrom)), (a_foes, .inl (cyI, 7, .inl a_f_foes)), (a_suitTable, .inl (cyI, 49, .inl a_f_suitTable)), (a_acts, .inl (cyI, 40, .inl a_f_acts))] H := hP
          have hD : va_D A [(v0, .inr (5, [.ref v_hung, .int a_pl, .int w_9, .int w_10, .int w_11])), (v_hung, .inl (cyI, 7, .inl f_12)), (sl0, .inr (7, [.ref sNum, .ref sLen, .ref sWid, .ref sMade])), (sMade, .inl (cyZ, 4, .inl s_fm)), (sLen, .inl (cyI, 4, .inl s_fl)), (sWid, .inl (cyI, 4, .inl s_fw)), (sNum, .inl (cyN, 4, .inr (.inr (.inr (.inr nF))))), (n0, .inl (cyJ, 60, .inr (.inl s_n0))), (n1, .inl (cyJ, 60, .inr (.inl s_n1))), (n2, .inl (cyJ, 60, .inr (.inl s_n2))), (n3, .inl (cyJ, 60, .inr (.inl s_n3))), (c0, .inr (0, [.ref c_row, .ref c_origins, .ref c_before, .ref c_lawsByNight, .ref h0, .int z0_30])), (c_row, .inl (cyI, 7, .inl y1_31)), (c_origins, .inl (cyI, 7, .inl y2_32)), (c_before, .inl (cyI, 7, .inl y3_33)), (c_lawsByNight, .inl (cyI, 60, .inl y2_24)), (h0, .inr (2, [.int a_pl, .int a_li, .int a_le, .int a_lc, .int a_ac, .int a_ng, .ref a_first, .ref a_now, .ref a_lawPlace, .ref a_lawOther, .ref a_lawEach, .ref a_lawFrom, .ref a_foes, .ref a_suitTable, .ref a_acts])), (a_first, .inl (cyI, 7, .inl a_f_first)), (a_now, .inl (cyI, 7, .inl a_f_now)), (a_lawPlace, .inl (cyI, 6, .inl a_f_lawPlace)), (a_lawOther, .inl (cyI, 6, .inl a_f_lawOther)), (a_lawEach, .inl (cyI, 6, .inl a_f_lawEach)), (a_lawFrom, .inl (cyI, 6, .inl a_f_lawFrom)), (a_foes, .inl (cyI, 7, .inl a_f_foes)), (a_suitTable, .inl (cyI, 49, .inl a_f_suitTable)), (a_acts, .inl (cyI, 40, .inl a_f_acts))] := hD
          have hP := hP.sub (ws' := [(v0, .inr (5, [.ref v_hung, .int a_pl, .int w_9, .int w_10, .int w_11])), (v_hung, .inl (cyI, 7, .inl f_12)), (sl0, .inr (7, [.ref sNum, .ref sLen, .ref sWid, .ref sMade])), (sMade, .inl (cyZ, 4, .inl s_fm)), (sLen, .inl (cyI, 4, .inl s_fl)), (sWid, .inl (cyI, 4, .inl s_fw)), (sNum, .inl (cyN, 4, .inr (.inr (.inr (.inr nF))))), (n0, .inl (cyJ, 60, .inr (.inl s_n0))), (n1, .inl (cyJ, 60, .inr (.inl s_n1))), (n2, .inl (cyJ, 60, .inr (.inl s_n2))), (n3, .inl (cyJ, 60, .inr (.inl s_n3))), (h0, .inr (2, [.int a_pl, .int a_li, .int a_le, .int a_lc, .int a_ac, .int a_ng, .ref a_first, .ref a_now, .ref a_lawPlace, .ref a_lawOther, .ref a_lawEach, .ref a_lawFrom, .ref a_foes, .ref a_suitTable, .ref a_acts])), (a_first, .inl (cyI, 7, .inl a_f_first)), (a_now, .inl (cyI, 7, .inl a_f_now)), (a_lawPlace, .inl (cyI, 6, .inl a_f_lawPlace)), (a_lawOther, .inl (cyI, 6, .inl a_f_lawOther)), (a_lawEach, .inl (cyI, 6, .inl a_f_lawEach)), (a_lawFrom, .inl (cyI, 6, .inl a_f_lawFrom)), (a_foes, .inl (cyI, 7, .inl a_f_foes)), (a_suitTable, .inl (cyI, 49, .inl a_f_suitTable)), (a_acts, .inl (cyI, 40, .inl a_f_acts)), (c0, .inr (0, [.ref c_row, .ref c_origins, .ref c_before, .ref c_lawsByNight, .ref h0, .int z0_30])), (c_row, .inl (cyI, 7, .inl y1_31)), (c_origins, .inl (cyI, 7, .inl y2_32)), (c_before, .inl (cyI, 7, .inl y3_33)), (c_lawsByNight, .inl (cyI, 60, .inl y2_24))]) [0, 1, 2, 3, 4, 5, 6, 7, 8, 9, 10, 16, 17, 18, 19, 20, 21, 22, 23, 24, 25, 11, 12, 13, 14, 15] rfl
          have hD := hD.sub (ws' := [(v0, .inr (5, [.ref v_hung, .int a_pl, .int w_9, .int w_10, .int w_11])), (v_hung, .inl (cyI, 7, .inl f_12)), (sl0, .inr (7, [.ref sNum, .ref sLen, .ref sWid, .ref sMade])), (sMade, .inl (cyZ, 4, .inl s_fm)), (sLen, .inl (cyI, 4, .inl s_fl)), (sWid, .inl (cyI, 4, .inl s_fw)), (sNum, .inl (cyN, 4, .inr (.inr (.inr (.inr nF))))), (n0, .inl (cyJ, 60, .inr (.inl s_n0))), (n1, .inl (cyJ, 60, .inr (.inl s_n1))), (n2, .inl (cyJ, 60, .inr (.inl s_n2))), (n3, .inl (cyJ, 60, .inr (.inl s_n3))), (h0, .inr (2, [.int a_pl, .int a_li, .int a_le, .int a_lc, .int a_ac, .int a_ng, .ref a_first, .ref a_now, .ref a_lawPlace, .ref a_lawOther, .ref a_lawEach, .ref a_lawFrom, .ref a_foes, .ref a_suitTable, .ref a_acts])), (a_first, .inl (cyI, 7, .inl a_f_first)), (a_now, .inl (cyI, 7, .inl a_f_now)), (a_lawPlace, .inl (cyI, 6, .inl a_f_lawPlace)), (a_lawOther, .inl (cyI, 6, .inl a_f_lawOther)), (a_lawEach, .inl (cyI, 6, .inl a_f_lawEach)), (a_lawFrom, .inl (cyI, 6, .inl a_f_lawFrom)), (a_foes, .inl (cyI, 7, .inl a_f_foes)), (a_suitTable, .inl (cyI, 49, .inl a_f_suitTable)), (a_acts, .inl (cyI, 40, .inl a_f_acts)), (c0, .inr (0, [.ref c_row, .ref c_origins, .ref c_before, .ref c_lawsByNight, .ref h0, .int z0_30])), (c_row, .inl (cyI, 7, .inl y1_31)), (c_origins, .inl (cyI, 7, .inl y2_32)), (c_before, .inl (cyI, 7, .inl y3_33)), (c_lawsByNight, .inl (cyI, 60, .inl y2_24))]) [0, 1, 2, 3, 4, 5, 6, 7, 8, 9, 10, 16, 17, 18, 19, 20, 21, 22, 23, 24, 25, 11, 12, 13, 14, 15] (by decide) rfl
          refine lv_aload_n hx hb dX6_take_86 rfl (lv_at hl 2 rfl) ?_
          refine lv_aload hx hb dX6_take_87 (lv_at hl 6 rfl) ?_
          refine va_get (D := (dC, dI)) (ci := 0) (v := .ref c_row) (C := RX0) (T := TX0) (N := 6) hx hb hts uinX0 hown hK hP 21 rfl rfl 0 (by decide) (hts _ wd_1_192) (fun _ h9 => h9) rfl dX6_take_89 ?_
          refine lv_aload hx hb dX6_take_92 (lv_at hl 1 rfl) ?_
          refine lv_iload hx hb dX6_take_94 (lv_at hl 0 rfl) ?_
          refine va_lald hx hb hK hP 8 2 rfl rfl (vp_in_iff.mpr (by omega)) dX6_take_96 ?_
          refine lv_topl (fun x_38 ex_38 => ?_)
          have qx_38 := sn_get (i := u_8) hq_3 (by omega) hm9 (by omega)
          have fx_38 : 0 ≤ x_38.toInt ∧ x_38.toInt ≤ 6 := by rw [ex_38]; omega
          refine lv_l2i hx hb dX6_take_97 rfl ?_
          refine lv_topi (fun x_39 ex_39 => ?_)
          have fx_39 : x_39.toInt = x_38.toInt := by rw [ex_39]; exact cv_l2i (by omega) (by omega)
          refine va_iald hx hb hK hP 22 0 rfl rfl (vp_in_iff.mpr (by omega)) dX6_take_98 ?_
          refine lv_topi (fun x_40 ex_40 => ?_)
          have fx_40 : 0 ≤ x_40.toInt ∧ x_40.toInt ≤ 6 := by rw [ex_40]; exact hp_35 _ (cv_ix (by omega) (by omega))
          refine lv_aload hx hb dX6_take_99 (lv_at hl 1 rfl) ?_
          refine lv_iload hx hb dX6_take_101 (lv_at hl 0 rfl) ?_
          refine lv_iconst (v := 2) hx hb dX6_take_103 (by decide) ?_
          refine lv_iadd hx hb dX6_take_104 ?_
          refine lv_topi (fun x_41 ex_41 => ?_)
          have fx_41 : x_41.toInt = u_8.toInt + 2 := by rw [ex_41]; exact cv_addI (by have : (2 : Int32).toInt = 2 := rfl; omega) (by have : (2 : Int32).toInt = 2 := rfl; omega)
          refine va_lald hx hb hK hP 8 2 rfl rfl (vp_in_iff.mpr (by omega)) dX6_take_105 ?_
          refine lv_topl (fun x_42 ex_42 => ?_)
          have qx_42 := sn_get (i := u_8) hq_3 (by omega) hm9 (by omega)
          have ax_42 : x_41.toNatClampNeg = u_8.toNatClampNeg + 2 := sn_at (by omega) (by omega)
          have fx_42 : 0 ≤ x_42.toInt ∧ x_42.toInt ≤ 6 := by rw [ex_42, ax_42]; omega
          have gx_42 : x_42.toInt < a_pl.toInt := by rw [ex_42, ax_42]; omega
          refine lv_l2i hx hb dX6_take_106 rfl ?_
          refine lv_topi (fun x_43 ex_43 => ?_)
          have fx_43 : x_43.toInt = x_42.toInt := by rw [ex_43]; exact cv_l2i (by omega) (by omega)
          have hPc := hP.sub (ws' := [(v0, .inr (5, [.ref v_hung, .int a_pl, .int w_9, .int w_10, .int w_11])), (v_hung, .inl (cyI, 7, .inl f_12))]) [0, 1] rfl
          have hKc := hK.sub (tys' := [(cyI, .int), (cyB, .byte), (cyJ, .long), (cyZ, .boolean), (cyH, .object RX2), (cyN, .array .long)]) [0, 1, 2, 3, 4, 5] rfl
          have hDc := hD.sub (ws' := [(v0, .inr (5, [.ref v_hung, .int a_pl, .int w_9, .int w_10, .int w_11])), (v_hung, .inl (cyI, 7, .inl f_12))]) [0, 1] (by decide) rfl
          have hFc := va_free (wc := [(v0, .inr (5, [.ref v_hung, .int a_pl, .int w_9, .int w_10, .int w_11])), (v_hung, .inl (cyI, 7, .inl f_12))]) hD hS hA [0, 1] rfl
          refine va_callv (va_runV (As := [.int x_40, .int x_43]) (rest := []) ⟨hx, hb, hml, hown, hts⟩ (n_learn l dC dI cyI cyB cyJ cyZ cyH cyN H.size v0 v_hung a_pl w_9 w_10 w_11 f_12 x_40 x_43 hf_12 (by omega) (by omega) (by omega) (by omega) (by omega) hun8 (by omega)) (cwV 2 hts (gdV wd_4_191 wd_4_193 wd_s2_13 wd_1_6 wd_4_194) rfl rfl rfl (by decide +kernel) ⟨Nat.le_of_ble_eq_true rfl, Nat.le_of_ble_eq_true rfl⟩) ⟨fun a U g mk q => by obtain ⟨q0, q1, qP, qK, qD⟩ := q; exact ⟨q0, q1, qP, va_K.moved (u := U) (U := U.calling g mk a) (Vm.Alike.refl U.vm) qK, qD⟩, va_recv hKc hPc (ci := 5) (q0 := 0) rfl rfl, fun U hU hW => ⟨rfl, by rw [hU], by rw [hU]; exact hPc, va_K.moved hW.alike hKc, hDc.weaken (fun _ _ _ _ => trivial)⟩⟩ rfl rfl hl.1 rfl (lv_room (Nat.le_of_ble_eq_true rfl)) dX6_take_107 ⟨Nat.le_of_ble_eq_true rfl, Nat.le_of_ble_eq_true rfl⟩) hS (fun q _ h => hFc q h) hFc (fun  u t H1 locs ht hvm hw hB hz1 hk1 hS => ?_)
          obtain ⟨z0_44, z1_45, z2_46, y3_47, hp_48, hp_49, hp_50, hp_51, hp_52, hP1, hD1⟩ := hB
          rw [ht] at hP1
          obtain ⟨hP, hD⟩ := va_join (wr := [(sl0, .inr (7, [.ref sNum, .ref sLen, .ref sWid, .ref sMade])), (sMade, .inl (cyZ, 4, .inl s_fm)), (sLen, .inl (cyI, 4, .inl s_fl)), (sWid, .inl (cyI, 4, .inl s_fw)), (sNum, .inl (cyN, 4, .inr (.inr (.inr (.inr nF))))), (n0, .inl (cyJ, 60, .inr (.inl s_n0))), (n1, .inl (cyJ, 60, .inr (.inl s_n1))), (n2, .inl (cyJ, 60, .inr (.inl s_n2))), (n3, .inl (cyJ, 60, .inr (.inl s_n3))), (h0, .inr (2, [.int a_pl, .int a_li, .int a_le, .int a_lc, .int a_ac, .int a_ng, .ref a_first, .ref a_now, .ref a_lawPlace, .ref a_lawOther, .ref a_lawEach, .ref a_lawFrom, .ref a_foes, .ref a_suitTable, .ref a_acts])), (a_first, .inl (cyI, 7, .inl a_f_first)), (a_now, .inl (cyI, 7, .inl a_f_now)), (a_lawPlace, .inl (cyI, 6, .inl a_f_lawPlace)), (a_lawOther, .inl (cyI, 6, .inl a_f_lawOther)), (a_lawEach, .inl (cyI, 6, .inl a_f_lawEach)), (a_lawFrom, .inl (cyI, 6, .inl a_f_lawFrom)), (a_foes, .inl (cyI, 7, .inl a_f_foes)), (a_suitTable, .inl (cyI, 49, .inl a_f_suitTable)), (a_acts, .inl (cyI, 40, .inl a_f_acts)), (c0, .inr (0, [.ref c_row, .ref c_origins, .ref c_before, .ref c_lawsByNight, .ref h0, .int z0_30])), (c_row, .inl (cyI, 7, .inl y1_31)), (c_origins, .inl (cyI, 7, .inl y2_32)), (c_before, .inl (cyI, 7, .inl y3_33)), (c_lawsByNight, .inl (cyI, 60, .inl y2_24))]) (w1 := [(v0, .inr (5, [.ref v_hung, .int a_pl, .int z0_44, .int z1_45, .int z2_46])), (v_hung, .inl (cyI, 7, .inl y3_47))]) hP hD [0, 1] [2, 3, 4, 5, 6, 7, 8, 9, 10, 11, 12, 13, 14, 15, 16, 17, 18, 19, 20, 21, 22, 23, 24, 25] rfl rfl (by decide) (by decide) hk1 hFc hP1 hD1
          generalize H1 = H at hP hS ⊢
          have hP : va_P (dC, dI) vwCl [(sl0, .inr (7, [.ref sNum, .ref sLen, .ref sWid, .ref sMade])), (sMade, .inl (cyZ, 4, .inl s_fm)), (sLen, .inl (cyI, 4, .inl s_fl)), (sWid, .inl (cyI, 4, .inl s_fw)), (sNum, .inl (cyN, 4, .inr (.inr (.inr (.inr nF))))), (n0, .inl (cyJ, 60, .inr (.inl s_n0))), (n1, .inl (cyJ, 60, .inr (.inl s_n1))), (n2, .inl (cyJ, 60, .inr (.inl s_n2))), (n3, .inl (cyJ, 60, .inr (.inl s_n3))), (h0, .inr (2, [.int a_pl, .int a_li, .int a_le, .int a_lc, .int a_ac, .int a_ng, .ref a_first, .ref a_now, .ref a_lawPlace, .ref a_lawOther, .ref a_lawEach, .ref a_lawFrom, .ref a_foes, .ref a_suitTable, .ref a_acts])), (a_first, .inl (cyI, 7, .inl a_f_first)), (a_now, .inl (cyI, 7, .inl a_f_now)), (a_lawPlace, .inl (cyI, 6, .inl a_f_lawPlace)), (a_lawOther, .inl (cyI, 6, .inl a_f_lawOther)), (a_lawEach, .inl (cyI, 6, .inl a_f_lawEach)), (a_lawFrom, .inl (cyI, 6, .inl a_f_lawFrom)), (a_foes, .inl (cyI, 7, .inl a_f_foes)), (a_suitTable, .inl (cyI, 49, .inl a_f_suitTable)), (a_acts, .inl (cyI, 40, .inl a_f_acts)), (c0, .inr (0, [.ref c_row, .ref c_origins, .ref c_before, .ref c_lawsByNight, .ref h0, .int z0_30])), (c_row, .inl (cyI, 7, .inl y1_31)), (c_origins, .inl (cyI, 7, .inl y2_32)), (c_before, .inl (cyI, 7, .inl y3_33)), (c_lawsByNight, .inl (cyI, 60, .inl y2_24)), (v0, .inr (5, [.ref v_hung, .int a_pl, .int z0_44, .int z1_45, .int z2_46])), (v_hung, .inl (cyI, 7, .inl y3_47))] H := hP
          have hD : va_D A [(sl0, .inr (7, [.ref sNum, .ref sLen, .ref sWid, .ref sMade])), (sMade, .inl (cyZ, 4, .inl s_fm)), (sLen, .inl (cyI, 4, .inl s_fl)), (sWid, .inl (cyI, 4, .inl s_fw)), (sNum, .inl (cyN, 4, .inr (.inr (.inr (.inr nF))))), (n0, .inl (cyJ, 60, .inr (.inl s_n0))), (n1, .inl (cyJ, 60, .inr (.inl s_n1))), (n2, .inl (cyJ, 60, .inr (.inl s_n2))), (n3, .inl (cyJ, 60, .inr (.inl s_n3))), (h0, .inr (2, [.int a_pl, .int a_li, .int a_le, .int a_lc, .int a_ac, .int a_ng, .ref a_first, .ref a_now, .ref a_lawPlace, .ref a_lawOther, .ref a_lawEach, .ref a_lawFrom, .ref a_foes, .ref a_suitTable, .ref a_acts])), (a_first, .inl (cyI, 7, .inl a_f_first)), (a_now, .inl (cyI, 7, .inl a_f_now)), (a_lawPlace, .inl (cyI, 6, .inl a_f_lawPlace)), (a_lawOther, .inl (cyI, 6, .inl a_f_lawOther)), (a_lawEach, .inl (cyI, 6, .inl a_f_lawEach)), (a_lawFrom, .inl (cyI, 6, .inl a_f_lawFrom)), (a_foes, .inl (cyI, 7, .inl a_f_foes)), (a_suitTable, .inl (cyI, 49, .inl a_f_suitTable)), (a_acts, .inl (cyI, 40, .inl a_f_acts)), (c0, .inr (0, [.ref c_row, .ref c_origins, .ref c_before, .ref c_lawsByNight, .ref h0, .int z0_30])), (c_row, .inl (cyI, 7, .inl y1_31)), (c_origins, .inl (cyI, 7, .inl y2_32)), (c_before, .inl (cyI, 7, .inl y3_33)), (c_lawsByNight, .inl (cyI, 60, .inl y2_24)), (v0, .inr (5, [.ref v_hung, .int a_pl, .int z0_44, .int z1_45, .int z2_46])), (v_hung, .inl (cyI, 7, .inl y3_47))] := hD
          have hP := hP.sub (ws' := [(v0, .inr (5, [.ref v_hung, .int a_pl, .int z0_44, .int z1_45, .int z2_46])), (v_hung, .inl (cyI, 7, .inl y3_47)), (sl0, .inr (7, [.ref sNum, .ref sLen, .ref sWid, .ref sMade])), (sMade, .inl (cyZ, 4, .inl s_fm)), (sLen, .inl (cyI, 4, .inl s_fl)), (sWid, .inl (cyI, 4, .inl s_fw)), (sNum, .inl (cyN, 4, .inr (.inr (.inr (.inr nF))))), (n0, .inl (cyJ, 60, .inr (.inl s_n0))), (n1, .inl (cyJ, 60, .inr (.inl s_n1))), (n2, .inl (cyJ, 60, .inr (.inl s_n2))), (n3, .inl (cyJ, 60, .inr (.inl s_n3))), (h0, .inr (2, [.int a_pl, .int a_li, .int a_le, .int a_lc, .int a_ac, .int a_ng, .ref a_first, .ref a_now, .ref a_lawPlace, .ref a_lawOther, .ref a_lawEach, .ref a_lawFrom, .ref a_foes, .ref a_suitTable, .ref a_acts])), (a_first, .inl (cyI, 7, .inl a_f_first)), (a_now, .inl (cyI, 7, .inl a_f_now)), (a_lawPlace, .inl (cyI, 6, .inl a_f_lawPlace)), (a_lawOther, .inl (cyI, 6, .inl a_f_lawOther)), (a_lawEach, .inl (cyI, 6, .inl a_f_lawEach)), (a_lawFrom, .inl (cyI, 6, .inl a_f_lawFrom)), (a_foes, .inl (cyI, 7, .inl a_f_foes)), (a_suitTable, .inl (cyI, 49, .inl a_f_suitTable)), (a_acts, .inl (cyI, 40, .inl a_f_acts)), (c0, .inr (0, [.ref c_row, .ref c_origins, .ref c_before, .ref c_lawsByNight, .ref h0, .int z0_30])), (c_row, .inl (cyI, 7, .inl y1_31)), (c_origins, .inl (cyI, 7, .inl y2_32)), (c_before, .inl (cyI, 7, .inl y3_33)), (c_lawsByNight, .inl (cyI, 60, .inl y2_24))]) [24, 25, 0, 1, 2, 3, 4, 5, 6, 7, 8, 9, 10, 11, 12, 13, 14, 15, 16, 17, 18, 19, 20, 21, 22, 23] rfl
          have hD := hD.sub (ws' := [(v0, .inr (5, [.ref v_hung, .int a_pl, .int z0_44, .int z1_45, .int z2_46])), (v_hung, .inl (cyI, 7, .inl y3_47)), (sl0, .inr (7, [.ref sNum, .ref sLen, .ref sWid, .ref sMade])), (sMade, .inl (cyZ, 4, .inl s_fm)), (sLen, .inl (cyI, 4, .inl s_fl)), (sWid, .inl (cyI, 4, .inl s_fw)), (sNum, .inl (cyN, 4, .inr (.inr (.inr (.inr nF))))), (n0, .inl (cyJ, 60, .inr (.inl s_n0))), (n1, .inl (cyJ, 60, .inr (.inl s_n1))), (n2, .inl (cyJ, 60, .inr (.inl s_n2))), (n3, .inl (cyJ, 60, .inr (.inl s_n3))), (h0, .inr (2, [.int a_pl, .int a_li, .int a_le, .int a_lc, .int a_ac, .int a_ng, .ref a_first, .ref a_now, .ref a_lawPlace, .ref a_lawOther, .ref a_lawEach, .ref a_lawFrom, .ref a_foes, .ref a_suitTable, .ref a_acts])), (a_first, .inl (cyI, 7, .inl a_f_first)), (a_now, .inl (cyI, 7, .inl a_f_now)), (a_lawPlace, .inl (cyI, 6, .inl a_f_lawPlace)), (a_lawOther, .inl (cyI, 6, .inl a_f_lawOther)), (a_lawEach, .inl (cyI, 6, .inl a_f_lawEach)), (a_lawFrom, .inl (cyI, 6, .inl a_f_lawFrom)), (a_foes, .inl (cyI, 7, .inl a_f_foes)), (a_suitTable, .inl (cyI, 49, .inl a_f_suitTable)), (a_acts, .inl (cyI, 40, .inl a_f_acts)), (c0, .inr (0, [.ref c_row, .ref c_origins, .ref c_before, .ref c_lawsByNight, .ref h0, .int z0_30])), (c_row, .inl (cyI, 7, .inl y1_31)), (c_origins, .inl (cyI, 7, .inl y2_32)), (c_before, .inl (cyI, 7, .inl y3_33)), (c_lawsByNight, .inl (cyI, 60, .inl y2_24))]) [24, 25, 0, 1, 2, 3, 4, 5, 6, 7, 8, 9, 10, 11, 12, 13, 14, 15, 16, 17, 18, 19, 20, 21, 22, 23] (by decide) rfl
          obtain ⟨x_53, ex_53⟩ : ∃ y : Int32, y = u_8 + 3 := ⟨_, rfl⟩
          refine lv_iinc (v := x_53) (lv' := [(6, .int x_53), (5, .ref n1), (0, .ref v0), (1, .ref h0), (2, .ref sl0), (3, .int 1), (4, .ref c0)]) hx hb dX6_take_110 hl (k := 0) rfl (by rw [ex_53]; rfl) (by decide) rfl (fun ls hl => ?_)
          have fx_53 : x_53.toInt = u_8.toInt + 3 := by rw [ex_53]; exact cv_addI (by have : (3 : Int32).toInt = 3 := rfl; omega) (by have : (3 : Int32).toInt = 3 := rfl; omega)
          refine lv_goto (tgt := 56) hx hb dX6_take_113 (by decide) ?_
          exact ihkey_19 x_53 z0_44 z1_45 z2_46 y3_47 (.ref h0) z0_30 y1_31 y2_32 y3_33 y2_24 _ _ _ (by omega) (by omega) (by omega) (by omega) hp_51 hp_35 hp_36 hp_37 (by omega) hp_52 hP hD hS (lv_sub hl [0, 1, 2, 3, 4, 5, 6] rfl) (by omega)
    exact key_19 _ 0 0 a_pl 1 y0_6 hvv cnum c_f_row c_f_origins c_f_before c_f_lawsByNight _ _ _ (by decide) (by decide) (by omega) (by decide) hp_7 g9 g10 g11 (by decide) (by rw [cb_zero _ (by omega)]; omega) hP hD hS (lv_sub hl [0, 1, 2, 3, 4, 5, 6] rfl) (Nat.lt_succ_self _)

/- X6_take -/
set_option maxHeartbeats 4000000 in
set_option maxRecDepth 100000 in
theorem n_take2 (l : Launch) (dC : Nat → ClassId) (dI : Nat → Nat → Nat) (cyI cyB cyJ cyZ cyH cyN : ClassId) (tR tF : Nat) (aK aV : Nat → Nat) (sz : Nat) (v0 v_hung : Nat) (v_pl v_kn v_un v_tr : Int32) (v_f : Nat → Int32) (sl0 sNum sLen sWid sMade n0 n1 n2 n3 : Nat) (nF : Nat → Option Nat) (s_fm s_fl s_fw : Nat → Int32) (s_n0 s_n1 s_n2 s_n3 : Nat → Int64) (h0 a_first a_now a_lawPlace a_lawOther a_lawEach a_lawFrom a_foes a_suitTable a_acts : Nat) (a_pl a_li a_le a_lc a_ac a_ng : Int32) (a_f_first a_f_now a_f_lawPlace a_f_lawOther a_f_lawEach a_f_lawFrom a_f_foes a_f_suitTable a_f_acts : Nat → Int32) (c0 c_row c_origins c_before c_lawsByNight : Nat) (cnum : Int32) (c_f_row c_f_origins c_f_before c_f_lawsByNight : Nat → Int32) (hvv : Value) (g0 : rg (-1) 6 7 v_f) (g1 : rg 0 1 4 s_fm) (g2 : rg 0 60 4 s_fl) (g3 : rg 0 3 4 s_fw) (g4 : rg 0 6 7 a_f_first) (g5 : rg 0 6 7 a_f_now) (g6 : rg 0 6 6 a_f_lawPlace) (g7 : rg 0 6 6 a_f_lawOther) (g8 : ra 40 a_f_acts) (g9 : rg 0 6 7 c_f_row) (g10 : rg 0 6 7 c_f_origins) (g11 : rg 0 6 7 c_f_before) (g12 : 0 ≤ a_pl.toInt ∧ a_pl.toInt ≤ 7) (g13 : 0 ≤ a_lc.toInt ∧ a_lc.toInt ≤ 6) (g14 : 0 ≤ a_ac.toInt ∧ a_ac.toInt ≤ 40) (g15 : 0 ≤ v_pl.toInt ∧ v_pl.toInt ≤ 7) (g16 : 0 ≤ v_kn.toInt ∧ v_kn.toInt ≤ 127) (g17 : 0 ≤ v_tr.toInt ∧ v_tr.toInt ≤ 1) (g18 : nF 0 = some n0) (g19 : nF 1 = some n1) (g20 : nF 2 = some n2) (g21 : nF 3 = some n3) (g22 : v_un.toInt = v_pl.toInt - cb v_kn v_pl.toInt.toNat) : Met l yX6_take (wk yX6_take cX6_take 7 (some .boolean)) ({ frames := 5, cells := 0, slots := 0, locals := 150 }) (va_Pc [.ref v0, .ref h0, .ref sl0, .int 2, .ref c0] (fun U => U.heap.size = sz ∧ va_P (dC, dI) vwCl [(v0, .inr (5, [.ref v_hung, .int v_pl, .int v_kn, .int v_un, .int v_tr])), (v_hung, .inl (cyI, 7, .inl v_f)), (sl0, .inr (7, [.ref sNum, .ref sLen, .ref sWid, .ref sMade])), (sMade, .inl (cyZ, 4, .inl s_fm)), (sLen, .inl (cyI, 4, .inl s_fl)), (sWid, .inl (cyI, 4, .inl s_fw)), (sNum, .inl (cyN, 4, .inr (.inr (.inr (.inr nF))))), (n0, .inl (cyJ, 60, .inr (.inl s_n0))), (n1, .inl (cyJ, 60, .inr (.inl s_n1))), (n2, .inl (cyJ, 60, .inr (.inl s_n2))), (n3, .inl (cyJ, 60, .inr (.inl s_n3))), (h0, .inr (2, [.int a_pl, .int a_li, .int a_le, .int a_lc, .int a_ac, .int a_ng, .ref a_first, .ref a_now, .ref a_lawPlace, .ref a_lawOther, .ref a_lawEach, .ref a_lawFrom, .ref a_foes, .ref a_suitTable, .ref a_acts])), (a_first, .inl (cyI, 7, .inl a_f_first)), (a_now, .inl (cyI, 7, .inl a_f_now)), (a_lawPlace, .inl (cyI, 6, .inl a_f_lawPlace)), (a_lawOther, .inl (cyI, 6, .inl a_f_lawOther)), (a_lawEach, .inl (cyI, 6, .inl a_f_lawEach)), (a_lawFrom, .inl (cyI, 6, .inl a_f_lawFrom)), (a_foes, .inl (cyI, 7, .inl a_f_foes)), (a_suitTable, .inl (cyI, 49, .inl a_f_suitTable)), (a_acts, .inl (cyI, 40, .inl a_f_acts)), (c0, .inr (0, [.ref c_row, .ref c_origins, .ref c_before, .ref c_lawsByNight, hvv, .int cnum])), (c_row, .inl (cyI, 7, .inl c_f_row)), (c_origins, .inl (cyI, 7, .inl c_f_origins)), (c_before, .inl (cyI, 7, .inl c_f_before)), (c_lawsByNight, .inl (cyI, 60, .inl c_f_lawsByNight))] U.heap ∧ va_K (dC, dI) vwCl [(cyI, .int), (cyB, .byte), (cyJ, .long), (cyZ, .boolean), (cyH, .object RX2), (cyN, .array .long)] U ∧ va_D (fun _ => True) [(v0, .inr (5, [.ref v_hung, .int v_pl, .int v_kn, .int v_un, .int v_tr])), (v_hung, .inl (cyI, 7, .inl v_f)), (sl0, .inr (7, [.ref sNum, .ref sLen, .ref sWid, .ref sMade])), (sMade, .inl (cyZ, 4, .inl s_fm)), (sLen, .inl (cyI, 4, .inl s_fl)), (sWid, .inl (cyI, 4, .inl s_fw)), (sNum, .inl (cyN, 4, .inr (.inr (.inr (.inr nF))))), (n0, .inl (cyJ, 60, .inr (.inl s_n0))), (n1, .inl (cyJ, 60, .inr (.inl s_n1))), (n2, .inl (cyJ, 60, .inr (.inl s_n2))), (n3, .inl (cyJ, 60, .inr (.inl s_n3))), (h0, .inr (2, [.int a_pl, .int a_li, .int a_le, .int a_lc, .int a_ac, .int a_ng, .ref a_first, .ref a_now, .ref a_lawPlace, .ref a_lawOther, .ref a_lawEach, .ref a_lawFrom, .ref a_foes, .ref a_suitTable, .ref a_acts])), (a_first, .inl (cyI, 7, .inl a_f_first)), (a_now, .inl (cyI, 7, .inl a_f_now)), (a_lawPlace, .inl (cyI, 6, .inl a_f_lawPlace)), (a_lawOther, .inl (cyI, 6, .inl a_f_lawOther)), (a_lawEach, .inl (cyI, 6, .inl a_f_lawEach)), (a_lawFrom, .inl (cyI, 6, .inl a_f_lawFrom)), (a_foes, .inl (cyI, 7, .inl a_f_foes)), (a_suitTable, .inl (cyI, 49, .inl a_f_suitTable)), (a_acts, .inl (cyI, 40, .inl a_f_acts)), (c0, .inr (0, [.ref c_row, .ref c_origins, .ref c_before, .ref c_lawsByNight, hvv, .int cnum])), (c_row, .inl (cyI, 7, .inl c_f_row)), (c_origins, .inl (cyI, 7, .inl c_f_origins)), (c_before, .inl (cyI, 7, .inl c_f_before)), (c_lawsByNight, .inl (cyI, 60, .inl c_f_lawsByNight))] ∧ cv_FX tR tF aK aV (va_A [(v0, .inr (5, [.ref v_hung, .int v_pl, .int v_kn, .int v_un, .int v_tr])), (v_hung, .inl (cyI, 7, .inl v_f)), (sl0, .inr (7, [.ref sNum, .ref sLen, .ref sWid, .ref sMade])), (sMade, .inl (cyZ, 4, .inl s_fm)), (sLen, .inl (cyI, 4, .inl s_fl)), (sWid, .inl (cyI, 4, .inl s_fw)), (sNum, .inl (cyN, 4, .inr (.inr (.inr (.inr nF))))), (n0, .inl (cyJ, 60, .inr (.inl s_n0))), (n1, .inl (cyJ, 60, .inr (.inl s_n1))), (n2, .inl (cyJ, 60, .inr (.inl s_n2))), (n3, .inl (cyJ, 60, .inr (.inl s_n3))), (h0, .inr (2, [.int a_pl, .int a_li, .int a_le, .int a_lc, .int a_ac, .int a_ng, .ref a_first, .ref a_now, .ref a_lawPlace, .ref a_lawOther, .ref a_lawEach, .ref a_lawFrom, .ref a_foes, .ref a_suitTable, .ref a_acts])), (a_first, .inl (cyI, 7, .inl a_f_first)), (a_now, .inl (cyI, 7, .inl a_f_now)), (a_lawPlace, .inl (cyI, 6, .inl a_f_lawPlace)), (a_lawOther, .inl (cyI, 6, .inl a_f_lawOther)), (a_lawEach, .inl (cyI, 6, .inl a_f_lawEach)), (a_lawFrom, .inl (cyI, 6, .inl a_f_lawFrom)), (a_foes, .inl (cyI, 7, .inl a_f_foes)), (a_suitTable, .inl (cyI, 49, .inl a_f_suitTable)), (a_acts, .inl (cyI, 40, .inl a_f_acts)), (c0, .inr (0, [.ref c_row, .ref c_origins, .ref c_before, .ref c_lawsByNight, hvv, .int cnum])), (c_row, .inl (cyI, 7, .inl c_f_row)), (c_origins, .inl (cyI, 7, .inl c_f_origins)), (c_before, .inl (cyI, 7, .inl c_f_before)), (c_lawsByNight, .inl (cyI, 60, .inl c_f_lawsByNight))] sz) U U.heap)) (va_Qi (fun (r : Int32) (_ : Unit) => 0 ≤ r.toInt ∧ r.toInt ≤ 1) (fun (_ : Unit) (t : State) => ∃ z0 : Int32, ∃ z1 : Int32, ∃ z2 : Int32, ∃ z3 : Int32, ∃ y4 : Nat → Int32, ∃ z5 : Value, ∃ z6 : Int32, ∃ y7 : Nat → Int32, ∃ y8 : Nat → Int32, ∃ y9 : Nat → Int32, ∃ y10 : Nat → Int32, (0 ≤ z0.toInt ∧ z0.toInt ≤ 7) ∧ (0 ≤ z1.toInt ∧ z1.toInt ≤ 127) ∧ (0 ≤ z3.toInt ∧ z3.toInt ≤ 1) ∧ (rg (-1) 6 7 y4) ∧ (rg 0 6 7 y7) ∧ (rg 0 6 7 y8) ∧ (rg 0 6 7 y9) ∧ (z2.toInt = z0.toInt - cb z1 z0.toInt.toNat) ∧ va_P (dC, dI) vwCl [(v0, .inr (5, [.ref v_hung, .int z0, .int z1, .int z2, .int z3])), (v_hung, .inl (cyI, 7, .inl y4)), (sl0, .inr (7, [.ref sNum, .ref sLen, .ref sWid, .ref sMade])), (sMade, .inl (cyZ, 4, .inl s_fm)), (sLen, .inl (cyI, 4, .inl s_fl)), (sWid, .inl (cyI, 4, .inl s_fw)), (sNum, .inl (cyN, 4, .inr (.inr (.inr (.inr nF))))), (n0, .inl (cyJ, 60, .inr (.inl s_n0))), (n1, .inl (cyJ, 60, .inr (.inl s_n1))), (n2, .inl (cyJ, 60, .inr (.inl s_n2))), (n3, .inl (cyJ, 60, .inr (.inl s_n3))), (h0, .inr (2, [.int a_pl, .int a_li, .int a_le, .int a_lc, .int a_ac, .int a_ng, .ref a_first, .ref a_now, .ref a_lawPlace, .ref a_lawOther, .ref a_lawEach, .ref a_lawFrom, .ref a_foes, .ref a_suitTable, .ref a_acts])), (a_first, .inl (cyI, 7, .inl a_f_first)), (a_now, .inl (cyI, 7, .inl a_f_now)), (a_lawPlace, .inl (cyI, 6, .inl a_f_lawPlace)), (a_lawOther, .inl (cyI, 6, .inl a_f_lawOther)), (a_lawEach, .inl (cyI, 6, .inl a_f_lawEach)), (a_lawFrom, .inl (cyI, 6, .inl a_f_lawFrom)), (a_foes, .inl (cyI, 7, .inl a_f_foes)), (a_suitTable, .inl (cyI, 49, .inl a_f_suitTable)), (a_acts, .inl (cyI, 40, .inl a_f_acts)), (c0, .inr (0, [.ref c_row, .ref c_origins, .ref c_before, .ref c_lawsByNight, z5, .int z6])), (c_row, .inl (cyI, 7, .inl y7)), (c_origins, .inl (cyI, 7, .inl y8)), (c_before, .inl (cyI, 7, .inl y9)), (c_lawsByNight, .inl (cyI, 60, .inl y10))] t.heap ∧ va_D (va_A [(v0, .inr (5, [.ref v_hung, .int v_pl, .int v_kn, .int v_un, .int v_tr])), (v_hung, .inl (cyI, 7, .inl v_f)), (sl0, .inr (7, [.ref sNum, .ref sLen, .ref sWid, .ref sMade])), (sMade, .inl (cyZ, 4, .inl s_fm)), (sLen, .inl (cyI, 4, .inl s_fl)), (sWid, .inl (cyI, 4, .inl s_fw)), (sNum, .inl (cyN, 4, .inr (.inr (.inr (.inr nF))))), (n0, .inl (cyJ, 60, .inr (.inl s_n0))), (n1, .inl (cyJ, 60, .inr (.inl s_n1))), (n2, .inl (cyJ, 60, .inr (.inl s_n2))), (n3, .inl (cyJ, 60, .inr (.inl s_n3))), (h0, .inr (2, [.int a_pl, .int a_li, .int a_le, .int a_lc, .int a_ac, .int a_ng, .ref a_first, .ref a_now, .ref a_lawPlace, .ref a_lawOther, .ref a_lawEach, .ref a_lawFrom, .ref a_foes, .ref a_suitTable, .ref a_acts])), (a_first, .inl (cyI, 7, .inl a_f_first)), (a_now, .inl (cyI, 7, .inl a_f_now)), (a_lawPlace, .inl (cyI, 6, .inl a_f_lawPlace)), (a_lawOther, .inl (cyI, 6, .inl a_f_lawOther)), (a_lawEach, .inl (cyI, 6, .inl a_f_lawEach)), (a_lawFrom, .inl (cyI, 6, .inl a_f_lawFrom)), (a_foes, .inl (cyI, 7, .inl a_f_foes)), (a_suitTable, .inl (cyI, 49, .inl a_f_suitTable)), (a_acts, .inl (cyI, 40, .inl a_f_acts)), (c0, .inr (0, [.ref c_row, .ref c_origins, .ref c_before, .ref c_lawsByNight, hvv, .int cnum])), (c_row, .inl (cyI, 7, .inl c_f_row)), (c_origins, .inl (cyI, 7, .inl c_f_origins)), (c_before, .inl (cyI, 7, .inl c_f_before)), (c_lawsByNight, .inl (cyI, 60, .inl c_f_lawsByNight))] sz) [(v0, .inr (5, [.ref v_hung, .int z0, .int z1, .int z2, .int z3])), (v_hung, .inl (cyI, 7, .inl y4)), (sl0, .inr (7, [.ref sNum, .ref sLen, .ref sWid, .ref sMade])), (sMade, .inl (cyZ, 4, .inl s_fm)), (sLen, .inl (cyI, 4, .inl s_fl)), (sWid, .inl (cyI, 4, .inl s_fw)), (sNum, .inl (cyN, 4, .inr (.inr (.inr (.inr nF))))), (n0, .inl (cyJ, 60, .inr (.inl s_n0))), (n1, .inl (cyJ, 60, .inr (.inl s_n1))), (n2, .inl (cyJ, 60, .inr (.inl s_n2))), (n3, .inl (cyJ, 60, .inr (.inl s_n3))), (h0, .inr (2, [.int a_pl, .int a_li, .int a_le, .int a_lc, .int a_ac, .int a_ng, .ref a_first, .ref a_now, .ref a_lawPlace, .ref a_lawOther, .ref a_lawEach, .ref a_lawFrom, .ref a_foes, .ref a_suitTable, .ref a_acts])), (a_first, .inl (cyI, 7, .inl a_f_first)), (a_now, .inl (cyI, 7, .inl a_f_now)), (a_lawPlace, .inl (cyI, 6, .inl a_f_lawPlace)), (a_lawOther, .inl (cyI, 6, .inl a_f_lawOther)), (a_lawEach, .inl (cyI, 6, .inl a_f_lawEach)), (a_lawFrom, .inl (cyI, 6, .inl a_f_lawFrom)), (a_foes, .inl (cyI, 7, .inl a_f_foes)), (a_suitTable, .inl (cyI, 49, .inl a_f_suitTable)), (a_acts, .inl (cyI, 40, .inl a_f_acts)), (c0, .inr (0, [.ref c_row, .ref c_origins, .ref c_before, .ref c_lawsByNight, z5, .int z6])), (c_row, .inl (cyI, 7, .inl y7)), (c_origins, .inl (cyI, 7, .inl y8)), (c_before, .inl (cyI, 7, .inl y9)), (c_lawsByNight, .inl (cyI, 60, .inl y10))]) (va_A [(v0, .inr (5, [.ref v_hung, .int v_pl, .int v_kn, .int v_un, .int v_tr])), (v_hung, .inl (cyI, 7, .inl v_f)), (sl0, .inr (7, [.ref sNum, .ref sLen, .ref sWid, .ref sMade])), (sMade, .inl (cyZ, 4, .inl s_fm)), (sLen, .inl (cyI, 4, .inl s_fl)), (sWid, .inl (cyI, 4, .inl s_fw)), (sNum, .inl (cyN, 4, .inr (.inr (.inr (.inr nF))))), (n0, .inl (cyJ, 60, .inr (.inl s_n0))), (n1, .inl (cyJ, 60, .inr (.inl s_n1))), (n2, .inl (cyJ, 60, .inr (.inl s_n2))), (n3, .inl (cyJ, 60, .inr (.inl s_n3))), (h0, .inr (2, [.int a_pl, .int a_li, .int a_le, .int a_lc, .int a_ac, .int a_ng, .ref a_first, .ref a_now, .ref a_lawPlace, .ref a_lawOther, .ref a_lawEach, .ref a_lawFrom, .ref a_foes, .ref a_suitTable, .ref a_acts])), (a_first, .inl (cyI, 7, .inl a_f_first)), (a_now, .inl (cyI, 7, .inl a_f_now)), (a_lawPlace, .inl (cyI, 6, .inl a_f_lawPlace)), (a_lawOther, .inl (cyI, 6, .inl a_f_lawOther)), (a_lawEach, .inl (cyI, 6, .inl a_f_lawEach)), (a_lawFrom, .inl (cyI, 6, .inl a_f_lawFrom)), (a_foes, .inl (cyI, 7, .inl a_f_foes)), (a_suitTable, .inl (cyI, 49, .inl a_f_suitTable)), (a_acts, .inl (cyI, 40, .inl a_f_acts)), (c0, .inr (0, [.ref c_row, .ref c_origins, .ref c_before, .ref c_lawsByNight, hvv, .int cnum])), (c_row, .inl (cyI, 7, .inl c_f_row)), (c_origins, .inl (cyI, 7, .inl c_f_origins)), (c_before, .inl (cyI, 7, .inl c_f_before)), (c_lawsByNight, .inl (cyI, 60, .inl c_f_lawsByNight))] sz)) 0 0 (va_A [(v0, .inr (5, [.ref v_hung, .int v_pl, .int v_kn, .int v_un, .int v_tr])), (v_hung, .inl (cyI, 7, .inl v_f)), (sl0, .inr (7, [.ref sNum, .ref sLen, .ref sWid, .ref sMade])), (sMade, .inl (cyZ, 4, .inl s_fm)), (sLen, .inl (cyI, 4, .inl s_fl)), (sWid, .inl (cyI, 4, .inl s_fw)), (sNum, .inl (cyN, 4, .inr (.inr (.inr (.inr nF))))), (n0, .inl (cyJ, 60, .inr (.inl s_n0))), (n1, .inl (cyJ, 60, .inr (.inl s_n1))), (n2, .inl (cyJ, 60, .inr (.inl s_n2))), (n3, .inl (cyJ, 60, .inr (.inl s_n3))), (h0, .inr (2, [.int a_pl, .int a_li, .int a_le, .int a_lc, .int a_ac, .int a_ng, .ref a_first, .ref a_now, .ref a_lawPlace, .ref a_lawOther, .ref a_lawEach, .ref a_lawFrom, .ref a_foes, .ref a_suitTable, .ref a_acts])), (a_first, .inl (cyI, 7, .inl a_f_first)), (a_now, .inl (cyI, 7, .inl a_f_now)), (a_lawPlace, .inl (cyI, 6, .inl a_f_lawPlace)), (a_lawOther, .inl (cyI, 6, .inl a_f_lawOther)), (a_lawEach, .inl (cyI, 6, .inl a_f_lawEach)), (a_lawFrom, .inl (cyI, 6, .inl a_f_lawFrom)), (a_foes, .inl (cyI, 7, .inl a_f_foes)), (a_suitTable, .inl (cyI, 49, .inl a_f_suitTable)), (a_acts, .inl (cyI, 40, .inl a_f_acts)), (c0, .inr (0, [.ref c_row, .ref c_origins, .ref c_before, .ref c_lawsByNight, hvv, .int cnum])), (c_row, .inl (cyI, 7, .inl c_f_row)), (c_origins, .inl (cyI, 7, .inl c_f_origins)), (c_before, .inl (cyI, 7, .inl c_f_before)), (c_lawsByNight, .inl (cyI, 60, .inl c_f_lawsByNight))] sz) := by
  refine Met.ofW (cc := cX6_take) (maxL := 7) (ret := (some .boolean)) (by decide) rfl ?_
  intro p e s m args below meth c s₁ B hml hv
  obtain ⟨rfl, hsz, hP, hK, hD0, hFX⟩ := hv
  have hx := B.exec
  have hb := B.bytes
  have hr := B.returns
  have hts : ∀ w ∈ uU, w.before ([.ref v0, .ref h0, .ref sl0, .int 2, .ref c0] : List Value).toArray s = true := fun w h => atoms_spec (ws := wk yX6_take cX6_take 7 (some .boolean)) B.pre w (List.mem_cons_of_mem _ h)
  have hown : s.vm.findClass RX6 = some m.cls := findClass_of_methodNamed B.named
  have hlocks := B.notSynchronized
  subst hsz
  have hD := hD0.self (sz := s.heap.size)
  generalize hAe : va_A [(v0, .inr (5, [.ref v_hung, .int v_pl, .int v_kn, .int v_un, .int v_tr])), (v_hung, .inl (cyI, 7, .inl v_f)), (sl0, .inr (7, [.ref sNum, .ref sLen, .ref sWid, .ref sMade])), (sMade, .inl (cyZ, 4, .inl s_fm)), (sLen, .inl (cyI, 4, .inl s_fl)), (sWid, .inl (cyI, 4, .inl s_fw)), (sNum, .inl (cyN, 4, .inr (.inr (.inr (.inr nF))))), (n0, .inl (cyJ, 60, .inr (.inl s_n0))), (n1, .inl (cyJ, 60, .inr (.inl s_n1))), (n2, .inl (cyJ, 60, .inr (.inl s_n2))), (n3, .inl (cyJ, 60, .inr (.inl s_n3))), (h0, .inr (2, [.int a_pl, .int a_li, .int a_le, .int a_lc, .int a_ac, .int a_ng, .ref a_first, .ref a_now, .ref a_lawPlace, .ref a_lawOther, .ref a_lawEach, .ref a_lawFrom, .ref a_foes, .ref a_suitTable, .ref a_acts])), (a_first, .inl (cyI, 7, .inl a_f_first)), (a_now, .inl (cyI, 7, .inl a_f_now)), (a_lawPlace, .inl (cyI, 6, .inl a_f_lawPlace)), (a_lawOther, .inl (cyI, 6, .inl a_f_lawOther)), (a_lawEach, .inl (cyI, 6, .inl a_f_lawEach)), (a_lawFrom, .inl (cyI, 6, .inl a_f_lawFrom)), (a_foes, .inl (cyI, 7, .inl a_f_foes)), (a_suitTable, .inl (cyI, 49, .inl a_f_suitTable)), (a_acts, .inl (cyI, 40, .inl a_f_acts)), (c0, .inr (0, [.ref c_row, .ref c_origins, .ref c_before, .ref c_lawsByNight, hvv, .int cnum])), (c_row, .inl (cyI, 7, .inl c_f_row)), (c_origins, .inl (cyI, 7, .inl c_f_origins)), (c_before, .inl (cyI, 7, .inl c_f_before)), (c_lawsByNight, .inl (cyI, 60, .inl c_f_lawsByNight))] s.heap.size = A at hD hFX ⊢
  have hA : ∀ q : Nat, s.heap.size ≤ q → A q := fun q h => by rw [← hAe]; exact Or.inr h
  have hS : va_S A s.heap s.heap [] := va_S.rf
  have hP : va_P (dC, dI) vwCl [(v0, .inr (5, [.ref v_hung, .int v_pl, .int v_kn, .int v_un, .int v_tr])), (v_hung, .inl (cyI, 7, .inl v_f)), (sl0, .inr (7, [.ref sNum, .ref sLen, .ref sWid, .ref sMade])), (sMade, .inl (cyZ, 4, .inl s_fm)), (sLen, .inl (cyI, 4, .inl s_fl)), (sWid, .inl (cyI, 4, .inl s_fw)), (sNum, .inl (cyN, 4, .inr (.inr (.inr (.inr nF))))), (n0, .inl (cyJ, 60, .inr (.inl s_n0))), (n1, .inl (cyJ, 60, .inr (.inl s_n1))), (n2, .inl (cyJ, 60, .inr (.inl s_n2))), (n3, .inl (cyJ, 60, .inr (.inl s_n3))), (h0, .inr (2, [.int a_pl, .int a_li, .int a_le, .int a_lc, .int a_ac, .int a_ng, .ref a_first, .ref a_now, .ref a_lawPlace, .ref a_lawOther, .ref a_lawEach, .ref a_lawFrom, .ref a_foes, .ref a_suitTable, .ref a_acts])), (a_first, .inl (cyI, 7, .inl a_f_first)), (a_now, .inl (cyI, 7, .inl a_f_now)), (a_lawPlace, .inl (cyI, 6, .inl a_f_lawPlace)), (a_lawOther, .inl (cyI, 6, .inl a_f_lawOther)), (a_lawEach, .inl (cyI, 6, .inl a_f_lawEach)), (a_lawFrom, .inl (cyI, 6, .inl a_f_lawFrom)), (a_foes, .inl (cyI, 7, .inl a_f_foes)), (a_suitTable, .inl (cyI, 49, .inl a_f_suitTable)), (a_acts, .inl (cyI, 40, .inl a_f_acts)), (c0, .inr (0, [.ref c_row, .ref c_origins, .ref c_before, .ref c_lawsByNight, hvv, .int cnum])), (c_row, .inl (cyI, 7, .inl c_f_row)), (c_origins, .inl (cyI, 7, .inl c_f_origins)), (c_before, .inl (cyI, 7, .inl c_f_before)), (c_lawsByNight, .inl (cyI, 60, .inl c_f_lawsByNight))] s.heap := hP
  have hl := lv_entry ([.ref v0, .ref h0, .ref sl0, .int 2, .ref c0]) (n := 7) (Nat.le_of_ble_eq_true rfl)
  rw [lg_entry_eq]
  generalize (lg_sl ([.ref v0, .ref h0, .ref sl0, .int 2, .ref c0]) ++ List.replicate (7 - (lg_sl ([.ref v0, .ref h0, .ref sl0, .int 2, .ref c0])).length) Slot.unset).toArray = ls at hl ⊢
  have hl : lv_has ls 7 [(0, .ref v0), (1, .ref h0), (2, .ref sl0), (3, .int 2), (4, .ref c0)] := hl
  obtain ⟨H, hHe⟩ : ∃ H, H = s.heap := ⟨_, rfl⟩
  have hP : va_P (dC, dI) vwCl [(v0, .inr (5, [.ref v_hung, .int v_pl, .int v_kn, .int v_un, .int v_tr])), (v_hung, .inl (cyI, 7, .inl v_f)), (sl0, .inr (7, [.ref sNum, .ref sLen, .ref sWid, .ref sMade])), (sMade, .inl (cyZ, 4, .inl s_fm)), (sLen, .inl (cyI, 4, .inl s_fl)), (sWid, .inl (cyI, 4, .inl s_fw)), (sNum, .inl (cyN, 4, .inr (.inr (.inr (.inr nF))))), (n0, .inl (cyJ, 60, .inr (.inl s_n0))), (n1, .inl (cyJ, 60, .inr (.inl s_n1))), (n2, .inl (cyJ, 60, .inr (.inl s_n2))), (n3, .inl (cyJ, 60, .inr (.inl s_n3))), (h0, .inr (2, [.int a_pl, .int a_li, .int a_le, .int a_lc, .int a_ac, .int a_ng, .ref a_first, .ref a_now, .ref a_lawPlace, .ref a_lawOther, .ref a_lawEach, .ref a_lawFrom, .ref a_foes, .ref a_suitTable, .ref a_acts])), (a_first, .inl (cyI, 7, .inl a_f_first)), (a_now, .inl (cyI, 7, .inl a_f_now)), (a_lawPlace, .inl (cyI, 6, .inl a_f_lawPlace)), (a_lawOther, .inl (cyI, 6, .inl a_f_lawOther)), (a_lawEach, .inl (cyI, 6, .inl a_f_lawEach)), (a_lawFrom, .inl (cyI, 6, .inl a_f_lawFrom)), (a_foes, .inl (cyI, 7, .inl a_f_foes)), (a_suitTable, .inl (cyI, 49, .inl a_f_suitTable)), (a_acts, .inl (cyI, 40, .inl a_f_acts)), (c0, .inr (0, [.ref c_row, .ref c_origins, .ref c_before, .ref c_lawsByNight, hvv, .int cnum])), (c_row, .inl (cyI, 7, .inl c_f_row)), (c_origins, .inl (cyI, 7, .inl c_f_origins)), (c_before, .inl (cyI, 7, .inl c_f_before)), (c_lawsByNight, .inl (cyI, 60, .inl c_f_lawsByNight))] H := by rw [hHe]; exact hP
  have hS : va_S A s.heap H [] := by rw [hHe]; exact hS
  refine cv_heap hHe ?_
  obtain ⟨Q9, hQ9⟩ : ∃ Q9 : State → Prop, Q9 = MQ below (va_Qi (fun (r : Int32) (_ : Unit) => 0 ≤ r.toInt ∧ r.toInt ≤ 1) (fun (_ : Unit) (t : State) => ∃ z0 : Int32, ∃ z1 : Int32, ∃ z2 : Int32, ∃ z3 : Int32, ∃ y4 : Nat → Int32, ∃ z5 : Value, ∃ z6 : Int32, ∃ y7 : Nat → Int32, ∃ y8 : Nat → Int32, ∃ y9 : Nat → Int32, ∃ y10 : Nat → Int32, (0 ≤ z0.toInt ∧ z0.toInt ≤ 7) ∧ (0 ≤ z1.toInt ∧ z1.toInt ≤ 127) ∧ (0 ≤ z3.toInt ∧ z3.toInt ≤ 1) ∧ (rg (-1) 6 7 y4) ∧ (rg 0 6 7 y7) ∧ (rg 0 6 7 y8) ∧ (rg 0 6 7 y9) ∧ (z2.toInt = z0.toInt - cb z1 z0.toInt.toNat) ∧ va_P (dC, dI) vwCl [(v0, .inr (5, [.ref v_hung, .int z0, .int z1, .int z2, .int z3])), (v_hung, .inl (cyI, 7, .inl y4)), (sl0, .inr (7, [.ref sNum, .ref sLen, .ref sWid, .ref sMade])), (sMade, .inl (cyZ, 4, .inl s_fm)), (sLen, .inl (cyI, 4, .inl s_fl)), (sWid, .inl (cyI, 4, .inl s_fw)), (sNum, .inl (cyN, 4, .inr (.inr (.inr (.inr nF))))), (n0, .inl (cyJ, 60, .inr (.inl s_n0))), (n1, .inl (cyJ, 60, .inr (.inl s_n1))), (n2, .inl (cyJ, 60, .inr (.inl s_n2))), (n3, .inl (cyJ, 60, .inr (.inl s_n3))), (h0, .inr (2, [.int a_pl, .int a_li, .int a_le, .int a_lc, .int a_ac, .int a_ng, .ref a_first, .ref a_now, .ref a_lawPlace, .ref a_lawOther, .ref a_lawEach, .ref a_lawFrom, .ref a_foes, .ref a_suitTable, .ref a_acts])), (a_first, .inl (cyI, 7, .inl a_f_first)), (a_now, .inl (cyI, 7, .inl a_f_now)), (a_lawPlace, .inl (cyI, 6, .inl a_f_lawPlace)), (a_lawOther, .inl (cyI, 6, .inl a_f_lawOther)), (a_lawEach, .inl (cyI, 6, .inl a_f_lawEach)), (a_lawFrom, .inl (cyI, 6, .inl a_f_lawFrom)), (a_foes, .inl (cyI, 7, .inl a_f_foes)), (a_suitTable, .inl (cyI, 49, .inl a_f_suitTable)), (a_acts, .inl (cyI, 40, .inl a_f_acts)), (c0, .inr (0, [.ref c_row, .ref c_origins, .ref c_before, .ref c_lawsByNight, z5, .int z6])), (c_row, .inl (cyI, 7, .inl y7)), (c_origins, .inl (cyI, 7, .inl y8)), (c_before, .inl (cyI, 7, .inl y9)), (c_lawsByNight, .inl (cyI, 60, .inl y10))] t.heap ∧ va_D A [(v0, .inr (5, [.ref v_hung, .int z0, .int z1, .int z2, .int z3])), (v_hung, .inl (cyI, 7, .inl y4)), (sl0, .inr (7, [.ref sNum, .ref sLen, .ref sWid, .ref sMade])), (sMade, .inl (cyZ, 4, .inl s_fm)), (sLen, .inl (cyI, 4, .inl s_fl)), (sWid, .inl (cyI, 4, .inl s_fw)), (sNum, .inl (cyN, 4, .inr (.inr (.inr (.inr nF))))), (n0, .inl (cyJ, 60, .inr (.inl s_n0))), (n1, .inl (cyJ, 60, .inr (.inl s_n1))), (n2, .inl (cyJ, 60, .inr (.inl s_n2))), (n3, .inl (cyJ, 60, .inr (.inl s_n3))), (h0, .inr (2, [.int a_pl, .int a_li, .int a_le, .int a_lc, .int a_ac, .int a_ng, .ref a_first, .ref a_now, .ref a_lawPlace, .ref a_lawOther, .ref a_lawEach, .ref a_lawFrom, .ref a_foes, .ref a_suitTable, .ref a_acts])), (a_first, .inl (cyI, 7, .inl a_f_first)), (a_now, .inl (cyI, 7, .inl a_f_now)), (a_lawPlace, .inl (cyI, 6, .inl a_f_lawPlace)), (a_lawOther, .inl (cyI, 6, .inl a_f_lawOther)), (a_lawEach, .inl (cyI, 6, .inl a_f_lawEach)), (a_lawFrom, .inl (cyI, 6, .inl a_f_lawFrom)), (a_foes, .inl (cyI, 7, .inl a_f_foes)), (a_suitTable, .inl (cyI, 49, .inl a_f_suitTable)), (a_acts, .inl (cyI, 40, .inl a_f_acts)), (c0, .inr (0, [.ref c_row, .ref c_origins, .ref c_before, .ref c_lawsByNight, z5, .int z6])), (c_row, .inl (cyI, 7, .inl y7)), (c_origins, .inl (cyI, 7, .inl y8)), (c_before, .inl (cyI, 7, .inl y9)), (c_lawsByNight, .inl (cyI, 60, .inl y10))]) A) ([.ref v0, .ref h0, .ref sl0, .int 2, .ref c0] : List Value).toArray s 0 0 A := ⟨_, rfl⟩
  rw [← hQ9]
  refine lv_aload_n hx hb dX6_take_0 rfl (lv_at hl 1 rfl) ?_
  refine lv_aload_n hx hb dX6_take_1 rfl (lv_at hl 2 rfl) ?_
  refine lv_iload_n hx hb dX6_take_2 rfl (lv_at hl 3 rfl) ?_
  have hPc := hP.sub (ws' := [(sl0, .inr (7, [.ref sNum, .ref sLen, .ref sWid, .ref sMade])), (sMade, .inl (cyZ, 4, .inl s_fm)), (sLen, .inl (cyI, 4, .inl s_fl)), (sWid, .inl (cyI, 4, .inl s_fw)), (sNum, .inl (cyN, 4, .inr (.inr (.inr (.inr nF))))), (n0, .inl (cyJ, 60, .inr (.inl s_n0))), (n1, .inl (cyJ, 60, .inr (.inl s_n1))), (n2, .inl (cyJ, 60, .inr (.inl s_n2))), (n3, .inl (cyJ, 60, .inr (.inl s_n3))), (h0, .inr (2, [.int a_pl, .int a_li, .int a_le, .int a_lc, .int a_ac, .int a_ng, .ref a_first, .ref a_now, .ref a_lawPlace, .ref a_lawOther, .ref a_lawEach, .ref a_lawFrom, .ref a_foes, .ref a_suitTable, .ref a_acts])), (a_first, .inl (cyI, 7, .inl a_f_first)), (a_now, .inl (cyI, 7, .inl a_f_now)), (a_lawPlace, .inl (cyI, 6, .inl a_f_lawPlace)), (a_lawOther, .inl (cyI, 6, .inl a_f_lawOther)), (a_lawEach, .inl (cyI, 6, .inl a_f_lawEach)), (a_lawFrom, .inl (cyI, 6, .inl a_f_lawFrom)), (a_foes, .inl (cyI, 7, .inl a_f_foes)), (a_suitTable, .inl (cyI, 49, .inl a_f_suitTable)), (a_acts, .inl (cyI, 40, .inl a_f_acts))]) [2, 3, 4, 5, 6, 7, 8, 9, 10, 11, 12, 13, 14, 15, 16, 17, 18, 19, 20] rfl
  have hKc := hK.sub (tys' := [(cyI, .int), (cyB, .byte), (cyJ, .long), (cyZ, .boolean), (cyH, .object RX2), (cyN, .array .long)]) [0, 1, 2, 3, 4, 5] rfl
  refine vp_callSi (va_Run.run (va_runS (As := [.ref h0, .ref sl0, .int 2]) (rest := []) ⟨hx, hb, hml, hown, hts⟩ (n_areSuch2 l dC dI cyI cyB cyJ cyZ cyH cyN sl0 sNum sLen sWid sMade n0 n1 n2 n3 nF s_fm s_fl s_fw s_n0 s_n1 s_n2 s_n3 h0 a_first a_now a_lawPlace a_lawOther a_lawEach a_lawFrom a_foes a_suitTable a_acts a_pl a_li a_le a_lc a_ac a_ng a_f_first a_f_now a_f_lawPlace a_f_lawOther a_f_lawEach a_f_lawFrom a_f_foes a_f_suitTable a_f_acts g1 g2 g3 g4 g5 g6 g7 g8 (by omega) (by omega) (by omega) g18 g19 g20 g21) (va_cwS 3 hts (gdS wd_4_181 wd_4_182 wd_1_6 wd_4_183) rfl rfl rfl (by decide +kernel) ⟨Nat.le_of_ble_eq_true rfl, Nat.le_of_ble_eq_true rfl⟩) ⟨fun a U g mk q => by obtain ⟨q0, qP, qK⟩ := q; exact ⟨q0, qP, va_K.moved (u := U) (U := U.calling g mk a) (Vm.Alike.refl U.vm) qK⟩, fun U hU hW => ⟨rfl, by rw [hU]; exact hPc, va_K.moved hW.alike hKc⟩⟩ rfl rfl hl.1 rfl (lv_room (Nat.le_of_ble_eq_true rfl)) dX6_take_3 ⟨Nat.le_of_ble_eq_true rfl, Nat.le_of_ble_eq_true rfl⟩)) (fun r_1 hw => ?_)
  rcases cv_01 hw.1 with c_2 | c_2
  · subst c_2
    refine lv_if_ne (tgt := 11) hx hb dX6_take_6 (by decide) (fun c_4 => absurd c_4 (by decide)) (fun _ => ?_)
    refine lv_iconst (v := 0) hx hb dX6_take_9 (by decide) ?_
    rw [hQ9]
    have hP9 := hP.sub (ws' := [(v0, .inr (5, [.ref v_hung, .int v_pl, .int v_kn, .int v_un, .int v_tr])), (v_hung, .inl (cyI, 7, .inl v_f)), (sl0, .inr (7, [.ref sNum, .ref sLen, .ref sWid, .ref sMade])), (sMade, .inl (cyZ, 4, .inl s_fm)), (sLen, .inl (cyI, 4, .inl s_fl)), (sWid, .inl (cyI, 4, .inl s_fw)), (sNum, .inl (cyN, 4, .inr (.inr (.inr (.inr nF))))), (n0, .inl (cyJ, 60, .inr (.inl s_n0))), (n1, .inl (cyJ, 60, .inr (.inl s_n1))), (n2, .inl (cyJ, 60, .inr (.inl s_n2))), (n3, .inl (cyJ, 60, .inr (.inl s_n3))), (h0, .inr (2, [.int a_pl, .int a_li, .int a_le, .int a_lc, .int a_ac, .int a_ng, .ref a_first, .ref a_now, .ref a_lawPlace, .ref a_lawOther, .ref a_lawEach, .ref a_lawFrom, .ref a_foes, .ref a_suitTable, .ref a_acts])), (a_first, .inl (cyI, 7, .inl a_f_first)), (a_now, .inl (cyI, 7, .inl a_f_now)), (a_lawPlace, .inl (cyI, 6, .inl a_f_lawPlace)), (a_lawOther, .inl (cyI, 6, .inl a_f_lawOther)), (a_lawEach, .inl (cyI, 6, .inl a_f_lawEach)), (a_lawFrom, .inl (cyI, 6, .inl a_f_lawFrom)), (a_foes, .inl (cyI, 7, .inl a_f_foes)), (a_suitTable, .inl (cyI, 49, .inl a_f_suitTable)), (a_acts, .inl (cyI, 40, .inl a_f_acts)), (c0, .inr (0, [.ref c_row, .ref c_origins, .ref c_before, .ref c_lawsByNight, hvv, .int cnum])), (c_row, .inl (cyI, 7, .inl c_f_row)), (c_origins, .inl (cyI, 7, .inl c_f_origins)), (c_before, .inl (cyI, 7, .inl c_f_before)), (c_lawsByNight, .inl (cyI, 60, .inl c_f_lawsByNight))]) [0, 1, 2, 3, 4, 5, 6, 7, 8, 9, 10, 11, 12, 13, 14, 15, 16, 17, 18, 19, 20, 21, 22, 23, 24, 25] rfl
    have hD9 := hD.sub (ws' := [(v0, .inr (5, [.ref v_hung, .int v_pl, .int v_kn, .int v_un, .int v_tr])), (v_hung, .inl (cyI, 7, .inl v_f)), (sl0, .inr (7, [.ref sNum, .ref sLen, .ref sWid, .ref sMade])), (sMade, .inl (cyZ, 4, .inl s_fm)), (sLen, .inl (cyI, 4, .inl s_fl)), (sWid, .inl (cyI, 4, .inl s_fw)), (sNum, .inl (cyN, 4, .inr (.inr (.inr (.inr nF))))), (n0, .inl (cyJ, 60, .inr (.inl s_n0))), (n1, .inl (cyJ, 60, .inr (.inl s_n1))), (n2, .inl (cyJ, 60, .inr (.inl s_n2))), (n3, .inl (cyJ, 60, .inr (.inl s_n3))), (h0, .inr (2, [.int a_pl, .int a_li, .int a_le, .int a_lc, .int a_ac, .int a_ng, .ref a_first, .ref a_now, .ref a_lawPlace, .ref a_lawOther, .ref a_lawEach, .ref a_lawFrom, .ref a_foes, .ref a_suitTable, .ref a_acts])), (a_first, .inl (cyI, 7, .inl a_f_first)), (a_now, .inl (cyI, 7, .inl a_f_now)), (a_lawPlace, .inl (cyI, 6, .inl a_f_lawPlace)), (a_lawOther, .inl (cyI, 6, .inl a_f_lawOther)), (a_lawEach, .inl (cyI, 6, .inl a_f_lawEach)), (a_lawFrom, .inl (cyI, 6, .inl a_f_lawFrom)), (a_foes, .inl (cyI, 7, .inl a_f_foes)), (a_suitTable, .inl (cyI, 49, .inl a_f_suitTable)), (a_acts, .inl (cyI, 40, .inl a_f_acts)), (c0, .inr (0, [.ref c_row, .ref c_origins, .ref c_before, .ref c_lawsByNight, hvv, .int cnum])), (c_row, .inl (cyI, 7, .inl c_f_row)), (c_origins, .inl (cyI, 7, .inl c_f_origins)), (c_before, .inl (cyI, 7, .inl c_f_before)), (c_lawsByNight, .inl (cyI, 60, .inl c_f_lawsByNight))]) [0, 1, 2, 3, 4, 5, 6, 7, 8, 9, 10, 11, 12, 13, 14, 15, 16, 17, 18, 19, 20, 21, 22, 23, 24, 25] (by decide) rfl
    exact W.zret (v := 0) (ty := .boolean) hx hb hr rfl (fun t ht hW => ⟨⟨0, (), rfl, (by decide), ⟨v_pl, v_kn, v_un, v_tr, v_f, hvv, cnum, c_f_row, c_f_origins, c_f_before, c_f_lawsByNight, (by omega), (by omega), (by omega), g0, g9, g10, g11, g22, by rw [ht]; exact hP9, hD9⟩⟩, hS.F ht⟩) hS.2.2 dX6_take_10
  · subst c_2; have hq_3 := hw.2 rfl
    refine lv_if_ne (tgt := 11) hx hb dX6_take_6 (by decide) (fun _ => ?_) (fun c_5 => absurd c_5 (by decide))
    refine lv_aload_n hx hb dX6_take_11 rfl (lv_at hl 0 rfl) ?_
    refine lv_aload_n hx hb dX6_take_12 rfl (lv_at hl 1 rfl) ?_
    refine va_get (D := (dC, dI)) (ci := 2) (v := .int a_pl) (C := RX2) (T := TX2) (N := 15) hx hb hts uinX2 hown hK hP 11 rfl rfl 0 (by decide) (hts _ wd_1_82) (fun _ h9 => h9) rfl dX6_take_13 ?_
    refine va_put (D := (dC, dI)) (ci := 5) (v := .int a_pl) (ty := .int) (C := RX6) (T := TX6) (N := 5) hx hb hts uinX6 tyX6 tyX6_ok nmX6 hown hK hP hD hS 0 rfl rfl 1 (by decide) (hts _ wd_1_219) (fun _ h9 => h9) rfl (by decide +kernel) rfl rfl (Nat.le_of_ble_eq_true rfl) dX6_take_16 (fun H locs hP hD hS => ?_)
    have hP : va_P (dC, dI) vwCl [(v0, .inr (5, [.ref v_hung, .int a_pl, .int v_kn, .int v_un, .int v_tr])), (v_hung, .inl (cyI, 7, .inl v_f)), (sl0, .inr (7, [.ref sNum, .ref sLen, .ref sWid, .ref sMade])), (sMade, .inl (cyZ, 4, .inl s_fm)), (sLen, .inl (cyI, 4, .inl s_fl)), (sWid, .inl (cyI, 4, .inl s_fw)), (sNum, .inl (cyN, 4, .inr (.inr (.inr (.inr nF))))), (n0, .inl (cyJ, 60, .inr (.inl s_n0))), (n1, .inl (cyJ, 60, .inr (.inl s_n1))), (n2, .inl (cyJ, 60, .inr (.inl s_n2))), (n3, .inl (cyJ, 60, .inr (.inl s_n3))), (h0, .inr (2, [.int a_pl, .int a_li, .int a_le, .int a_lc, .int a_ac, .int a_ng, .ref a_first, .ref a_now, .ref a_lawPlace, .ref a_lawOther, .ref a_lawEach, .ref a_lawFrom, .ref a_foes, .ref a_suitTable, .ref a_acts])), (a_first, .inl (cyI, 7, .inl a_f_first)), (a_now, .inl (cyI, 7, .inl a_f_now)), (a_lawPlace, .inl (cyI, 6, .inl a_f_lawPlace)), (a_lawOther, .inl (cyI, 6, .inl a_f_lawOther)), (a_lawEach, .inl (cyI, 6, .inl a_f_lawEach)), (a_lawFrom, .inl (cyI, 6, .inl a_f_lawFrom)), (a_foes, .inl (cyI, 7, .inl a_f_foes)), (a_suitTable, .inl (cyI, 49, .inl a_f_suitTable)), (a_acts, .inl (cyI, 40, .inl a_f_acts)), (c0, .inr (0, [.ref c_row, .ref c_origins, .ref c_before, .ref c_lawsByNight, hvv, .int cnum])), (c_row, .inl (cyI, 7, .inl c_f_row)), (c_origins, .inl (cyI, 7, .inl c_f_origins)), (c_before, .inl (cyI, 7, .inl c_f_before)), (c_lawsByNight, .inl (cyI, 60, .inl c_f_lawsByNight))] H := hP
    have hD : va_D A [(v0, .inr (5, [.ref v_hung, .int a_pl, .int v_kn, .int v_un, .int v_tr])), (v_hung, .inl (cyI, 7, .inl v_f)), (sl0, .inr (7, [.ref sNum, .ref sLen, .ref sWid, .ref sMade])), (sMade, .inl (cyZ, 4, .inl s_fm)), (sLen, .inl (cyI, 4, .inl s_fl)), (sWid, .inl (cyI, 4, .inl s_fw)), (sNum, .inl (cyN, 4, .inr (.inr (.inr (.inr nF))))), (n0, .inl (cyJ, 60, .inr (.inl s_n0))), (n1, .inl (cyJ, 60, .inr (.inl s_n1))), (n2, .inl (cyJ, 60, .inr (.inl s_n2))), (n3, .inl (cyJ, 60, .inr (.inl s_n3))), (h0, .inr (2, [.int a_pl, .int a_li, .int a_le, .int a_lc, .int a_ac, .int a_ng, .ref a_first, .ref a_now, .ref a_lawPlace, .ref a_lawOther, .ref a_lawEach, .ref a_lawFrom, .ref a_foes, .ref a_suitTable, .ref a_acts])), (a_first, .inl (cyI, 7, .inl a_f_first)), (a_now, .inl (cyI, 7, .inl a_f_now)), (a_lawPlace, .inl (cyI, 6, .inl a_f_lawPlace)), (a_lawOther, .inl (cyI, 6, .inl a_f_lawOther)), (a_lawEach, .inl (cyI, 6, .inl a_f_lawEach)), (a_lawFrom, .inl (cyI, 6, .inl a_f_lawFrom)), (a_foes, .inl (cyI, 7, .inl a_f_foes)), (a_suitTable, .inl (cyI, 49, .inl a_f_suitTable)), (a_acts, .inl (cyI, 40, .inl a_f_acts)), (c0, .inr (0, [.ref c_row, .ref c_origins, .ref c_before, .ref c_lawsByNight, hvv, .int cnum])), (c_row, .inl (cyI, 7, .inl c_f_row)), (c_origins, .inl (cyI, 7, .inl c_f_origins)), (c_before, .inl (cyI, 7, .inl c_f_before)), (c_lawsByNight, .inl (cyI, 60, .inl c_f_lawsByNight))] := hD
    refine lv_aload_n hx hb dX6_take_19 rfl (lv_at hl 0 rfl) ?_
    refine lv_iconst (v := 0) hx hb dX6_take_20 (by decide) ?_
    refine va_put (D := (dC, dI)) (ci := 5) (v := .int 0) (ty := .int) (C := RX6) (T := TX6) (N := 5) hx hb hts uinX6 tyX6 tyX6_ok nmX6 hown hK hP hD hS 0 rfl rfl 2 (by decide) (hts _ wd_1_220) (fun _ h9 => h9) rfl (by decide +kernel) rfl rfl (Nat.le_of_ble_eq_true rfl) dX6_take_21 (fun H locs hP hD hS => ?_)
    have hP : va_P (dC, dI) vwCl [(v0, .inr (5, [.ref v_hung, .int a_pl, .int 0, .int v_un, .int v_tr])), (v_hung, .inl (cyI, 7, .inl v_f)), (sl0, .inr (7, [.ref sNum, .ref sLen, .ref sWid, .ref sMade])), (sMade, .inl (cyZ, 4, .inl s_fm)), (sLen, .inl (cyI, 4, .inl s_fl)), (sWid, .inl (cyI, 4, .inl s_fw)), (sNum, .inl (cyN, 4, .inr (.inr (.inr (.inr nF))))), (n0, .inl (cyJ, 60, .inr (.inl s_n0))), (n1, .inl (cyJ, 60, .inr (.inl s_n1))), (n2, .inl (cyJ, 60, .inr (.inl s_n2))), (n3, .inl (cyJ, 60, .inr (.inl s_n3))), (h0, .inr (2, [.int a_pl, .int a_li, .int a_le, .int a_lc, .int a_ac, .int a_ng, .ref a_first, .ref a_now, .ref a_lawPlace, .ref a_lawOther, .ref a_lawEach, .ref a_lawFrom, .ref a_foes, .ref a_suitTable, .ref a_acts])), (a_first, .inl (cyI, 7, .inl a_f_first)), (a_now, .inl (cyI, 7, .inl a_f_now)), (a_lawPlace, .inl (cyI, 6, .inl a_f_lawPlace)), (a_lawOther, .inl (cyI, 6, .inl a_f_lawOther)), (a_lawEach, .inl (cyI, 6, .inl a_f_lawEach)), (a_lawFrom, .inl (cyI, 6, .inl a_f_lawFrom)), (a_foes, .inl (cyI, 7, .inl a_f_foes)), (a_suitTable, .inl (cyI, 49, .inl a_f_suitTable)), (a_acts, .inl (cyI, 40, .inl a_f_acts)), (c0, .inr (0, [.ref c_row, .ref c_origins, .ref c_before, .ref c_lawsByNight, hvv, .int cnum])), (c_row, .inl (cyI, 7, .inl c_f_row)), (c_origins, .inl (cyI, 7, .inl c_f_origins)), (c_before, .inl (cyI, 7, .inl c_f_before)), (c_lawsByNight, .inl (cyI, 60, .inl c_f_lawsByNight))] H := hP
    have hD : va_D A [(v0, .inr (5, [.ref v_hung, .int a_pl, .int 0, .int v_un, .int v_tr])), (v_hung, .inl (cyI, 7, .inl v_f)), (sl0, .inr (7, [.ref sNum, .ref sLen, .ref sWid, .ref sMade])), (sMade, .inl (cyZ, 4, .inl s_fm)), (sLen, .inl (cyI, 4, .inl s_fl)), (sWid, .inl (cyI, 4, .inl s_fw)), (sNum, .inl (cyN, 4, .inr (.inr (.inr (.inr nF))))), (n0, .inl (cyJ, 60, .inr (.inl s_n0))), (n1, .inl (cyJ, 60, .inr (.inl s_n1))), (n2, .inl (cyJ, 60, .inr (.inl s_n2))), (n3, .inl (cyJ, 60, .inr (.inl s_n3))), (h0, .inr (2, [.int a_pl, .int a_li, .int a_le, .int a_lc, .int a_ac, .int a_ng, .ref a_first, .ref a_now, .ref a_lawPlace, .ref a_lawOther, .ref a_lawEach, .ref a_lawFrom, .ref a_foes, .ref a_suitTable, .ref a_acts])), (a_first, .inl (cyI, 7, .inl a_f_first)), (a_now, .inl (cyI, 7, .inl a_f_now)), (a_lawPlace, .inl (cyI, 6, .inl a_f_lawPlace)), (a_lawOther, .inl (cyI, 6, .inl a_f_lawOther)), (a_lawEach, .inl (cyI, 6, .inl a_f_lawEach)), (a_lawFrom, .inl (cyI, 6, .inl a_f_lawFrom)), (a_foes, .inl (cyI, 7, .inl a_f_foes)), (a_suitTable, .inl (cyI, 49, .inl a_f_suitTable)), (a_acts, .inl (cyI, 40, .inl a_f_acts)), (c0, .inr (0, [.ref c_row, .ref c_origins, .ref c_before, .ref c_lawsByNight, hvv, .int cnum])), (c_row, .inl (cyI, 7, .inl c_f_row)), (c_origins, .inl (cyI, 7, .inl c_f_origins)), (c_before, .inl (cyI, 7, .inl c_f_before)), (c_lawsByNight, .inl (cyI, 60, .inl c_f_lawsByNight))] := hD
    refine lv_aload_n hx hb dX6_take_24 rfl (lv_at hl 0 rfl) ?_
    refine lv_aload_n hx hb dX6_take_25 rfl (lv_at hl 0 rfl) ?_
    refine va_get (D := (dC, dI)) (ci := 5) (v := .int a_pl) (C := RX6) (T := TX6) (N := 5) hx hb hts uinX6 hown hK hP 0 rfl rfl 1 (by decide) (hts _ wd_1_219) (fun _ h9 => h9) rfl dX6_take_26 ?_
    refine va_put (D := (dC, dI)) (ci := 5) (v := .int a_pl) (ty := .int) (C := RX6) (T := TX6) (N := 5) hx hb hts uinX6 tyX6 tyX6_ok nmX6 hown hK hP hD hS 0 rfl rfl 3 (by decide) (hts _ wd_1_221) (fun _ h9 => h9) rfl (by decide +kernel) rfl rfl (Nat.le_of_ble_eq_true rfl) dX6_take_29 (fun H locs hP hD hS => ?_)
    have hP : va_P (dC, dI) vwCl [(v0, .inr (5, [.ref v_hung, .int a_pl, .int 0, .int a_pl, .int v_tr])), (v_hung, .inl (cyI, 7, .inl v_f)), (sl0, .inr (7, [.ref sNum, .ref sLen, .ref sWid, .ref sMade])), (sMade, .inl (cyZ, 4, .inl s_fm)), (sLen, .inl (cyI, 4, .inl s_fl)), (sWid, .inl (cyI, 4, .inl s_fw)), (sNum, .inl (cyN, 4, .inr (.inr (.inr (.inr nF))))), (n0, .inl (cyJ, 60, .inr (.inl s_n0))), (n1, .inl (cyJ, 60, .inr (.inl s_n1))), (n2, .inl (cyJ, 60, .inr (.inl s_n2))), (n3, .inl (cyJ, 60, .inr (.inl s_n3))), (h0, .inr (2, [.int a_pl, .int a_li, .int a_le, .int a_lc, .int a_ac, .int a_ng, .ref a_first, .ref a_now, .ref a_lawPlace, .ref a_lawOther, .ref a_lawEach, .ref a_lawFrom, .ref a_foes, .ref a_suitTable, .ref a_acts])), (a_first, .inl (cyI, 7, .inl a_f_first)), (a_now, .inl (cyI, 7, .inl a_f_now)), (a_lawPlace, .inl (cyI, 6, .inl a_f_lawPlace)), (a_lawOther, .inl (cyI, 6, .inl a_f_lawOther)), (a_lawEach, .inl (cyI, 6, .inl a_f_lawEach)), (a_lawFrom, .inl (cyI, 6, .inl a_f_lawFrom)), (a_foes, .inl (cyI, 7, .inl a_f_foes)), (a_suitTable, .inl (cyI, 49, .inl a_f_suitTable)), (a_acts, .inl (cyI, 40, .inl a_f_acts)), (c0, .inr (0, [.ref c_row, .ref c_origins, .ref c_before, .ref c_lawsByNight, hvv, .int cnum])), (c_row, .inl (cyI, 7, .inl c_f_row)), (c_origins, .inl (cyI, 7, .inl c_f_origins)), (c_before, .inl (cyI, 7, .inl c_f_before)), (c_lawsByNight, .inl (cyI, 60, .inl c_f_lawsByNight))] H := hP
    have hD : va_D A [(v0, .inr (5, [.ref v_hung, .int a_pl, .int 0, .int a_pl, .int v_tr])), (v_hung, .inl (cyI, 7, .inl v_f)), (sl0, .inr (7, [.ref sNum, .ref sLen, .ref sWid, .ref sMade])), (sMade, .inl (cyZ, 4, .inl s_fm)), (sLen, .inl (cyI, 4, .inl s_fl)), (sWid, .inl (cyI, 4, .inl s_fw)), (sNum, .inl (cyN, 4, .inr (.inr (.inr (.inr nF))))), (n0, .inl (cyJ, 60, .inr (.inl s_n0))), (n1, .inl (cyJ, 60, .inr (.inl s_n1))), (n2, .inl (cyJ, 60, .inr (.inl s_n2))), (n3, .inl (cyJ, 60, .inr (.inl s_n3))), (h0, .inr (2, [.int a_pl, .int a_li, .int a_le, .int a_lc, .int a_ac, .int a_ng, .ref a_first, .ref a_now, .ref a_lawPlace, .ref a_lawOther, .ref a_lawEach, .ref a_lawFrom, .ref a_foes, .ref a_suitTable, .ref a_acts])), (a_first, .inl (cyI, 7, .inl a_f_first)), (a_now, .inl (cyI, 7, .inl a_f_now)), (a_lawPlace, .inl (cyI, 6, .inl a_f_lawPlace)), (a_lawOther, .inl (cyI, 6, .inl a_f_lawOther)), (a_lawEach, .inl (cyI, 6, .inl a_f_lawEach)), (a_lawFrom, .inl (cyI, 6, .inl a_f_lawFrom)), (a_foes, .inl (cyI, 7, .inl a_f_foes)), (a_suitTable, .inl (cyI, 49, .inl a_f_suitTable)), (a_acts, .inl (cyI, 40, .inl a_f_acts)), (c0, .inr (0, [.ref c_row, .ref c_origins, .ref c_before, .ref c_lawsByNight, hvv, .int cnum])), (c_row, .inl (cyI, 7, .inl c_f_row)), (c_origins, .inl (cyI, 7, .inl c_f_origins)), (c_before, .inl (cyI, 7, .inl c_f_before)), (c_lawsByNight, .inl (cyI, 60, .inl c_f_lawsByNight))] := hD
    refine lv_aload_n hx hb dX6_take_32 rfl (lv_at hl 0 rfl) ?_
    refine lv_iconst (v := 1) hx hb dX6_take_33 (by decide) ?_
    refine va_put (D := (dC, dI)) (ci := 5) (v := .int 1) (ty := .boolean) (C := RX6) (T := TX6) (N := 5) hx hb hts uinX6 tyX6 tyX6_ok nmX6 hown hK hP hD hS 0 rfl rfl 4 (by decide) (hts _ wd_1_222) (fun _ h9 => h9) rfl (by decide +kernel) rfl rfl (Nat.le_of_ble_eq_true rfl) dX6_take_34 (fun H locs hP hD hS => ?_)
    have hP : va_P (dC, dI) vwCl [(v0, .inr (5, [.ref v_hung, .int a_pl, .int 0, .int a_pl, .int 1])), (v_hung, .inl (cyI, 7, .inl v_f)), (sl0, .inr (7, [.ref sNum, .ref sLen, .ref sWid, .ref sMade])), (sMade, .inl (cyZ, 4, .inl s_fm)), (sLen, .inl (cyI, 4, .inl s_fl)), (sWid, .inl (cyI, 4, .inl s_fw)), (sNum, .inl (cyN, 4, .inr (.inr (.inr (.inr nF))))), (n0, .inl (cyJ, 60, .inr (.inl s_n0))), (n1, .inl (cyJ, 60, .inr (.inl s_n1))), (n2, .inl (cyJ, 60, .inr (.inl s_n2))), (n3, .inl (cyJ, 60, .inr (.inl s_n3))), (h0, .inr (2, [.int a_pl, .int a_li, .int a_le, .int a_lc, .int a_ac, .int a_ng, .ref a_first, .ref a_now, .ref a_lawPlace, .ref a_lawOther, .ref a_lawEach, .ref a_lawFrom, .ref a_foes, .ref a_suitTable, .ref a_acts])), (a_first, .inl (cyI, 7, .inl a_f_first)), (a_now, .inl (cyI, 7, .inl a_f_now)), (a_lawPlace, .inl (cyI, 6, .inl a_f_lawPlace)), (a_lawOther, .inl (cyI, 6, .inl a_f_lawOther)), (a_lawEach, .inl (cyI, 6, .inl a_f_lawEach)), (a_lawFrom, .inl (cyI, 6, .inl a_f_lawFrom)), (a_foes, .inl (cyI, 7, .inl a_f_foes)), (a_suitTable, .inl (cyI, 49, .inl a_f_suitTable)), (a_acts, .inl (cyI, 40, .inl a_f_acts)), (c0, .inr (0, [.ref c_row, .ref c_origins, .ref c_before, .ref c_lawsByNight, hvv, .int cnum])), (c_row, .inl (cyI, 7, .inl c_f_row)), (c_origins, .inl (cyI, 7, .inl c_f_origins)), (c_before, .inl (cyI, 7, .inl c_f_before)), (c_lawsByNight, .inl (cyI, 60, .inl c_f_lawsByNight))] H := hP
    have hD : va_D A [(v0, .inr (5, [.ref v_hung, .int a_pl, .int 0, .int a_pl, .int 1])), (v_hung, .inl (cyI, 7, .inl v_f)), (sl0, .inr (7, [.ref sNum, .ref sLen, .ref sWid, .ref sMade])), (sMade, .inl (cyZ, 4, .inl s_fm)), (sLen, .inl (cyI, 4, .inl s_fl)), (sWid, .inl (cyI, 4, .inl s_fw)), (sNum, .inl (cyN, 4, .inr (.inr (.inr (.inr nF))))), (n0, .inl (cyJ, 60, .inr (.inl s_n0))), (n1, .inl (cyJ, 60, .inr (.inl s_n1))), (n2, .inl (cyJ, 60, .inr (.inl s_n2))), (n3, .inl (cyJ, 60, .inr (.inl s_n3))), (h0, .inr (2, [.int a_pl, .int a_li, .int a_le, .int a_lc, .int a_ac, .int a_ng, .ref a_first, .ref a_now, .ref a_lawPlace, .ref a_lawOther, .ref a_lawEach, .ref a_lawFrom, .ref a_foes, .ref a_suitTable, .ref a_acts])), (a_first, .inl (cyI, 7, .inl a_f_first)), (a_now, .inl (cyI, 7, .inl a_f_now)), (a_lawPlace, .inl (cyI, 6, .inl a_f_lawPlace)), (a_lawOther, .inl (cyI, 6, .inl a_f_lawOther)), (a_lawEach, .inl (cyI, 6, .inl a_f_lawEach)), (a_lawFrom, .inl (cyI, 6, .inl a_f_lawFrom)), (a_foes, .inl (cyI, 7, .inl a_f_foes)), (a_suitTable, .inl (cyI, 49, .inl a_f_suitTable)), (a_acts, .inl (cyI, 40, .inl a_f_acts)), (c0, .inr (0, [.ref c_row, .ref c_origins, .ref c_before, .ref c_lawsByNight, hvv, .int cnum])), (c_row, .inl (cyI, 7, .inl c_f_row)), (c_origins, .inl (cyI, 7, .inl c_f_origins)), (c_before, .inl (cyI, 7, .inl c_f_before)), (c_lawsByNight, .inl (cyI, 60, .inl c_f_lawsByNight))] := hD
    refine lv_aload_n hx hb dX6_take_37 rfl (lv_at hl 0 rfl) ?_
    refine va_get (D := (dC, dI)) (ci := 5) (v := .ref v_hung) (C := RX6) (T := TX6) (N := 5) hx hb hts uinX6 hown hK hP 0 rfl rfl 0 (by decide) (hts _ wd_1_218) (fun _ h9 => h9) rfl dX6_take_38 ?_
    refine lv_iconst (v := (-1)) hx hb dX6_take_41 (by decide) ?_
    have hPc := hP.sub (ws' := [(v_hung, .inl (cyI, 7, .inl v_f))]) [1] rfl
    have hKc := hK.sub (tys' := [(cyI, .int), (cyB, .byte), (cyJ, .long), (cyZ, .boolean), (cyH, .object RX2), (cyN, .array .long)]) [0, 1, 2, 3, 4, 5] rfl
    have hDc := hD.sub (ws' := [(v_hung, .inl (cyI, 7, .inl v_f))]) [1] (by decide) rfl
    have hFc := va_free (wc := [(v_hung, .inl (cyI, 7, .inl v_f))]) hD hS hA [1] rfl
    refine va_callv (va_runS (As := [.ref v_hung, .int (-1)]) (rest := []) ⟨hx, hb, hml, hown, hts⟩ (n_fillNone l dC dI cyI cyB cyJ cyZ cyH cyN H.size v_hung v_f) (va_cwS 2 hts (gdS wd_4_185 wd_2_140 wd_1_12 wd_2_141) rfl rfl rfl (by decide +kernel) ⟨Nat.le_of_ble_eq_true rfl, Nat.le_of_ble_eq_true rfl⟩) ⟨fun a U g mk q => by obtain ⟨q0, q1, qP, qK, qD⟩ := q; exact ⟨q0, q1, qP, va_K.moved (u := U) (U := U.calling g mk a) (Vm.Alike.refl U.vm) qK, qD⟩, fun U hU hW => ⟨rfl, by rw [hU], by rw [hU]; exact hPc, va_K.moved hW.alike hKc, hDc.weaken (fun _ _ _ _ => trivial)⟩⟩ rfl rfl hl.1 rfl (lv_room (Nat.le_of_ble_eq_true rfl)) dX6_take_42 ⟨Nat.le_of_ble_eq_true rfl, Nat.le_of_ble_eq_true rfl⟩) hS (fun q _ h => hFc q h) hFc (fun  u t H1 locs ht hvm hw hB hz1 hk1 hS => ?_)
    obtain ⟨y0_6, hp_7, hP1, hD1⟩ := hB
    rw [ht] at hP1
    obtain ⟨hP, hD⟩ := va_join (wr := [(v0, .inr (5, [.ref v_hung, .int a_pl, .int 0, .int a_pl, .int 1])), (sl0, .inr (7, [.ref sNum, .ref sLen, .ref sWid, .ref sMade])), (sMade, .inl (cyZ, 4, .inl s_fm)), (sLen, .inl (cyI, 4, .inl s_fl)), (sWid, .inl (cyI, 4, .inl s_fw)), (sNum, .inl (cyN, 4, .inr (.inr (.inr (.inr nF))))), (n0, .inl (cyJ, 60, .inr (.inl s_n0))), (n1, .inl (cyJ, 60, .inr (.inl s_n1))), (n2, .inl (cyJ, 60, .inr (.inl s_n2))), (n3, .inl (cyJ, 60, .inr (.inl s_n3))), (h0, .inr (2, [.int a_pl, .int a_li, .int a_le, .int a_lc, .int a_ac, .int a_ng, .ref a_first, .ref a_now, .ref a_lawPlace, .ref a_lawOther, .ref a_lawEach, .ref a_lawFrom, .ref a_foes, .ref a_suitTable, .ref a_acts])), (a_first, .inl (cyI, 7, .inl a_f_first)), (a_now, .inl (cyI, 7, .inl a_f_now)), (a_lawPlace, .inl (cyI, 6, .inl a_f_lawPlace)), (a_lawOther, .inl (cyI, 6, .inl a_f_lawOther)), (a_lawEach, .inl (cyI, 6, .inl a_f_lawEach)), (a_lawFrom, .inl (cyI, 6, .inl a_f_lawFrom)), (a_foes, .inl (cyI, 7, .inl a_f_foes)), (a_suitTable, .inl (cyI, 49, .inl a_f_suitTable)), (a_acts, .inl (cyI, 40, .inl a_f_acts)), (c0, .inr (0, [.ref c_row, .ref c_origins, .ref c_before, .ref c_lawsByNight, hvv, .int cnum])), (c_row, .inl (cyI, 7, .inl c_f_row)), (c_origins, .inl (cyI, 7, .inl c_f_origins)), (c_before, .inl (cyI, 7, .inl c_f_before)), (c_lawsByNight, .inl (cyI, 60, .inl c_f_lawsByNight))]) (w1 := [(v_hung, .inl (cyI, 7, .inl y0_6))]) hP hD [1] [0, 2, 3, 4, 5, 6, 7, 8, 9, 10, 11, 12, 13, 14, 15, 16, 17, 18, 19, 20, 21, 22, 23, 24, 25] rfl rfl (by decide) (by decide) hk1 hFc hP1 hD1
    generalize H1 = H at hP hS ⊢
    have hP : va_P (dC, dI) vwCl [(v0, .inr (5, [.ref v_hung, .int a_pl, .int 0, .int a_pl, .int 1])), (sl0, .inr (7, [.ref sNum, .ref sLen, .ref sWid, .ref sMade])), (sMade, .inl (cyZ, 4, .inl s_fm)), (sLen, .inl (cyI, 4, .inl s_fl)), (sWid, .inl (cyI, 4, .inl s_fw)), (sNum, .inl (cyN, 4, .inr (.inr (.inr (.inr nF))))), (n0, .inl (cyJ, 60, .inr (.inl s_n0))), (n1, .inl (cyJ, 60, .inr (.inl s_n1))), (n2, .inl (cyJ, 60, .inr (.inl s_n2))), (n3, .inl (cyJ, 60, .inr (.inl s_n3))), (h0, .inr (2, [.int a_pl, .int a_li, .int a_le, .int a_lc, .int a_ac, .int a_ng, .ref a_first, .ref a_now, .ref a_lawPlace, .ref a_lawOther, .ref a_lawEach, .ref a_lawFrom, .ref a_foes, .ref a_suitTable, .ref a_acts])), (a_first, .inl (cyI, 7, .inl a_f_first)), (a_now, .inl (cyI, 7, .inl a_f_now)), (a_lawPlace, .inl (cyI, 6, .inl a_f_lawPlace)), (a_lawOther, .inl (cyI, 6, .inl a_f_lawOther)), (a_lawEach, .inl (cyI, 6, .inl a_f_lawEach)), (a_lawFrom, .inl (cyI, 6, .inl a_f_lawFrom)), (a_foes, .inl (cyI, 7, .inl a_f_foes)), (a_suitTable, .inl (cyI, 49, .inl a_f_suitTable)), (a_acts, .inl (cyI, 40, .inl a_f_acts)), (c0, .inr (0, [.ref c_row, .ref c_origins, .ref c_before, .ref c_lawsByNight, hvv, .int cnum])), (c_row, .inl (cyI, 7, .inl c_f_row)), (c_origins, .inl (cyI, 7, .inl c_f_origins)), (c_before, .inl (cyI, 7, .inl c_f_before)), (c_lawsByNight, .inl (cyI, 60, .inl c_f_lawsByNight)), (v_hung, .inl (cyI, 7, .inl y0_6))] H := hP
    have hD : va_D A [(v0, .inr (5, [.ref v_hung, .int a_pl, .int 0, .int a_pl, .int 1])), (sl0, .inr (7, [.ref sNum, .ref sLen, .ref sWid, .ref sMade])), (sMade, .inl (cyZ, 4, .inl s_fm)), (sLen, .inl (cyI, 4, .inl s_fl)), (sWid, .inl (cyI, 4, .inl s_fw)), (sNum, .inl (cyN, 4, .inr (.inr (.inr (.inr nF))))), (n0, .inl (cyJ, 60, .inr (.inl s_n0))), (n1, .inl (cyJ, 60, .inr (.inl s_n1))), (n2, .inl (cyJ, 60, .inr (.inl s_n2))), (n3, .inl (cyJ, 60, .inr (.inl s_n3))), (h0, .inr (2, [.int a_pl, .int a_li, .int a_le, .int a_lc, .int a_ac, .int a_ng, .ref a_first, .ref a_now, .ref a_lawPlace, .ref a_lawOther, .ref a_lawEach, .ref a_lawFrom, .ref a_foes, .ref a_suitTable, .ref a_acts])), (a_first, .inl (cyI, 7, .inl a_f_first)), (a_now, .inl (cyI, 7, .inl a_f_now)), (a_lawPlace, .inl (cyI, 6, .inl a_f_lawPlace)), (a_lawOther, .inl (cyI, 6, .inl a_f_lawOther)), (a_lawEach, .inl (cyI, 6, .inl a_f_lawEach)), (a_lawFrom, .inl (cyI, 6, .inl a_f_lawFrom)), (a_foes, .inl (cyI, 7, .inl a_f_foes)), (a_suitTable, .inl (cyI, 49, .inl a_f_suitTable)), (a_acts, .inl (cyI, 40, .inl a_f_acts)), (c0, .inr (0, [.ref c_row, .ref c_origins, .ref c_before, .ref c_lawsByNight, hvv, .int cnum])), (c_row, .inl (cyI, 7, .inl c_f_row)), (c_origins, .inl (cyI, 7, .inl c_f_origins)), (c_before, .inl (cyI, 7, .inl c_f_before)), (c_lawsByNight, .inl (cyI, 60, .inl c_f_lawsByNight)), (v_hung, .inl (cyI, 7, .inl y0_6))] := hD
    have hP := hP.sub (ws' := [(v0, .inr (5, [.ref v_hung, .int a_pl, .int 0, .int a_pl, .int 1])), (v_hung, .inl (cyI, 7, .inl y0_6)), (sl0, .inr (7, [.ref sNum, .ref sLen, .ref sWid, .ref sMade])), (sMade, .inl (cyZ, 4, .inl s_fm)), (sLen, .inl (cyI, 4, .inl s_fl)), (sWid, .inl (cyI, 4, .inl s_fw)), (sNum, .inl (cyN, 4, .inr (.inr (.inr (.inr nF))))), (n0, .inl (cyJ, 60, .inr (.inl s_n0))), (n1, .inl (cyJ, 60, .inr (.inl s_n1))), (n2, .inl (cyJ, 60, .inr (.inl s_n2))), (n3, .inl (cyJ, 60, .inr (.inl s_n3))), (h0, .inr (2, [.int a_pl, .int a_li, .int a_le, .int a_lc, .int a_ac, .int a_ng, .ref a_first, .ref a_now, .ref a_lawPlace, .ref a_lawOther, .ref a_lawEach, .ref a_lawFrom, .ref a_foes, .ref a_suitTable, .ref a_acts])), (a_first, .inl (cyI, 7, .inl a_f_first)), (a_now, .inl (cyI, 7, .inl a_f_now)), (a_lawPlace, .inl (cyI, 6, .inl a_f_lawPlace)), (a_lawOther, .inl (cyI, 6, .inl a_f_lawOther)), (a_lawEach, .inl (cyI, 6, .inl a_f_lawEach)), (a_lawFrom, .inl (cyI, 6, .inl a_f_lawFrom)), (a_foes, .inl (cyI, 7, .inl a_f_foes)), (a_suitTable, .inl (cyI, 49, .inl a_f_suitTable)), (a_acts, .inl (cyI, 40, .inl a_f_acts)), (c0, .inr (0, [.ref c_row, .ref c_origins, .ref c_before, .ref c_lawsByNight, hvv, .int cnum])), (c_row, .inl (cyI, 7, .inl c_f_row)), (c_origins, .inl (cyI, 7, .inl c_f_origins)), (c_before, .inl (cyI, 7, .inl c_f_before)), (c_lawsByNight, .inl (cyI, 60, .inl c_f_lawsByNight))]) [0, 25, 1, 2, 3, 4, 5, 6, 7, 8, 9, 10, 11, 12, 13, 14, 15, 16, 17, 18, 19, 20, 21, 22, 23, 24] rfl
    have hD := hD.sub (ws' := [(v0, .inr (5, [.ref v_hung, .int a_pl, .int 0, .int a_pl, .int 1])), (v_hung, .inl (cyI, 7, .inl y0_6)), (sl0, .inr (7, [.ref sNum, .ref sLen, .ref sWid, .ref sMade])), (sMade, .inl (cyZ, 4, .inl s_fm)), (sLen, .inl (cyI, 4, .inl s_fl)), (sWid, .inl (cyI, 4, .inl s_fw)), (sNum, .inl (cyN, 4, .inr (.inr (.inr (.inr nF))))), (n0, .inl (cyJ, 60, .inr (.inl s_n0))), (n1, .inl (cyJ, 60, .inr (.inl s_n1))), (n2, .inl (cyJ, 60, .inr (.inl s_n2))), (n3, .inl (cyJ, 60, .inr (.inl s_n3))), (h0, .inr (2, [.int a_pl, .int a_li, .int a_le, .int a_lc, .int a_ac, .int a_ng, .ref a_first, .ref a_now, .ref a_lawPlace, .ref a_lawOther, .ref a_lawEach, .ref a_lawFrom, .ref a_foes, .ref a_suitTable, .ref a_acts])), (a_first, .inl (cyI, 7, .inl a_f_first)), (a_now, .inl (cyI, 7, .inl a_f_now)), (a_lawPlace, .inl (cyI, 6, .inl a_f_lawPlace)), (a_lawOther, .inl (cyI, 6, .inl a_f_lawOther)), (a_lawEach, .inl (cyI, 6, .inl a_f_lawEach)), (a_lawFrom, .inl (cyI, 6, .inl a_f_lawFrom)), (a_foes, .inl (cyI, 7, .inl a_f_foes)), (a_suitTable, .inl (cyI, 49, .inl a_f_suitTable)), (a_acts, .inl (cyI, 40, .inl a_f_acts)), (c0, .inr (0, [.ref c_row, .ref c_origins, .ref c_before, .ref c_lawsByNight, hvv, .int cnum])), (c_row, .inl (cyI, 7, .inl c_f_row)), (c_origins, .inl (cyI, 7, .inl c_f_origins)), (c_before, .inl (cyI, 7, .inl c_f_before)), (c_lawsByNight, .inl (cyI, 60, .inl c_f_lawsByNight))]) [0, 25, 1, 2, 3, 4, 5, 6, 7, 8, 9, 10, 11, 12, 13, 14, 15, 16, 17, 18, 19, 20, 21, 22, 23, 24] (by decide) rfl
    refine lv_aload_n hx hb dX6_take_45 rfl (lv_at hl 2 rfl) ?_
    refine va_get (D := (dC, dI)) (ci := 7) (v := .ref sNum) (C := RX8) (T := TX8) (N := 4) hx hb hts uinX8 hown hK hP 2 rfl rfl 0 (by decide) (hts _ wd_1_166) (fun _ h9 => h9) rfl dX6_take_46 ?_
    refine lv_iload_n hx hb dX6_take_49 rfl (lv_at hl 3 rfl) ?_
    refine cv_aldA hx hb hK hP 6 5 rfl rfl (vp_in_iff.mpr (by decide)) dX6_take_50 ?_
    refine cv_topr (b := .ref n2) (by rw [show (2 : Int32).toNatClampNeg = 2 from rfl, g20]; rfl) ?_
    refine lv_astore (lv' := [(5, .ref n2), (0, .ref v0), (1, .ref h0), (2, .ref sl0), (3, .int 2), (4, .ref c0)]) hx hb dX6_take_51 hl (by decide) rfl (fun ls hl => ?_)
    refine lv_iconst (v := 0) hx hb dX6_take_53 (by decide) ?_
    refine lv_istore (lv' := [(6, .int 0), (5, .ref n2), (0, .ref v0), (1, .ref h0), (2, .ref sl0), (3, .int 2), (4, .ref c0)]) hx hb dX6_take_54 hl (by decide) rfl (fun ls hl => ?_)
    have key_19 : ∀ (nkey_19 : Nat) (u_8 : Int32) (w_9 : Int32) (w_10 : Int32) (w_11 : Int32) (f_12 : Nat → Int32) (w_13 : Value) (w_14 : Int32) (f_15 : Nat → Int32) (f_16 : Nat → Int32) (f_17 : Nat → Int32) (f_18 : Nat → Int32) (H : Heap) (locs : List Loc) (ls : Array Slot), (0 ≤ u_8.toInt ∧ u_8.toInt ≤ 63) → (0 ≤ w_9.toInt ∧ w_9.toInt ≤ 127) → ((-1) ≤ w_10.toInt ∧ w_10.toInt ≤ 7) → (0 ≤ w_11.toInt ∧ w_11.toInt ≤ 1) → rg (-1) 6 7 f_12 → rg 0 6 7 f_15 → rg 0 6 7 f_16 → rg 0 6 7 f_17 → (u_8.toInt % 3 = 0) → (w_10.toInt = a_pl.toInt - cb w_9 a_pl.toInt.toNat) → va_P (dC, dI) vwCl [(v0, .inr (5, [.ref v_hung, .int a_pl, .int w_9, .int w_10, .int w_11])), (v_hung, .inl (cyI, 7, .inl f_12)), (sl0, .inr (7, [.ref sNum, .ref sLen, .ref sWid, .ref sMade])), (sMade, .inl (cyZ, 4, .inl s_fm)), (sLen, .inl (cyI, 4, .inl s_fl)), (sWid, .inl (cyI, 4, .inl s_fw)), (sNum, .inl (cyN, 4, .inr (.inr (.inr (.inr nF))))), (n0, .inl (cyJ, 60, .inr (.inl s_n0))), (n1, .inl (cyJ, 60, .inr (.inl s_n1))), (n2, .inl (cyJ, 60, .inr (.inl s_n2))), (n3, .inl (cyJ, 60, .inr (.inl s_n3))), (h0, .inr (2, [.int a_pl, .int a_li, .int a_le, .int a_lc, .int a_ac, .int a_ng, .ref a_first, .ref a_now, .ref a_lawPlace, .ref a_lawOther, .ref a_lawEach, .ref a_lawFrom, .ref a_foes, .ref a_suitTable, .ref a_acts])), (a_first, .inl (cyI, 7, .inl a_f_first)), (a_now, .inl (cyI, 7, .inl a_f_now)), (a_lawPlace, .inl (cyI, 6, .inl a_f_lawPlace)), (a_lawOther, .inl (cyI, 6, .inl a_f_lawOther)), (a_lawEach, .inl (cyI, 6, .inl a_f_lawEach)), (a_lawFrom, .inl (cyI, 6, .inl a_f_lawFrom)), (a_foes, .inl (cyI, 7, .inl a_f_foes)), (a_suitTable, .inl (cyI, 49, .inl a_f_suitTable)), (a_acts, .inl (cyI, 40, .inl a_f_acts)), (c0, .inr (0, [.ref c_row, .ref c_origins, .ref c_before, .ref c_lawsByNight, w_13, .int w_14])), (c_row, .inl (cyI, 7, .inl f_15)), (c_origins, .inl (cyI, 7, .inl f_16)), (c_before, .inl (cyI, 7, .inl f_17)), (c_lawsByNight, .inl (cyI, 60, .inl f_18))] H → va_D A [(v0, .inr (5, [.ref v_hung, .int a_pl, .int w_9, .int w_10, .int w_11])), (v_hung, .inl (cyI, 7, .inl f_12)), (sl0, .inr (7, [.ref sNum, .ref sLen, .ref sWid, .ref sMade])), (sMade, .inl (cyZ, 4, .inl s_fm)), (sLen, .inl (cyI, 4, .inl s_fl)), (sWid, .inl (cyI, 4, .inl s_fw)), (sNum, .inl (cyN, 4, .inr (.inr (.inr (.inr nF))))), (n0, .inl (cyJ, 60, .inr (.inl s_n0))), (n1, .inl (cyJ, 60, .inr (.inl s_n1))), (n2, .inl (cyJ, 60, .inr (.inl s_n2))), (n3, .inl (cyJ, 60, .inr (.inl s_n3))), (h0, .inr (2, [.int a_pl, .int a_li, .int a_le, .int a_lc, .int a_ac, .int a_ng, .ref a_first, .ref a_now, .ref a_lawPlace, .ref a_lawOther, .ref a_lawEach, .ref a_lawFrom, .ref a_foes, .ref a_suitTable, .ref a_acts])), (a_first, .inl (cyI, 7, .inl a_f_first)), (a_now, .inl (cyI, 7, .inl a_f_now)), (a_lawPlace, .inl (cyI, 6, .inl a_f_lawPlace)), (a_lawOther, .inl (cyI, 6, .inl a_f_lawOther)), (a_lawEach, .inl (cyI, 6, .inl a_f_lawEach)), (a_lawFrom, .inl (cyI, 6, .inl a_f_lawFrom)), (a_foes, .inl (cyI, 7, .inl a_f_foes)), (a_suitTable, .inl (cyI, 49, .inl a_f_suitTable)), (a_acts, .inl (cyI, 40, .inl a_f_acts)), (c0, .inr (0, [.ref c_row, .ref c_origins, .ref c_before, .ref c_lawsByNight, w_13, .int w_14])), (c_row, .inl (cyI, 7, .inl f_15)), (c_origins, .inl (cyI, 7, .inl f_16)), (c_before, .inl (cyI, 7, .inl f_17)), (c_lawsByNight, .inl (cyI, 60, .inl f_18))] → va_S A s.heap H locs → lv_has ls 7 [(6, .int u_8), (5, .ref n2), (0, .ref v0), (1, .ref h0), (2, .ref sl0), (3, .int 2), (4, .ref c0)] → (60 - u_8.toInt).toNat < nkey_19 → W p l e ({ frames := 5, cells := 0, slots := 0, locals := 150 }) s m ([.ref v0, .ref h0, .ref sl0, .int 2, .ref c0] : List Value).toArray below meth c H locs 0 0 Q9 (F0 m 56 ls []) := by
      intro nkey_19
      induction nkey_19 with
      | zero => intro u_8 w_9 w_10 w_11 f_12 w_13 w_14 f_15 f_16 f_17 f_18 H locs ls hu_8 hw_9 hw_10 hw_11 hf_12 hf_15 hf_16 hf_17 hm9 hun8 hP hD hS hl hnkey_19; exact absurd hnkey_19 (Nat.not_lt_zero _)
      | succ nkey_19 ihkey_19 =>
        intro u_8 w_9 w_10 w_11 f_12 w_13 w_14 f_15 f_16 f_17 f_18 H locs ls hu_8 hw_9 hw_10 hw_11 hf_12 hf_15 hf_16 hf_17 hm9 hun8 hP hD hS hl hnkey_19
        refine lv_iload hx hb dX6_take_56 (lv_at hl 0 rfl) ?_
        refine lv_aload_n hx hb dX6_take_58 rfl (lv_at hl 4 rfl) ?_
        refine va_get (D := (dC, dI)) (ci := 7) (v := .ref sLen) (C := RX8) (T := TX8) (N := 4) hx hb hts uinX8 hown hK hP 2 rfl rfl 1 (by decide) (hts _ wd_1_169) (fun _ h9 => h9) rfl dX6_take_59 ?_
        refine lv_iload_n hx hb dX6_take_62 rfl (lv_at hl 5 rfl) ?_
        refine va_iald hx hb hK hP 4 0 rfl rfl (vp_in_iff.mpr (by decide)) dX6_take_63 ?_
        refine lv_topi (fun x_20 ex_20 => ?_)
        have qx_20 : x_20.toInt = (s_fl 2).toInt := by rw [ex_20]; rfl
        have fx_20 : 0 ≤ x_20.toInt ∧ x_20.toInt ≤ 60 := by rw [ex_20]; exact g2 _ (cv_ix (by decide) (by decide))
        refine lv_icmp_ge (tgt := 116) hx hb dX6_take_64 (by decide) (fun c_21 => ?_) (fun c_21 => ?_)
        · have c_21 : x_20.toInt ≤ u_8.toInt := cv_le c_21
          refine lv_iconst (v := 1) hx hb dX6_take_116 (by decide) ?_
          rw [hQ9]
          have hP9 := hP.sub (ws' := [(v0, .inr (5, [.ref v_hung, .int a_pl, .int w_9, .int w_10, .int w_11])), (v_hung, .inl (cyI, 7, .inl f_12)), (sl0, .inr (7, [.ref sNum, .ref sLen, .ref sWid, .ref sMade])), (sMade, .inl (cyZ, 4, .inl s_fm)), (sLen, .inl (cyI, 4, .inl s_fl)), (sWid, .inl (cyI, 4, .inl s_fw)), (sNum, .inl (cyN, 4, .inr (.inr (.inr (.inr nF))))), (n0, .inl (cyJ, 60, .inr (.inl s_n0))), (n1, .inl (cyJ, 60, .inr (.inl s_n1))), (n2, .inl (cyJ, 60, .inr (.inl s_n2))), (n3, .inl (cyJ, 60, .inr (.inl s_n3))), (h0, .inr (2, [.int a_pl, .int a_li, .int a_le, .int a_lc, .int a_ac, .int a_ng, .ref a_first, .ref a_now, .ref a_lawPlace, .ref a_lawOther, .ref a_lawEach, .ref a_lawFrom, .ref a_foes, .ref a_suitTable, .ref a_acts])), (a_first, .inl (cyI, 7, .inl a_f_first)), (a_now, .inl (cyI, 7, .inl a_f_now)), (a_lawPlace, .inl (cyI, 6, .inl a_f_lawPlace)), (a_lawOther, .inl (cyI, 6, .inl a_f_lawOther)), (a_lawEach, .inl (cyI, 6, .inl a_f_lawEach)), (a_lawFrom, .inl (cyI, 6, .inl a_f_lawFrom)), (a_foes, .inl (cyI, 7, .inl a_f_foes)), (a_suitTable, .inl (cyI, 49, .inl a_f_suitTable)), (a_acts, .inl (cyI, 40, .inl a_f_acts)), (c0, .inr (0, [.ref c_row, .ref c_origins, .ref c_before, .ref c_lawsByNight, w_13, .int w_14])), (c_row, .inl (cyI, 7, .inl f_15)), (c_origins, .inl (cyI, 7, .inl f_16)), (c_before, .inl (cyI, 7, .inl f_17)), (c_lawsByNight, .inl (cyI, 60, .inl f_18))]) [0, 1, 2, 3, 4, 5, 6, 7, 8, 9, 10, 11, 12, 13, 14, 15, 16, 17, 18, 19, 20, 21, 22, 23, 24, 25] rfl
          have hD9 := hD.sub (ws' := [(v0, .inr (5, [.ref v_hung, .int a_pl, .int w_9, .int w_10, .int w_11])), (v_hung, .inl (cyI, 7, .inl f_12)), (sl0, .inr (7, [.ref sNum, .ref sLen, .ref sWid, .ref sMade])), (sMade, .inl (cyZ, 4, .inl s_fm)), (sLen, .inl (cyI, 4, .inl s_fl)), (sWid, .inl (cyI, 4, .inl s_fw)), (sNum, .inl (cyN, 4, .inr (.inr (.inr (.inr nF))))), (n0, .inl (cyJ, 60, .inr (.inl s_n0))), (n1, .inl (cyJ, 60, .inr (.inl s_n1))), (n2, .inl (cyJ, 60, .inr (.inl s_n2))), (n3, .inl (cyJ, 60, .inr (.inl s_n3))), (h0, .inr (2, [.int a_pl, .int a_li, .int a_le, .int a_lc, .int a_ac, .int a_ng, .ref a_first, .ref a_now, .ref a_lawPlace, .ref a_lawOther, .ref a_lawEach, .ref a_lawFrom, .ref a_foes, .ref a_suitTable, .ref a_acts])), (a_first, .inl (cyI, 7, .inl a_f_first)), (a_now, .inl (cyI, 7, .inl a_f_now)), (a_lawPlace, .inl (cyI, 6, .inl a_f_lawPlace)), (a_lawOther, .inl (cyI, 6, .inl a_f_lawOther)), (a_lawEach, .inl (cyI, 6, .inl a_f_lawEach)), (a_lawFrom, .inl (cyI, 6, .inl a_f_lawFrom)), (a_foes, .inl (cyI, 7, .inl a_f_foes)), (a_suitTable, .inl (cyI, 49, .inl a_f_suitTable)), (a_acts, .inl (cyI, 40, .inl a_f_acts)), (c0, .inr (0, [.ref c_row, .ref c_origins, .ref c_before, .ref c_lawsByNight, w_13, .int w_14])), (c_row, .inl (cyI, 7, .inl f_15)), (c_origins, .inl (cyI, 7, .inl f_16)), (c_before, .inl (cyI, 7, .inl f_17)), (c_lawsByNight, .inl (cyI, 60, .inl f_18))]) [0, 1, 2, 3, 4, 5, 6, 7, 8, 9, 10, 11, 12, 13, 14, 15, 16, 17, 18, 19, 20, 21, 22, 23, 24, 25] (by decide) rfl
          exact W.zret (v := 1) (ty := .boolean) hx hb hr rfl (fun t ht hW => ⟨⟨1, (), rfl, (by decide), ⟨a_pl, w_9, w_10, w_11, f_12, w_13, w_14, f_15, f_16, f_17, f_18, (by omega), (by omega), (by omega), hf_12, hf_15, hf_16, hf_17, hun8, by rw [ht]; exact hP9, hD9⟩⟩, hS.F ht⟩) hS.2.2 dX6_take_117
        · have c_21 : u_8.toInt < x_20.toInt := cv_nle c_21
          refine lv_aload hx hb dX6_take_67 (lv_at hl 6 rfl) ?_
          refine lv_aload_n hx hb dX6_take_69 rfl (lv_at hl 3 rfl) ?_
          have hPc := hP.sub (ws' := [(c0, .inr (0, [.ref c_row, .ref c_origins, .ref c_before, .ref c_lawsByNight, w_13, .int w_14])), (c_row, .inl (cyI, 7, .inl f_15)), (c_origins, .inl (cyI, 7, .inl f_16)), (c_before, .inl (cyI, 7, .inl f_17)), (c_lawsByNight, .inl (cyI, 60, .inl f_18)), (h0, .inr (2, [.int a_pl, .int a_li, .int a_le, .int a_lc, .int a_ac, .int a_ng, .ref a_first, .ref a_now, .ref a_lawPlace, .ref a_lawOther, .ref a_lawEach, .ref a_lawFrom, .ref a_foes, .ref a_suitTable, .ref a_acts])), (a_first, .inl (cyI, 7, .inl a_f_first)), (a_now, .inl (cyI, 7, .inl a_f_now)), (a_lawPlace, .inl (cyI, 6, .inl a_f_lawPlace)), (a_lawOther, .inl (cyI, 6, .inl a_f_lawOther)), (a_lawEach, .inl (cyI, 6, .inl a_f_lawEach)), (a_lawFrom, .inl (cyI, 6, .inl a_f_lawFrom)), (a_foes, .inl (cyI, 7, .inl a_f_foes)), (a_suitTable, .inl (cyI, 49, .inl a_f_suitTable)), (a_acts, .inl (cyI, 40, .inl a_f_acts))]) [21, 22, 23, 24, 25, 11, 12, 13, 14, 15, 16, 17, 18, 19, 20] rfl
          have hKc := hK.sub (tys' := [(cyI, .int), (cyB, .byte), (cyJ, .long), (cyZ, .boolean), (cyH, .object RX2), (cyN, .array .long)]) [0, 1, 2, 3, 4, 5] rfl
          have hDc := hD.sub (ws' := [(c0, .inr (0, [.ref c_row, .ref c_origins, .ref c_before, .ref c_lawsByNight, w_13, .int w_14])), (c_row, .inl (cyI, 7, .inl f_15)), (c_origins, .inl (cyI, 7, .inl f_16)), (c_before, .inl (cyI, 7, .inl f_17)), (c_lawsByNight, .inl (cyI, 60, .inl f_18)), (h0, .inr (2, [.int a_pl, .int a_li, .int a_le, .int a_lc, .int a_ac, .int a_ng, .ref a_first, .ref a_now, .ref a_lawPlace, .ref a_lawOther, .ref a_lawEach, .ref a_lawFrom, .ref a_foes, .ref a_suitTable, .ref a_acts])), (a_first, .inl (cyI, 7, .inl a_f_first)), (a_now, .inl (cyI, 7, .inl a_f_now)), (a_lawPlace, .inl (cyI, 6, .inl a_f_lawPlace)), (a_lawOther, .inl (cyI, 6, .inl a_f_lawOther)), (a_lawEach, .inl (cyI, 6, .inl a_f_lawEach)), (a_lawFrom, .inl (cyI, 6, .inl a_f_lawFrom)), (a_foes, .inl (cyI, 7, .inl a_f_foes)), (a_suitTable, .inl (cyI, 49, .inl a_f_suitTable)), (a_acts, .inl (cyI, 40, .inl a_f_acts))]) [21, 22, 23, 24, 25, 11, 12, 13, 14, 15, 16, 17, 18, 19, 20] (by decide) rfl
          have hFc := va_free (wc := [(c0, .inr (0, [.ref c_row, .ref c_origins, .ref c_before, .ref c_lawsByNight, w_13, .int w_14])), (c_row, .inl (cyI, 7, .inl f_15)), (c_origins, .inl (cyI, 7, .inl f_16)), (c_before, .inl (cyI, 7, .inl f_17)), (c_lawsByNight, .inl (cyI, 60, .inl f_18)), (h0, .inr (2, [.int a_pl, .int a_li, .int a_le, .int a_lc, .int a_ac, .int a_ng, .ref a_first, .ref a_now, .ref a_lawPlace, .ref a_lawOther, .ref a_lawEach, .ref a_lawFrom, .ref a_foes, .ref a_suitTable, .ref a_acts])), (a_first, .inl (cyI, 7, .inl a_f_first)), (a_now, .inl (cyI, 7, .inl a_f_now)), (a_lawPlace, .inl (cyI, 6, .inl a_f_lawPlace)), (a_lawOther, .inl (cyI, 6, .inl a_f_lawOther)), (a_lawEach, .inl (cyI, 6, .inl a_f_lawEach)), (a_lawFrom, .inl (cyI, 6, .inl a_f_lawFrom)), (a_foes, .inl (cyI, 7, .inl a_f_foes)), (a_suitTable, .inl (cyI, 49, .inl a_f_suitTable)), (a_acts, .inl (cyI, 40, .inl a_f_acts))]) hD hS hA [21, 22, 23, 24, 25, 11, 12, 13, 14, 15, 16, 17, 18, 19, 20] rfl
          refine va_callv (va_runV (As := [.ref h0]) (rest := []) ⟨hx, hb, hml, hown, hts⟩ (n_beginAtFirst l dC dI cyI cyB cyJ cyZ cyH cyN tR tF aK aV H.size c0 c_row c_origins c_before c_lawsByNight w_14 f_15 f_16 f_17 f_18 w_13 h0 a_first a_now a_lawPlace a_lawOther a_lawEach a_lawFrom a_foes a_suitTable a_acts a_pl a_li a_le a_lc a_ac a_ng a_f_first a_f_now a_f_lawPlace a_f_lawOther a_f_lawEach a_f_lawFrom a_f_foes a_f_suitTable a_f_acts hf_15 hf_16 hf_17 g4 g5 g6 g7 g8 (by omega) (by omega) (by omega)) (cwV 1 hts (gdV wd_4_186 wd_4_187 wd_4_188 wd_1_5 wd_4_189) rfl rfl rfl (by decide +kernel) ⟨Nat.le_of_ble_eq_true rfl, Nat.le_of_ble_eq_true rfl⟩) ⟨fun a U g mk q => by obtain ⟨q0, q1, qP, qK, qD, qF⟩ := q; exact ⟨q0, q1, qP, va_K.moved (u := U) (U := U.calling g mk a) (Vm.Alike.refl U.vm) qK, qD, cv_FX.same qF rfl rfl⟩, va_recv hKc hPc (ci := 0) (q0 := 0) rfl rfl, fun U hU hW => ⟨rfl, by rw [hU], by rw [hU]; exact hPc, va_K.moved hW.alike hKc, hDc.weaken (fun _ _ _ _ => trivial), cv_FX.go hFX hW hS hFc hU⟩⟩ rfl rfl hl.1 rfl (lv_room (Nat.le_of_ble_eq_true rfl)) dX6_take_70 ⟨Nat.le_of_ble_eq_true rfl, Nat.le_of_ble_eq_true rfl⟩) hS (fun q _ h => hFc q h) hFc (fun  u t H1 locs ht hvm hw hB hz1 hk1 hS => ?_)
          obtain ⟨z0_22, y1_23, y2_24, hp_25, hp_26, hP1, hD1⟩ := hB
          rw [ht] at hP1
          obtain ⟨hP, hD⟩ := va_join (wr := [(v0, .inr (5, [.ref v_hung, .int a_pl, .int w_9, .int w_10, .int w_11])), (v_hung, .inl (cyI, 7, .inl f_12)), (sl0, .inr (7, [.ref sNum, .ref sLen, .ref sWid, .ref sMade])), (sMade, .inl (cyZ, 4, .inl s_fm)), (sLen, .inl (cyI, 4, .inl s_fl)), (sWid, .inl (cyI, 4, .inl s_fw)), (sNum, .inl (cyN, 4, .inr (.inr (.inr (.inr nF))))), (n0, .inl (cyJ, 60, .inr (.inl s_n0))), (n1, .inl (cyJ, 60, .inr (.inl s_n1))), (n2, .inl (cyJ, 60, .inr (.inl s_n2))), (n3, .inl (cyJ, 60, .inr (.inl s_n3)))]) (w1 := [(c0, .inr (0, [.ref c_row, .ref c_origins, .ref c_before, .ref c_lawsByNight, .ref h0, .int z0_22])), (c_row, .inl (cyI, 7, .inl y1_23)), (c_origins, .inl (cyI, 7, .inl f_16)), (c_before, .inl (cyI, 7, .inl f_17)), (c_lawsByNight, .inl (cyI, 60, .inl y2_24)), (h0, .inr (2, [.int a_pl, .int a_li, .int a_le, .int a_lc, .int a_ac, .int a_ng, .ref a_first, .ref a_now, .ref a_lawPlace, .ref a_lawOther, .ref a_lawEach, .ref a_lawFrom, .ref a_foes, .ref a_suitTable, .ref a_acts])), (a_first, .inl (cyI, 7, .inl a_f_first)), (a_now, .inl (cyI, 7, .inl a_f_now)), (a_lawPlace, .inl (cyI, 6, .inl a_f_lawPlace)), (a_lawOther, .inl (cyI, 6, .inl a_f_lawOther)), (a_lawEach, .inl (cyI, 6, .inl a_f_lawEach)), (a_lawFrom, .inl (cyI, 6, .inl a_f_lawFrom)), (a_foes, .inl (cyI, 7, .inl a_f_foes)), (a_suitTable, .inl (cyI, 49, .inl a_f_suitTable)), (a_acts, .inl (cyI, 40, .inl a_f_acts))]) hP hD [21, 22, 23, 24, 25, 11, 12, 13, 14, 15, 16, 17, 18, 19, 20] [0, 1, 2, 3, 4, 5, 6, 7, 8, 9, 10] rfl rfl (by decide) (by decide) hk1 hFc hP1 hD1
          generalize H1 = H at hP hS ⊢
          have hP : va_P (dC, dI) vwCl [(v0, .inr (5, [.ref v_hung, .int a_pl, .int w_9, .int w_10, .int w_11])), (v_hung, .inl (cyI, 7, .inl f_12)), (sl0, .inr (7, [.ref sNum, .ref sLen, .ref sWid, .ref sMade])), (sMade, .inl (cyZ, 4, .inl s_fm)), (sLen, .inl (cyI, 4, .inl s_fl)), (sWid, .inl (cyI, 4, .inl s_fw)), (sNum, .inl (cyN, 4, .inr (.inr (.inr (.inr nF))))), (n0, .inl (cyJ, 60, .inr (.inl s_n0))), (n1, .inl (cyJ, 60, .inr (.inl s_n1))), (n2, .inl (cyJ, 60, .inr (.inl s_n2))), (n3, .inl (cyJ, 60, .inr (.inl s_n3))), (c0, .inr (0, [.ref c_row, .ref c_origins, .ref c_before, .ref c_lawsByNight, .ref h0, .int z0_22])), (c_row, .inl (cyI, 7, .inl y1_23)), (c_origins, .inl (cyI, 7, .inl f_16)), (c_before, .inl (cyI, 7, .inl f_17)), (c_lawsByNight, .inl (cyI, 60, .inl y2_24)), (h0, .inr (2, [.int a_pl, .int a_li, .int a_le, .int a_lc, .int a_ac, .int a_ng, .ref a_first, .ref a_now, .ref a_lawPlace, .ref a_lawOther, .ref a_lawEach, .ref a_lawFrom, .ref a_foes, .ref a_suitTable, .ref a_acts])), (a_first, .inl (cyI, 7, .inl a_f_first)), (a_now, .inl (cyI, 7, .inl a_f_now)), (a_lawPlace, .inl (cyI, 6, .inl a_f_lawPlace)), (a_lawOther, .inl (cyI, 6, .inl a_f_lawOther)), (a_lawEach, .inl (cyI, 6, .inl a_f_lawEach)), (a_lawFrom, .inl (cyI, 6, .inl a_f_lawFrom)), (a_foes, .inl (cyI, 7, .inl a_f_foes)), (a_suitTable, .inl (cyI, 49, .inl a_f_suitTable)), (a_acts, .inl (cyI, 40, .inl a_f_acts))] H := hP
          have hD : va_D A [(v0, .inr (5, [.ref v_hung, .int a_pl, .int w_9, .int w_10, .int w_11])), (v_hung, .inl (cyI, 7, .inl f_12)), (sl0, .inr (7, [.ref sNum, .ref sLen, .ref sWid, .ref sMade])), (sMade, .inl (cyZ, 4, .inl s_fm)), (sLen, .inl (cyI, 4, .inl s_fl)), (sWid, .inl (cyI, 4, .inl s_fw)), (sNum, .inl (cyN, 4, .inr (.inr (.inr (.inr nF))))), (n0, .inl (cyJ, 60, .inr (.inl s_n0))), (n1, .inl (cyJ, 60, .inr (.inl s_n1))), (n2, .inl (cyJ, 60, .inr (.inl s_n2))), (n3, .inl (cyJ, 60, .inr (.inl s_n3))), (c0, .inr (0, [.ref c_row, .ref c_origins, .ref c_before, .ref c_lawsByNight, .ref h0, .int z0_22])), (c_row, .inl (cyI, 7, .inl y1_23)), (c_origins, .inl (cyI, 7, .inl f_16)), (c_before, .inl (cyI, 7, .inl f_17)), (c_lawsByNight, .inl (cyI, 60, .inl y2_24)), (h0, .inr (2, [.int a_pl, .int a_li, .int a_le, .int a_lc, .int a_ac, .int a_ng, .ref a_first, .ref a_now, .ref a_lawPlace, .ref a_lawOther, .ref a_lawEach, .ref a_lawFrom, .ref a_foes, .ref a_suitTable, .ref a_acts])), (a_first, .inl (cyI, 7, .inl a_f_first)), (a_now, .inl (cyI, 7, .inl a_f_now)), (a_lawPlace, .inl (cyI, 6, .inl a_f_lawPlace)), (a_lawOther, .inl (cyI, 6, .inl a_f_lawOther)), (a_lawEach, .inl (cyI, 6, .inl a_f_lawEach)), (a_lawFrom, .inl (cyI, 6, .inl a_f_lawFrom)), (a_foes, .inl (cyI, 7, .inl a_f_foes)), (a_suitTable, .inl (cyI, 49, .inl a_f_suitTable)), (a_acts, .inl (cyI, 40, .inl a_f_acts))] := hD
          have hP := hP.sub (ws' := [(v0, .inr (5, [.ref v_hung, .int a_pl, .int w_9, .int w_10, .int w_11])), (v_hung, .inl (cyI, 7, .inl f_12)), (sl0, .inr (7, [.ref sNum, .ref sLen, .ref sWid, .ref sMade])), (sMade, .inl (cyZ, 4, .inl s_fm)), (sLen, .inl (cyI, 4, .inl s_fl)), (sWid, .inl (cyI, 4, .inl s_fw)), (sNum, .inl (cyN, 4, .inr (.inr (.inr (.inr nF))))), (n0, .inl (cyJ, 60, .inr (.inl s_n0))), (n1, .inl (cyJ, 60, .inr (.inl s_n1))), (n2, .inl (cyJ, 60, .inr (.inl s_n2))), (n3, .inl (cyJ, 60, .inr (.inl s_n3))), (h0, .inr (2, [.int a_pl, .int a_li, .int a_le, .int a_lc, .int a_ac, .int a_ng, .ref a_first, .ref a_now, .ref a_lawPlace, .ref a_lawOther, .ref a_lawEach, .ref a_lawFrom, .ref a_foes, .ref a_suitTable, .ref a_acts])), (a_first, .inl (cyI, 7, .inl a_f_first)), (a_now, .inl (cyI, 7, .inl a_f_now)), (a_lawPlace, .inl (cyI, 6, .inl a_f_lawPlace)), (a_lawOther, .inl (cyI, 6, .inl a_f_lawOther)), (a_lawEach, .inl (cyI, 6, .inl a_f_lawEach)), (a_lawFrom, .inl (cyI, 6, .inl a_f_lawFrom)), (a_foes, .inl (cyI, 7, .inl a_f_foes)), (a_suitTable, .inl (cyI, 49, .inl a_f_suitTable)), (a_acts, .inl (cyI, 40, .inl a_f_acts)), (c0, .inr (0, [.ref c_row, .ref c_origins, .ref c_before, .ref c_lawsByNight, .ref h0, .int z0_22])), (c_row, .inl (cyI, 7, .inl y1_23)), (c_origins, .inl (cyI, 7, .inl f_16)), (c_before, .inl (cyI, 7, .inl f_17)), (c_lawsByNight, .inl (cyI, 60, .inl y2_24))]) [0, 1, 2, 3, 4, 5, 6, 7, 8, 9, 10, 16, 17, 18, 19, 20, 21, 22, 23, 24, 25, 11, 12, 13, 14, 15] rfl
          have hD := hD.sub (ws' := [(v0, .inr (5, [.ref v_hung, .int a_pl, .int w_9, .int w_10, .int w_11])), (v_hung, .inl (cyI, 7, .inl f_12)), (sl0, .inr (7, [.ref sNum, .ref sLen, .ref sWid, .ref sMade])), (sMade, .inl (cyZ, 4, .inl s_fm)), (sLen, .inl (cyI, 4, .inl s_fl)), (sWid, .inl (cyI, 4, .inl s_fw)), (sNum, .inl (cyN, 4, .inr (.inr (.inr (.inr nF))))), (n0, .inl (cyJ, 60, .inr (.inl s_n0))), (n1, .inl (cyJ, 60, .inr (.inl s_n1))), (n2, .inl (cyJ, 60, .inr (.inl s_n2))), (n3, .inl (cyJ, 60, .inr (.inl s_n3))), (h0, .inr (2, [.int a_pl, .int a_li, .int a_le, .int a_lc, .int a_ac, .int a_ng, .ref a_first, .ref a_now, .ref a_lawPlace, .ref a_lawOther, .ref a_lawEach, .ref a_lawFrom, .ref a_foes, .ref a_suitTable, .ref a_acts])), (a_first, .inl (cyI, 7, .inl a_f_first)), (a_now, .inl (cyI, 7, .inl a_f_now)), (a_lawPlace, .inl (cyI, 6, .inl a_f_lawPlace)), (a_lawOther, .inl (cyI, 6, .inl a_f_lawOther)), (a_lawEach, .inl (cyI, 6, .inl a_f_lawEach)), (a_lawFrom, .inl (cyI, 6, .inl a_f_lawFrom)), (a_foes, .inl (cyI, 7, .inl a_f_foes)), (a_suitTable, .inl (cyI, 49, .inl a_f_suitTable)), (a_acts, .inl (cyI, 40, .inl a_f_acts)), (c0, .inr (0, [.ref c_row, .ref c_origins, .ref c_before, .ref c_lawsByNight, .ref h0, .int z0_22])), (c_row, .inl (cyI, 7, .inl y1_23)), (c_origins, .inl (cyI, 7, .inl f_16)), (c_before, .inl (cyI, 7, .inl f_17)), (c_lawsByNight, .inl (cyI, 60, .inl y2_24))]) [0, 1, 2, 3, 4, 5, 6, 7, 8, 9, 10, 16, 17, 18, 19, 20, 21, 22, 23, 24, 25, 11, 12, 13, 14, 15] (by decide) rfl
          refine lv_aload hx hb dX6_take_73 (lv_at hl 6 rfl) ?_
          refine lv_aload hx hb dX6_take_75 (lv_at hl 1 rfl) ?_
          refine lv_iload hx hb dX6_take_77 (lv_at hl 0 rfl) ?_
          refine lv_iconst (v := 1) hx hb dX6_take_79 (by decide) ?_
          refine lv_iadd hx hb dX6_take_80 ?_
          refine lv_topi (fun x_27 ex_27 => ?_)
          have fx_27 : x_27.toInt = u_8.toInt + 1 := by rw [ex_27]; exact cv_addI (by have : (1 : Int32).toInt = 1 := rfl; omega) (by have : (1 : Int32).toInt = 1 := rfl; omega)
          refine va_lald hx hb hK hP 9 2 rfl rfl (vp_in_iff.mpr (by omega)) dX6_take_81 ?_
          refine lv_topl (fun x_28 ex_28 => ?_)
          have qx_28 := sn_get (i := u_8) hq_3 (by omega) hm9 (by omega)
          have ax_28 : x_27.toNatClampNeg = u_8.toNatClampNeg + 1 := sn_at (by omega) (by omega)
          have fx_28 : 0 ≤ x_28.toInt ∧ x_28.toInt ≤ 999 := by rw [ex_28, ax_28]; omega
          refine lv_l2i hx hb dX6_take_82 rfl ?_
          refine lv_topi (fun x_29 ex_29 => ?_)
          have fx_29 : x_29.toInt = x_28.toInt := by rw [ex_29]; exact cv_l2i (by omega) (by omega)
          have hPc := hP.sub (ws' := [(c0, .inr (0, [.ref c_row, .ref c_origins, .ref c_before, .ref c_lawsByNight, .ref h0, .int z0_22])), (c_row, .inl (cyI, 7, .inl y1_23)), (c_origins, .inl (cyI, 7, .inl f_16)), (c_before, .inl (cyI, 7, .inl f_17)), (c_lawsByNight, .inl (cyI, 60, .inl y2_24)), (h0, .inr (2, [.int a_pl, .int a_li, .int a_le, .int a_lc, .int a_ac, .int a_ng, .ref a_first, .ref a_now, .ref a_lawPlace, .ref a_lawOther, .ref a_lawEach, .ref a_lawFrom, .ref a_foes, .ref a_suitTable, .ref a_acts])), (a_first, .inl (cyI, 7, .inl a_f_first)), (a_now, .inl (cyI, 7, .inl a_f_now)), (a_lawPlace, .inl (cyI, 6, .inl a_f_lawPlace)), (a_lawOther, .inl (cyI, 6, .inl a_f_lawOther)), (a_lawEach, .inl (cyI, 6, .inl a_f_lawEach)), (a_lawFrom, .inl (cyI, 6, .inl a_f_lawFrom)), (a_foes, .inl (cyI, 7, .inl a_f_foes)), (a_suitTable, .inl (cyI, 49, .inl a_f_suitTable)), (a_acts, .inl (cyI, 40, .inl a_f_acts))]) [21, 22, 23, 24, 25, 11, 12, 13, 14, 15, 16, 17, 18, 19, 20] rfl
          have hKc := hK.sub (tys' := [(cyI, .int), (cyB, .byte), (cyJ, .long), (cyZ, .boolean), (cyH, .object RX2), (cyN, .array .long)]) [0, 1, 2, 3, 4, 5] rfl
          have hDc := hD.sub (ws' := [(c0, .inr (0, [.ref c_row, .ref c_origins, .ref c_before, .ref c_lawsByNight, .ref h0, .int z0_22])), (c_row, .inl (cyI, 7, .inl y1_23)), (c_origins, .inl (cyI, 7, .inl f_16)), (c_before, .inl (cyI, 7, .inl f_17)), (c_lawsByNight, .inl (cyI, 60, .inl y2_24)), (h0, .inr (2, [.int a_pl, .int a_li, .int a_le, .int a_lc, .int a_ac, .int a_ng, .ref a_first, .ref a_now, .ref a_lawPlace, .ref a_lawOther, .ref a_lawEach, .ref a_lawFrom, .ref a_foes, .ref a_suitTable, .ref a_acts])), (a_first, .inl (cyI, 7, .inl a_f_first)), (a_now, .inl (cyI, 7, .inl a_f_now)), (a_lawPlace, .inl (cyI, 6, .inl a_f_lawPlace)), (a_lawOther, .inl (cyI, 6, .inl a_f_lawOther)), (a_lawEach, .inl (cyI, 6, .inl a_f_lawEach)), (a_lawFrom, .inl (cyI, 6, .inl a_f_lawFrom)), (a_foes, .inl (cyI, 7, .inl a_f_foes)), (a_suitTable, .inl (cyI, 49, .inl a_f_suitTable)), (a_acts, .inl (cyI, 40, .inl a_f_acts))]) [21, 22, 23, 24, 25, 11, 12, 13, 14, 15, 16, 17, 18, 19, 20] (by decide) rfl
          have hFc := va_free (wc := [(c0, .inr (0, [.ref c_row, .ref c_origins, .ref c_before, .ref c_lawsByNight, .ref h0, .int z0_22])), (c_row, .inl (cyI, 7, .inl y1_23)), (c_origins, .inl (cyI, 7, .inl f_16)), (c_before, .inl (cyI, 7, .inl f_17)), (c_lawsByNight, .inl (cyI, 60, .inl y2_24)), (h0, .inr (2, [.int a_pl, .int a_li, .int a_le, .int a_lc, .int a_ac, .int a_ng, .ref a_first, .ref a_now, .ref a_lawPlace, .ref a_lawOther, .ref a_lawEach, .ref a_lawFrom, .ref a_foes, .ref a_suitTable, .ref a_acts])), (a_first, .inl (cyI, 7, .inl a_f_first)), (a_now, .inl (cyI, 7, .inl a_f_now)), (a_lawPlace, .inl (cyI, 6, .inl a_f_lawPlace)), (a_lawOther, .inl (cyI, 6, .inl a_f_lawOther)), (a_lawEach, .inl (cyI, 6, .inl a_f_lawEach)), (a_lawFrom, .inl (cyI, 6, .inl a_f_lawFrom)), (a_foes, .inl (cyI, 7, .inl a_f_foes)), (a_suitTable, .inl (cyI, 49, .inl a_f_suitTable)), (a_acts, .inl (cyI, 40, .inl a_f_acts))]) hD hS hA [21, 22, 23, 24, 25, 11, 12, 13, 14, 15, 16, 17, 18, 19, 20] rfl
          refine va_callv (va_runV (As := [.int x_29]) (rest := []) ⟨hx, hb, hml, hown, hts⟩ (n_goOn l dC dI cyI cyB cyJ cyZ cyH cyN tR tF aK aV H.size c0 c_row c_origins c_before c_lawsByNight z0_22 y1_23 f_16 f_17 y2_24 h0 a_first a_now a_lawPlace a_lawOther a_lawEach a_lawFrom a_foes a_suitTable a_acts a_pl a_li a_le a_lc a_ac a_ng a_f_first a_f_now a_f_lawPlace a_f_lawOther a_f_lawEach a_f_lawFrom a_f_foes a_f_suitTable a_f_acts x_29 hp_26 hf_16 hf_17 g4 g5 g6 g7 g8 (by omega) (by omega) (by omega) (by omega) (by omega)) (cwV 1 hts (gdV wd_4_190 wd_3_105 wd_3_106 wd_1_5 wd_3_107) rfl rfl rfl (by decide +kernel) ⟨Nat.le_of_ble_eq_true rfl, Nat.le_of_ble_eq_true rfl⟩) ⟨fun a U g mk q => by obtain ⟨q0, q1, qP, qK, qD, qF⟩ := q; exact ⟨q0, q1, qP, va_K.moved (u := U) (U := U.calling g mk a) (Vm.Alike.refl U.vm) qK, qD, cv_FX.same qF rfl rfl⟩, va_recv hKc hPc (ci := 0) (q0 := 0) rfl rfl, fun U hU hW => ⟨rfl, by rw [hU], by rw [hU]; exact hPc, va_K.moved hW.alike hKc, hDc.weaken (fun _ _ _ _ => trivial), cv_FX.go hFX hW hS hFc hU⟩⟩ rfl rfl hl.1 rfl (lv_room (Nat.le_of_ble_eq_true rfl)) dX6_take_83 ⟨Nat.le_of_ble_eq_true rfl, Nat.le_of_ble_eq_true rfl⟩) hS (fun q _ h => hFc q h) hFc (fun  u t H1 locs ht hvm hw hB hz1 hk1 hS => ?_)
          obtain ⟨z0_30, y1_31, y2_32, y3_33, hp_34, hp_35, hp_36, hp_37, hP1, hD1⟩ := hB
          rw [ht] at hP1
          obtain ⟨hP, hD⟩ := va_join (wr := [(v0, .inr (5, [.ref v_hung, .int a_pl, .int w_9, .int w_10, .int w_11])), (v_hung, .inl (cyI, 7, .inl f_12)), (sl0, .inr (7, [.ref sNum, .ref sLen, .ref sWid, .ref sMade])), (sMade, .inl (cyZ, 4, .inl s_fm)), (sLen, .inl (cyI, 4, .inl s_fl)), (sWid, .inl (cyI, 4, .inl s_fw)), (sNum, .inl (cyN, 4, .inr (.inr (.inr (.inr nF))))), (n0, .inl (cyJ, 60, .inr (.inl s_n0))), (n1, .inl (cyJ, 60, .inr (.inl s_n1))), (n2, .inl (cyJ, 60, .inr (.inl s_n2))), (n3, .inl (cyJ, 60, .inr (.inl s_n3)))]) (w1 := [(c0, .inr (0, [.ref c_row, .ref c_origins, .ref c_before, .ref c_lawsByNight, .ref h0, .int z0_30])), (c_row, .inl (cyI, 7, .inl y1_31)), (c_origins, .inl (cyI, 7, .inl y2_32)), (c_before, .inl (cyI, 7, .inl y3_33)), (c_lawsByNight, .inl (cyI, 60, .inl y2_24)), (h0, .inr (2, [.int a_pl, .int a_li, .int a_le, .int a_lc, .int a_ac, .int a_ng, .ref a_first, .ref a_now, .ref a_lawPlace, .ref a_lawOther, .ref a_lawEach, .ref a_lawFrom, .ref a_foes, .ref a_suitTable, .ref a_acts])), (a_first, .inl (cyI, 7, .inl a_f_first)), (a_now, .inl (cyI, 7, .inl a_f_now)), (a_lawPlace, .inl (cyI, 6, .inl a_f_lawPlace)), (a_lawOther, .inl (cyI, 6, .inl a_f_lawOther)), (a_lawEach, .inl (cyI, 6, .inl a_f_lawEach)), (a_lawFrom, .inl (cyI, 6, .inl a_f_lawFrom)), (a_foes, .inl (cyI, 7, .inl a_f_foes)), (a_suitTable, .inl (cyI, 49, .inl a_f_suitTable)), (a_acts, .inl (cyI, 40, .inl a_f_acts))]) hP hD [21, 22, 23, 24, 25, 11, 12, 13, 14, 15, 16, 17, 18, 19, 20] [0, 1, 2, 3, 4, 5, 6, 7, 8, 9, 10] rfl rfl (by decide) (by decide) hk1 hFc hP1 hD1
          generalize H1 = H at hP hS ⊢
          have hP : va_P (dC, dI) vwCl [(v0, .inr (5, [.ref v_hung, .int a_pl, .int w_9, .int w_10, .int w_11])), (v_hung, .inl (cyI, 7, .inl f_12)), (sl0, .inr (7, [.ref sNum, .ref sLen, .ref sWid, .ref sMade])), (sMade, .inl (cyZ, 4, .inl s_fm)), (sLen, .inl (cyI, 4, .inl s_fl)), (sWid, .inl (cyI, 4, .inl s_fw)), (sNum, .inl (cyN, 4, .inr (.inr (.inr (.inr nF))))), (n0, .inl (cyJ, 60, .inr (.inl s_n0))), (n1, .inl (cyJ, 60, .inr (.inl s_n1))), (n2, .inl (cyJ, 60, .inr (.inl s_n2))), (n3, .inl (cyJ, 60, .inr (.inl s_n3))), (c0, .inr (0, [.ref c_row, .ref c_origins, .ref c_before, .ref c_lawsByNight, .ref h0, .int z0_30])), (c_row, .inl (cyI, 7, .inl y1_31)), (c_origins, .inl (cyI, 7, .inl y2_32)), (c_before, .inl (cyI, 7, .inl y3_33)), (c_lawsByNight, .inl (cyI, 60, .inl y2_24)), (h0, .inr (2, [.int a_pl, .int a_li, .int a_le, .int a_lc, .int a_ac, .int a_ng, .ref a_first, .ref a_now, .ref a_lawPlace, .ref a_lawOther, .ref a_lawEach, .ref a_lawFrom, .ref a_foes, .ref a_suitTable, .ref a_acts])), (a_first, .inl (cyI, 7, .inl a_f_first)), (a_now, .inl (cyI, 7, .inl a_f_now)), (a_lawPlace, .inl (cyI, 6, .inl a_f_lawPlace)), (a_lawOther, .inl (cyI, 6, .inl a_f_lawOther)), (a_lawEach, .inl (cyI, 6, .inl a_f_lawEach)), (a_lawFrom, .inl (cyI, 6, .inl a_f_lawFrom)), (a_foes, .inl (cyI, 7, .inl a_f_foes)), (a_suitTable, .inl (cyI, 49, .inl a_f_suitTable)), (a_acts, .inl (cyI, 40, .inl a_f_acts))] H := hP
          have hD : va_D A [(v0, .inr (5, [.ref v_hung, .int a_pl, .int w_9, .int w_10, .int w_11])), (v_hung, .inl (cyI, 7, .inl f_12)), (sl0, .inr (7, [.ref sNum, .ref sLen, .ref sWid, .ref sMade])), (sMade, .inl (cyZ, 4, .inl s_fm)), (sLen, .inl (cyI, 4, .inl s_fl)), (sWid, .inl (cyI, 4, .inl s_fw)), (sNum, .inl (cyN, 4, .inr (.inr (.inr (.inr nF))))), (n0, .inl (cyJ, 60, .inr (.inl s_n0))), (n1, .inl (cyJ, 60, .inr (.inl s_n1))), (n2, .inl (cyJ, 60, .inr (.inl s_n2))), (n3, .inl (cyJ, 60, .inr (.inl s_n3))), (c0, .inr (0, [.ref c_row, .ref c_origins, .ref c_before, .ref c_lawsByNight, .ref h0, .int z0_30])), (c_row, .inl (cyI, 7, .inl y1_31)), (c_origins, .inl (cyI, 7, .inl y2_32)), (c_before, .inl (cyI, 7, .inl y3_33)), (c_lawsByNight, .inl (cyI, 60, .inl y2_24)), (h0, .inr (2, [.int a_pl, .int a_li, .int a_le, .int a_lc, .int a_ac, .int a_ng, .ref a_first, .ref a_now, .ref a_lawPlace, .ref a_lawOther, .ref a_lawEach, .ref a_lawFrom, .ref a_foes, .ref a_suitTable, .ref a_acts])), (a_first, .inl (cyI, 7, .inl a_f_first)), (a_now, .inl (cyI, 7, .inl a_f_now)), (a_lawPlace, .inl (cyI, 6, .inl a_f_lawPlace)), (a_lawOther, .inl (cyI, 6, .inl a_f_lawOther)), (a_lawEach, .inl (cyI, 6, .inl a_f_lawEach)), (a_lawFrom, .inl (cyI, 6, .inl a_f_lawFrom)), (a_foes, .inl (cyI, 7, .inl a_f_foes)), (a_suitTable, .inl (cyI, 49, .inl a_f_suitTable)), (a_acts, .inl (cyI, 40, .inl a_f_acts))] := hD
          have hP := hP.sub (ws' := [(v0, .inr (5, [.ref v_hung, .int a_pl, .int w_9, .int w_10, .int w_11])), (v_hung, .inl (cyI, 7, .inl f_12)), (sl0, .inr (7, [.ref sNum, .ref sLen, .ref sWid, .ref sMade])), (sMade, .inl (cyZ, 4, .inl s_fm)), (sLen, .inl (cyI, 4, .inl s_fl)), (sWid, .inl (cyI, 4, .inl s_fw)), (sNum, .inl (cyN, 4, .inr (.inr (.inr (.inr nF))))), (n0, .inl (cyJ, 60, .inr (.inl s_n0))), (n1, .inl (cyJ, 60, .inr (.inl s_n1))), (n2, .inl (cyJ, 60, .inr (.inl s_n2))), (n3, .inl (cyJ, 60, .inr (.inl s_n3))), (h0, .inr (2, [.int a_pl, .int a_li, .int a_le, .int a_lc, .int a_ac, .int a_ng, .ref a_first, .ref a_now, .ref a_lawPlace, .ref a_lawOther, .ref a_lawEach, .ref a_lawFrom, .ref a_foes, .ref a_suitTable, .ref a_acts])), (a_first, .inl (cyI, 7, .inl a_f_first)), (a_now, .inl (cyI, 7, .inl a_f_now)), (a_lawPlace, .inl (cyI, 6, .inl a_f_lawPlace)), (a_lawOther, .inl (cyI, 6, .inl a_f_lawOther)), (a_lawEach, .inl (cyI, 6, .inl a_f_lawEach)), (a_lawFrom, .inl (cyI, 6, .inl a_f_lawFrom)), (a_foes, .inl (cyI, 7, .inl a_f_foes)), (a_suitTable, .inl (cyI, 49, .inl a_f_suitTable)), (a_acts, .inl (cyI, 40, .inl a_f_acts)), (c0, .inr (0, [.ref c_row, .ref c_origins, .ref c_before, .ref c_lawsByNight, .ref h0, .int z0_30])), (c_row, .inl (cyI, 7, .inl y1_31)), (c_origins, .inl (cyI, 7, .inl y2_32)), (c_before, .inl (cyI, 7, .inl y3_33)), (c_lawsByNight, .inl (cyI, 60, .inl y2_24))]) [0, 1, 2, 3, 4, 5, 6, 7, 8, 9, 10, 16, 17, 18, 19, 20, 21, 22, 23, 24, 25, 11, 12, 13, 14, 15] rfl
          have hD := hD.sub (ws' := [(v0, .inr (5, [.ref v_hung, .int a_pl, .int w_9, .int w_10, .int w_11])), (v_hung, .inl (cyI, 7, .inl f_12)), (sl0, .inr (7, [.ref sNum, .ref sLen, .ref sWid, .ref sMade])), (sMade, .inl (cyZ, 4, .inl s_fm)), (sLen, .inl (cyI, 4, .inl s_fl)), (sWid, .inl (cyI, 4, .inl s_fw)), (sNum, .inl (cyN, 4, .inr (.inr (.inr (.inr nF))))), (n0, .inl (cyJ, 60, .inr (.inl s_n0))), (n1, .inl (cyJ, 60, .inr (.inl s_n1))), (n2, .inl (cyJ, 60, .inr (.inl s_n2))), (n3, .inl (cyJ, 60, .inr (.inl s_n3))), (h0, .inr (2, [.int a_pl, .int a_li, .int a_le, .int a_lc, .int a_ac, .int a_ng, .ref a_first, .ref a_now, .ref a_lawPlace, .ref a_lawOther, .ref a_lawEach, .ref a_lawFrom, .ref a_foes, .ref a_suitTable, .ref a_acts])), (a_first, .inl (cyI, 7, .inl a_f_first)), (a_now, .inl (cyI, 7, .inl a_f_now)), (a_lawPlace, .inl (cyI, 6, .inl a_f_lawPlace)), (a_lawOther, .inl (cyI, 6, .inl a_f_lawOther)), (a_lawEach, .inl (cyI, 6, .inl a_f_lawEach)), (a_lawFrom, .inl (cyI, 6, .inl a_f_lawFrom)), (a_foes, .inl (cyI, 7, .inl a_f_foes)), (a_suitTable, .inl (cyI, 49, .inl a_f_suitTable)), (a_acts, .inl (cyI, 40, .inl a_f_acts)), (c0, .inr (0, [.ref c_row, .ref c_origins, .ref c_before, .ref c_lawsByNight, .ref h0, .int z0_30])), (c_row, .inl (cyI, 7, .inl y1_31)), (c_origins, .inl (cyI, 7, .inl y2_32)), (c_before, .inl (cyI, 7, .inl y3_33)), (c_lawsByNight, .inl (cyI, 60, .inl y2_24))]) [0, 1, 2, 3, 4, 5, 6, 7, 8, 9, 10, 16, 17, 18, 19, 20, 21, 22, 23, 24, 25, 11, 12, 13, 14, 15] (by decide) rfl
          refine lv_aload_n hx hb dX6_take_86 rfl (lv_at hl 2 rfl) ?_
          refine lv_aload hx hb dX6_take_87 (lv_at hl 6 rfl) ?_
          refine va_get (D := (dC, dI)) (ci := 0) (v := .ref c_row) (C := RX0) (T := TX0) (N := 6) hx hb hts uinX0 hown hK hP 21 rfl rfl 0 (by decide) (hts _ wd_1_192) (fun _ h9 => h9) rfl dX6_take_89 ?_
          refine lv_aload hx hb dX6_take_92 (lv_at hl 1 rfl) ?_
          refine lv_iload hx hb dX6_take_94 (lv_at hl 0 rfl) ?_
          refine va_lald hx hb hK hP 9 2 rfl rfl (vp_in_iff.mpr (by omega)) dX6_take_96 ?_
          refine lv_topl (fun x_38 ex_38 => ?_)
          have qx_38 := sn_get (i := u_8) hq_3 (by omega) hm9 (by omega)
          have fx_38 : 0 ≤ x_38.toInt ∧ x_38.toInt ≤ 6 := by rw [ex_38]; omega
          refine lv_l2i hx hb dX6_take_97 rfl ?_
          refine lv_topi (fun x_39 ex_39 => ?_)
          have fx_39 : x_39.toInt = x_38.toInt := by rw [ex_39]; exact cv_l2i (by omega) (by omega)
          refine va_iald hx hb hK hP 22 0 rfl rfl (vp_in_iff.mpr (by omega)) dX6_take_98 ?_
          refine lv_topi (fun x_40 ex_40 => ?_)
          have fx_40 : 0 ≤ x_40.toInt ∧ x_40.toInt ≤ 6 := by rw [ex_40]; exact hp_35 _ (cv_ix (by omega) (by omega))
          refine lv_aload hx hb dX6_take_99 (lv_at hl 1 rfl) ?_
          refine lv_iload hx hb dX6_take_101 (lv_at hl 0 rfl) ?_
          refine lv_iconst (v := 2) hx hb dX6_take_103 (by decide) ?_
          refine lv_iadd hx hb dX6_take_104 ?_
          refine lv_topi (fun x_41 ex_41 => ?_)
          have fx_41 : x_41.toInt = u_8.toInt + 2 := by rw [ex_41]; exact cv_addI (by have : (2 : Int32).toInt = 2 := rfl; omega) (by have : (2 : Int32).toInt = 2 := rfl; omega)
          refine va_lald hx hb hK hP 9 2 rfl rfl (vp_in_iff.mpr (by omega)) dX6_take_105 ?_
          refine lv_topl (fun x_42 ex_42 => ?_)
          have qx_42 := sn_get (i := u_8) hq_3 (by omega) hm9 (by omega)
          have ax_42 : x_41.toNatClampNeg = u_8.toNatClampNeg + 2 := sn_at (by omega) (by omega)
          have fx_42 : 0 ≤ x_42.toInt ∧ x_42.toInt ≤ 6 := by rw [ex_42, ax_42]; omega
          have gx_42 : x_42.toInt < a_pl.toInt := by rw [ex_42, ax_42]; omega
          refine lv_l2i hx hb dX6_take_106 rfl ?_
          refine lv_topi (fun x_43 ex_43 => ?_)
          have fx_43 : x_43.toInt = x_42.toInt := by rw [ex_43]; exact cv_l2i (by omega) (by omega)
          have hPc := hP.sub (ws' := [(v0, .inr (5, [.ref v_hung, .int a_pl, .int w_9, .int w_10, .int w_11])), (v_hung, .inl (cyI, 7, .inl f_12))]) [0, 1] rfl
          have hKc := hK.sub (tys' := [(cyI, .int), (cyB, .byte), (cyJ, .long), (cyZ, .boolean), (cyH, .object RX2), (cyN, .array .long)]) [0, 1, 2, 3, 4, 5] rfl
          have hDc := hD.sub (ws' := [(v0, .inr (5, [.ref v_hung, .int a_pl, .int w_9, .int w_10, .int w_11])), (v_hung, .inl (cyI, 7, .inl f_12))]) [0, 1] (by decide) rfl
          have hFc := va_free (wc := [(v0, .inr (5, [.ref v_hung, .int a_pl, .int w_9, .int w_10, .int w_11])), (v_hung, .inl (cyI, 7, .inl f_12))]) hD hS hA [0, 1] rfl
          refine va_callv (va_runV (As := [.int x_40, .int x_43]) (rest := []) ⟨hx, hb, hml, hown, hts⟩ (n_learn l dC dI cyI cyB cyJ cyZ cyH cyN H.size v0 v_hung a_pl w_9 w_10 w_11 f_12 x_40 x_43 hf_12 (by omega) (by omega) (by omega) (by omega) (by omega) hun8 (by omega)) (cwV 2 hts (gdV wd_4_191 wd_4_193 wd_s2_13 wd_1_6 wd_4_194) rfl rfl rfl (by decide +kernel) ⟨Nat.le_of_ble_eq_true rfl, Nat.le_of_ble_eq_true rfl⟩) ⟨fun a U g mk q => by obtain ⟨q0, q1, qP, qK, qD⟩ := q; exact ⟨q0, q1, qP, va_K.moved (u := U) (U := U.calling g mk a) (Vm.Alike.refl U.vm) qK, qD⟩, va_recv hKc hPc (ci := 5) (q0 := 0) rfl rfl, fun U hU hW => ⟨rfl, by rw [hU], by rw [hU]; exact hPc, va_K.moved hW.alike hKc, hDc.weaken (fun _ _ _ _ => trivial)⟩⟩ rfl rfl hl.1 rfl (lv_room (Nat.le_of_ble_eq_true rfl)) dX6_take_107 ⟨Nat.le_of_ble_eq_true rfl, Nat.le_of_ble_eq_true rfl⟩) hS (fun q _ h => hFc q h) hFc (fun  u t H1 locs ht hvm hw hB hz1 hk1 hS => ?_)
          obtain ⟨z0_44, z1_45, z2_46, y3_47, hp_48, hp_49, hp_50, hp_51, hp_52, hP1, hD1⟩ := hB
          rw [ht] at hP1
          obtain ⟨hP, hD⟩ := va_join (wr := [(sl0, .inr (7, [.ref sNum, .ref sLen, .ref sWid, .ref sMade])), (sMade, .inl (cyZ, 4, .inl s_fm)), (sLen, .inl (cyI, 4, .inl s_fl)), (sWid, .inl (cyI, 4, .inl s_fw)), (sNum, .inl (cyN, 4, .inr (.inr (.inr (.inr nF))))), (n0, .inl (cyJ, 60, .inr (.inl s_n0))), (n1, .inl (cyJ, 60, .inr (.inl s_n1))), (n2, .inl (cyJ, 60, .inr (.inl s_n2))), (n3, .inl (cyJ, 60, .inr (.inl s_n3))), (h0, .inr (2, [.int a_pl, .int a_li, .int a_le, .int a_lc, .int a_ac, .int a_ng, .ref a_first, .ref a_now, .ref a_lawPlace, .ref a_lawOther, .ref a_lawEach, .ref a_lawFrom, .ref a_foes, .ref a_suitTable, .ref a_acts])), (a_first, .inl (cyI, 7, .inl a_f_first)), (a_now, .inl (cyI, 7, .inl a_f_now)), (a_lawPlace, .inl (cyI, 6, .inl a_f_lawPlace)), (a_lawOther, .inl (cyI, 6, .inl a_f_lawOther)), (a_lawEach, .inl (cyI, 6, .inl a_f_lawEach)), (a_lawFrom, .inl (cyI, 6, .inl a_f_lawFrom)), (a_foes, .inl (cyI, 7, .inl a_f_foes)), (a_suitTable, .inl (cyI, 49, .inl a_f_suitTable)), (a_acts, .inl (cyI, 40, .inl a_f_acts)), (c0, .inr (0, [.ref c_row, .ref c_origins, .ref c_before, .ref c_lawsByNight, .ref h0, .int z0_30])), (c_row, .inl (cyI, 7, .inl y1_31)), (c_origins, .inl (cyI, 7, .inl y2_32)), (c_before, .inl (cyI, 7, .inl y3_33)), (c_lawsByNight, .inl (cyI, 60, .inl y2_24))]) (w1 := [(v0, .inr (5, [.ref v_hung, .int a_pl, .int z0_44, .int z1_45, .int z2_46])), (v_hung, .inl (cyI, 7, .inl y3_47))]) hP hD [0, 1] [2, 3, 4, 5, 6, 7, 8, 9, 10, 11, 12, 13, 14, 15, 16, 17, 18, 19, 20, 21, 22, 23, 24, 25] rfl rfl (by decide) (by decide) hk1 hFc hP1 hD1
          generalize H1 = H at hP hS ⊢
          have hP : va_P (dC, dI) vwCl [(sl0, .inr (7, [.ref sNum, .ref sLen, .ref sWid, .ref sMade])), (sMade, .inl (cyZ, 4, .inl s_fm)), (sLen, .inl (cyI, 4, .inl s_fl)), (sWid, .inl (cyI, 4, .inl s_fw)), (sNum, .inl (cyN, 4, .inr (.inr (.inr (.inr nF))))), (n0, .inl (cyJ, 60, .inr (.inl s_n0))), (n1, .inl (cyJ, 60, .inr (.inl s_n1))), (n2, .inl (cyJ, 60, .inr (.inl s_n2))), (n3, .inl (cyJ, 60, .inr (.inl s_n3))), (h0, .inr (2, [.int a_pl, .int a_li, .int a_le, .int a_lc, .int a_ac, .int a_ng, .ref a_first, .ref a_now, .ref a_lawPlace, .ref a_lawOther, .ref a_lawEach, .ref a_lawFrom, .ref a_foes, .ref a_suitTable, .ref a_acts])), (a_first, .inl (cyI, 7, .inl a_f_first)), (a_now, .inl (cyI, 7, .inl a_f_now)), (a_lawPlace, .inl (cyI, 6, .inl a_f_lawPlace)), (a_lawOther, .inl (cyI, 6, .inl a_f_lawOther)), (a_lawEach, .inl (cyI, 6, .inl a_f_lawEach)), (a_lawFrom, .inl (cyI, 6, .inl a_f_lawFrom)), (a_foes, .inl (cyI, 7, .inl a_f_foes)), (a_suitTable, .inl (cyI, 49, .inl a_f_suitTable)), (a_acts, .inl (cyI, 40, .inl a_f_acts)), (c0, .inr (0, [.ref c_row, .ref c_origins, .ref c_before, .ref c_lawsByNight, .ref h0, .int z0_30])), (c_row, .inl (cyI, 7, .inl y1_31)), (c_origins, .inl (cyI, 7, .inl y2_32)), (c_before, .inl (cyI, 7, .inl y3_33)), (c_lawsByNight, .inl (cyI, 60, .inl y2_24)), (v0, .inr (5, [.ref v_hung, .int a_pl, .int z0_44, .int z1_45, .int z2_46])), (v_hung, .inl (cyI, 7, .inl y3_47))] H := hP
          have hD : va_D A [(sl0, .inr (7, [.ref sNum, .ref sLen, .ref sWid, .ref sMade])), (sMade, .inl (cyZ, 4, .inl s_fm)), (sLen, .inl (cyI, 4, .inl s_fl)), (sWid, .inl (cyI, 4, .inl s_fw)), (sNum, .inl (cyN, 4, .inr (.inr (.inr (.inr nF))))), (n0, .inl (cyJ, 60, .inr (.inl s_n0))), (n1, .inl (cyJ, 60, .inr (.inl s_n1))), (n2, .inl (cyJ, 60, .inr (.inl s_n2))), (n3, .inl (cyJ, 60, .inr (.inl s_n3))), (h0, .inr (2, [.int a_pl, .int a_li, .int a_le, .int a_lc, .int a_ac, .int a_ng, .ref a_first, .ref a_now, .ref a_lawPlace, .ref a_lawOther, .ref a_lawEach, .ref a_lawFrom, .ref a_foes, .ref a_suitTable, .ref a_acts])), (a_first, .inl (cyI, 7, .inl a_f_first)), (a_now, .inl (cyI, 7, .inl a_f_now)), (a_lawPlace, .inl (cyI, 6, .inl a_f_lawPlace)), (a_lawOther, .inl (cyI, 6, .inl a_f_lawOther)), (a_lawEach, .inl (cyI, 6, .inl a_f_lawEach)), (a_lawFrom, .inl (cyI, 6, .inl a_f_lawFrom)), (a_foes, .inl (cyI, 7, .inl a_f_foes)), (a_suitTable, .inl (cyI, 49, .inl a_f_suitTable)), (a_acts, .inl (cyI, 40, .inl a_f_acts)), (c0, .inr (0, [.ref c_row, .ref c_origins, .ref c_before, .ref c_lawsByNight, .ref h0, .int z0_30])), (c_row, .inl (cyI, 7, .inl y1_31)), (c_origins, .inl (cyI, 7, .inl y2_32)), (c_before, .inl (cyI, 7, .inl y3_33)), (c_lawsByNight, .inl (cyI, 60, .inl y2_24)), (v0, .inr (5, [.ref v_hung, .int a_pl, .int z0_44, .int z1_45, .int z2_46])), (v_hung, .inl (cyI, 7, .inl y3_47))] := hD
          have hP := hP.sub (ws' := [(v0, .inr (5, [.ref v_hung, .int a_pl, .int z0_44, .int z1_45, .int z2_46])), (v_hung, .inl (cyI, 7, .inl y3_47)), (sl0, .inr (7, [.ref sNum, .ref sLen, .ref sWid, .ref sMade])), (sMade, .inl (cyZ, 4, .inl s_fm)), (sLen, .inl (cyI, 4, .inl s_fl)), (sWid, .inl (cyI, 4, .inl s_fw)), (sNum, .inl (cyN, 4, .inr (.inr (.inr (.inr nF))))), (n0, .inl (cyJ, 60, .inr (.inl s_n0))), (n1, .inl (cyJ, 60, .inr (.inl s_n1))), (n2, .inl (cyJ, 60, .inr (.inl s_n2))), (n3, .inl (cyJ, 60, .inr (.inl s_n3))), (h0, .inr (2, [.int a_pl, .int a_li, .int a_le, .int a_lc, .int a_ac, .int a_ng, .ref a_first, .ref a_now, .ref a_lawPlace, .ref a_lawOther, .ref a_lawEach, .ref a_lawFrom, .ref a_foes, .ref a_suitTable, .ref a_acts])), (a_first, .inl (cyI, 7, .inl a_f_first)), (a_now, .inl (cyI, 7, .inl a_f_now)), (a_lawPlace, .inl (cyI, 6, .inl a_f_lawPlace)), (a_lawOther, .inl (cyI, 6, .inl a_f_lawOther)), (a_lawEach, .inl (cyI, 6, .inl a_f_lawEach)), (a_lawFrom, .inl (cyI, 6, .inl a_f_lawFrom)), (a_foes, .inl (cyI, 7, .inl a_f_foes)), (a_suitTable, .inl (cyI, 49, .inl a_f_suitTable)), (a_acts, .inl (cyI, 40, .inl a_f_acts)), (c0, .inr (0, [.ref c_row, .ref c_origins, .ref c_before, .ref c_lawsByNight, .ref h0, .int z0_30])), (c_row, .inl (cyI, 7, .inl y1_31)), (c_origins, .inl (cyI, 7, .inl y2_32)), (c_before, .inl (cyI, 7, .inl y3_33)), (c_lawsByNight, .inl (cyI, 60, .inl y2_24))]) [24, 25, 0, 1, 2, 3, 4, 5, 6, 7, 8, 9, 10, 11, 12, 13, 14, 15, 16, 17, 18, 19, 20, 21, 22, 23] rfl
          have hD := hD.sub (ws' := [(v0, .inr (5, [.ref v_hung, .int a_pl, .int z0_44, .int z1_45, .int z2_46])), (v_hung, .inl (cyI, 7, .inl y3_47)), (sl0, .inr (7, [.ref sNum, .ref sLen, .ref sWid, .ref sMade])), (sMade, .inl (cyZ, 4, .inl s_fm)), (sLen, .inl (cyI, 4, .inl s_fl)), (sWid, .inl (cyI, 4, .inl s_fw)), (sNum, .inl (cyN, 4, .inr (.inr (.inr (.inr nF))))), (n0, .inl (cyJ, 60, .inr (.inl s_n0))), (n1, .inl (cyJ, 60, .inr (.inl s_n1))), (n2, .inl (cyJ, 60, .inr (.inl s_n2))), (n3, .inl (cyJ, 60, .inr (.inl s_n3))), (h0, .inr (2, [.int a_pl, .int a_li, .int a_le, .int a_lc, .int a_ac, .int a_ng, .ref a_first, .ref a_now, .ref a_lawPlace, .ref a_lawOther, .ref a_lawEach, .ref a_lawFrom, .ref a_foes, .ref a_suitTable, .ref a_acts])), (a_first, .inl (cyI, 7, .inl a_f_first)), (a_now, .inl (cyI, 7, .inl a_f_now)), (a_lawPlace, .inl (cyI, 6, .inl a_f_lawPlace)), (a_lawOther, .inl (cyI, 6, .inl a_f_lawOther)), (a_lawEach, .inl (cyI, 6, .inl a_f_lawEach)), (a_lawFrom, .inl (cyI, 6, .inl a_f_lawFrom)), (a_foes, .inl (cyI, 7, .inl a_f_foes)), (a_suitTable, .inl (cyI, 49, .inl a_f_suitTable)), (a_acts, .inl (cyI, 40, .inl a_f_acts)), (c0, .inr (0, [.ref c_row, .ref c_origins, .ref c_before, .ref c_lawsByNight, .ref h0, .int z0_30])), (c_row, .inl (cyI, 7, .inl y1_31)), (c_origins, .inl (cyI, 7, .inl y2_32)), (c_before, .inl (cyI, 7, .inl y3_33)), (c_lawsByNight, .inl (cyI, 60, .inl y2_24))]) [24, 25, 0, 1, 2, 3, 4, 5, 6, 7, 8, 9, 10, 11, 12, 13, 14, 15, 16, 17, 18, 19, 20, 21, 22, 23] (by decide) rfl
          obtain ⟨x_53, ex_53⟩ : ∃ y : Int32, y = u_8 + 3 := ⟨_, rfl⟩
          refine lv_iinc (v := x_53) (lv' := [(6, .int x_53), (5, .ref n2), (0, .ref v0), (1, .ref h0), (2, .ref sl0), (3, .int 2), (4, .ref c0)]) hx hb dX6_take_110 hl (k := 0) rfl (by rw [ex_53]; rfl) (by decide) rfl (fun ls hl => ?_)
          have fx_53 : x_53.toInt = u_8.toInt + 3 := by rw [ex_53]; exact cv_addI (by have : (3 : Int32).toInt = 3 := rfl; omega) (by have : (3 : Int32).toInt = 3 := rfl; omega)
          refine lv_goto (tgt := 56) hx hb dX6_take_113 (by decide) ?_
          exact ihkey_19 x_53 z0_44 z1_45 z2_46 y3_47 (.ref h0) z0_30 y1_31 y2_32 y3_33 y2_24 _ _ _ (by omega) (by omega) (by omega) (by omega) hp_51 hp_35 hp_36 hp_37 (by omega) hp_52 hP hD hS (lv_sub hl [0, 1, 2, 3, 4, 5, 6] rfl) (by omega)
    exact key_19 _ 0 0 a_pl 1 y0_6 hvv cnum c_f_row c_f_origins c_f_before c_f_lawsByNight _ _ _ (by decide) (by decide) (by omega) (by decide) hp_7 g9 g10 g11 (by decide) (by rw [cb_zero _ (by omega)]; omega) hP hD hS (lv_sub hl [0, 1, 2, 3, 4, 5, 6] rfl) (Nat.lt_succ_self _)

/- X6_take -/
set_option maxHeartbeats 4000000 in
set_option maxRecDepth 100000 in
theorem n_take3 (l : Launch) (dC : Nat → ClassId) (dI : Nat → Nat → Nat) (cyI cyB cyJ cyZ cyH cyN : ClassId) (tR tF : Nat) (aK aV : Nat → Nat) (sz : Nat) (v0 v_hung : Nat) (v_pl v_kn v_un v_tr : Int32) (v_f : Nat → Int32) (sl0 sNum sLen sWid sMade n0 n1 n2 n3 : Nat) (nF : Nat → Option Nat) (s_fm s_fl s_fw : Nat → Int32) (s_n0 s_n1 s_n2 s_n3 : Nat → Int64) (h0 a_first a_now a_lawPlace a_lawOther a_lawEach a_lawFrom a_foes a_suitTable a_acts : Nat) (a_pl a_li a_le a_lc a_ac a_ng : Int32) (a_f_first a_f_now a_f_lawPlace a_f_lawOther a_f_lawEach a_f_lawFrom a_f_foes a_f_suitTable a_f_acts : Nat → Int32) (c0 c_row c_origins c_before c_lawsByNight : Nat) (cnum : Int32) (c_f_row c_f_origins c_f_before c_f_lawsByNight : Nat → Int32) (hvv : Value) (g0 : rg (-1) 6 7 v_f) (g1 : rg 0 1 4 s_fm) (g2 : rg 0 60 4 s_fl) (g3 : rg 0 3 4 s_fw) (g4 : rg 0 6 7 a_f_first) (g5 : rg 0 6 7 a_f_now) (g6 : rg 0 6 6 a_f_lawPlace) (g7 : rg 0 6 6 a_f_lawOther) (g8 : ra 40 a_f_acts) (g9 : rg 0 6 7 c_f_row) (g10 : rg 0 6 7 c_f_origins) (g11 : rg 0 6 7 c_f_before) (g12 : 0 ≤ a_pl.toInt ∧ a_pl.toInt ≤ 7) (g13 : 0 ≤ a_lc.toInt ∧ a_lc.toInt ≤ 6) (g14 : 0 ≤ a_ac.toInt ∧ a_ac.toInt ≤ 40) (g15 : 0 ≤ v_pl.toInt ∧ v_pl.toInt ≤ 7) (g16 : 0 ≤ v_kn.toInt ∧ v_kn.toInt ≤ 127) (g17 : 0 ≤ v_tr.toInt ∧ v_tr.toInt ≤ 1) (g18 : nF 0 = some n0) (g19 : nF 1 = some n1) (g20 : nF 2 = some n2) (g21 : nF 3 = some n3) (g22 : v_un.toInt = v_pl.toInt - cb v_kn v_pl.toInt.toNat) : Met l yX6_take (wk yX6_take cX6_take 7 (some .boolean)) ({ frames := 5, cells := 0, slots := 0, locals := 150 }) (va_Pc [.ref v0, .ref h0, .ref sl0, .int 3, .ref c0] (fun U => U.heap.size = sz ∧ va_P (dC, dI) vwCl [(v0, .inr (5, [.ref v_hung, .int v_pl, .int v_kn, .int v_un, .int v_tr])), (v_hung, .inl (cyI, 7, .inl v_f)), (sl0, .inr (7, [.ref sNum, .ref sLen, .ref sWid, .ref sMade])), (sMade, .inl (cyZ, 4, .inl s_fm)), (sLen, .inl (cyI, 4, .inl s_fl)), (sWid, .inl (cyI, 4, .inl s_fw)), (sNum, .inl (cyN, 4, .inr (.inr (.inr (.inr nF))))), (n0, .inl (cyJ, 60, .inr (.inl s_n0))), (n1, .inl (cyJ, 60, .inr (.inl s_n1))), (n2, .inl (cyJ, 60, .inr (.inl s_n2))), (n3, .inl (cyJ, 60, .inr (.inl s_n3))), (h0, .inr (2, [.int a_pl, .int a_li, .int a_le, .int a_lc, .int a_ac, .int a_ng, .ref a_first, .ref a_now, .ref a_lawPlace, .ref a_lawOther, .ref a_lawEach, .ref a_lawFrom, .ref a_foes, .ref a_suitTable, .ref a_acts])), (a_first, .inl (cyI, 7, .inl a_f_first)), (a_now, .inl (cyI, 7, .inl a_f_now)), (a_lawPlace, .inl (cyI, 6, .inl a_f_lawPlace)), (a_lawOther, .inl (cyI, 6, .inl a_f_lawOther)), (a_lawEach, .inl (cyI, 6, .inl a_f_lawEach)), (a_lawFrom, .inl (cyI, 6, .inl a_f_lawFrom)), (a_foes, .inl (cyI, 7, .inl a_f_foes)), (a_suitTable, .inl (cyI, 49, .inl a_f_suitTable)), (a_acts, .inl (cyI, 40, .inl a_f_acts)), (c0, .inr (0, [.ref c_row, .ref c_origins, .ref c_before, .ref c_lawsByNight, hvv, .int cnum])), (c_row, .inl (cyI, 7, .inl c_f_row)), (c_origins, .inl (cyI, 7, .inl c_f_origins)), (c_before, .inl (cyI, 7, .inl c_f_before)), (c_lawsByNight, .inl (cyI, 60, .inl c_f_lawsByNight))] U.heap ∧ va_K (dC, dI) vwCl [(cyI, .int), (cyB, .byte), (cyJ, .long), (cyZ, .boolean), (cyH, .object RX2), (cyN, .array .long)] U ∧ va_D (fun _ => True) [(v0, .inr (5, [.ref v_hung, .int v_pl, .int v_kn, .int v_un, .int v_tr])), (v_hung, .inl (cyI, 7, .inl v_f)), (sl0, .inr (7, [.ref sNum, .ref sLen, .ref sWid, .ref sMade])), (sMade, .inl (cyZ, 4, .inl s_fm)), (sLen, .inl (cyI, 4, .inl s_fl)), (sWid, .inl (cyI, 4, .inl s_fw)), (sNum, .inl (cyN, 4, .inr (.inr (.inr (.inr nF))))), (n0, .inl (cyJ, 60, .inr (.inl s_n0))), (n1, .inl (cyJ, 60, .inr (.inl s_n1))), (n2, .inl (cyJ, 60, .inr (.inl s_n2))), (n3, .inl (cyJ, 60, .inr (.inl s_n3))), (h0, .inr (2, [.int a_pl, .int a_li, .int a_le, .int a_lc, .int a_ac, .int a_ng, .ref a_first, .ref a_now, .ref a_lawPlace, .ref a_lawOther, .ref a_lawEach, .ref a_lawFrom, .ref a_foes, .ref a_suitTable, .ref a_acts])), (a_first, .inl (cyI, 7, .inl a_f_first)), (a_now, .inl (cyI, 7, .inl a_f_now)), (a_lawPlace, .inl (cyI, 6, .inl a_f_lawPlace)), (a_lawOther, .inl (cyI, 6, .inl a_f_lawOther)), (a_lawEach, .inl (cyI, 6, .inl a_f_lawEach)), (a_lawFrom, .inl (cyI, 6, .inl a_f_lawFrom)), (a_foes, .inl (cyI, 7, .inl a_f_foes)), (a_suitTable, .inl (cyI, 49, .inl a_f_suitTable)), (a_acts, .inl (cyI, 40, .inl a_f_acts)), (c0, .inr (0, [.ref c_row, .ref c_origins, .ref c_before, .ref c_lawsByNight, hvv, .int cnum])), (c_row, .inl (cyI, 7, .inl c_f_row)), (c_origins, .inl (cyI, 7, .inl c_f_origins)), (c_before, .inl (cyI, 7, .inl c_f_before)), (c_lawsByNight, .inl (cyI, 60, .inl c_f_lawsByNight))] ∧ cv_FX tR tF aK aV (va_A [(v0, .inr (5, [.ref v_hung, .int v_pl, .int v_kn, .int v_un, .int v_tr])), (v_hung, .inl (cyI, 7, .inl v_f)), (sl0, .inr (7, [.ref sNum, .ref sLen, .ref sWid, .ref sMade])), (sMade, .inl (cyZ, 4, .inl s_fm)), (sLen, .inl (cyI, 4, .inl s_fl)), (sWid, .inl (cyI, 4, .inl s_fw)), (sNum, .inl (cyN, 4, .inr (.inr (.inr (.inr nF))))), (n0, .inl (cyJ, 60, .inr (.inl s_n0))), (n1, .inl (cyJ, 60, .inr (.inl s_n1))), (n2, .inl (cyJ, 60, .inr (.inl s_n2))), (n3, .inl (cyJ, 60, .inr (.inl s_n3))), (h0, .inr (2, [.int a_pl, .int a_li, .int a_le, .int a_lc, .int a_ac, .int a_ng, .ref a_first, .ref a_now, .ref a_lawPlace, .ref a_lawOther, .ref a_lawEach, .ref a_lawFrom, .ref a_foes, .ref a_suitTable, .ref a_acts])), (a_first, .inl (cyI, 7, .inl a_f_first)), (a_now, .inl (cyI, 7, .inl a_f_now)), (a_lawPlace, .inl (cyI, 6, .inl a_f_lawPlace)), (a_lawOther, .inl (cyI, 6, .inl a_f_lawOther)), (a_lawEach, .inl (cyI, 6, .inl a_f_lawEach)), (a_lawFrom, .inl (cyI, 6, .inl a_f_lawFrom)), (a_foes, .inl (cyI, 7, .inl a_f_foes)), (a_suitTable, .inl (cyI, 49, .inl a_f_suitTable)), (a_acts, .inl (cyI, 40, .inl a_f_acts)), (c0, .inr (0, [.ref c_row, .ref c_origins, .ref c_before, .ref c_lawsByNight, hvv, .int cnum])), (c_row, .inl (cyI, 7, .inl c_f_row)), (c_origins, .inl (cyI, 7, .inl c_f_origins)), (c_before, .inl (cyI, 7, .inl c_f_before)), (c_lawsByNight, .inl (cyI, 60, .inl c_f_lawsByNight))] sz) U U.heap)) (va_Qi (fun (r : Int32) (_ : Unit) => 0 ≤ r.toInt ∧ r.toInt ≤ 1) (fun (_ : Unit) (t : State) => ∃ z0 : Int32, ∃ z1 : Int32, ∃ z2 : Int32, ∃ z3 : Int32, ∃ y4 : Nat → Int32, ∃ z5 : Value, ∃ z6 : Int32, ∃ y7 : Nat → Int32, ∃ y8 : Nat → Int32, ∃ y9 : Nat → Int32, ∃ y10 : Nat → Int32, (0 ≤ z0.toInt ∧ z0.toInt ≤ 7) ∧ (0 ≤ z1.toInt ∧ z1.toInt ≤ 127) ∧ (0 ≤ z3.toInt ∧ z3.toInt ≤ 1) ∧ (rg (-1) 6 7 y4) ∧ (rg 0 6 7 y7) ∧ (rg 0 6 7 y8) ∧ (rg 0 6 7 y9) ∧ (z2.toInt = z0.toInt - cb z1 z0.toInt.toNat) ∧ va_P (dC, dI) vwCl [(v0, .inr (5, [.ref v_hung, .int z0, .int z1, .int z2, .int z3])), (v_hung, .inl (cyI, 7, .inl y4)), (sl0, .inr (7, [.ref sNum, .ref sLen, .ref sWid, .ref sMade])), (sMade, .inl (cyZ, 4, .inl s_fm)), (sLen, .inl (cyI, 4, .inl s_fl)), (sWid, .inl (cyI, 4, .inl s_fw)), (sNum, .inl (cyN, 4, .inr (.inr (.inr (.inr nF))))), (n0, .inl (cyJ, 60, .inr (.inl s_n0))), (n1, .inl (cyJ, 60, .inr (.inl s_n1))), (n2, .inl (cyJ, 60, .inr (.inl s_n2))), (n3, .inl (cyJ, 60, .inr (.inl s_n3))), (h0, .inr (2, [.int a_pl, .int a_li, .int a_le, .int a_lc, .int a_ac, .int a_ng, .ref a_first, .ref a_now, .ref a_lawPlace, .ref a_lawOther, .ref a_lawEach, .ref a_lawFrom, .ref a_foes, .ref a_suitTable, .ref a_acts])), (a_first, .inl (cyI, 7, .inl a_f_first)), (a_now, .inl (cyI, 7, .inl a_f_now)), (a_lawPlace, .inl (cyI, 6, .inl a_f_lawPlace)), (a_lawOther, .inl (cyI, 6, .inl a_f_lawOther)), (a_lawEach, .inl (cyI, 6, .inl a_f_lawEach)), (a_lawFrom, .inl (cyI, 6, .inl a_f_lawFrom)), (a_foes, .inl (cyI, 7, .inl a_f_foes)), (a_suitTable, .inl (cyI, 49, .inl a_f_suitTable)), (a_acts, .inl (cyI, 40, .inl a_f_acts)), (c0, .inr (0, [.ref c_row, .ref c_origins, .ref c_before, .ref c_lawsByNight, z5, .int z6])), (c_row, .inl (cyI, 7, .inl y7)), (c_origins, .inl (cyI, 7, .inl y8)), (c_before, .inl (cyI, 7, .inl y9)), (c_lawsByNight, .inl (cyI, 60, .inl y10))] t.heap ∧ va_D (va_A [(v0, .inr (5, [.ref v_hung, .int v_pl, .int v_kn, .int v_un, .int v_tr])), (v_hung, .inl (cyI, 7, .inl v_f)), (sl0, .inr (7, [.ref sNum, .ref sLen, .ref sWid, .ref sMade])), (sMade, .inl (cyZ, 4, .inl s_fm)), (sLen, .inl (cyI, 4, .inl s_fl)), (sWid, .inl (cyI, 4, .inl s_fw)), (sNum, .inl (cyN, 4, .inr (.inr (.inr (.inr nF))))), (n0, .inl (cyJ, 60, .inr (.inl s_n0))), (n1, .inl (cyJ, 60, .inr (.inl s_n1))), (n2, .inl (cyJ, 60, .inr (.inl s_n2))), (n3, .inl (cyJ, 60, .inr (.inl s_n3))), (h0, .inr (2, [.int a_pl, .int a_li, .int a_le, .int a_lc, .int a_ac, .int a_ng, .ref a_first, .ref a_now, .ref a_lawPlace, .ref a_lawOther, .ref a_lawEach, .ref a_lawFrom, .ref a_foes, .ref a_suitTable, .ref a_acts])), (a_first, .inl (cyI, 7, .inl a_f_first)), (a_now, .inl (cyI, 7, .inl a_f_now)), (a_lawPlace, .inl (cyI, 6, .inl a_f_lawPlace)), (a_lawOther, .inl (cyI, 6, .inl a_f_lawOther)), (a_lawEach, .inl (cyI, 6, .inl a_f_lawEach)), (a_lawFrom, .inl (cyI, 6, .inl a_f_lawFrom)), (a_foes, .inl (cyI, 7, .inl a_f_foes)), (a_suitTable, .inl (cyI, 49, .inl a_f_suitTable)), (a_acts, .inl (cyI, 40, .inl a_f_acts)), (c0, .inr (0, [.ref c_row, .ref c_origins, .ref c_before, .ref c_lawsByNight, hvv, .int cnum])), (c_row, .inl (cyI, 7, .inl c_f_row)), (c_origins, .inl (cyI, 7, .inl c_f_origins)), (c_before, .inl (cyI, 7, .inl c_f_before)), (c_lawsByNight, .inl (cyI, 60, .inl c_f_lawsByNight))] sz) [(v0, .inr (5, [.ref v_hung, .int z0, .int z1, .int z2, .int z3])), (v_hung, .inl (cyI, 7, .inl y4)), (sl0, .inr (7, [.ref sNum, .ref sLen, .ref sWid, .ref sMade])), (sMade, .inl (cyZ, 4, .inl s_fm)), (sLen, .inl (cyI, 4, .inl s_fl)), (sWid, .inl (cyI, 4, .inl s_fw)), (sNum, .inl (cyN, 4, .inr (.inr (.inr (.inr nF))))), (n0, .inl (cyJ, 60, .inr (.inl s_n0))), (n1, .inl (cyJ, 60, .inr (.inl s_n1))), (n2, .inl (cyJ, 60, .inr (.inl s_n2))), (n3, .inl (cyJ, 60, .inr (.inl s_n3))), (h0, .inr (2, [.int a_pl, .int a_li, .int a_le, .int a_lc, .int a_ac, .int a_ng, .ref a_first, .ref a_now, .ref a_lawPlace, .ref a_lawOther, .ref a_lawEach, .ref a_lawFrom, .ref a_foes, .ref a_suitTable, .ref a_acts])), (a_first, .inl (cyI, 7, .inl a_f_first)), (a_now, .inl (cyI, 7, .inl a_f_now)), (a_lawPlace, .inl (cyI, 6, .inl a_f_lawPlace)), (a_lawOther, .inl (cyI, 6, .inl a_f_lawOther)), (a_lawEach, .inl (cyI, 6, .inl a_f_lawEach)), (a_lawFrom, .inl (cyI, 6, .inl a_f_lawFrom)), (a_foes, .inl (cyI, 7, .inl a_f_foes)), (a_suitTable, .inl (cyI, 49, .inl a_f_suitTable)), (a_acts, .inl (cyI, 40, .inl a_f_acts)), (c0, .inr (0, [.ref c_row, .ref c_origins, .ref c_before, .ref c_lawsByNight, z5, .int z6])), (c_row, .inl (cyI, 7, .inl y7)), (c_origins, .inl (cyI, 7, .inl y8)), (c_before, .inl (cyI, 7, .inl y9)), (c_lawsByNight, .inl (cyI, 60, .inl y10))]) (va_A [(v0, .inr (5, [.ref v_hung, .int v_pl, .int v_kn, .int v_un, .int v_tr])), (v_hung, .inl (cyI, 7, .inl v_f)), (sl0, .inr (7, [.ref sNum, .ref sLen, .ref sWid, .ref sMade])), (sMade, .inl (cyZ, 4, .inl s_fm)), (sLen, .inl (cyI, 4, .inl s_fl)), (sWid, .inl (cyI, 4, .inl s_fw)), (sNum, .inl (cyN, 4, .inr (.inr (.inr (.inr nF))))), (n0, .inl (cyJ, 60, .inr (.inl s_n0))), (n1, .inl (cyJ, 60, .inr (.inl s_n1))), (n2, .inl (cyJ, 60, .inr (.inl s_n2))), (n3, .inl (cyJ, 60, .inr (.inl s_n3))), (h0, .inr (2, [.int a_pl, .int a_li, .int a_le, .int a_lc, .int a_ac, .int a_ng, .ref a_first, .ref a_now, .ref a_lawPlace, .ref a_lawOther, .ref a_lawEach, .ref a_lawFrom, .ref a_foes, .ref a_suitTable, .ref a_acts])), (a_first, .inl (cyI, 7, .inl a_f_first)), (a_now, .inl (cyI, 7, .inl a_f_now)), (a_lawPlace, .inl (cyI, 6, .inl a_f_lawPlace)), (a_lawOther, .inl (cyI, 6, .inl a_f_lawOther)), (a_lawEach, .inl (cyI, 6, .inl a_f_lawEach)), (a_lawFrom, .inl (cyI, 6, .inl a_f_lawFrom)), (a_foes, .inl (cyI, 7, .inl a_f_foes)), (a_suitTable, .inl (cyI, 49, .inl a_f_suitTable)), (a_acts, .inl (cyI, 40, .inl a_f_acts)), (c0, .inr (0, [.ref c_row, .ref c_origins, .ref c_before, .ref c_lawsByNight, hvv, .int cnum])), (c_row, .inl (cyI, 7, .inl c_f_row)), (c_origins, .inl (cyI, 7, .inl c_f_origins)), (c_before, .inl (cyI, 7, .inl c_f_before)), (c_lawsByNight, .inl (cyI, 60, .inl c_f_lawsByNight))] sz)) 0 0 (va_A [(v0, .inr (5, [.ref v_hung, .int v_pl, .int v_kn, .int v_un, .int v_tr])), (v_hung, .inl (cyI, 7, .inl v_f)), (sl0, .inr (7, [.ref sNum, .ref sLen, .ref sWid, .ref sMade])), (sMade, .inl (cyZ, 4, .inl s_fm)), (sLen, .inl (cyI, 4, .inl s_fl)), (sWid, .inl (cyI, 4, .inl s_fw)), (sNum, .inl (cyN, 4, .inr (.inr (.inr (.inr nF))))), (n0, .inl (cyJ, 60, .inr (.inl s_n0))), (n1, .inl (cyJ, 60, .inr (.inl s_n1))), (n2, .inl (cyJ, 60, .inr (.inl s_n2))), (n3, .inl (cyJ, 60, .inr (.inl s_n3))), (h0, .inr (2, [.int a_pl, .int a_li, .int a_le, .int a_lc, .int a_ac, .int a_ng, .ref a_first, .ref a_now, .ref a_lawPlace, .ref a_lawOther, .ref a_lawEach, .ref a_lawFrom, .ref a_foes, .ref a_suitTable, .ref a_acts])), (a_first, .inl (cyI, 7, .inl a_f_first)), (a_now, .inl (cyI, 7, .inl a_f_now)), (a_lawPlace, .inl (cyI, 6, .inl a_f_lawPlace)), (a_lawOther, .inl (cyI, 6, .inl a_f_lawOther)), (a_lawEach, .inl (cyI, 6, .inl a_f_lawEach)), (a_lawFrom, .inl (cyI, 6, .inl a_f_lawFrom)), (a_foes, .inl (cyI, 7, .inl a_f_foes)), (a_suitTable, .inl (cyI, 49, .inl a_f_suitTable)), (a_acts, .inl (cyI, 40, .inl a_f_acts)), (c0, .inr (0, [.ref c_row, .ref c_origins, .ref c_before, .ref c_lawsByNight, hvv, .int cnum])), (c_row, .inl (cyI, 7, .inl c_f_row)), (c_origins, .inl (cyI, 7, .inl c_f_origins)), (c_before, .inl (cyI, 7, .inl c_f_before)), (c_lawsByNight, .inl (cyI, 60, .inl c_f_lawsByNight))] sz) := by
  refine Met.ofW (cc := cX6_take) (maxL := 7) (ret := (some .boolean)) (by decide) rfl ?_
  intro p e s m args below meth c s₁ B hml hv
  obtain ⟨rfl, hsz, hP, hK, hD0, hFX⟩ := hv
  have hx := B.exec
  have hb := B.bytes
  have hr := B.returns
  have hts : ∀ w ∈ uU, w.before ([.ref v0, .ref h0, .ref sl0, .int 3, .ref c0] : List Value).toArray s = true := fun w h => atoms_spec (ws := wk yX6_take cX6_take 7 (some .boolean)) B.pre w (List.mem_cons_of_mem _ h)
  have hown : s.vm.findClass RX6 = some m.cls := findClass_of_methodNamed B.named
  have hlocks := B.notSynchronized
  subst hsz
  have hD := hD0.self (sz := s.heap.size)
  generalize hAe : va_A [(v0, .inr (5, [.ref v_hung, .int v_pl, .int v_kn, .int v_un, .int v_tr])), (v_hung, .inl (cyI, 7, .inl v_f)), (sl0, .inr (7, [.ref sNum, .ref sLen, .ref sWid, .ref sMade])), (sMade, .inl (cyZ, 4, .inl s_fm)), (sLen, .inl (cyI, 4, .inl s_fl)), (sWid, .inl (cyI, 4, .inl s_fw)), (sNum, .inl (cyN, 4, .inr (.inr (.inr (.inr nF))))), (n0, .inl (cyJ, 60, .inr (.inl s_n0))), (n1, .inl (cyJ, 60, .inr (.inl s_n1))), (n2, .inl (cyJ, 60, .inr (.inl s_n2))), (n3, .inl (cyJ, 60, .inr (.inl s_n3))), (h0, .inr (2, [.int a_pl, .int a_li, .int a_le, .int a_lc, .int a_ac, .int a_ng, .ref a_first, .ref a_now, .ref a_lawPlace, .ref a_lawOther, .ref a_lawEach, .ref a_lawFrom, .ref a_foes, .ref a_suitTable, .ref a_acts])), (a_first, .inl (cyI, 7, .inl a_f_first)), (a_now, .inl (cyI, 7, .inl a_f_now)), (a_lawPlace, .inl (cyI, 6, .inl a_f_lawPlace)), (a_lawOther, .inl (cyI, 6, .inl a_f_lawOther)), (a_lawEach, .inl (cyI, 6, .inl a_f_lawEach)), (a_lawFrom, .inl (cyI, 6, .inl a_f_lawFrom)), (a_foes, .inl (cyI, 7, .inl a_f_foes)), (a_suitTable, .inl (cyI, 49, .inl a_f_suitTable)), (a_acts, .inl (cyI, 40, .inl a_f_acts)), (c0, .inr (0, [.ref c_row, .ref c_origins, .ref c_before, .ref c_lawsByNight, hvv, .int cnum])), (c_row, .inl (cyI, 7, .inl c_f_row)), (c_origins, .inl (cyI, 7, .inl c_f_origins)), (c_before, .inl (cyI, 7, .inl c_f_before)), (c_lawsByNight, .inl (cyI, 60, .inl c_f_lawsByNight))] s.heap.size = A at hD hFX ⊢
  have hA : ∀ q : Nat, s.heap.size ≤ q → A q := fun q h => by rw [← hAe]; exact Or.inr h
  have hS : va_S A s.heap s.heap [] := va_S.rf
  have hP : va_P (dC, dI) vwCl [(v0, .inr (5, [.ref v_hung, .int v_pl, .int v_kn, .int v_un, .int v_tr])), (v_hung, .inl (cyI, 7, .inl v_f)), (sl0, .inr (7, [.ref sNum, .ref sLen, .ref sWid, .ref sMade])), (sMade, .inl (cyZ, 4, .inl s_fm)), (sLen, .inl (cyI, 4, .inl s_fl)), (sWid, .inl (cyI, 4, .inl s_fw)), (sNum, .inl (cyN, 4, .inr (.inr (.inr (.inr nF))))), (n0, .inl (cyJ, 60, .inr (.inl s_n0))), (n1, .inl (cyJ, 60, .inr (.inl s_n1))), (n2, .inl (cyJ, 60, .inr (.inl s_n2))), (n3, .inl (cyJ, 60, .inr (.inl s_n3))), (h0, .inr (2, [.int a_pl, .int a_li, .int a_le, .int a_lc, .int a_ac, .int a_ng, .ref a_first, .ref a_now, .ref a_lawPlace, .ref a_lawOther, .ref a_lawEach, .ref a_lawFrom, .ref a_foes, .ref a_suitTable, .ref a_acts])), (a_first, .inl (cyI, 7, .inl a_f_first)), (a_now, .inl (cyI, 7, .inl a_f_now)), (a_lawPlace, .inl (cyI, 6, .inl a_f_lawPlace)), (a_lawOther, .inl (cyI, 6, .inl a_f_lawOther)), (a_lawEach, .inl (cyI, 6, .inl a_f_lawEach)), (a_lawFrom, .inl (cyI, 6, .inl a_f_lawFrom)), (a_foes, .inl (cyI, 7, .inl a_f_foes)), (a_suitTable, .inl (cyI, 49, .inl a_f_suitTable)), (a_acts, .inl (cyI, 40, .inl a_f_acts)), (c0, .inr (0, [.ref c_row, .ref c_origins, .ref c_before, .ref c_lawsByNight, hvv, .int cnum])), (c_row, .inl (cyI, 7, .inl c_f_row)), (c_origins, .inl (cyI, 7, .inl c_f_origins)), (c_before, .inl (cyI, 7, .inl c_f_before)), (c_lawsByNight, .inl (cyI, 60, .inl c_f_lawsByNight))] s.heap := hP
  have hl := lv_entry ([.ref v0, .ref h0, .ref sl0, .int 3, .ref c0]) (n := 7) (Nat.le_of_ble_eq_true rfl)
  rw [lg_entry_eq]
  generalize (lg_sl ([.ref v0, .ref h0, .ref sl0, .int 3, .ref c0]) ++ List.replicate (7 - (lg_sl ([.ref v0, .ref h0, .ref sl0, .int 3, .ref c0])).length) Slot.unset).toArray = ls at hl ⊢
  have hl : lv_has ls 7 [(0, .ref v0), (1, .ref h0), (2, .ref sl0), (3, .int 3), (4, .ref c0)] := hl
  obtain ⟨H, hHe⟩ : ∃ H, H = s.heap := ⟨_, rfl⟩
  have hP : va_P (dC, dI) vwCl [(v0, .inr (5, [.ref v_hung, .int v_pl, .int v_kn, .int v_un, .int v_tr])), (v_hung, .inl (cyI, 7, .inl v_f)), (sl0, .inr (7, [.ref sNum, .ref sLen, .ref sWid, .ref sMade])), (sMade, .inl (cyZ, 4, .inl s_fm)), (sLen, .inl (cyI, 4, .inl s_fl)), (sWid, .inl (cyI, 4, .inl s_fw)), (sNum, .inl (cyN, 4, .inr (.inr (.inr (.inr nF))))), (n0, .inl (cyJ, 60, .inr (.inl s_n0))), (n1, .inl (cyJ, 60, .inr (.inl s_n1))), (n2, .inl (cyJ, 60, .inr (.inl s_n2))), (n3, .inl (cyJ, 60, .inr (.inl s_n3))), (h0, .inr (2, [.int a_pl, .int a_li, .int a_le, .int a_lc, .int a_ac, .int a_ng, .ref a_first, .ref a_now, .ref a_lawPlace, .ref a_lawOther, .ref a_lawEach, .ref a_lawFrom, .ref a_foes, .ref a_suitTable, .ref a_acts])), (a_first, .inl (cyI, 7, .inl a_f_first)), (a_now, .inl (cyI, 7, .inl a_f_now)), (a_lawPlace, .inl (cyI, 6, .inl a_f_lawPlace)), (a_lawOther, .inl (cyI, 6, .inl a_f_lawOther)), (a_lawEach, .inl (cyI, 6, .inl a_f_lawEach)), (a_lawFrom, .inl (cyI, 6, .inl a_f_lawFrom)), (a_foes, .inl (cyI, 7, .inl a_f_foes)), (a_suitTable, .inl (cyI, 49, .inl a_f_suitTable)), (a_acts, .inl (cyI, 40, .inl a_f_acts)), (c0, .inr (0, [.ref c_row, .ref c_origins, .ref c_before, .ref c_lawsByNight, hvv, .int cnum])), (c_row, .inl (cyI, 7, .inl c_f_row)), (c_origins, .inl (cyI, 7, .inl c_f_origins)), (c_before, .inl (cyI, 7, .inl c_f_before)), (c_lawsByNight, .inl (cyI, 60, .inl c_f_lawsByNight))] H := by rw [hHe]; exact hP
  have hS : va_S A s.heap H [] := by rw [hHe]; exact hS
  refine cv_heap hHe ?_
  obtain ⟨Q9, hQ9⟩ : ∃ Q9 : State → Prop, Q9 = MQ below (va_Qi (fun (r : Int32) (_ : Unit) => 0 ≤ r.toInt ∧ r.toInt ≤ 1) (fun (_ : Unit) (t : State) => ∃ z0 : Int32, ∃ z1 : Int32, ∃ z2 : Int32, ∃ z3 : Int32, ∃ y4 : Nat → Int32, ∃ z5 : Value, ∃ z6 : Int32, ∃ y7 : Nat → Int32, ∃ y8 : Nat → Int32, ∃ y9 : Nat → Int32, ∃ y10 : Nat → Int32, (0 ≤ z0.toInt ∧ z0.toInt ≤ 7) ∧ (0 ≤ z1.toInt ∧ z1.toInt ≤ 127) ∧ (0 ≤ z3.toInt ∧ z3.toInt ≤ 1) ∧ (rg (-1) 6 7 y4) ∧ (rg 0 6 7 y7) ∧ (rg 0 6 7 y8) ∧ (rg 0 6 7 y9) ∧ (z2.toInt = z0.toInt - cb z1 z0.toInt.toNat) ∧ va_P (dC, dI) vwCl [(v0, .inr (5, [.ref v_hung, .int z0, .int z1, .int z2, .int z3])), (v_hung, .inl (cyI, 7, .inl y4)), (sl0, .inr (7, [.ref sNum, .ref sLen, .ref sWid, .ref sMade])), (sMade, .inl (cyZ, 4, .inl s_fm)), (sLen, .inl (cyI, 4, .inl s_fl)), (sWid, .inl (cyI, 4, .inl s_fw)), (sNum, .inl (cyN, 4, .inr (.inr (.inr (.inr nF))))), (n0, .inl (cyJ, 60, .inr (.inl s_n0))), (n1, .inl (cyJ, 60, .inr (.inl s_n1))), (n2, .inl (cyJ, 60, .inr (.inl s_n2))), (n3, .inl (cyJ, 60, .inr (.inl s_n3))), (h0, .inr (2, [.int a_pl, .int a_li, .int a_le, .int a_lc, .int a_ac, .int a_ng, .ref a_first, .ref a_now, .ref a_lawPlace, .ref a_lawOther, .ref a_lawEach, .ref a_lawFrom, .ref a_foes, .ref a_suitTable, .ref a_acts])), (a_first, .inl (cyI, 7, .inl a_f_first)), (a_now, .inl (cyI, 7, .inl a_f_now)), (a_lawPlace, .inl (cyI, 6, .inl a_f_lawPlace)), (a_lawOther, .inl (cyI, 6, .inl a_f_lawOther)), (a_lawEach, .inl (cyI, 6, .inl a_f_lawEach)), (a_lawFrom, .inl (cyI, 6, .inl a_f_lawFrom)), (a_foes, .inl (cyI, 7, .inl a_f_foes)), (a_suitTable, .inl (cyI, 49, .inl a_f_suitTable)), (a_acts, .inl (cyI, 40, .inl a_f_acts)), (c0, .inr (0, [.ref c_row, .ref c_origins, .ref c_before, .ref c_lawsByNight, z5, .int z6])), (c_row, .inl (cyI, 7, .inl y7)), (c_origins, .inl (cyI, 7, .inl y8)), (c_before, .inl (cyI, 7, .inl y9)), (c_lawsByNight, .inl (cyI, 60, .inl y10))] t.heap ∧ va_D A [(v0, .inr (5, [.ref v_hung, .int z0, .int z1, .int z2, .int z3])), (v_hung, .inl (cyI, 7, .inl y4)), (sl0, .inr (7, [.ref sNum, .ref sLen, .ref sWid, .ref sMade])), (sMade, .inl (cyZ, 4, .inl s_fm)), (sLen, .inl (cyI, 4, .inl s_fl)), (sWid, .inl (cyI, 4, .inl s_fw)), (sNum, .inl (cyN, 4, .inr (.inr (.inr (.inr nF))))), (n0, .inl (cyJ, 60, .inr (.inl s_n0))), (n1, .inl (cyJ, 60, .inr (.inl s_n1))), (n2, .inl (cyJ, 60, .inr (.inl s_n2))), (n3, .inl (cyJ, 60, .inr (.inl s_n3))), (h0, .inr (2, [.int a_pl, .int a_li, .int a_le, .int a_lc, .int a_ac, .int a_ng, .ref a_first, .ref a_now, .ref a_lawPlace, .ref a_lawOther, .ref a_lawEach, .ref a_lawFrom, .ref a_foes, .ref a_suitTable, .ref a_acts])), (a_first, .inl (cyI, 7, .inl a_f_first)), (a_now, .inl (cyI, 7, .inl a_f_now)), (a_lawPlace, .inl (cyI, 6, .inl a_f_lawPlace)), (a_lawOther, .inl (cyI, 6, .inl a_f_lawOther)), (a_lawEach, .inl (cyI, 6, .inl a_f_lawEach)), (a_lawFrom, .inl (cyI, 6, .inl a_f_lawFrom)), (a_foes, .inl (cyI, 7, .inl a_f_foes)), (a_suitTable, .inl (cyI, 49, .inl a_f_suitTable)), (a_acts, .inl (cyI, 40, .inl a_f_acts)), (c0, .inr (0, [.ref c_row, .ref c_origins, .ref c_before, .ref c_lawsByNight, z5, .int z6])), (c_row, .inl (cyI, 7, .inl y7)), (c_origins, .inl (cyI, 7, .inl y8)), (c_before, .inl (cyI, 7, .inl y9)), (c_lawsByNight, .inl (cyI, 60, .inl y10))]) A) ([.ref v0, .ref h0, .ref sl0, .int 3, .ref c0] : List Value).toArray s 0 0 A := ⟨_, rfl⟩
  rw [← hQ9]
  refine lv_aload_n hx hb dX6_take_0 rfl (lv_at hl 1 rfl) ?_
  refine lv_aload_n hx hb dX6_take_1 rfl (lv_at hl 2 rfl) ?_
  refine lv_iload_n hx hb dX6_take_2 rfl (lv_at hl 3 rfl) ?_
  have hPc := hP.sub (ws' := [(sl0, .inr (7, [.ref sNum, .ref sLen, .ref sWid, .ref sMade])), (sMade, .inl (cyZ, 4, .inl s_fm)), (sLen, .inl (cyI, 4, .inl s_fl)), (sWid, .inl (cyI, 4, .inl s_fw)), (sNum, .inl (cyN, 4, .inr (.inr (.inr (.inr nF))))), (n0, .inl (cyJ, 60, .inr (.inl s_n0))), (n1, .inl (cyJ, 60, .inr (.inl s_n1))), (n2, .inl (cyJ, 60, .inr (.inl s_n2))), (n3, .inl (cyJ, 60, .inr (.inl s_n3))), (h0, .inr (2, [.int a_pl, .int a_li, .int a_le, .int a_lc, .int a_ac, .int a_ng, .ref a_first, .ref a_now, .ref a_lawPlace, .ref a_lawOther, .ref a_lawEach, .ref a_lawFrom, .ref a_foes, .ref a_suitTable, .ref a_acts])), (a_first, .inl (cyI, 7, .inl a_f_first)), (a_now, .inl (cyI, 7, .inl a_f_now)), (a_lawPlace, .inl (cyI, 6, .inl a_f_lawPlace)), (a_lawOther, .inl (cyI, 6, .inl a_f_lawOther)), (a_lawEach, .inl (cyI, 6, .inl a_f_lawEach)), (a_lawFrom, .inl (cyI, 6, .inl a_f_lawFrom)), (a_foes, .inl (cyI, 7, .inl a_f_foes)), (a_suitTable, .inl (cyI, 49, .inl a_f_suitTable)), (a_acts, .inl (cyI, 40, .inl a_f_acts))]) [2, 3, 4, 5, 6, 7, 8, 9, 10, 11, 12, 13, 14, 15, 16, 17, 18, 19, 20] rfl
  have hKc := hK.sub (tys' := [(cyI, .int), (cyB, .byte), (cyJ, .long), (cyZ, .boolean), (cyH, .object RX2), (cyN, .array .long)]) [0, 1, 2, 3, 4, 5] rfl
  refine vp_callSi (va_Run.run (va_runS (As := [.ref h0, .ref sl0, .int 3]) (rest := []) ⟨hx, hb, hml, hown, hts⟩ (n_areSuch3 l dC dI cyI cyB cyJ cyZ cyH cyN sl0 sNum sLen sWid sMade n0 n1 n2 n3 nF s_fm s_fl s_fw s_n0 s_n1 s_n2 s_n3 h0 a_first a_now a_lawPlace a_lawOther a_lawEach a_lawFrom a_foes a_suitTable a_acts a_pl a_li a_le a_lc a_ac a_ng a_f_first a_f_now a_f_lawPlace a_f_lawOther a_f_lawEach a_f_lawFrom a_f_foes a_f_suitTable a_f_acts g1 g2 g3 g4 g5 g6 g7 g8 (by omega) (by omega) (by omega) g18 g19 g20 g21) (va_cwS 3 hts (gdS wd_4_181 wd_4_182 wd_1_6 wd_4_183) rfl rfl rfl (by decide +kernel) ⟨Nat.le_of_ble_eq_true rfl, Nat.le_of_ble_eq_true rfl⟩) ⟨fun a U g mk q => by obtain ⟨q0, qP, qK⟩ := q; exact ⟨q0, qP, va_K.moved (u := U) (U := U.calling g mk a) (Vm.Alike.refl U.vm) qK⟩, fun U hU hW => ⟨rfl, by rw [hU]; exact hPc, va_K.moved hW.alike hKc⟩⟩ rfl rfl hl.1 rfl (lv_room (Nat.le_of_ble_eq_true rfl)) dX6_take_3 ⟨Nat.le_of_ble_eq_true rfl, Nat.le_of_ble_eq_true rfl⟩)) (fun r_1 hw => ?_)
  rcases cv_01 hw.1 with c_2 | c_2
  · subst c_2
    refine lv_if_ne (tgt := 11) hx hb dX6_take_6 (by decide) (fun c_4 => absurd c_4 (by decide)) (fun _ => ?_)
    refine lv_iconst (v := 0) hx hb dX6_take_9 (by decide) ?_
    rw [hQ9]
    have hP9 := hP.sub (ws' := [(v0, .inr (5, [.ref v_hung, .int v_pl, .int v_kn, .int v_un, .int v_tr])), (v_hung, .inl (cyI, 7, .inl v_f)), (sl0, .inr (7, [.ref sNum, .ref sLen, .ref sWid, .ref sMade])), (sMade, .inl (cyZ, 4, .inl s_fm)), (sLen, .inl (cyI, 4, .inl s_fl)), (sWid, .inl (cyI, 4, .inl s_fw)), (sNum, .inl (cyN, 4, .inr (.inr (.inr (.inr nF))))), (n0, .inl (cyJ, 60, .inr (.inl s_n0))), (n1, .inl (cyJ, 60, .inr (.inl s_n1))), (n2, .inl (cyJ, 60, .inr (.inl s_n2))), (n3, .inl (cyJ, 60, .inr (.inl s_n3))), (h0, .inr (2, [.int a_pl, .int a_li, .int a_le, .int a_lc, .int a_ac, .int a_ng, .ref a_first, .ref a_now, .ref a_lawPlace, .ref a_lawOther, .ref a_lawEach, .ref a_lawFrom, .ref a_foes, .ref a_suitTable, .ref a_acts])), (a_first, .inl (cyI, 7, .inl a_f_first)), (a_now, .inl (cyI, 7, .inl a_f_now)), (a_lawPlace, .inl (cyI, 6, .inl a_f_lawPlace)), (a_lawOther, .inl (cyI, 6, .inl a_f_lawOther)), (a_lawEach, .inl (cyI, 6, .inl a_f_lawEach)), (a_lawFrom, .inl (cyI, 6, .inl a_f_lawFrom)), (a_foes, .inl (cyI, 7, .inl a_f_foes)), (a_suitTable, .inl (cyI, 49, .inl a_f_suitTable)), (a_acts, .inl (cyI, 40, .inl a_f_acts)), (c0, .inr (0, [.ref c_row, .ref c_origins, .ref c_before, .ref c_lawsByNight, hvv, .int cnum])), (c_row, .inl (cyI, 7, .inl c_f_row)), (c_origins, .inl (cyI, 7, .inl c_f_origins)), (c_before, .inl (cyI, 7, .inl c_f_before)), (c_lawsByNight, .inl (cyI, 60, .inl c_f_lawsByNight))]) [0, 1, 2, 3, 4, 5, 6, 7, 8, 9, 10, 11, 12, 13, 14, 15, 16, 17, 18, 19, 20, 21, 22, 23, 24, 25] rfl
    have hD9 := hD.sub (ws' := [(v0, .inr (5, [.ref v_hung, .int v_pl, .int v_kn, .int v_un, .int v_tr])), (v_hung, .inl (cyI, 7, .inl v_f)), (sl0, .inr (7, [.ref sNum, .ref sLen, .ref sWid, .ref sMade])), (sMade, .inl (cyZ, 4, .inl s_fm)), (sLen, .inl (cyI, 4, .inl s_fl)), (sWid, .inl (cyI, 4, .inl s_fw)), (sNum, .inl (cyN, 4, .inr (.inr (.inr (.inr nF))))), (n0, .inl (cyJ, 60, .inr (.inl s_n0))), (n1, .inl (cyJ, 60, .inr (.inl s_n1))), (n2, .inl (cyJ, 60, .inr (.inl s_n2))), (n3, .inl (cyJ, 60, .inr (.inl s_n3))), (h0, .inr (2, [.int a_pl, .int a_li, .int a_le, .int a_lc, .int a_ac, .int a_ng, .ref a_first, .ref a_now, .ref a_lawPlace, .ref a_lawOther, .ref a_lawEach, .ref a_lawFrom, .ref a_foes, .ref a_suitTable, .ref a_acts])), (a_first, .inl (cyI, 7, .inl a_f_first)), (a_now, .inl (cyI, 7, .inl a_f_now)), (a_lawPlace, .inl (cyI, 6, .inl a_f_lawPlace)), (a_lawOther, .inl (cyI, 6, .inl a_f_lawOther)), (a_lawEach, .inl (cyI, 6, .inl a_f_lawEach)), (a_lawFrom, .inl (cyI, 6, .inl a_f_lawFrom)), (a_foes, .inl (cyI, 7, .inl a_f_foes)), (a_suitTable, .inl (cyI, 49, .inl a_f_suitTable)), (a_acts, .inl (cyI, 40, .inl a_f_acts)), (c0, .inr (0, [.ref c_row, .ref c_origins, .ref c_before, .ref c_lawsByNight, hvv, .int cnum])), (c_row, .inl (cyI, 7, .inl c_f_row)), (c_origins, .inl (cyI, 7, .inl c_f_origins)), (c_before, .inl (cyI, 7, .inl c_f_before)), (c_lawsByNight, .inl (cyI, 60, .inl c_f_lawsByNight))]) [0, 1, 2, 3, 4, 5, 6, 7, 8, 9, 10, 11, 12, 13, 14, 15, 16, 17, 18, 19, 20, 21, 22, 23, 24, 25] (by decide) rfl
    exact W.zret (v := 0) (ty := .boolean) hx hb hr rfl (fun t ht hW => ⟨⟨0, (), rfl, (by decide), ⟨v_pl, v_kn, v_un, v_tr, v_f, hvv, cnum, c_f_row, c_f_origins, c_f_before, c_f_lawsByNight, (by omega), (by omega), (by omega), g0, g9, g10, g11, g22, by rw [ht]; exact hP9, hD9⟩⟩, hS.F ht⟩) hS.2.2 dX6_take_10
  · subst c_2; have hq_3 := hw.2 rfl
    refine lv_if_ne (tgt := 11) hx hb dX6_take_6 (by decide) (fun _ => ?_) (fun c_5 => absurd c_5 (by decide))
    refine lv_aload_n hx hb dX6_take_11 rfl (lv_at hl 0 rfl) ?_
    refine lv_aload_n hx hb dX6_take_12 rfl (lv_at hl 1 rfl) ?_
    refine va_get (D := (dC, dI)) (ci := 2) (v := .int a_pl) (C := RX2) (T := TX2) (N := 15) hx hb hts uinX2 hown hK hP 11 rfl rfl 0 (by decide) (hts _ wd_1_82) (fun _ h9 => h9) rfl dX6_take_13 ?_
    refine va_put (D := (dC, dI)) (ci := 5) (v := .int a_pl) (ty := .int) (C := RX6) (T := TX6) (N := 5) hx hb hts uinX6 tyX6 tyX6_ok nmX6 hown hK hP hD hS 0 rfl rfl 1 (by decide) (hts _ wd_1_219) (fun _ h9 => h9) rfl (by decide +kernel) rfl rfl (Nat.le_of_ble_eq_true rfl) dX6_take_16 (fun H locs hP hD hS => ?_)
    have hP : va_P (dC, dI) vwCl [(v0, .inr (5, [.ref v_hung, .int a_pl, .int v_kn, .int v_un, .int v_tr])), (v_hung, .inl (cyI, 7, .inl v_f)), (sl0, .inr (7, [.ref sNum, .ref sLen, .ref sWid, .ref sMade])), (sMade, .inl (cyZ, 4, .inl s_fm)), (sLen, .inl (cyI, 4, .inl s_fl)), (sWid, .inl (cyI, 4, .inl s_fw)), (sNum, .inl (cyN, 4, .inr (.inr (.inr (.inr nF))))), (n0, .inl (cyJ, 60, .inr (.inl s_n0))), (n1, .inl (cyJ, 60, .inr (.inl s_n1))), (n2, .inl (cyJ, 60, .inr (.inl s_n2))), (n3, .inl (cyJ, 60, .inr (.inl s_n3))), (h0, .inr (2, [.int a_pl, .int a_li, .int a_le, .int a_lc, .int a_ac, .int a_ng, .ref a_first, .ref a_now, .ref a_lawPlace, .ref a_lawOther, .ref a_lawEach, .ref a_lawFrom, .ref a_foes, .ref a_suitTable, .ref a_acts])), (a_first, .inl (cyI, 7, .inl a_f_first)), (a_now, .inl (cyI, 7, .inl a_f_now)), (a_lawPlace, .inl (cyI, 6, .inl a_f_lawPlace)), (a_lawOther, .inl (cyI, 6, .inl a_f_lawOther)), (a_lawEach, .inl (cyI, 6, .inl a_f_lawEach)), (a_lawFrom, .inl (cyI, 6, .inl a_f_lawFrom)), (a_foes, .inl (cyI, 7, .inl a_f_foes)), (a_suitTable, .inl (cyI, 49, .inl a_f_suitTable)), (a_acts, .inl (cyI, 40, .inl a_f_acts)), (c0, .inr (0, [.ref c_row, .ref c_origins, .ref c_before, .ref c_lawsByNight, hvv, .int cnum])), (c_row, .inl (cyI, 7, .inl c_f_row)), (c_origins, .inl (cyI, 7, .inl c_f_origins)), (c_before, .inl (cyI, 7, .inl c_f_before)), (c_lawsByNight, .inl (cyI, 60, .inl c_f_lawsByNight))] H := hP
    have hD : va_D A [(v0, .inr (5, [.ref v_hung, .int a_pl, .int v_kn, .int v_un, .int v_tr])), (v_hung, .inl (cyI, 7, .inl v_f)), (sl0, .inr (7, [.ref sNum, .ref sLen, .ref sWid, .ref sMade])), (sMade, .inl (cyZ, 4, .inl s_fm)), (sLen, .inl (cyI, 4, .inl s_fl)), (sWid, .inl (cyI, 4, .inl s_fw)), (sNum, .inl (cyN, 4, .inr (.inr (.inr (.inr nF))))), (n0, .inl (cyJ, 60, .inr (.inl s_n0))), (n1, .inl (cyJ, 60, .inr (.inl s_n1))), (n2, .inl (cyJ, 60, .inr (.inl s_n2))), (n3, .inl (cyJ, 60, .inr (.inl s_n3))), (h0, .inr (2, [.int a_pl, .int a_li, .int a_le, .int a_lc, .int a_ac, .int a_ng, .ref a_first, .ref a_now, .ref a_lawPlace, .ref a_lawOther, .ref a_lawEach, .ref a_lawFrom, .ref a_foes, .ref a_suitTable, .ref a_acts])), (a_first, .inl (cyI, 7, .inl a_f_first)), (a_now, .inl (cyI, 7, .inl a_f_now)), (a_lawPlace, .inl (cyI, 6, .inl a_f_lawPlace)), (a_lawOther, .inl (cyI, 6, .inl a_f_lawOther)), (a_lawEach, .inl (cyI, 6, .inl a_f_lawEach)), (a_lawFrom, .inl (cyI, 6, .inl a_f_lawFrom)), (a_foes, .inl (cyI, 7, .inl a_f_foes)), (a_suitTable, .inl (cyI, 49, .inl a_f_suitTable)), (a_acts, .inl (cyI, 40, .inl a_f_acts)), (c0, .inr (0, [.ref c_row, .ref c_origins, .ref c_before, .ref c_lawsByNight, hvv, .int cnum])), (c_row, .inl (cyI, 7, .inl c_f_row)), (c_origins, .inl (cyI, 7, .inl c_f_origins)), (c_before, .inl (cyI, 7, .inl c_f_before)), (c_lawsByNight, .inl (cyI, 60, .inl c_f_lawsByNight))] := hD
    refine lv_aload_n hx hb dX6_take_19 rfl (lv_at hl 0 rfl) ?_
    refine lv_iconst (v := 0) hx hb dX6_take_20 (by decide) ?_
    refine va_put (D := (dC, dI)) (ci := 5) (v := .int 0) (ty := .int) (C := RX6) (T := TX6) (N := 5) hx hb hts uinX6 tyX6 tyX6_ok nmX6 hown hK hP hD hS 0 rfl rfl 2 (by decide) (hts _ wd_1_220) (fun _ h9 => h9) rfl (by decide +kernel) rfl rfl (Nat.le_of_ble_eq_true rfl) dX6_take_21 (fun H locs hP hD hS => ?_)
    have hP : va_P (dC, dI) vwCl [(v0, .inr (5, [.ref v_hung, .int a_pl, .int 0, .int v_un, .int v_tr])), (v_hung, .inl (cyI, 7, .inl v_f)), (sl0, .inr (7, [.ref sNum, .ref sLen, .ref sWid, .ref sMade])), (sMade, .inl (cyZ, 4, .inl s_fm)), (sLen, .inl (cyI, 4, .inl s_fl)), (sWid, .inl (cyI, 4, .inl s_fw)), (sNum, .inl (cyN, 4, .inr (.inr (.inr (.inr nF))))), (n0, .inl (cyJ, 60, .inr (.inl s_n0))), (n1, .inl (cyJ, 60, .inr (.inl s_n1))), (n2, .inl (cyJ, 60, .inr (.inl s_n2))), (n3, .inl (cyJ, 60, .inr (.inl s_n3))), (h0, .inr (2, [.int a_pl, .int a_li, .int a_le, .int a_lc, .int a_ac, .int a_ng, .ref a_first, .ref a_now, .ref a_lawPlace, .ref a_lawOther, .ref a_lawEach, .ref a_lawFrom, .ref a_foes, .ref a_suitTable, .ref a_acts])), (a_first, .inl (cyI, 7, .inl a_f_first)), (a_now, .inl (cyI, 7, .inl a_f_now)), (a_lawPlace, .inl (cyI, 6, .inl a_f_lawPlace)), (a_lawOther, .inl (cyI, 6, .inl a_f_lawOther)), (a_lawEach, .inl (cyI, 6, .inl a_f_lawEach)), (a_lawFrom, .inl (cyI, 6, .inl a_f_lawFrom)), (a_foes, .inl (cyI, 7, .inl a_f_foes)), (a_suitTable, .inl (cyI, 49, .inl a_f_suitTable)), (a_acts, .inl (cyI, 40, .inl a_f_acts)), (c0, .inr (0, [.ref c_row, .ref c_origins, .ref c_before, .ref c_lawsByNight, hvv, .int cnum])), (c_row, .inl (cyI, 7, .inl c_f_row)), (c_origins, .inl (cyI, 7, .inl c_f_origins)), (c_before, .inl (cyI, 7, .inl c_f_before)), (c_lawsByNight, .inl (cyI, 60, .inl c_f_lawsByNight))] H := hP
    have hD : va_D A [(v0, .inr (5, [.ref v_hung, .int a_pl, .int 0, .int v_un, .int v_tr])), (v_hung, .inl (cyI, 7, .inl v_f)), (sl0, .inr (7, [.ref sNum, .ref sLen, .ref sWid, .ref sMade])), (sMade, .inl (cyZ, 4, .inl s_fm)), (sLen, .inl (cyI, 4, .inl s_fl)), (sWid, .inl (cyI, 4, .inl s_fw)), (sNum, .inl (cyN, 4, .inr (.inr (.inr (.inr nF))))), (n0, .inl (cyJ, 60, .inr (.inl s_n0))), (n1, .inl (cyJ, 60, .inr (.inl s_n1))), (n2, .inl (cyJ, 60, .inr (.inl s_n2))), (n3, .inl (cyJ, 60, .inr (.inl s_n3))), (h0, .inr (2, [.int a_pl, .int a_li, .int a_le, .int a_lc, .int a_ac, .int a_ng, .ref a_first, .ref a_now, .ref a_lawPlace, .ref a_lawOther, .ref a_lawEach, .ref a_lawFrom, .ref a_foes, .ref a_suitTable, .ref a_acts])), (a_first, .inl (cyI, 7, .inl a_f_first)), (a_now, .inl (cyI, 7, .inl a_f_now)), (a_lawPlace, .inl (cyI, 6, .inl a_f_lawPlace)), (a_lawOther, .inl (cyI, 6, .inl a_f_lawOther)), (a_lawEach, .inl (cyI, 6, .inl a_f_lawEach)), (a_lawFrom, .inl (cyI, 6, .inl a_f_lawFrom)), (a_foes, .inl (cyI, 7, .inl a_f_foes)), (a_suitTable, .inl (cyI, 49, .inl a_f_suitTable)), (a_acts, .inl (cyI, 40, .inl a_f_acts)), (c0, .inr (0, [.ref c_row, .ref c_origins, .ref c_before, .ref c_lawsByNight, hvv, .int cnum])), (c_row, .inl (cyI, 7, .inl c_f_row)), (c_origins, .inl (cyI, 7, .inl c_f_origins)), (c_before, .inl (cyI, 7, .inl c_f_before)), (c_lawsByNight, .inl (cyI, 60, .inl c_f_lawsByNight))] := hD
    refine lv_aload_n hx hb dX6_take_24 rfl (lv_at hl 0 rfl) ?_
    refine lv_aload_n hx hb dX6_take_25 rfl (lv_at hl 0 rfl) ?_
    refine va_get (D := (dC, dI)) (ci := 5) (v := .int a_pl) (C := RX6) (T := TX6) (N := 5) hx hb hts uinX6 hown hK hP 0 rfl rfl 1 (by decide) (hts _ wd_1_219) (fun _ h9 => h9) rfl dX6_take_26 ?_
    refine va_put (D := (dC, dI)) (ci := 5) (v := .int a_pl) (ty := .int) (C := RX6) (T := TX6) (N := 5) hx hb hts uinX6 tyX6 tyX6_ok nmX6 hown hK hP hD hS 0 rfl rfl 3 (by decide) (hts _ wd_1_221) (fun _ h9 => h9) rfl (by decide +kernel) rfl rfl (Nat.le_of_ble_eq_true rfl) dX6_take_29 (fun H locs hP hD hS => ?_)
    have hP : va_P (dC, dI) vwCl [(v0, .inr (5, [.ref v_hung, .int a_pl, .int 0, .int a_pl, .int v_tr])), (v_hung, .inl (cyI, 7, .inl v_f)), (sl0, .inr (7, [.ref sNum, .ref sLen, .ref sWid, .ref sMade])), (sMade, .inl (cyZ, 4, .inl s_fm)), (sLen, .inl (cyI, 4, .inl s_fl)), (sWid, .inl (cyI, 4, .inl s_fw)), (sNum, .inl (cyN, 4, .inr (.inr (.inr (.inr nF))))), (n0, .inl (cyJ, 60, .inr (.inl s_n0))), (n1, .inl (cyJ, 60, .inr (.inl s_n1))), (n2, .inl (cyJ, 60, .inr (.inl s_n2))), (n3, .inl (cyJ, 60, .inr (.inl s_n3))), (h0, .inr (2, [.int a_pl, .int a_li, .int a_le, .int a_lc, .int a_ac, .int a_ng, .ref a_first, .ref a_now, .ref a_lawPlace, .ref a_lawOther, .ref a_lawEach, .ref a_lawFrom, .ref a_foes, .ref a_suitTable, .ref a_acts])), (a_first, .inl (cyI, 7, .inl a_f_first)), (a_now, .inl (cyI, 7, .inl a_f_now)), (a_lawPlace, .inl (cyI, 6, .inl a_f_lawPlace)), (a_lawOther, .inl (cyI, 6, .inl a_f_lawOther)), (a_lawEach, .inl (cyI, 6, .inl a_f_lawEach)), (a_lawFrom, .inl (cyI, 6, .inl a_f_lawFrom)), (a_foes, .inl (cyI, 7, .inl a_f_foes)), (a_suitTable, .inl (cyI, 49, .inl a_f_suitTable)), (a_acts, .inl (cyI, 40, .inl a_f_acts)), (c0, .inr (0, [.ref c_row, .ref c_origins, .ref c_before, .ref c_lawsByNight, hvv, .int cnum])), (c_row, .inl (cyI, 7, .inl c_f_row)), (c_origins, .inl (cyI, 7, .inl c_f_origins)), (c_before, .inl (cyI, 7, .inl c_f_before)), (c_lawsByNight, .inl (cyI, 60, .inl c_f_lawsByNight))] H := hP
    have hD : va_D A [(v0, .inr (5, [.ref v_hung, .int a_pl, .int 0, .int a_pl, .int v_tr])), (v_hung, .inl (cyI, 7, .inl v_f)), (sl0, .inr (7, [.ref sNum, .ref sLen, .ref sWid, .ref sMade])), (sMade, .inl (cyZ, 4, .inl s_fm)), (sLen, .inl (cyI, 4, .inl s_fl)), (sWid, .inl (cyI, 4, .inl s_fw)), (sNum, .inl (cyN, 4, .inr (.inr (.inr (.inr nF))))), (n0, .inl (cyJ, 60, .inr (.inl s_n0))), (n1, .inl (cyJ, 60, .inr (.inl s_n1))), (n2, .inl (cyJ, 60, .inr (.inl s_n2))), (n3, .inl (cyJ, 60, .inr (.inl s_n3))), (h0, .inr (2, [.int a_pl, .int a_li, .int a_le, .int a_lc, .int a_ac, .int a_ng, .ref a_first, .ref a_now, .ref a_lawPlace, .ref a_lawOther, .ref a_lawEach, .ref a_lawFrom, .ref a_foes, .ref a_suitTable, .ref a_acts])), (a_first, .inl (cyI, 7, .inl a_f_first)), (a_now, .inl (cyI, 7, .inl a_f_now)), (a_lawPlace, .inl (cyI, 6, .inl a_f_lawPlace)), (a_lawOther, .inl (cyI, 6, .inl a_f_lawOther)), (a_lawEach, .inl (cyI, 6, .inl a_f_lawEach)), (a_lawFrom, .inl (cyI, 6, .inl a_f_lawFrom)), (a_foes, .inl (cyI, 7, .inl a_f_foes)), (a_suitTable, .inl (cyI, 49, .inl a_f_suitTable)), (a_acts, .inl (cyI, 40, .inl a_f_acts)), (c0, .inr (0, [.ref c_row, .ref c_origins, .ref c_before, .ref c_lawsByNight, hvv, .int cnum])), (c_row, .inl (cyI, 7, .inl c_f_row)), (c_origins, .inl (cyI, 7, .inl c_f_origins)), (c_before, .inl (cyI, 7, .inl c_f_before)), (c_lawsByNight, .inl (cyI, 60, .inl c_f_lawsByNight))] := hD
    refine lv_aload_n hx hb dX6_take_32 rfl (lv_at hl 0 rfl) ?_
    refine lv_iconst (v := 1) hx hb dX6_take_33 (by decide) ?_
    refine va_put (D := (dC, dI)) (ci := 5) (v := .int 1) (ty := .boolean) (C := RX6) (T := TX6) (N := 5) hx hb hts uinX6 tyX6 tyX6_ok nmX6 hown hK hP hD hS 0 rfl rfl 4 (by decide) (hts _ wd_1_222) (fun _ h9 => h9) rfl (by decide +kernel) rfl rfl (Nat.le_of_ble_eq_true rfl) dX6_take_34 (fun H locs hP hD hS => ?_)
    have hP : va_P (dC, dI) vwCl [(v0, .inr (5, [.ref v_hung, .int a_pl, .int 0, .int a_pl, .int 1])), (v_hung, .inl (cyI, 7, .inl v_f)), (sl0, .inr (7, [.ref sNum, .ref sLen, .ref sWid, .ref sMade])), (sMade, .inl (cyZ, 4, .inl s_fm)), (sLen, .inl (cyI, 4, .inl s_fl)), (sWid, .inl (cyI, 4, .inl s_fw)), (sNum, .inl (cyN, 4, .inr (.inr (.inr (.inr nF))))), (n0, .inl (cyJ, 60, .inr (.inl s_n0))), (n1, .inl (cyJ, 60, .inr (.inl s_n1))), (n2, .inl (cyJ, 60, .inr (.inl s_n2))), (n3, .inl (cyJ, 60, .inr (.inl s_n3))), (h0, .inr (2, [.int a_pl, .int a_li, .int a_le, .int a_lc, .int a_ac, .int a_ng, .ref a_first, .ref a_now, .ref a_lawPlace, .ref a_lawOther, .ref a_lawEach, .ref a_lawFrom, .ref a_foes, .ref a_suitTable, .ref a_acts])), (a_first, .inl (cyI, 7, .inl a_f_first)), (a_now, .inl (cyI, 7, .inl a_f_now)), (a_lawPlace, .inl (cyI, 6, .inl a_f_lawPlace)), (a_lawOther, .inl (cyI, 6, .inl a_f_lawOther)), (a_lawEach, .inl (cyI, 6, .inl a_f_lawEach)), (a_lawFrom, .inl (cyI, 6, .inl a_f_lawFrom)), (a_foes, .inl (cyI, 7, .inl a_f_foes)), (a_suitTable, .inl (cyI, 49, .inl a_f_suitTable)), (a_acts, .inl (cyI, 40, .inl a_f_acts)), (c0, .inr (0, [.ref c_row, .ref c_origins, .ref c_before, .ref c_lawsByNight, hvv, .int cnum])), (c_row, .inl (cyI, 7, .inl c_f_row)), (c_origins, .inl (cyI, 7, .inl c_f_origins)), (c_before, .inl (cyI, 7, .inl c_f_before)), (c_lawsByNight, .inl (cyI, 60, .inl c_f_lawsByNight))] H := hP
    have hD : va_D A [(v0, .inr (5, [.ref v_hung, .int a_pl, .int 0, .int a_pl, .int 1])), (v_hung, .inl (cyI, 7, .inl v_f)), (sl0, .inr (7, [.ref sNum, .ref sLen, .ref sWid, .ref sMade])), (sMade, .inl (cyZ, 4, .inl s_fm)), (sLen, .inl (cyI, 4, .inl s_fl)), (sWid, .inl (cyI, 4, .inl s_fw)), (sNum, .inl (cyN, 4, .inr (.inr (.inr (.inr nF))))), (n0, .inl (cyJ, 60, .inr (.inl s_n0))), (n1, .inl (cyJ, 60, .inr (.inl s_n1))), (n2, .inl (cyJ, 60, .inr (.inl s_n2))), (n3, .inl (cyJ, 60, .inr (.inl s_n3))), (h0, .inr (2, [.int a_pl, .int a_li, .int a_le, .int a_lc, .int a_ac, .int a_ng, .ref a_first, .ref a_now, .ref a_lawPlace, .ref a_lawOther, .ref a_lawEach, .ref a_lawFrom, .ref a_foes, .ref a_suitTable, .ref a_acts])), (a_first, .inl (cyI, 7, .inl a_f_first)), (a_now, .inl (cyI, 7, .inl a_f_now)), (a_lawPlace, .inl (cyI, 6, .inl a_f_lawPlace)), (a_lawOther, .inl (cyI, 6, .inl a_f_lawOther)), (a_lawEach, .inl (cyI, 6, .inl a_f_lawEach)), (a_lawFrom, .inl (cyI, 6, .inl a_f_lawFrom)), (a_foes, .inl (cyI, 7, .inl a_f_foes)), (a_suitTable, .inl (cyI, 49, .inl a_f_suitTable)), (a_acts, .inl (cyI, 40, .inl a_f_acts)), (c0, .inr (0, [.ref c_row, .ref c_origins, .ref c_before, .ref c_lawsByNight, hvv, .int cnum])), (c_row, .inl (cyI, 7, .inl c_f_row)), (c_origins, .inl (cyI, 7, .inl c_f_origins)), (c_before, .inl (cyI, 7, .inl c_f_before)), (c_lawsByNight, .inl (cyI, 60, .inl c_f_lawsByNight))] := hD
    refine lv_aload_n hx hb dX6_take_37 rfl (lv_at hl 0 rfl) ?_
    refine va_get (D := (dC, dI)) (ci := 5) (v := .ref v_hung) (C := RX6) (T := TX6) (N := 5) hx hb hts uinX6 hown hK hP 0 rfl rfl 0 (by decide) (hts _ wd_1_218) (fun _ h9 => h9) rfl dX6_take_38 ?_
    refine lv_iconst (v := (-1)) hx hb dX6_take_41 (by decide) ?_
    have hPc := hP.sub (ws' := [(v_hung, .inl (cyI, 7, .inl v_f))]) [1] rfl
    have hKc := hK.sub (tys' := [(cyI, .int), (cyB, .byte), (cyJ, .long), (cyZ, .boolean), (cyH, .object RX2), (cyN, .array .long)]) [0, 1, 2, 3, 4, 5] rfl
    have hDc := hD.sub (ws' := [(v_hung, .inl (cyI, 7, .inl v_f))]) [1] (by decide) rfl
    have hFc := va_free (wc := [(v_hung, .inl (cyI, 7, .inl v_f))]) hD hS hA [1] rfl
    refine va_callv (va_runS (As := [.ref v_hung, .int (-1)]) (rest := []) ⟨hx, hb, hml, hown, hts⟩ (n_fillNone l dC dI cyI cyB cyJ cyZ cyH cyN H.size v_hung v_f) (va_cwS 2 hts (gdS wd_4_185 wd_2_140 wd_1_12 wd_2_141) rfl rfl rfl (by decide +kernel) ⟨Nat.le_of_ble_eq_true rfl, Nat.le_of_ble_eq_true rfl⟩) ⟨fun a U g mk q => by obtain ⟨q0, q1, qP, qK, qD⟩ := q; exact ⟨q0, q1, qP, va_K.moved (u := U) (U := U.calling g mk a) (Vm.Alike.refl U.vm) qK, qD⟩, fun U hU hW => ⟨rfl, by rw [hU], by rw [hU]; exact hPc, va_K.moved hW.alike hKc, hDc.weaken (fun _ _ _ _ => trivial)⟩⟩ rfl rfl hl.1 rfl (lv_room (Nat.le_of_ble_eq_true rfl)) dX6_take_42 ⟨Nat.le_of_ble_eq_true rfl, Nat.le_of_ble_eq_true rfl⟩) hS (fun q _ h => hFc q h) hFc (fun  u t H1 locs ht hvm hw hB hz1 hk1 hS => ?_)
    obtain ⟨y0_6, hp_7, hP1, hD1⟩ := hB
    rw [ht] at hP1
    obtain ⟨hP, hD⟩ := va_join (wr := [(v0, .inr (5, [.ref v_hung, .int a_pl, .int 0, .int a_pl, .int 1])), (sl0, .inr (7, [.ref sNum, .ref sLen, .ref sWid, .ref sMade])), (sMade, .inl (cyZ, 4, .inl s_fm)), (sLen, .inl (cyI, 4, .inl s_fl)), (sWid, .inl (cyI, 4, .inl s_fw)), (sNum, .inl (cyN, 4, .inr (.inr (.inr (.inr nF))))), (n0, .inl (cyJ, 60, .inr (.inl s_n0))), (n1, .inl (cyJ, 60, .inr (.inl s_n1))), (n2, .inl (cyJ, 60, .inr (.inl s_n2))), (n3, .inl (cyJ, 60, .inr (.inl s_n3))), (h0, .inr (2, [.int a_pl, .int a_li, .int a_le, .int a_lc, .int a_ac, .int a_ng, .ref a_first, .ref a_now, .ref a_lawPlace, .ref a_lawOther, .ref a_lawEach, .ref a_lawFrom, .ref a_foes, .ref a_suitTable, .ref a_acts])), (a_first, .inl (cyI, 7, .inl a_f_first)), (a_now, .inl (cyI, 7, .inl a_f_now)), (a_lawPlace, .inl (cyI, 6, .inl a_f_lawPlace)), (a_lawOther, .inl (cyI, 6, .inl a_f_lawOther)), (a_lawEach, .inl (cyI, 6, .inl a_f_lawEach)), (a_lawFrom, .inl (cyI, 6, .inl a_f_lawFrom)), (a_foes, .inl (cyI, 7, .inl a_f_foes)), (a_suitTable, .inl (cyI, 49, .inl a_f_suitTable)), (a_acts, .inl (cyI, 40, .inl a_f_acts)), (c0, .inr (0, [.ref c_row, .ref c_origins, .ref c_before, .ref c_lawsByNight, hvv, .int cnum])), (c_row, .inl (cyI, 7, .inl c_f_row)), (c_origins, .inl (cyI, 7, .inl c_f_origins)), (c_before, .inl (cyI, 7, .inl c_f_before)), (c_lawsByNight, .inl (cyI, 60, .inl c_f_lawsByNight))]) (w1 := [(v_hung, .inl (cyI, 7, .inl y0_6))]) hP hD [1] [0, 2, 3, 4, 5, 6, 7, 8, 9, 10, 11, 12, 13, 14, 15, 16, 17, 18, 19, 20, 21, 22, 23, 24, 25] rfl rfl (by decide) (by decide) hk1 hFc hP1 hD1
    generalize H1 = H at hP hS ⊢
    have hP : va_P (dC, dI) vwCl [(v0, .inr (5, [.ref v_hung, .int a_pl, .int 0, .int a_pl, .int 1])), (sl0, .inr (7, [.ref sNum, .ref sLen, .ref sWid, .ref sMade])), (sMade, .inl (cyZ, 4, .inl s_fm)), (sLen, .inl (cyI, 4, .inl s_fl)), (sWid, .inl (cyI, 4, .inl s_fw)), (sNum, .inl (cyN, 4, .inr (.inr (.inr (.inr nF))))), (n0, .inl (cyJ, 60, .inr (.inl s_n0))), (n1, .inl (cyJ, 60, .inr (.inl s_n1))), (n2, .inl (cyJ, 60, .inr (.inl s_n2))), (n3, .inl (cyJ, 60, .inr (.inl s_n3))), (h0, .inr (2, [.int a_pl, .int a_li, .int a_le, .int a_lc, .int a_ac, .int a_ng, .ref a_first, .ref a_now, .ref a_lawPlace, .ref a_lawOther, .ref a_lawEach, .ref a_lawFrom, .ref a_foes, .ref a_suitTable, .ref a_acts])), (a_first, .inl (cyI, 7, .inl a_f_first)), (a_now, .inl (cyI, 7, .inl a_f_now)), (a_lawPlace, .inl (cyI, 6, .inl a_f_lawPlace)), (a_lawOther, .inl (cyI, 6, .inl a_f_lawOther)), (a_lawEach, .inl (cyI, 6, .inl a_f_lawEach)), (a_lawFrom, .inl (cyI, 6, .inl a_f_lawFrom)), (a_foes, .inl (cyI, 7, .inl a_f_foes)), (a_suitTable, .inl (cyI, 49, .inl a_f_suitTable)), (a_acts, .inl (cyI, 40, .inl a_f_acts)), (c0, .inr (0, [.ref c_row, .ref c_origins, .ref c_before, .ref c_lawsByNight, hvv, .int cnum])), (c_row, .inl (cyI, 7, .inl c_f_row)), (c_origins, .inl (cyI, 7, .inl c_f_origins)), (c_before, .inl (cyI, 7, .inl c_f_before)), (c_lawsByNight, .inl (cyI, 60, .inl c_f_lawsByNight)), (v_hung, .inl (cyI, 7, .inl y0_6))] H := hP
    have hD : va_D A [(v0, .inr (5, [.ref v_hung, .int a_pl, .int 0, .int a_pl, .int 1])), (sl0, .inr (7, [.ref sNum, .ref sLen, .ref sWid, .ref sMade])), (sMade, .inl (cyZ, 4, .inl s_fm)), (sLen, .inl (cyI, 4, .inl s_fl)), (sWid, .inl (cyI, 4, .inl s_fw)), (sNum, .inl (cyN, 4, .inr (.inr (.inr (.inr nF))))), (n0, .inl (cyJ, 60, .inr (.inl s_n0))), (n1, .inl (cyJ, 60, .inr (.inl s_n1))), (n2, .inl (cyJ, 60, .inr (.inl s_n2))), (n3, .inl (cyJ, 60, .inr (.inl s_n3))), (h0, .inr (2, [.int a_pl, .int a_li, .int a_le, .int a_lc, .int a_ac, .int a_ng, .ref a_first, .ref a_now, .ref a_lawPlace, .ref a_lawOther, .ref a_lawEach, .ref a_lawFrom, .ref a_foes, .ref a_suitTable, .ref a_acts])), (a_first, .inl (cyI, 7, .inl a_f_first)), (a_now, .inl (cyI, 7, .inl a_f_now)), (a_lawPlace, .inl (cyI, 6, .inl a_f_lawPlace)), (a_lawOther, .inl (cyI, 6, .inl a_f_lawOther)), (a_lawEach, .inl (cyI, 6, .inl a_f_lawEach)), (a_lawFrom, .inl (cyI, 6, .inl a_f_lawFrom)), (a_foes, .inl (cyI, 7, .inl a_f_foes)), (a_suitTable, .inl (cyI, 49, .inl a_f_suitTable)), (a_acts, .inl (cyI, 40, .inl a_f_acts)), (c0, .inr (0, [.ref c_row, .ref c_origins, .ref c_before, .ref c_lawsByNight, hvv, .int cnum])), (c_row, .inl (cyI, 7, .inl c_f_row)), (c_origins, .inl (cyI, 7, .inl c_f_origins)), (c_before, .inl (cyI, 7, .inl c_f_before)), (c_lawsByNight, .inl (cyI, 60, .inl c_f_lawsByNight)), (v_hung, .inl (cyI, 7, .inl y0_6))] := hD
    have hP := hP.sub (ws' := [(v0, .inr (5, [.ref v_hung, .int a_pl, .int 0, .int a_pl, .int 1])), (v_hung, .inl (cyI, 7, .inl y0_6)), (sl0, .inr (7, [.ref sNum, .ref sLen, .ref sWid, .ref sMade])), (sMade, .inl (cyZ, 4, .inl s_fm)), (sLen, .inl (cyI, 4, .inl s_fl)), (sWid, .inl (cyI, 4, .inl s_fw)), (sNum, .inl (cyN, 4, .inr (.inr (.inr (.inr nF))))), (n0, .inl (cyJ, 60, .inr (.inl s_n0))), (n1, .inl (cyJ, 60, .inr (.inl s_n1))), (n2, .inl (cyJ, 60, .inr (.inl s_n2))), (n3, .inl (cyJ, 60, .inr (.inl s_n3))), (h0, .inr (2, [.int a_pl, .int a_li, .int a_le, .int a_lc, .int a_ac, .int a_ng, .ref a_first, .ref a_now, .ref a_lawPlace, .ref a_lawOther, .ref a_lawEach, .ref a_lawFrom, .ref a_foes, .ref a_suitTable, .ref a_acts])), (a_first, .inl (cyI, 7, .inl a_f_first)), (a_now, .inl (cyI, 7, .inl a_f_now)), (a_lawPlace, .inl (cyI, 6, .inl a_f_lawPlace)), (a_lawOther, .inl (cyI, 6, .inl a_f_lawOther)), (a_lawEach, .inl (cyI, 6, .inl a_f_lawEach)), (a_lawFrom, .inl (cyI, 6, .inl a_f_lawFrom)), (a_foes, .inl (cyI, 7, .inl a_f_foes)), (a_suitTable, .inl (cyI, 49, .inl a_f_suitTable)), (a_acts, .inl (cyI, 40, .inl a_f_acts)), (c0, .inr (0, [.ref c_row, .ref c_origins, .ref c_before, .ref c_lawsByNight, hvv, .int cnum])), (c_row, .inl (cyI, 7, .inl c_f_row)), (c_origins, .inl (cyI, 7, .inl c_f_origins)), (c_before, .inl (cyI, 7, .inl c_f_before)), (c_lawsByNight, .inl (cyI, 60, .inl c_f_lawsByNight))]) [0, 25, 1, 2, 3, 4, 5, 6, 7, 8, 9, 10, 11, 12, 13, 14, 15, 16, 17, 18, 19, 20, 21, 22, 23, 24] rfl
    have hD := hD.sub (ws' := [(v0, .inr (5, [.ref v_hung, .int a_pl, .int 0, .int a_pl, .int 1])), (v_hung, .inl (cyI, 7, .inl y0_6)), (sl0, .inr (7, [.ref sNum, .ref sLen, .ref sWid, .ref sMade])), (sMade, .inl (cyZ, 4, .inl s_fm)), (sLen, .inl (cyI, 4, .inl s_fl)), (sWid, .inl (cyI, 4, .inl s_fw)), (sNum, .inl (cyN, 4, .inr (.inr (.inr (.inr nF))))), (n0, .inl (cyJ, 60, .inr (.inl s_n0))), (n1, .inl (cyJ, 60, .inr (.inl s_n1))), (n2, .inl (cyJ, 60, .inr (.inl s_n2))), (n3, .inl (cyJ, 60, .inr (.inl s_n3))), (h0, .inr (2, [.int a_pl, .int a_li, .int a_le, .int a_lc, .int a_ac, .int a_ng, .ref a_first, .ref a_now, .ref a_lawPlace, .ref a_lawOther, .ref a_lawEach, .ref a_lawFrom, .ref a_foes, .ref a_suitTable, .ref a_acts])), (a_first, .inl (cyI, 7, .inl a_f_first)), (a_now, .inl (cyI, 7, .inl a_f_now)), (a_lawPlace, .inl (cyI, 6, .inl a_f_lawPlace)), (a_lawOther, .inl (cyI, 6, .inl a_f_lawOther)), (a_lawEach, .inl (cyI, 6, .inl a_f_lawEach)), (a_lawFrom, .inl (cyI, 6, .inl a_f_lawFrom)), (a_foes, .inl (cyI, 7, .inl a_f_foes)), (a_suitTable, .inl (cyI, 49, .inl a_f_suitTable)), (a_acts, .inl (cyI, 40, .inl a_f_acts)), (c0, .inr (0, [.ref c_row, .ref c_origins, .ref c_before, .ref c_lawsByNight, hvv, .int cnum])), (c_row, .inl (cyI, 7, .inl c_f_row)), (c_origins, .inl (cyI, 7, .inl c_f_origins)), (c_before, .inl (cyI, 7, .inl c_f_before)), (c_lawsByNight, .inl (cyI, 60, .inl c_f_lawsByNight))]) [0, 25, 1, 2, 3, 4, 5, 6, 7, 8, 9, 10, 11, 12, 13, 14, 15, 16, 17, 18, 19, 20, 21, 22, 23, 24] (by decide) rfl
    refine lv_aload_n hx hb dX6_take_45 rfl (lv_at hl 2 rfl) ?_
    refine va_get (D := (dC, dI)) (ci := 7) (v := .ref sNum) (C := RX8) (T := TX8) (N := 4) hx hb hts uinX8 hown hK hP 2 rfl rfl 0 (by decide) (hts _ wd_1_166) (fun _ h9 => h9) rfl dX6_take_46 ?_
    refine lv_iload_n hx hb dX6_take_49 rfl (lv_at hl 3 rfl) ?_
    refine cv_aldA hx hb hK hP 6 5 rfl rfl (vp_in_iff.mpr (by decide)) dX6_take_50 ?_
    refine cv_topr (b := .ref n3) (by rw [show (3 : Int32).toNatClampNeg = 3 from rfl, g21]; rfl) ?_
    refine lv_astore (lv' := [(5, .ref n3), (0, .ref v0), (1, .ref h0), (2, .ref sl0), (3, .int 3), (4, .ref c0)]) hx hb dX6_take_51 hl (by decide) rfl (fun ls hl => ?_)
    refine lv_iconst (v := 0) hx hb dX6_take_53 (by decide) ?_
    refine lv_istore (lv' := [(6, .int 0), (5, .ref n3), (0, .ref v0), (1, .ref h0), (2, .ref sl0), (3, .int 3), (4, .ref c0)]) hx hb dX6_take_54 hl (by decide) rfl (fun ls hl => ?_)
    have key_19 : ∀ (nkey_19 : Nat) (u_8 : Int32) (w_9 : Int32) (w_10 : Int32) (w_11 : Int32) (f_12 : Nat → Int32) (w_13 : Value) (w_14 : Int32) (f_15 : Nat → Int32) (f_16 : Nat → Int32) (f_17 : Nat → Int32) (f_18 : Nat → Int32) (H : Heap) (locs : List Loc) (ls : Array Slot), (0 ≤ u_8.toInt ∧ u_8.toInt ≤ 63) → (0 ≤ w_9.toInt ∧ w_9.toInt ≤ 127) → ((-1) ≤ w_10.toInt ∧ w_10.toInt ≤ 7) → (0 ≤ w_11.toInt ∧ w_11.toInt ≤ 1) → rg (-1) 6 7 f_12 → rg 0 6 7 f_15 → rg 0 6 7 f_16 → rg 0 6 7 f_17 → (u_8.toInt % 3 = 0) → (w_10.toInt = a_pl.toInt - cb w_9 a_pl.toInt.toNat) → va_P (dC, dI) vwCl [(v0, .inr (5, [.ref v_hung, .int a_pl, .int w_9, .int w_10, .int w_11])), (v_hung, .inl (cyI, 7, .inl f_12)), (sl0, .inr (7, [.ref sNum, .ref sLen, .ref sWid, .ref sMade])), (sMade, .inl (cyZ, 4, .inl s_fm)), (sLen, .inl (cyI, 4, .inl s_fl)), (sWid, .inl (cyI, 4, .inl s_fw)), (sNum, .inl (cyN, 4, .inr (.inr (.inr (.inr nF))))), (n0, .inl (cyJ, 60, .inr (.inl s_n0))), (n1, .inl (cyJ, 60, .inr (.inl s_n1))), (n2, .inl (cyJ, 60, .inr (.inl s_n2))), (n3, .inl (cyJ, 60, .inr (.inl s_n3))), (h0, .inr (2, [.int a_pl, .int a_li, .int a_le, .int a_lc, .int a_ac, .int a_ng, .ref a_first, .ref a_now, .ref a_lawPlace, .ref a_lawOther, .ref a_lawEach, .ref a_lawFrom, .ref a_foes, .ref a_suitTable, .ref a_acts])), (a_first, .inl (cyI, 7, .inl a_f_first)), (a_now, .inl (cyI, 7, .inl a_f_now)), (a_lawPlace, .inl (cyI, 6, .inl a_f_lawPlace)), (a_lawOther, .inl (cyI, 6, .inl a_f_lawOther)), (a_lawEach, .inl (cyI, 6, .inl a_f_lawEach)), (a_lawFrom, .inl (cyI, 6, .inl a_f_lawFrom)), (a_foes, .inl (cyI, 7, .inl a_f_foes)), (a_suitTable, .inl (cyI, 49, .inl a_f_suitTable)), (a_acts, .inl (cyI, 40, .inl a_f_acts)), (c0, .inr (0, [.ref c_row, .ref c_origins, .ref c_before, .ref c_lawsByNight, w_13, .int w_14])), (c_row, .inl (cyI, 7, .inl f_15)), (c_origins, .inl (cyI, 7, .inl f_16)), (c_before, .inl (cyI, 7, .inl f_17)), (c_lawsByNight, .inl (cyI, 60, .inl f_18))] H → va_D A [(v0, .inr (5, [.ref v_hung, .int a_pl, .int w_9, .int w_10, .int w_11])), (v_hung, .inl (cyI, 7, .inl f_12)), (sl0, .inr (7, [.ref sNum, .ref sLen, .ref sWid, .ref sMade])), (sMade, .inl (cyZ, 4, .inl s_fm)), (sLen, .inl (cyI, 4, .inl s_fl)), (sWid, .inl (cyI, 4, .inl s_fw)), (sNum, .inl (cyN, 4, .inr (.inr (.inr (.inr nF))))), (n0, .inl (cyJ, 60, .inr (.inl s_n0))), (n1, .inl (cyJ, 60, .inr (.inl s_n1))), (n2, .inl (cyJ, 60, .inr (.inl s_n2))), (n3, .inl (cyJ, 60, .inr (.inl s_n3))), (h0, .inr (2, [.int a_pl, .int a_li, .int a_le, .int a_lc, .int a_ac, .int a_ng, .ref a_first, .ref a_now, .ref a_lawPlace, .ref a_lawOther, .ref a_lawEach, .ref a_lawFrom, .ref a_foes, .ref a_suitTable, .ref a_acts])), (a_first, .inl (cyI, 7, .inl a_f_first)), (a_now, .inl (cyI, 7, .inl a_f_now)), (a_lawPlace, .inl (cyI, 6, .inl a_f_lawPlace)), (a_lawOther, .inl (cyI, 6, .inl a_f_lawOther)), (a_lawEach, .inl (cyI, 6, .inl a_f_lawEach)), (a_lawFrom, .inl (cyI, 6, .inl a_f_lawFrom)), (a_foes, .inl (cyI, 7, .inl a_f_foes)), (a_suitTable, .inl (cyI, 49, .inl a_f_suitTable)), (a_acts, .inl (cyI, 40, .inl a_f_acts)), (c0, .inr (0, [.ref c_row, .ref c_origins, .ref c_before, .ref c_lawsByNight, w_13, .int w_14])), (c_row, .inl (cyI, 7, .inl f_15)), (c_origins, .inl (cyI, 7, .inl f_16)), (c_before, .inl (cyI, 7, .inl f_17)), (c_lawsByNight, .inl (cyI, 60, .inl f_18))] → va_S A s.heap H locs → lv_has ls 7 [(6, .int u_8), (5, .ref n3), (0, .ref v0), (1, .ref h0), (2, .ref sl0), (3, .int 3), (4, .ref c0)] → (60 - u_8.toInt).toNat < nkey_19 → W p l e ({ frames := 5, cells := 0, slots := 0, locals := 150 }) s m ([.ref v0, .ref h0, .ref sl0, .int 3, .ref c0] : List Value).toArray below meth c H locs 0 0 Q9 (F0 m 56 ls []) := by
      intro nkey_19
      induction nkey_19 with
      | zero => intro u_8 w_9 w_10 w_11 f_12 w_13 w_14 f_15 f_16 f_17 f_18 H locs ls hu_8 hw_9 hw_10 hw_11 hf_12 hf_15 hf_16 hf_17 hm9 hun8 hP hD hS hl hnkey_19; exact absurd hnkey_19 (Nat.not_lt_zero _)
      | succ nkey_19 ihkey_19 =>
        intro u_8 w_9 w_10 w_11 f_12 w_13 w_14 f_15 f_16 f_17 f_18 H locs ls hu_8 hw_9 hw_10 hw_11 hf_12 hf_15 hf_16 hf_17 hm9 hun8 hP hD hS hl hnkey_19
        refine lv_iload hx hb dX6_take_56 (lv_at hl 0 rfl) ?_
        refine lv_aload_n hx hb dX6_take_58 rfl (lv_at hl 4 rfl) ?_
        refine va_get (D := (dC, dI)) (ci := 7) (v := .ref sLen) (C := RX8) (T := TX8) (N := 4) hx hb hts uinX8 hown hK hP 2 rfl rfl 1 (by decide) (hts _ wd_1_169) (fun _ h9 => h9) rfl dX6_take_59 ?_
        refine lv_iload_n hx hb dX6_take_62 rfl (lv_at hl 5 rfl) ?_
        refine va_iald hx hb hK hP 4 0 rfl rfl (vp_in_iff.mpr (by decide)) dX6_take_63 ?_
        refine lv_topi (fun x_20 ex_20 => ?_)
        have qx_20 : x_20.toInt = (s_fl 3).toInt := by rw [ex_20]; rfl
        have fx_20 : 0 ≤ x_20.toInt ∧ x_20.toInt ≤ 60 := by rw [ex_20]; exact g2 _ (cv_ix (by decide) (by decide))
        refine lv_icmp_ge (tgt := 116) hx hb dX6_take_64 (by decide) (fun c_21 => ?_) (fun c_21 => ?_)
        · have c_21 : x_20.toInt ≤ u_8.toInt := cv_le c_21
          refine lv_iconst (v := 1) hx hb dX6_take_116 (by decide) ?_
          rw [hQ9]
          have hP9 := hP.sub (ws' := [(v0, .inr (5, [.ref v_hung, .int a_pl, .int w_9, .int w_10, .int w_11])), (v_hung, .inl (cyI, 7, .inl f_12)), (sl0, .inr (7, [.ref sNum, .ref sLen, .ref sWid, .ref sMade])), (sMade, .inl (cyZ, 4, .inl s_fm)), (sLen, .inl (cyI, 4, .inl s_fl)), (sWid, .inl (cyI, 4, .inl s_fw)), (sNum, .inl (cyN, 4, .inr (.inr (.inr (.inr nF))))), (n0, .inl (cyJ, 60, .inr (.inl s_n0))), (n1, .inl (cyJ, 60, .inr (.inl s_n1))), (n2, .inl (cyJ, 60, .inr (.inl s_n2))), (n3, .inl (cyJ, 60, .inr (.inl s_n3))), (h0, .inr (2, [.int a_pl, .int a_li, .int a_le, .int a_lc, .int a_ac, .int a_ng, .ref a_first, .ref a_now, .ref a_lawPlace, .ref a_lawOther, .ref a_lawEach, .ref a_lawFrom, .ref a_foes, .ref a_suitTable, .ref a_acts])), (a_first, .inl (cyI, 7, .inl a_f_first)), (a_now, .inl (cyI, 7, .inl a_f_now)), (a_lawPlace, .inl (cyI, 6, .inl a_f_lawPlace)), (a_lawOther, .inl (cyI, 6, .inl a_f_lawOther)), (a_lawEach, .inl (cyI, 6, .inl a_f_lawEach)), (a_lawFrom, .inl (cyI, 6, .inl a_f_lawFrom)), (a_foes, .inl (cyI, 7, .inl a_f_foes)), (a_suitTable, .inl (cyI, 49, .inl a_f_suitTable)), (a_acts, .inl (cyI, 40, .inl a_f_acts)), (c0, .inr (0, [.ref c_row, .ref c_origins, .ref c_before, .ref c_lawsByNight, w_13, .int w_14])), (c_row, .inl (cyI, 7, .inl f_15)), (c_origins, .inl (cyI, 7, .inl f_16)), (c_before, .inl (cyI, 7, .inl f_17)), (c_lawsByNight, .inl (cyI, 60, .inl f_18))]) [0, 1, 2, 3, 4, 5, 6, 7, 8, 9, 10, 11, 12, 13, 14, 15, 16, 17, 18, 19, 20, 21, 22, 23, 24, 25] rfl
          have hD9 := hD.sub (ws' := [(v0, .inr (5, [.ref v_hung, .int a_pl, .int w_9, .int w_10, .int w_11])), (v_hung, .inl (cyI, 7, .inl f_12)), (sl0, .inr (7, [.ref sNum, .ref sLen, .ref sWid, .ref sMade])), (sMade, .inl (cyZ, 4, .inl s_fm)), (sLen, .inl (cyI, 4, .inl s_fl)), (sWid, .inl (cyI, 4, .inl s_fw)), (sNum, .inl (cyN, 4, .inr (.inr (.inr (.inr nF))))), (n0, .inl (cyJ, 60, .inr (.inl s_n0))), (n1, .inl (cyJ, 60, .inr (.inl s_n1))), (n2, .inl (cyJ, 60, .inr (.inl s_n2))), (n3, .inl (cyJ, 60, .inr (.inl s_n3))), (h0, .inr (2, [.int a_pl, .int a_li, .int a_le, .int a_lc, .int a_ac, .int a_ng, .ref a_first, .ref a_now, .ref a_lawPlace, .ref a_lawOther, .ref a_lawEach, .ref a_lawFrom, .ref a_foes, .ref a_suitTable, .ref a_acts])), (a_first, .inl (cyI, 7, .inl a_f_first)), (a_now, .inl (cyI, 7, .inl a_f_now)), (a_lawPlace, .inl (cyI, 6, .inl a_f_lawPlace)), (a_lawOther, .inl (cyI, 6, .inl a_f_lawOther)), (a_lawEach, .inl (cyI, 6, .inl a_f_lawEach)), (a_lawFrom, .inl (cyI, 6, .inl a_f_lawFrom)), (a_foes, .inl (cyI, 7, .inl a_f_foes)), (a_suitTable, .inl (cyI, 49, .inl a_f_suitTable)), (a_acts, .inl (cyI, 40, .inl a_f_acts)), (c0, .inr (0, [.ref c_row, .ref c_origins, .ref c_before, .ref c_lawsByNight, w_13, .int w_14])), (c_row, .inl (cyI, 7, .inl f_15)), (c_origins, .inl (cyI, 7, .inl f_16)), (c_before, .inl (cyI, 7, .inl f_17)), (c_lawsByNight, .inl (cyI, 60, .inl f_18))]) [0, 1, 2, 3, 4, 5, 6, 7, 8, 9, 10, 11, 12, 13, 14, 15, 16, 17, 18, 19, 20, 21, 22, 23, 24, 25] (by decide) rfl
          exact W.zret (v := 1) (ty := .boolean) hx hb hr rfl (fun t ht hW => ⟨⟨1, (), rfl, (by decide), ⟨a_pl, w_9, w_10, w_11, f_12, w_13, w_14, f_15, f_16, f_17, f_18, (by omega), (by omega), (by omega), hf_12, hf_15, hf_16, hf_17, hun8, by rw [ht]; exact hP9, hD9⟩⟩, hS.F ht⟩) hS.2.2 dX6_take_117
        · have c_21 : u_8.toInt < x_20.toInt := cv_nle c_21
          refine lv_aload hx hb dX6_take_67 (lv_at hl 6 rfl) ?_
          refine lv_aload_n hx hb dX6_take_69 rfl (lv_at hl 3 rfl) ?_
          have hPc := hP.sub (ws' := [(c0, .inr (0, [.ref c_row, .ref c_origins, .ref c_before, .ref c_lawsByNight, w_13, .int w_14])), (c_row, .inl (cyI, 7, .inl f_15)), (c_origins, .inl (cyI, 7, .inl f_16)), (c_before, .inl (cyI, 7, .inl f_17)), (c_lawsByNight, .inl (cyI, 60, .inl f_18)), (h0, .inr (2, [.int a_pl, .int a_li, .int a_le, .int a_lc, .int a_ac, .int a_ng, .ref a_first, .ref a_now, .ref a_lawPlace, .ref a_lawOther, .ref a_lawEach, .ref a_lawFrom, .ref a_foes, .ref a_suitTable, .ref a_acts])), (a_first, .inl (cyI, 7, .inl a_f_first)), (a_now, .inl (cyI, 7, .inl a_f_now)), (a_lawPlace, .inl (cyI, 6, .inl a_f_lawPlace)), (a_lawOther, .inl (cyI, 6, .inl a_f_lawOther)), (a_lawEach, .inl (cyI, 6, .inl a_f_lawEach)), (a_lawFrom, .inl (cyI, 6, .inl a_f_lawFrom)), (a_foes, .inl (cyI, 7, .inl a_f_foes)), (a_suitTable, .inl (cyI, 49, .inl a_f_suitTable)), (a_acts, .inl (cyI, 40, .inl a_f_acts))]) [21, 22, 23, 24, 25, 11, 12, 13, 14, 15, 16, 17, 18, 19, 20] rfl
          have hKc := hK.sub (tys' := [(cyI, .int), (cyB, .byte), (cyJ, .long), (cyZ, .boolean), (cyH, .object RX2), (cyN, .array .long)]) [0, 1, 2, 3, 4, 5] rfl
          have hDc := hD.sub (ws' := [(c0, .inr (0, [.ref c_row, .ref c_origins, .ref c_before, .ref c_lawsByNight, w_13, .int w_14])), (c_row, .inl (cyI, 7, .inl f_15)), (c_origins, .inl (cyI, 7, .inl f_16)), (c_before, .inl (cyI, 7, .inl f_17)), (c_lawsByNight, .inl (cyI, 60, .inl f_18)), (h0, .inr (2, [.int a_pl, .int a_li, .int a_le, .int a_lc, .int a_ac, .int a_ng, .ref a_first, .ref a_now, .ref a_lawPlace, .ref a_lawOther, .ref a_lawEach, .ref a_lawFrom, .ref a_foes, .ref a_suitTable, .ref a_acts])), (a_first, .inl (cyI, 7, .inl a_f_first)), (a_now, .inl (cyI, 7, .inl a_f_now)), (a_lawPlace, .inl (cyI, 6, .inl a_f_lawPlace)), (a_lawOther, .inl (cyI, 6, .inl a_f_lawOther)), (a_lawEach, .inl (cyI, 6, .inl a_f_lawEach)), (a_lawFrom, .inl (cyI, 6, .inl a_f_lawFrom)), (a_foes, .inl (cyI, 7, .inl a_f_foes)), (a_suitTable, .inl (cyI, 49, .inl a_f_suitTable)), (a_acts, .inl (cyI, 40, .inl a_f_acts))]) [21, 22, 23, 24, 25, 11, 12, 13, 14, 15, 16, 17, 18, 19, 20] (by decide) rfl
          have hFc := va_free (wc := [(c0, .inr (0, [.ref c_row, .ref c_origins, .ref c_before, .ref c_lawsByNight, w_13, .int w_14])), (c_row, .inl (cyI, 7, .inl f_15)), (c_origins, .inl (cyI, 7, .inl f_16)), (c_before, .inl (cyI, 7, .inl f_17)), (c_lawsByNight, .inl (cyI, 60, .inl f_18)), (h0, .inr (2, [.int a_pl, .int a_li, .int a_le, .int a_lc, .int a_ac, .int a_ng, .ref a_first, .ref a_now, .ref a_lawPlace, .ref a_lawOther, .ref a_lawEach, .ref a_lawFrom, .ref a_foes, .ref a_suitTable, .ref a_acts])), (a_first, .inl (cyI, 7, .inl a_f_first)), (a_now, .inl (cyI, 7, .inl a_f_now)), (a_lawPlace, .inl (cyI, 6, .inl a_f_lawPlace)), (a_lawOther, .inl (cyI, 6, .inl a_f_lawOther)), (a_lawEach, .inl (cyI, 6, .inl a_f_lawEach)), (a_lawFrom, .inl (cyI, 6, .inl a_f_lawFrom)), (a_foes, .inl (cyI, 7, .inl a_f_foes)), (a_suitTable, .inl (cyI, 49, .inl a_f_suitTable)), (a_acts, .inl (cyI, 40, .inl a_f_acts))]) hD hS hA [21, 22, 23, 24, 25, 11, 12, 13, 14, 15, 16, 17, 18, 19, 20] rfl
          refine va_callv (va_runV (As := [.ref h0]) (rest := []) ⟨hx, hb, hml, hown, hts⟩ (n_beginAtFirst l dC dI cyI cyB cyJ cyZ cyH cyN tR tF aK aV H.size c0 c_row c_origins c_before c_lawsByNight w_14 f_15 f_16 f_17 f_18 w_13 h0 a_first a_now a_lawPlace a_lawOther a_lawEach a_lawFrom a_foes a_suitTable a_acts a_pl a_li a_le a_lc a_ac a_ng a_f_first a_f_now a_f_lawPlace a_f_lawOther a_f_lawEach a_f_lawFrom a_f_foes a_f_suitTable a_f_acts hf_15 hf_16 hf_17 g4 g5 g6 g7 g8 (by omega) (by omega) (by omega)) (cwV 1 hts (gdV wd_4_186 wd_4_187 wd_4_188 wd_1_5 wd_4_189) rfl rfl rfl (by decide +kernel) ⟨Nat.le_of_ble_eq_true rfl, Nat.le_of_ble_eq_true rfl⟩) ⟨fun a U g mk q => by obtain ⟨q0, q1, qP, qK, qD, qF⟩ := q; exact ⟨q0, q1, qP, va_K.moved (u := U) (U := U.calling g mk a) (Vm.Alike.refl U.vm) qK, qD, cv_FX.same qF rfl rfl⟩, va_recv hKc hPc (ci := 0) (q0 := 0) rfl rfl, fun U hU hW => ⟨rfl, by rw [hU], by rw [hU]; exact hPc, va_K.moved hW.alike hKc, hDc.weaken (fun _ _ _ _ => trivial), cv_FX.go hFX hW hS hFc hU⟩⟩ rfl rfl hl.1 rfl (lv_room (Nat.le_of_ble_eq_true rfl)) dX6_take_70 ⟨Nat.le_of_ble_eq_true rfl, Nat.le_of_ble_eq_true rfl⟩) hS (fun q _ h => hFc q h) hFc (fun  u t H1 locs ht hvm hw hB hz1 hk1 hS => ?_)
          obtain ⟨z0_22, y1_23, y2_24, hp_25, hp_26, hP1, hD1⟩ := hB
          rw [ht] at hP1
          obtain ⟨hP, hD⟩ := va_join (wr := [(v0, .inr (5, [.ref v_hung, .int a_pl, .int w_9, .int w_10, .int w_11])), (v_hung, .inl (cyI, 7, .inl f_12)), (sl0, .inr (7, [.ref sNum, .ref sLen, .ref sWid, .ref sMade])), (sMade, .inl (cyZ, 4, .inl s_fm)), (sLen, .inl (cyI, 4, .inl s_fl)), (sWid, .inl (cyI, 4, .inl s_fw)), (sNum, .inl (cyN, 4, .inr (.inr (.inr (.inr nF))))), (n0, .inl (cyJ, 60, .inr (.inl s_n0))), (n1, .inl (cyJ, 60, .inr (.inl s_n1))), (n2, .inl (cyJ, 60, .inr (.inl s_n2))), (n3, .inl (cyJ, 60, .inr (.inl s_n3)))]) (w1 := [(c0, .inr (0, [.ref c_row, .ref c_origins, .ref c_before, .ref c_lawsByNight, .ref h0, .int z0_22])), (c_row, .inl (cyI, 7, .inl y1_23)), (c_origins, .inl (cyI, 7, .inl f_16)), (c_before, .inl (cyI, 7, .inl f_17)), (c_lawsByNight, .inl (cyI, 60, .inl y2_24)), (h0, .inr (2, [.int a_pl, .int a_li, .int a_le, .int a_lc, .int a_ac, .int a_ng, .ref a_first, .ref a_now, .ref a_lawPlace, .ref a_lawOther, .ref a_lawEach, .ref a_lawFrom, .ref a_foes, .ref a_suitTable, .ref a_acts])), (a_first, .inl (cyI, 7, .inl a_f_first)), (a_now, .inl (cyI, 7, .inl a_f_now)), (a_lawPlace, .inl (cyI, 6, .inl a_f_lawPlace)), (a_lawOther, .inl (cyI, 6, .inl a_f_lawOther)), (a_lawEach, .inl (cyI, 6, .inl a_f_lawEach)), (a_lawFrom, .inl (cyI, 6, .inl a_f_lawFrom)), (a_foes, .inl (cyI, 7, .inl a_f_foes)), (a_suitTable, .inl (cyI, 49, .inl a_f_suitTable)), (a_acts, .inl (cyI, 40, .inl a_f_acts))]) hP hD [21, 22, 23, 24, 25, 11, 12, 13, 14, 15, 16, 17, 18, 19, 20] [0, 1, 2, 3, 4, 5, 6, 7, 8, 9, 10] rfl rfl (by decide) (by decide) hk1 hFc hP1 hD1
          generalize H1 = H at hP hS ⊢
          have hP : va_P (dC, dI) vwCl [(v0, .inr (5, [.ref v_hung, .int a_pl, .int w_9, .int w_10, .int w_11])), (v_hung, .inl (cyI, 7, .inl f_12)), (sl0, .inr (7, [.ref sNum, .ref sLen, .ref sWid, .ref sMade])), (sMade, .inl (cyZ, 4, .inl s_fm)), (sLen, .inl (cyI, 4, .inl s_fl)), (sWid, .inl (cyI, 4, .inl s_fw)), (sNum, .inl (cyN, 4, .inr (.inr (.inr (.inr nF))))), (n0, .inl (cyJ, 60, .inr (.inl s_n0))), (n1, .inl (cyJ, 60, .inr (.inl s_n1))), (n2, .inl (cyJ, 60, .inr (.inl s_n2))), (n3, .inl (cyJ, 60, .inr (.inl s_n3))), (c0, .inr (0, [.ref c_row, .ref c_origins, .ref c_before, .ref c_lawsByNight, .ref h0, .int z0_22])), (c_row, .inl (cyI, 7, .inl y1_23)), (c_origins, .inl (cyI, 7, .inl f_16)), (c_before, .inl (cyI, 7, .inl f_17)), (c_lawsByNight, .inl (cyI, 60, .inl y2_24)), (h0, .inr (2, [.int a_pl, .int a_li, .int a_le, .int a_lc, .int a_ac, .int a_ng, .ref a_first, .ref a_now, .ref a_lawPlace, .ref a_lawOther, .ref a_lawEach, .ref a_lawFrom, .ref a_foes, .ref a_suitTable, .ref a_acts])), (a_first, .inl (cyI, 7, .inl a_f_first)), (a_now, .inl (cyI, 7, .inl a_f_now)), (a_lawPlace, .inl (cyI, 6, .inl a_f_lawPlace)), (a_lawOther, .inl (cyI, 6, .inl a_f_lawOther)), (a_lawEach, .inl (cyI, 6, .inl a_f_lawEach)), (a_lawFrom, .inl (cyI, 6, .inl a_f_lawFrom)), (a_foes, .inl (cyI, 7, .inl a_f_foes)), (a_suitTable, .inl (cyI, 49, .inl a_f_suitTable)), (a_acts, .inl (cyI, 40, .inl a_f_acts))] H := hP
          have hD : va_D A [(v0, .inr (5, [.ref v_hung, .int a_pl, .int w_9, .int w_10, .int w_11])), (v_hung, .inl (cyI, 7, .inl f_12)), (sl0, .inr (7, [.ref sNum, .ref sLen, .ref sWid, .ref sMade])), (sMade, .inl (cyZ, 4, .inl s_fm)), (sLen, .inl (cyI, 4, .inl s_fl)), (sWid, .inl (cyI, 4, .inl s_fw)), (sNum, .inl (cyN, 4, .inr (.inr (.inr (.inr nF))))), (n0, .inl (cyJ, 60, .inr (.inl s_n0))), (n1, .inl (cyJ, 60, .inr (.inl s_n1))), (n2, .inl (cyJ, 60, .inr (.inl s_n2))), (n3, .inl (cyJ, 60, .inr (.inl s_n3))), (c0, .inr (0, [.ref c_row, .ref c_origins, .ref c_before, .ref c_lawsByNight, .ref h0, .int z0_22])), (c_row, .inl (cyI, 7, .inl y1_23)), (c_origins, .inl (cyI, 7, .inl f_16)), (c_before, .inl (cyI, 7, .inl f_17)), (c_lawsByNight, .inl (cyI, 60, .inl y2_24)), (h0, .inr (2, [.int a_pl, .int a_li, .int a_le, .int a_lc, .int a_ac, .int a_ng, .ref a_first, .ref a_now, .ref a_lawPlace, .ref a_lawOther, .ref a_lawEach, .ref a_lawFrom, .ref a_foes, .ref a_suitTable, .ref a_acts])), (a_first, .inl (cyI, 7, .inl a_f_first)), (a_now, .inl (cyI, 7, .inl a_f_now)), (a_lawPlace, .inl (cyI, 6, .inl a_f_lawPlace)), (a_lawOther, .inl (cyI, 6, .inl a_f_lawOther)), (a_lawEach, .inl (cyI, 6, .inl a_f_lawEach)), (a_lawFrom, .inl (cyI, 6, .inl a_f_lawFrom)), (a_foes, .inl (cyI, 7, .inl a_f_foes)), (a_suitTable, .inl (cyI, 49, .inl a_f_suitTable)), (a_acts, .inl (cyI, 40, .inl a_f_acts))] := hD
          have hP := hP.sub (ws' := [(v0, .inr (5, [.ref v_hung, .int a_pl, .int w_9, .int w_10, .int w_11])), (v_hung, .inl (cyI, 7, .inl f_12)), (sl0, .inr (7, [.ref sNum, .ref sLen, .ref sWid, .ref sMade])), (sMade, .inl (cyZ, 4, .inl s_fm)), (sLen, .inl (cyI, 4, .inl s_fl)), (sWid, .inl (cyI, 4, .inl s_fw)), (sNum, .inl (cyN, 4, .inr (.inr (.inr (.inr nF))))), (n0, .inl (cyJ, 60, .inr (.inl s_n0))), (n1, .inl (cyJ, 60, .inr (.inl s_n1))), (n2, .inl (cyJ, 60, .inr (.inl s_n2))), (n3, .inl (cyJ, 60, .inr (.inl s_n3))), (h0, .inr (2, [.int a_pl, .int a_li, .int a_le, .int a_lc, .int a_ac, .int a_ng, .ref a_first, .ref a_now, .ref a_lawPlace, .ref a_lawOther, .ref a_lawEach, .ref a_lawFrom, .ref a_foes, .ref a_suitTable, .ref a_acts])), (a_first, .inl (cyI, 7, .inl a_f_first)), (a_now, .inl (cyI, 7, .inl a_f_now)), (a_lawPlace, .inl (cyI, 6, .inl a_f_lawPlace)), (a_lawOther, .inl (cyI, 6, .inl a_f_lawOther)), (a_lawEach, .inl (cyI, 6, .inl a_f_lawEach)), (a_lawFrom, .inl (cyI, 6, .inl a_f_lawFrom)), (a_foes, .inl (cyI, 7, .inl a_f_foes)), (a_suitTable, .inl (cyI, 49, .inl a_f_suitTable)), (a_acts, .inl (cyI, 40, .inl a_f_acts)), (c0, .inr (0, [.ref c_row, .ref c_origins, .ref c_before, .ref c_lawsByNight, .ref h0, .int z0_22])), (c_row, .inl (cyI, 7, .inl y1_23)), (c_origins, .inl (cyI, 7, .inl f_16)), (c_before, .inl (cyI, 7, .inl f_17)), (c_lawsByNight, .inl (cyI, 60, .inl y2_24))]) [0, 1, 2, 3, 4, 5, 6, 7, 8, 9, 10, 16, 17, 18, 19, 20, 21, 22, 23, 24, 25, 11, 12, 13, 14, 15] rfl
          have hD := hD.sub (ws' := [(v0, .inr (5, [.ref v_hung, .int a_pl, .int w_9, .int w_10, .int w_11])), (v_hung, .inl (cyI, 7, .inl f_12)), (sl0, .inr (7, [.ref sNum, .ref sLen, .ref sWid, .ref sMade])), (sMade, .inl (cyZ, 4, .inl s_fm)), (sLen, .inl (cyI, 4, .inl s_fl)), (sWid, .inl (cyI, 4, .inl s_fw)), (sNum, .inl (cyN, 4, .inr (.inr (.inr (.inr nF))))), (n0, .inl (cyJ, 60, .inr (.inl s_n0))), (n1, .inl (cyJ, 60, .inr (.inl s_n1))), (n2, .inl (cyJ, 60, .inr (.inl s_n2))), (n3, .inl (cyJ, 60, .inr (.inl s_n3))), (h0, .inr (2, [.int a_pl, .int a_li, .int a_le, .int a_lc, .int a_ac, .int a_ng, .ref a_first, .ref a_now, .ref a_lawPlace, .ref a_lawOther, .ref a_lawEach, .ref a_lawFrom, .ref a_foes, .ref a_suitTable, .ref a_acts])), (a_first, .inl (cyI, 7, .inl a_f_first)), (a_now, .inl (cyI, 7, .inl a_f_now)), (a_lawPlace, .inl (cyI, 6, .inl a_f_lawPlace)), (a_lawOther, .inl (cyI, 6, .inl a_f_lawOther)), (a_lawEach, .inl (cyI, 6, .inl a_f_lawEach)), (a_lawFrom, .inl (cyI, 6, .inl a_f_lawFrom)), (a_foes, .inl (cyI, 7, .inl a_f_foes)), (a_suitTable, .inl (cyI, 49, .inl a_f_suitTable)), (a_acts, .inl (cyI, 40, .inl a_f_acts)), (c0, .inr (0, [.ref c_row, .ref c_origins, .ref c_before, .ref c_lawsByNight, .ref h0, .int z0_22])), (c_row, .inl (cyI, 7, .inl y1_23)), (c_origins, .inl (cyI, 7, .inl f_16)), (c_before, .inl (cyI, 7, .inl f_17)), (c_lawsByNight, .inl (cyI, 60, .inl y2_24))]) [0, 1, 2, 3, 4, 5, 6, 7, 8, 9, 10, 16, 17, 18, 19, 20, 21, 22, 23, 24, 25, 11, 12, 13, 14, 15] (by decide) rfl
          refine lv_aload hx hb dX6_take_73 (lv_at hl 6 rfl) ?_
          refine lv_aload hx hb dX6_take_75 (lv_at hl 1 rfl) ?_
          refine lv_iload hx hb dX6_take_77 (lv_at hl 0 rfl) ?_
          refine lv_iconst (v := 1) hx hb dX6_take_79 (by decide) ?_
          refine lv_iadd hx hb dX6_take_80 ?_
          refine lv_topi (fun x_27 ex_27 => ?_)
          have fx_27 : x_27.toInt = u_8.toInt + 1 := by rw [ex_27]; exact cv_addI (by have : (1 : Int32).toInt = 1 := rfl; omega) (by have : (1 : Int32).toInt = 1 := rfl; omega)
          refine va_lald hx hb hK hP 10 2 rfl rfl (vp_in_iff.mpr (by omega)) dX6_take_81 ?_
          refine lv_topl (fun x_28 ex_28 => ?_)
          have qx_28 := sn_get (i := u_8) hq_3 (by omega) hm9 (by omega)
          have ax_28 : x_27.toNatClampNeg = u_8.toNatClampNeg + 1 := sn_at (by omega) (by omega)
          have fx_28 : 0 ≤ x_28.toInt ∧ x_28.toInt ≤ 999 := by rw [ex_28, ax_28]; omega
          refine lv_l2i hx hb dX6_take_82 rfl ?_
          refine lv_topi (fun x_29 ex_29 => ?_)
          have fx_29 : x_29.toInt = x_28.toInt := by rw [ex_29]; exact cv_l2i (by omega) (by omega)
          have hPc := hP.sub (ws' := [(c0, .inr (0, [.ref c_row, .ref c_origins, .ref c_before, .ref c_lawsByNight, .ref h0, .int z0_22])), (c_row, .inl (cyI, 7, .inl y1_23)), (c_origins, .inl (cyI, 7, .inl f_16)), (c_before, .inl (cyI, 7, .inl f_17)), (c_lawsByNight, .inl (cyI, 60, .inl y2_24)), (h0, .inr (2, [.int a_pl, .int a_li, .int a_le, .int a_lc, .int a_ac, .int a_ng, .ref a_first, .ref a_now, .ref a_lawPlace, .ref a_lawOther, .ref a_lawEach, .ref a_lawFrom, .ref a_foes, .ref a_suitTable, .ref a_acts])), (a_first, .inl (cyI, 7, .inl a_f_first)), (a_now, .inl (cyI, 7, .inl a_f_now)), (a_lawPlace, .inl (cyI, 6, .inl a_f_lawPlace)), (a_lawOther, .inl (cyI, 6, .inl a_f_lawOther)), (a_lawEach, .inl (cyI, 6, .inl a_f_lawEach)), (a_lawFrom, .inl (cyI, 6, .inl a_f_lawFrom)), (a_foes, .inl (cyI, 7, .inl a_f_foes)), (a_suitTable, .inl (cyI, 49, .inl a_f_suitTable)), (a_acts, .inl (cyI, 40, .inl a_f_acts))]) [21, 22, 23, 24, 25, 11, 12, 13, 14, 15, 16, 17, 18, 19, 20] rfl
          have hKc := hK.sub (tys' := [(cyI, .int), (cyB, .byte), (cyJ, .long), (cyZ, .boolean), (cyH, .object RX2), (cyN, .array .long)]) [0, 1, 2, 3, 4, 5] rfl
          have hDc := hD.sub (ws' := [(c0, .inr (0, [.ref c_row, .ref c_origins, .ref c_before, .ref c_lawsByNight, .ref h0, .int z0_22])), (c_row, .inl (cyI, 7, .inl y1_23)), (c_origins, .inl (cyI, 7, .inl f_16)), (c_before, .inl (cyI, 7, .inl f_17)), (c_lawsByNight, .inl (cyI, 60, .inl y2_24)), (h0, .inr (2, [.int a_pl, .int a_li, .int a_le, .int a_lc, .int a_ac, .int a_ng, .ref a_first, .ref a_now, .ref a_lawPlace, .ref a_lawOther, .ref a_lawEach, .ref a_lawFrom, .ref a_foes, .ref a_suitTable, .ref a_acts])), (a_first, .inl (cyI, 7, .inl a_f_first)), (a_now, .inl (cyI, 7, .inl a_f_now)), (a_lawPlace, .inl (cyI, 6, .inl a_f_lawPlace)), (a_lawOther, .inl (cyI, 6, .inl a_f_lawOther)), (a_lawEach, .inl (cyI, 6, .inl a_f_lawEach)), (a_lawFrom, .inl (cyI, 6, .inl a_f_lawFrom)), (a_foes, .inl (cyI, 7, .inl a_f_foes)), (a_suitTable, .inl (cyI, 49, .inl a_f_suitTable)), (a_acts, .inl (cyI, 40, .inl a_f_acts))]) [21, 22, 23, 24, 25, 11, 12, 13, 14, 15, 16, 17, 18, 19, 20] (by decide) rfl
          have hFc := va_free (wc := [(c0, .inr (0, [.ref c_row, .ref c_origins, .ref c_before, .ref c_lawsByNight, .ref h0, .int z0_22])), (c_row, .inl (cyI, 7, .inl y1_23)), (c_origins, .inl (cyI, 7, .inl f_16)), (c_before, .inl (cyI, 7, .inl f_17)), (c_lawsByNight, .inl (cyI, 60, .inl y2_24)), (h0, .inr (2, [.int a_pl, .int a_li, .int a_le, .int a_lc, .int a_ac, .int a_ng, .ref a_first, .ref a_now, .ref a_lawPlace, .ref a_lawOther, .ref a_lawEach, .ref a_lawFrom, .ref a_foes, .ref a_suitTable, .ref a_acts])), (a_first, .inl (cyI, 7, .inl a_f_first)), (a_now, .inl (cyI, 7, .inl a_f_now)), (a_lawPlace, .inl (cyI, 6, .inl a_f_lawPlace)), (a_lawOther, .inl (cyI, 6, .inl a_f_lawOther)), (a_lawEach, .inl (cyI, 6, .inl a_f_lawEach)), (a_lawFrom, .inl (cyI, 6, .inl a_f_lawFrom)), (a_foes, .inl (cyI, 7, .inl a_f_foes)), (a_suitTable, .inl (cyI, 49, .inl a_f_suitTable)), (a_acts, .inl (cyI, 40, .inl a_f_acts))]) hD hS hA [21, 22, 23, 24, 25, 11, 12, 13, 14, 15, 16, 17, 18, 19, 20] rfl
          refine va_callv (va_runV (As := [.int x_29]) (rest := []) ⟨hx, hb, hml, hown, hts⟩ (n_goOn l dC dI cyI cyB cyJ cyZ cyH cyN tR tF aK aV H.size c0 c_row c_origins c_before c_lawsByNight z0_22 y1_23 f_16 f_17 y2_24 h0 a_first a_now a_lawPlace a_lawOther a_lawEach a_lawFrom a_foes a_suitTable a_acts a_pl a_li a_le a_lc a_ac a_ng a_f_first a_f_now a_f_lawPlace a_f_lawOther a_f_lawEach a_f_lawFrom a_f_foes a_f_suitTable a_f_acts x_29 hp_26 hf_16 hf_17 g4 g5 g6 g7 g8 (by omega) (by omega) (by omega) (by omega) (by omega)) (cwV 1 hts (gdV wd_4_190 wd_3_105 wd_3_106 wd_1_5 wd_3_107) rfl rfl rfl (by decide +kernel) ⟨Nat.le_of_ble_eq_true rfl, Nat.le_of_ble_eq_true rfl⟩) ⟨fun a U g mk q => by obtain ⟨q0, q1, qP, qK, qD, qF⟩ := q; exact ⟨q0, q1, qP, va_K.moved (u := U) (U := U.calling g mk a) (Vm.Alike.refl U.vm) qK, qD, cv_FX.same qF rfl rfl⟩, va_recv hKc hPc (ci := 0) (q0 := 0) rfl rfl, fun U hU hW => ⟨rfl, by rw [hU], by rw [hU]; exact hPc, va_K.moved hW.alike hKc, hDc.weaken (fun _ _ _ _ => trivial), cv_FX.go hFX hW hS hFc hU⟩⟩ rfl rfl hl.1 rfl (lv_room (Nat.le_of_ble_eq_true rfl)) dX6_take_83 ⟨Nat.le_of_ble_eq_true rfl, Nat.le_of_ble_eq_true rfl⟩) hS (fun q _ h => hFc q h) hFc (fun  u t H1 locs ht hvm hw hB hz1 hk1 hS => ?_)
          obtain ⟨z0_30, y1_31, y2_32, y3_33, hp_34, hp_35, hp_36, hp_37, hP1, hD1⟩ := hB
          rw [ht] at hP1
          obtain ⟨hP, hD⟩ := va_join (wr := [(v0, .inr (5, [.ref v_hung, .int a_pl, .int w_9, .int w_10, .int w_11])), (v_hung, .inl (cyI, 7, .inl f_12)), (sl0, .inr (7, [.ref sNum, .ref sLen, .ref sWid, .ref sMade])), (sMade, .inl (cyZ, 4, .inl s_fm)), (sLen, .inl (cyI, 4, .inl s_fl)), (sWid, .inl (cyI, 4, .inl s_fw)), (sNum, .inl (cyN, 4, .inr (.inr (.inr (.inr nF))))), (n0, .inl (cyJ, 60, .inr (.inl s_n0))), (n1, .inl (cyJ, 60, .inr (.inl s_n1))), (n2, .inl (cyJ, 60, .inr (.inl s_n2))), (n3, .inl (cyJ, 60, .inr (.inl s_n3)))]) (w1 := [(c0, .inr (0, [.ref c_row, .ref c_origins, .ref c_before, .ref c_lawsByNight, .ref h0, .int z0_30])), (c_row, .inl (cyI, 7, .inl y1_31)), (c_origins, .inl (cyI, 7, .inl y2_32)), (c_before, .inl (cyI, 7, .inl y3_33)), (c_lawsByNight, .inl (cyI, 60, .inl y2_24)), (h0, .inr (2, [.int a_pl, .int a_li, .int a_le, .int a_lc, .int a_ac, .int a_ng, .ref a_first, .ref a_now, .ref a_lawPlace, .ref a_lawOther, .ref a_lawEach, .ref a_lawFrom, .ref a_foes, .ref a_suitTable, .ref a_acts])), (a_first, .inl (cyI, 7, .inl a_f_first)), (a_now, .inl (cyI, 7, .inl a_f_now)), (a_lawPlace, .inl (cyI, 6, .inl a_f_lawPlace)), (a_lawOther, .inl (cyI, 6, .inl a_f_lawOther)), (a_lawEach, .inl (cyI, 6, .inl a_f_lawEach)), (a_lawFrom, .inl (cyI, 6, .inl a_f_lawFrom)), (a_foes, .inl (cyI, 7, .inl a_f_foes)), (a_suitTable, .inl (cyI, 49, .inl a_f_suitTable)), (a_acts, .inl (cyI, 40, .inl a_f_acts))]) hP hD [21, 22, 23, 24, 25, 11, 12, 13, 14, 15, 16, 17, 18, 19, 20] [0, 1, 2, 3, 4, 5, 6, 7, 8, 9, 10] rfl rfl (by decide) (by decide) hk1 hFc hP1 hD1
          generalize H1 = H at hP hS ⊢
          have hP : va_P (dC, dI) vwCl [(v0, .inr (5, [.ref v_hung, .int a_pl, .int w_9, .int w_10, .int w_11])), (v_hung, .inl (cyI, 7, .inl f_12)), (sl0, .inr (7, [.ref sNum, .ref sLen, .ref sWid, .ref sMade])), (sMade, .inl (cyZ, 4, .inl s_fm)), (sLen, .inl (cyI, 4, .inl s_fl)), (sWid, .inl (cyI, 4, .inl s_fw)), (sNum, .inl (cyN, 4, .inr (.inr (.inr (.inr nF))))), (n0, .inl (cyJ, 60, .inr (.inl s_n0))), (n1, .inl (cyJ, 60, .inr (.inl s_n1))), (n2, .inl (cyJ, 60, .inr (.inl s_n2))), (n3, .inl (cyJ, 60, .inr (.inl s_n3))), (c0, .inr (0, [.ref c_row, .ref c_origins, .ref c_before, .ref c_lawsByNight, .ref h0, .int z0_30])), (c_row, .inl (cyI, 7, .inl y1_31)), (c_origins, .inl (cyI, 7, .inl y2_32)), (c_before, .inl (cyI, 7, .inl y3_33)), (c_lawsByNight, .inl (cyI, 60, .inl y2_24)), (h0, .inr (2, [.int a_pl, .int a_li, .int a_le, .int a_lc, .int a_ac, .int a_ng, .ref a_first, .ref a_now, .ref a_lawPlace, .ref a_lawOther, .ref a_lawEach, .ref a_lawFrom, .ref a_foes, .ref a_suitTable, .ref a_acts])), (a_first, .inl (cyI, 7, .inl a_f_first)), (a_now, .inl (cyI, 7, .inl a_f_now)), (a_lawPlace, .inl (cyI, 6, .inl a_f_lawPlace)), (a_lawOther, .inl (cyI, 6, .inl a_f_lawOther)), (a_lawEach, .inl (cyI, 6, .inl a_f_lawEach)), (a_lawFrom, .inl (cyI, 6, .inl a_f_lawFrom)), (a_foes, .inl (cyI, 7, .inl a_f_foes)), (a_suitTable, .inl (cyI, 49, .inl a_f_suitTable)), (a_acts, .inl (cyI, 40, .inl a_f_acts))] H := hP
          have hD : va_D A [(v0, .inr (5, [.ref v_hung, .int a_pl, .int w_9, .int w_10, .int w_11])), (v_hung, .inl (cyI, 7, .inl f_12)), (sl0, .inr (7, [.ref sNum, .ref sLen, .ref sWid, .ref sMade])), (sMade, .inl (cyZ, 4, .inl s_fm)), (sLen, .inl (cyI, 4, .inl s_fl)), (sWid, .inl (cyI, 4, .inl s_fw)), (sNum, .inl (cyN, 4, .inr (.inr (.inr (.inr nF))))), (n0, .inl (cyJ, 60, .inr (.inl s_n0))), (n1, .inl (cyJ, 60, .inr (.inl s_n1))), (n2, .inl (cyJ, 60, .inr (.inl s_n2))), (n3, .inl (cyJ, 60, .inr (.inl s_n3))), (c0, .inr (0, [.ref c_row, .ref c_origins, .ref c_before, .ref c_lawsByNight, .ref h0, .int z0_30])), (c_row, .inl (cyI, 7, .inl y1_31)), (c_origins, .inl (cyI, 7, .inl y2_32)), (c_before, .inl (cyI, 7, .inl y3_33)), (c_lawsByNight, .inl (cyI, 60, .inl y2_24)), (h0, .inr (2, [.int a_pl, .int a_li, .int a_le, .int a_lc, .int a_ac, .int a_ng, .ref a_first, .ref a_now, .ref a_lawPlace, .ref a_lawOther, .ref a_lawEach, .ref a_lawFrom, .ref a_foes, .ref a_suitTable, .ref a_acts])), (a_first, .inl (cyI, 7, .inl a_f_first)), (a_now, .inl (cyI, 7, .inl a_f_now)), (a_lawPlace, .inl (cyI, 6, .inl a_f_lawPlace)), (a_lawOther, .inl (cyI, 6, .inl a_f_lawOther)), (a_lawEach, .inl (cyI, 6, .inl a_f_lawEach)), (a_lawFrom, .inl (cyI, 6, .inl a_f_lawFrom)), (a_foes, .inl (cyI, 7, .inl a_f_foes)), (a_suitTable, .inl (cyI, 49, .inl a_f_suitTable)), (a_acts, .inl (cyI, 40, .inl a_f_acts))] := hD
          have hP := hP.sub (ws' := [(v0, .inr (5, [.ref v_hung, .int a_pl, .int w_9, .int w_10, .int w_11])), (v_hung, .inl (cyI, 7, .inl f_12)), (sl0, .inr (7, [.ref sNum, .ref sLen, .ref sWid, .ref sMade])), (sMade, .inl (cyZ, 4, .inl s_fm)), (sLen, .inl (cyI, 4, .inl s_fl)), (sWid, .inl (cyI, 4, .inl s_fw)), (sNum, .inl (cyN, 4, .inr (.inr (.inr (.inr nF))))), (n0, .inl (cyJ, 60, .inr (.inl s_n0))), (n1, .inl (cyJ, 60, .inr (.inl s_n1))), (n2, .inl (cyJ, 60, .inr (.inl s_n2))), (n3, .inl (cyJ, 60, .inr (.inl s_n3))), (h0, .inr (2, [.int a_pl, .int a_li, .int a_le, .int a_lc, .int a_ac, .int a_ng, .ref a_first, .ref a_now, .ref a_lawPlace, .ref a_lawOther, .ref a_lawEach, .ref a_lawFrom, .ref a_foes, .ref a_suitTable, .ref a_acts])), (a_first, .inl (cyI, 7, .inl a_f_first)), (a_now, .inl (cyI, 7, .inl a_f_now)), (a_lawPlace, .inl (cyI, 6, .inl a_f_lawPlace)), (a_lawOther, .inl (cyI, 6, .inl a_f_lawOther)), (a_lawEach, .inl (cyI, 6, .inl a_f_lawEach)), (a_lawFrom, .inl (cyI, 6, .inl a_f_lawFrom)), (a_foes, .inl (cyI, 7, .inl a_f_foes)), (a_suitTable, .inl (cyI, 49, .inl a_f_suitTable)), (a_acts, .inl (cyI, 40, .inl a_f_acts)), (c0, .inr (0, [.ref c_row, .ref c_origins, .ref c_before, .ref c_lawsByNight, .ref h0, .int z0_30])), (c_row, .inl (cyI, 7, .inl y1_31)), (c_origins, .inl (cyI, 7, .inl y2_32)), (c_before, .inl (cyI, 7, .inl y3_33)), (c_lawsByNight, .inl (cyI, 60, .inl y2_24))]) [0, 1, 2, 3, 4, 5, 6, 7, 8, 9, 10, 16, 17, 18, 19, 20, 21, 22, 23, 24, 25, 11, 12, 13, 14, 15] rfl
          have hD := hD.sub (ws' := [(v0, .inr (5, [.ref v_hung, .int a_pl, .int w_9, .int w_10, .int w_11])), (v_hung, .inl (cyI, 7, .inl f_12)), (sl0, .inr (7, [.ref sNum, .ref sLen, .ref sWid, .ref sMade])), (sMade, .inl (cyZ, 4, .inl s_fm)), (sLen, .inl (cyI, 4, .inl s_fl)), (sWid, .inl (cyI, 4, .inl s_fw)), (sNum, .inl (cyN, 4, .inr (.inr (.inr (.inr nF))))), (n0, .inl (cyJ, 60, .inr (.inl s_n0))), (n1, .inl (cyJ, 60, .inr (.inl s_n1))), (n2, .inl (cyJ, 60, .inr (.inl s_n2))), (n3, .inl (cyJ, 60, .inr (.inl s_n3))), (h0, .inr (2, [.int a_pl, .int a_li, .int a_le, .int a_lc, .int a_ac, .int a_ng, .ref a_first, .ref a_now, .ref a_lawPlace, .ref a_lawOther, .ref a_lawEach, .ref a_lawFrom, .ref a_foes, .ref a_suitTable, .ref a_acts])), (a_first, .inl (cyI, 7, .inl a_f_first)), (a_now, .inl (cyI, 7, .inl a_f_now)), (a_lawPlace, .inl (cyI, 6, .inl a_f_lawPlace)), (a_lawOther, .inl (cyI, 6, .inl a_f_lawOther)), (a_lawEach, .inl (cyI, 6, .inl a_f_lawEach)), (a_lawFrom, .inl (cyI, 6, .inl a_f_lawFrom)), (a_foes, .inl (cyI, 7, .inl a_f_foes)), (a_suitTable, .inl (cyI, 49, .inl a_f_suitTable)), (a_acts, .inl (cyI, 40, .inl a_f_acts)), (c0, .inr (0, [.ref c_row, .ref c_origins, .ref c_before, .ref c_lawsByNight, .ref h0, .int z0_30])), (c_row, .inl (cyI, 7, .inl y1_31)), (c_origins, .inl (cyI, 7, .inl y2_32)), (c_before, .inl (cyI, 7, .inl y3_33)), (c_lawsByNight, .inl (cyI, 60, .inl y2_24))]) [0, 1, 2, 3, 4, 5, 6, 7, 8, 9, 10, 16, 17, 18, 19, 20, 21, 22, 23, 24, 25, 11, 12, 13, 14, 15] (by decide) rfl
          refine lv_aload_n hx hb dX6_take_86 rfl (lv_at hl 2 rfl) ?_
          refine lv_aload hx hb dX6_take_87 (lv_at hl 6 rfl) ?_
          refine va_get (D := (dC, dI)) (ci := 0) (v := .ref c_row) (C := RX0) (T := TX0) (N := 6) hx hb hts uinX0 hown hK hP 21 rfl rfl 0 (by decide) (hts _ wd_1_192) (fun _ h9 => h9) rfl dX6_take_89 ?_
          refine lv_aload hx hb dX6_take_92 (lv_at hl 1 rfl) ?_
          refine lv_iload hx hb dX6_take_94 (lv_at hl 0 rfl) ?_
          refine va_lald hx hb hK hP 10 2 rfl rfl (vp_in_iff.mpr (by omega)) dX6_take_96 ?_
          refine lv_topl (fun x_38 ex_38 => ?_)
          have qx_38 := sn_get (i := u_8) hq_3 (by omega) hm9 (by omega)
          have fx_38 : 0 ≤ x_38.toInt ∧ x_38.toInt ≤ 6 := by rw [ex_38]; omega
          refine lv_l2i hx hb dX6_take_97 rfl ?_
          refine lv_topi (fun x_39 ex_39 => ?_)
          have fx_39 : x_39.toInt = x_38.toInt := by rw [ex_39]; exact cv_l2i (by omega) (by omega)
          refine va_iald hx hb hK hP 22 0 rfl rfl (vp_in_iff.mpr (by omega)) dX6_take_98 ?_
          refine lv_topi (fun x_40 ex_40 => ?_)
          have fx_40 : 0 ≤ x_40.toInt ∧ x_40.toInt ≤ 6 := by rw [ex_40]; exact hp_35 _ (cv_ix (by omega) (by omega))
          refine lv_aload hx hb dX6_take_99 (lv_at hl 1 rfl) ?_
          refine lv_iload hx hb dX6_take_101 (lv_at hl 0 rfl) ?_
          refine lv_iconst (v := 2) hx hb dX6_take_103 (by decide) ?_
          refine lv_iadd hx hb dX6_take_104 ?_
          refine lv_topi (fun x_41 ex_41 => ?_)
          have fx_41 : x_41.toInt = u_8.toInt + 2 := by rw [ex_41]; exact cv_addI (by have : (2 : Int32).toInt = 2 := rfl; omega) (by have : (2 : Int32).toInt = 2 := rfl; omega)
          refine va_lald hx hb hK hP 10 2 rfl rfl (vp_in_iff.mpr (by omega)) dX6_take_105 ?_
          refine lv_topl (fun x_42 ex_42 => ?_)
          have qx_42 := sn_get (i := u_8) hq_3 (by omega) hm9 (by omega)
          have ax_42 : x_41.toNatClampNeg = u_8.toNatClampNeg + 2 := sn_at (by omega) (by omega)
          have fx_42 : 0 ≤ x_42.toInt ∧ x_42.toInt ≤ 6 := by rw [ex_42, ax_42]; omega
          have gx_42 : x_42.toInt < a_pl.toInt := by rw [ex_42, ax_42]; omega
          refine lv_l2i hx hb dX6_take_106 rfl ?_
          refine lv_topi (fun x_43 ex_43 => ?_)
          have fx_43 : x_43.toInt = x_42.toInt := by rw [ex_43]; exact cv_l2i (by omega) (by omega)
          have hPc := hP.sub (ws' := [(v0, .inr (5, [.ref v_hung, .int a_pl, .int w_9, .int w_10, .int w_11])), (v_hung, .inl (cyI, 7, .inl f_12))]) [0, 1] rfl
          have hKc := hK.sub (tys' := [(cyI, .int), (cyB, .byte), (cyJ, .long), (cyZ, .boolean), (cyH, .object RX2), (cyN, .array .long)]) [0, 1, 2, 3, 4, 5] rfl
          have hDc := hD.sub (ws' := [(v0, .inr (5, [.ref v_hung, .int a_pl, .int w_9, .int w_10, .int w_11])), (v_hung, .inl (cyI, 7, .inl f_12))]) [0, 1] (by decide) rfl
          have hFc := va_free (wc := [(v0, .inr (5, [.ref v_hung, .int a_pl, .int w_9, .int w_10, .int w_11])), (v_hung, .inl (cyI, 7, .inl f_12))]) hD hS hA [0, 1] rfl
          refine va_callv (va_runV (As := [.int x_40, .int x_43]) (rest := []) ⟨hx, hb, hml, hown, hts⟩ (n_learn l dC dI cyI cyB cyJ cyZ cyH cyN H.size v0 v_hung a_pl w_9 w_10 w_11 f_12 x_40 x_43 hf_12 (by omega) (by omega) (by omega) (by omega) (by omega) hun8 (by omega)) (cwV 2 hts (gdV wd_4_191 wd_4_193 wd_s2_13 wd_1_6 wd_4_194) rfl rfl rfl (by decide +kernel) ⟨Nat.le_of_ble_eq_true rfl, Nat.le_of_ble_eq_true rfl⟩) ⟨fun a U g mk q => by obtain ⟨q0, q1, qP, qK, qD⟩ := q; exact ⟨q0, q1, qP, va_K.moved (u := U) (U := U.calling g mk a) (Vm.Alike.refl U.vm) qK, qD⟩, va_recv hKc hPc (ci := 5) (q0 := 0) rfl rfl, fun U hU hW => ⟨rfl, by rw [hU], by rw [hU]; exact hPc, va_K.moved hW.alike hKc, hDc.weaken (fun _ _ _ _ => trivial)⟩⟩ rfl rfl hl.1 rfl (lv_room (Nat.le_of_ble_eq_true rfl)) dX6_take_107 ⟨Nat.le_of_ble_eq_true rfl, Nat.le_of_ble_eq_true rfl⟩) hS (fun q _ h => hFc q h) hFc (fun  u t H1 locs ht hvm hw hB hz1 hk1 hS => ?_)
          obtain ⟨z0_44, z1_45, z2_46, y3_47, hp_48, hp_49, hp_50, hp_51, hp_52, hP1, hD1⟩ := hB
          rw [ht] at hP1
          obtain ⟨hP, hD⟩ := va_join (wr := [(sl0, .inr (7, [.ref sNum, .ref sLen, .ref sWid, .ref sMade])), (sMade, .inl (cyZ, 4, .inl s_fm)), (sLen, .inl (cyI, 4, .inl s_fl)), (sWid, .inl (cyI, 4, .inl s_fw)), (sNum, .inl (cyN, 4, .inr (.inr (.inr (.inr nF))))), (n0, .inl (cyJ, 60, .inr (.inl s_n0))), (n1, .inl (cyJ, 60, .inr (.inl s_n1))), (n2, .inl (cyJ, 60, .inr (.inl s_n2))), (n3, .inl (cyJ, 60, .inr (.inl s_n3))), (h0, .inr (2, [.int a_pl, .int a_li, .int a_le, .int a_lc, .int a_ac, .int a_ng, .ref a_first, .ref a_now, .ref a_lawPlace, .ref a_lawOther, .ref a_lawEach, .ref a_lawFrom, .ref a_foes, .ref a_suitTable, .ref a_acts])), (a_first, .inl (cyI, 7, .inl a_f_first)), (a_now, .inl (cyI, 7, .inl a_f_now)), (a_lawPlace, .inl (cyI, 6, .inl a_f_lawPlace)), (a_lawOther, .inl (cyI, 6, .inl a_f_lawOther)), (a_lawEach, .inl (cyI, 6, .inl a_f_lawEach)), (a_lawFrom, .inl (cyI, 6, .inl a_f_lawFrom)), (a_foes, .inl (cyI, 7, .inl a_f_foes)), (a_suitTable, .inl (cyI, 49, .inl a_f_suitTable)), (a_acts, .inl (cyI, 40, .inl a_f_acts)), (c0, .inr (0, [.ref c_row, .ref c_origins, .ref c_before, .ref c_lawsByNight, .ref h0, .int z0_30])), (c_row, .inl (cyI, 7, .inl y1_31)), (c_origins, .inl (cyI, 7, .inl y2_32)), (c_before, .inl (cyI, 7, .inl y3_33)), (c_lawsByNight, .inl (cyI, 60, .inl y2_24))]) (w1 := [(v0, .inr (5, [.ref v_hung, .int a_pl, .int z0_44, .int z1_45, .int z2_46])), (v_hung, .inl (cyI, 7, .inl y3_47))]) hP hD [0, 1] [2, 3, 4, 5, 6, 7, 8, 9, 10, 11, 12, 13, 14, 15, 16, 17, 18, 19, 20, 21, 22, 23, 24, 25] rfl rfl (by decide) (by decide) hk1 hFc hP1 hD1
          generalize H1 = H at hP hS ⊢
          have hP : va_P (dC, dI) vwCl [(sl0, .inr (7, [.ref sNum, .ref sLen, .ref sWid, .ref sMade])), (sMade, .inl (cyZ, 4, .inl s_fm)), (sLen, .inl (cyI, 4, .inl s_fl)), (sWid, .inl (cyI, 4, .inl s_fw)), (sNum, .inl (cyN, 4, .inr (.inr (.inr (.inr nF))))), (n0, .inl (cyJ, 60, .inr (.inl s_n0))), (n1, .inl (cyJ, 60, .inr (.inl s_n1))), (n2, .inl (cyJ, 60, .inr (.inl s_n2))), (n3, .inl (cyJ, 60, .inr (.inl s_n3))), (h0, .inr (2, [.int a_pl, .int a_li, .int a_le, .int a_lc, .int a_ac, .int a_ng, .ref a_first, .ref a_now, .ref a_lawPlace, .ref a_lawOther, .ref a_lawEach, .ref a_lawFrom, .ref a_foes, .ref a_suitTable, .ref a_acts])), (a_first, .inl (cyI, 7, .inl a_f_first)), (a_now, .inl (cyI, 7, .inl a_f_now)), (a_lawPlace, .inl (cyI, 6, .inl a_f_lawPlace)), (a_lawOther, .inl (cyI, 6, .inl a_f_lawOther)), (a_lawEach, .inl (cyI, 6, .inl a_f_lawEach)), (a_lawFrom, .inl (cyI, 6, .inl a_f_lawFrom)), (a_foes, .inl (cyI, 7, .inl a_f_foes)), (a_suitTable, .inl (cyI, 49, .inl a_f_suitTable)), (a_acts, .inl (cyI, 40, .inl a_f_acts)), (c0, .inr (0, [.ref c_row, .ref c_origins, .ref c_before, .ref c_lawsByNight, .ref h0, .int z0_30])), (c_row, .inl (cyI, 7, .inl y1_31)), (c_origins, .inl (cyI, 7, .inl y2_32)), (c_before, .inl (cyI, 7, .inl y3_33)), (c_lawsByNight, .inl (cyI, 60, .inl y2_24)), (v0, .inr (5, [.ref v_hung, .int a_pl, .int z0_44, .int z1_45, .int z2_46])), (v_hung, .inl (cyI, 7, .inl y3_47))] H := hP
          have hD : va_D A [(sl0, .inr (7, [.ref sNum, .ref sLen, .ref sWid, .ref sMade])), (sMade, .inl (cyZ, 4, .inl s_fm)), (sLen, .inl (cyI, 4, .inl s_fl)), (sWid, .inl (cyI, 4, .inl s_fw)), (sNum, .inl (cyN, 4, .inr (.inr (.inr (.inr nF))))), (n0, .inl (cyJ, 60, .inr (.inl s_n0))), (n1, .inl (cyJ, 60, .inr (.inl s_n1))), (n2, .inl (cyJ, 60, .inr (.inl s_n2))), (n3, .inl (cyJ, 60, .inr (.inl s_n3))), (h0, .inr (2, [.int a_pl, .int a_li, .int a_le, .int a_lc, .int a_ac, .int a_ng, .ref a_first, .ref a_now, .ref a_lawPlace, .ref a_lawOther, .ref a_lawEach, .ref a_lawFrom, .ref a_foes, .ref a_suitTable, .ref a_acts])), (a_first, .inl (cyI, 7, .inl a_f_first)), (a_now, .inl (cyI, 7, .inl a_f_now)), (a_lawPlace, .inl (cyI, 6, .inl a_f_lawPlace)), (a_lawOther, .inl (cyI, 6, .inl a_f_lawOther)), (a_lawEach, .inl (cyI, 6, .inl a_f_lawEach)), (a_lawFrom, .inl (cyI, 6, .inl a_f_lawFrom)), (a_foes, .inl (cyI, 7, .inl a_f_foes)), (a_suitTable, .inl (cyI, 49, .inl a_f_suitTable)), (a_acts, .inl (cyI, 40, .inl a_f_acts)), (c0, .inr (0, [.ref c_row, .ref c_origins, .ref c_before, .ref c_lawsByNight, .ref h0, .int z0_30])), (c_row, .inl (cyI, 7, .inl y1_31)), (c_origins, .inl (cyI, 7, .inl y2_32)), (c_before, .inl (cyI, 7, .inl y3_33)), (c_lawsByNight, .inl (cyI, 60, .inl y2_24)), (v0, .inr (5, [.ref v_hung, .int a_pl, .int z0_44, .int z1_45, .int z2_46])), (v_hung, .inl (cyI, 7, .inl y3_47))] := hD
          have hP := hP.sub (ws' := [(v0, .inr (5, [.ref v_hung, .int a_pl, .int z0_44, .int z1_45, .int z2_46])), (v_hung, .inl (cyI, 7, .inl y3_47)), (sl0, .inr (7, [.ref sNum, .ref sLen, .ref sWid, .ref sMade])), (sMade, .inl (cyZ, 4, .inl s_fm)), (sLen, .inl (cyI, 4, .inl s_fl)), (sWid, .inl (cyI, 4, .inl s_fw)), (sNum, .inl (cyN, 4, .inr (.inr (.inr (.inr nF))))), (n0, .inl (cyJ, 60, .inr (.inl s_n0))), (n1, .inl (cyJ, 60, .inr (.inl s_n1))), (n2, .inl (cyJ, 60, .inr (.inl s_n2))), (n3, .inl (cyJ, 60, .inr (.inl s_n3))), (h0, .inr (2, [.int a_pl, .int a_li, .int a_le, .int a_lc, .int a_ac, .int a_ng, .ref a_first, .ref a_now, .ref a_lawPlace, .ref a_lawOther, .ref a_lawEach, .ref a_lawFrom, .ref a_foes, .ref a_suitTable, .ref a_acts])), (a_first, .inl (cyI, 7, .inl a_f_first)), (a_now, .inl (cyI, 7, .inl a_f_now)), (a_lawPlace, .inl (cyI, 6, .inl a_f_lawPlace)), (a_lawOther, .inl (cyI, 6, .inl a_f_lawOther)), (a_lawEach, .inl (cyI, 6, .inl a_f_lawEach)), (a_lawFrom, .inl (cyI, 6, .inl a_f_lawFrom)), (a_foes, .inl (cyI, 7, .inl a_f_foes)), (a_suitTable, .inl (cyI, 49, .inl a_f_suitTable)), (a_acts, .inl (cyI, 40, .inl a_f_acts)), (c0, .inr (0, [.ref c_row, .ref c_origins, .ref c_before, .ref c_lawsByNight, .ref h0, .int z0_30])), (c_row, .inl (cyI, 7, .inl y1_31)), (c_origins, .inl (cyI, 7, .inl y2_32)), (c_before, .inl (cyI, 7, .inl y3_33)), (c_lawsByNight, .inl (cyI, 60, .inl y2_24))]) [24, 25, 0, 1, 2, 3, 4, 5, 6, 7, 8, 9, 10, 11, 12, 13, 14, 15, 16, 17, 18, 19, 20, 21, 22, 23] rfl
          have hD := hD.sub (ws' := [(v0, .inr (5, [.ref v_hung, .int a_pl, .int z0_44, .int z1_45, .int z2_46])), (v_hung, .inl (cyI, 7, .inl y3_47)), (sl0, .inr (7, [.ref sNum, .ref sLen, .ref sWid, .ref sMade])), (sMade, .inl (cyZ, 4, .inl s_fm)), (sLen, .inl (cyI, 4, .inl s_fl)), (sWid, .inl (cyI, 4, .inl s_fw)), (sNum, .inl (cyN, 4, .inr (.inr (.inr (.inr nF))))), (n0, .inl (cyJ, 60, .inr (.inl s_n0))), (n1, .inl (cyJ, 60, .inr (.inl s_n1))), (n2, .inl (cyJ, 60, .inr (.inl s_n2))), (n3, .inl (cyJ, 60, .inr (.inl s_n3))), (h0, .inr (2, [.int a_pl, .int a_li, .int a_le, .int a_lc, .int a_ac, .int a_ng, .ref a_first, .ref a_now, .ref a_lawPlace, .ref a_lawOther, .ref a_lawEach, .ref a_lawFrom, .ref a_foes, .ref a_suitTable, .ref a_acts])), (a_first, .inl (cyI, 7, .inl a_f_first)), (a_now, .inl (cyI, 7, .inl a_f_now)), (a_lawPlace, .inl (cyI, 6, .inl a_f_lawPlace)), (a_lawOther, .inl (cyI, 6, .inl a_f_lawOther)), (a_lawEach, .inl (cyI, 6, .inl a_f_lawEach)), (a_lawFrom, .inl (cyI, 6, .inl a_f_lawFrom)), (a_foes, .inl (cyI, 7, .inl a_f_foes)), (a_suitTable, .inl (cyI, 49, .inl a_f_suitTable)), (a_acts, .inl (cyI, 40, .inl a_f_acts)), (c0, .inr (0, [.ref c_row, .ref c_origins, .ref c_before, .ref c_lawsByNight, .ref h0, .int z0_30])), (c_row, .inl (cyI, 7, .inl y1_31)), (c_origins, .inl (cyI, 7, .inl y2_32)), (c_before, .inl (cyI, 7, .inl y3_33)), (c_lawsByNight, .inl (cyI, 60, .inl y2_24))]) [24, 25, 0, 1, 2, 3, 4, 5, 6, 7, 8, 9, 10, 11, 12, 13, 14, 15, 16, 17, 18, 19, 20, 21, 22, 23] (by decide) rfl
          obtain ⟨x_53, ex_53⟩ : ∃ y : Int32, y = u_8 + 3 := ⟨_, rfl⟩
          refine lv_iinc (v := x_53) (lv' := [(6, .int x_53), (5, .ref n3), (0, .ref v0), (1, .ref h0), (2, .ref sl0), (3, .int 3), (4, .ref c0)]) hx hb dX6_take_110 hl (k := 0) rfl (by rw [ex_53]; rfl) (by decide) rfl (fun ls hl => ?_)
          have fx_53 : x_53.toInt = u_8.toInt + 3 := by rw [ex_53]; exact cv_addI (by have : (3 : Int32).toInt = 3 := rfl; omega) (by have : (3 : Int32).toInt = 3 := rfl; omega)
          refine lv_goto (tgt := 56) hx hb dX6_take_113 (by decide) ?_
          exact ihkey_19 x_53 z0_44 z1_45 z2_46 y3_47 (.ref h0) z0_30 y1_31 y2_32 y3_33 y2_24 _ _ _ (by omega) (by omega) (by omega) (by omega) hp_51 hp_35 hp_36 hp_37 (by omega) hp_52 hP hD hS (lv_sub hl [0, 1, 2, 3, 4, 5, 6] rfl) (by omega)
    exact key_19 _ 0 0 a_pl 1 y0_6 hvv cnum c_f_row c_f_origins c_f_before c_f_lawsByNight _ _ _ (by decide) (by decide) (by omega) (by decide) hp_7 g9 g10 g11 (by decide) (by rw [cb_zero _ (by omega)]; omega) hP hD hS (lv_sub hl [0, 1, 2, 3, 4, 5, 6] rfl) (Nat.lt_succ_self _)

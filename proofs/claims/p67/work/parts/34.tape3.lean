/- X10_readToken -/
set_option maxHeartbeats 4000000 in
set_option maxRecDepth 100000 in
theorem n_readTok (l : Launch) (dC : Nat → ClassId) (dI : Nat → Nat → Nat) (cyI cyB cyJ cyZ cyH cyN : ClassId) (sz : Nat) (t0 tBytes : Nat) (tsz tfa tfp tnx tki tst tsp tva tac : Int32) (t_f : Nat → Int32) (g0 : 0 ≤ tsz.toInt ∧ tsz.toInt ≤ 800) (g1 : 0 ≤ tnx.toInt ∧ tnx.toInt ≤ 800) (g2 : 0 ≤ tst.toInt ∧ tst.toInt ≤ 800) (g3 : 0 ≤ tsp.toInt ∧ tsp.toInt ≤ 800) (g4 : 0 ≤ tva.toInt ∧ tva.toInt ≤ 1000000) (g5 : 0 ≤ tac.toInt ∧ tac.toInt ≤ 1000000) : Met l yX10_readToken (wk yX10_readToken cX10_readToken 1 none) ({ frames := 2, cells := 0, slots := 0, locals := 80 }) (va_Pc [.ref t0] (fun U => U.heap.size = sz ∧ va_P (dC, dI) vwCl [(t0, .inr (9, [.ref tBytes, .int tsz, .int tfa, .int tfp, .int tnx, .int tki, .int tst, .int tsp, .int tva, .int tac])), (tBytes, .inl (cyB, 800, .inl t_f))] U.heap ∧ va_K (dC, dI) vwCl [(cyI, .int), (cyB, .byte), (cyJ, .long), (cyZ, .boolean), (cyH, .object RX2), (cyN, .array .long)] U ∧ va_D (fun _ => True) [(t0, .inr (9, [.ref tBytes, .int tsz, .int tfa, .int tfp, .int tnx, .int tki, .int tst, .int tsp, .int tva, .int tac])), (tBytes, .inl (cyB, 800, .inl t_f))])) (va_Qv (fun _ : Unit => True) (fun (_ : Unit) (t : State) => ∃ z0 : Int32, ∃ z1 : Int32, ∃ z2 : Int32, ∃ z3 : Int32, ∃ z4 : Int32, (0 ≤ z0.toInt ∧ z0.toInt ≤ 800) ∧ (0 ≤ z1.toInt ∧ z1.toInt ≤ 4) ∧ (0 ≤ z2.toInt ∧ z2.toInt ≤ 800) ∧ (0 ≤ z3.toInt ∧ z3.toInt ≤ 800) ∧ (0 ≤ z4.toInt ∧ z4.toInt ≤ 1000000) ∧ va_P (dC, dI) vwCl [(t0, .inr (9, [.ref tBytes, .int tsz, .int tfa, .int tfp, .int z0, .int z1, .int z2, .int z3, .int z4, .int tac])), (tBytes, .inl (cyB, 800, .inl t_f))] t.heap ∧ va_D (va_A [(t0, .inr (9, [.ref tBytes, .int tsz, .int tfa, .int tfp, .int tnx, .int tki, .int tst, .int tsp, .int tva, .int tac])), (tBytes, .inl (cyB, 800, .inl t_f))] sz) [(t0, .inr (9, [.ref tBytes, .int tsz, .int tfa, .int tfp, .int z0, .int z1, .int z2, .int z3, .int z4, .int tac])), (tBytes, .inl (cyB, 800, .inl t_f))]) (va_A [(t0, .inr (9, [.ref tBytes, .int tsz, .int tfa, .int tfp, .int tnx, .int tki, .int tst, .int tsp, .int tva, .int tac])), (tBytes, .inl (cyB, 800, .inl t_f))] sz)) 0 0 (va_A [(t0, .inr (9, [.ref tBytes, .int tsz, .int tfa, .int tfp, .int tnx, .int tki, .int tst, .int tsp, .int tva, .int tac])), (tBytes, .inl (cyB, 800, .inl t_f))] sz) := by
  refine Met.ofW (cc := cX10_readToken) (maxL := 1) (ret := none) (by decide) rfl ?_
  intro p e s m args below meth c s₁ B hml hv
  obtain ⟨rfl, hsz, hP, hK, hD0⟩ := hv
  have hx := B.exec
  have hb := B.bytes
  have hr := B.returns
  have hts : ∀ w ∈ uU, w.before ([.ref t0] : List Value).toArray s = true := fun w h => atoms_spec (ws := wk yX10_readToken cX10_readToken 1 none) B.pre w (List.mem_cons_of_mem _ h)
  have hown : s.vm.findClass RX10 = some m.cls := findClass_of_methodNamed B.named
  have hlocks := B.notSynchronized
  subst hsz
  have hD := hD0.self (sz := s.heap.size)
  generalize hAe : va_A [(t0, .inr (9, [.ref tBytes, .int tsz, .int tfa, .int tfp, .int tnx, .int tki, .int tst, .int tsp, .int tva, .int tac])), (tBytes, .inl (cyB, 800, .inl t_f))] s.heap.size = A at hD ⊢
  have hA : ∀ q : Nat, s.heap.size ≤ q → A q := fun q h => by rw [← hAe]; exact Or.inr h
  have hS : va_S A s.heap s.heap [] := va_S.rf
  have hP : va_P (dC, dI) vwCl [(t0, .inr (9, [.ref tBytes, .int tsz, .int tfa, .int tfp, .int tnx, .int tki, .int tst, .int tsp, .int tva, .int tac])), (tBytes, .inl (cyB, 800, .inl t_f))] s.heap := hP
  have hl := lv_entry ([.ref t0]) (n := 1) (Nat.le_of_ble_eq_true rfl)
  rw [lg_entry_eq]
  generalize (lg_sl ([.ref t0]) ++ List.replicate (1 - (lg_sl ([.ref t0])).length) Slot.unset).toArray = ls at hl ⊢
  have hl : lv_has ls 1 [(0, .ref t0)] := hl
  obtain ⟨H, hHe⟩ : ∃ H, H = s.heap := ⟨_, rfl⟩
  have hP : va_P (dC, dI) vwCl [(t0, .inr (9, [.ref tBytes, .int tsz, .int tfa, .int tfp, .int tnx, .int tki, .int tst, .int tsp, .int tva, .int tac])), (tBytes, .inl (cyB, 800, .inl t_f))] H := by rw [hHe]; exact hP
  have hS : va_S A s.heap H [] := by rw [hHe]; exact hS
  refine cv_heap hHe ?_
  obtain ⟨Q9, hQ9⟩ : ∃ Q9 : State → Prop, Q9 = MQ below (va_Qv (fun _ : Unit => True) (fun (_ : Unit) (t : State) => ∃ z0 : Int32, ∃ z1 : Int32, ∃ z2 : Int32, ∃ z3 : Int32, ∃ z4 : Int32, (0 ≤ z0.toInt ∧ z0.toInt ≤ 800) ∧ (0 ≤ z1.toInt ∧ z1.toInt ≤ 4) ∧ (0 ≤ z2.toInt ∧ z2.toInt ≤ 800) ∧ (0 ≤ z3.toInt ∧ z3.toInt ≤ 800) ∧ (0 ≤ z4.toInt ∧ z4.toInt ≤ 1000000) ∧ va_P (dC, dI) vwCl [(t0, .inr (9, [.ref tBytes, .int tsz, .int tfa, .int tfp, .int z0, .int z1, .int z2, .int z3, .int z4, .int tac])), (tBytes, .inl (cyB, 800, .inl t_f))] t.heap ∧ va_D A [(t0, .inr (9, [.ref tBytes, .int tsz, .int tfa, .int tfp, .int z0, .int z1, .int z2, .int z3, .int z4, .int tac])), (tBytes, .inl (cyB, 800, .inl t_f))]) A) ([.ref t0] : List Value).toArray s 0 0 A := ⟨_, rfl⟩
  rw [← hQ9]
  have key_2 : ∀ (nkey_2 : Nat) (w_1 : Int32) (H : Heap) (locs : List Loc) (ls : Array Slot), (0 ≤ w_1.toInt ∧ w_1.toInt ≤ 800) → va_P (dC, dI) vwCl [(t0, .inr (9, [.ref tBytes, .int tsz, .int tfa, .int tfp, .int w_1, .int tki, .int tst, .int tsp, .int tva, .int tac])), (tBytes, .inl (cyB, 800, .inl t_f))] H → va_D A [(t0, .inr (9, [.ref tBytes, .int tsz, .int tfa, .int tfp, .int w_1, .int tki, .int tst, .int tsp, .int tva, .int tac])), (tBytes, .inl (cyB, 800, .inl t_f))] → va_S A s.heap H locs → lv_has ls 1 [(0, .ref t0)] → (tsz.toInt - w_1.toInt).toNat < nkey_2 → W p l e ({ frames := 2, cells := 0, slots := 0, locals := 80 }) s m ([.ref t0] : List Value).toArray below meth c H locs 0 0 Q9 (F0 m 0 ls []) := by
    intro nkey_2
    induction nkey_2 with
    | zero => intro w_1 H locs ls hw_1 hP hD hS hl hnkey_2; exact absurd hnkey_2 (Nat.not_lt_zero _)
    | succ nkey_2 ihkey_2 =>
      intro w_1 H locs ls hw_1 hP hD hS hl hnkey_2
      refine lv_aload_n hx hb dX10_readToken_0 rfl (lv_at hl 0 rfl) ?_
      refine va_get (D := (dC, dI)) (ci := 9) (v := .int w_1) (C := RX10) (T := TX10) (N := 10) hx hb hts uinX10 hown hK hP 0 rfl rfl 4 (by decide) (hts _ wd_1_43) (fun _ h9 => h9) rfl dX10_readToken_1 ?_
      refine lv_aload_n hx hb dX10_readToken_4 rfl (lv_at hl 0 rfl) ?_
      refine va_get (D := (dC, dI)) (ci := 9) (v := .int tsz) (C := RX10) (T := TX10) (N := 10) hx hb hts uinX10 hown hK hP 0 rfl rfl 1 (by decide) (hts _ wd_1_37) (fun _ h9 => h9) rfl dX10_readToken_5 ?_
      have join_3 : ∀ (H : Heap) (locs : List Loc) (ls : Array Slot), va_P (dC, dI) vwCl [(t0, .inr (9, [.ref tBytes, .int tsz, .int tfa, .int tfp, .int w_1, .int tki, .int tst, .int tsp, .int tva, .int tac])), (tBytes, .inl (cyB, 800, .inl t_f))] H → va_D A [(t0, .inr (9, [.ref tBytes, .int tsz, .int tfa, .int tfp, .int w_1, .int tki, .int tst, .int tsp, .int tva, .int tac])), (tBytes, .inl (cyB, 800, .inl t_f))] → va_S A s.heap H locs → lv_has ls 1 [(0, .ref t0)] → W p l e ({ frames := 2, cells := 0, slots := 0, locals := 80 }) s m ([.ref t0] : List Value).toArray below meth c H locs 0 0 Q9 (F0 m 39 ls []) := by
        intro H locs ls hP hD hS hl
        refine lv_aload_n hx hb dX10_readToken_39 rfl (lv_at hl 0 rfl) ?_
        refine lv_aload_n hx hb dX10_readToken_40 rfl (lv_at hl 0 rfl) ?_
        refine va_get (D := (dC, dI)) (ci := 9) (v := .int w_1) (C := RX10) (T := TX10) (N := 10) hx hb hts uinX10 hown hK hP 0 rfl rfl 4 (by decide) (hts _ wd_1_43) (fun _ h9 => h9) rfl dX10_readToken_41 ?_
        refine va_put (D := (dC, dI)) (ci := 9) (v := .int w_1) (ty := .int) (C := RX10) (T := TX10) (N := 10) hx hb hts uinX10 tyX10 tyX10_ok nmX10 hown hK hP hD hS 0 rfl rfl 6 (by decide) (hts _ wd_1_45) (fun _ h9 => h9) rfl (by decide +kernel) rfl rfl (Nat.le_of_ble_eq_true rfl) dX10_readToken_44 (fun H locs hP hD hS => ?_)
        have hP : va_P (dC, dI) vwCl [(t0, .inr (9, [.ref tBytes, .int tsz, .int tfa, .int tfp, .int w_1, .int tki, .int w_1, .int tsp, .int tva, .int tac])), (tBytes, .inl (cyB, 800, .inl t_f))] H := hP
        have hD : va_D A [(t0, .inr (9, [.ref tBytes, .int tsz, .int tfa, .int tfp, .int w_1, .int tki, .int w_1, .int tsp, .int tva, .int tac])), (tBytes, .inl (cyB, 800, .inl t_f))] := hD
        refine lv_aload_n hx hb dX10_readToken_47 rfl (lv_at hl 0 rfl) ?_
        refine lv_iconst (v := 0) hx hb dX10_readToken_48 (by decide) ?_
        refine va_put (D := (dC, dI)) (ci := 9) (v := .int 0) (ty := .int) (C := RX10) (T := TX10) (N := 10) hx hb hts uinX10 tyX10 tyX10_ok nmX10 hown hK hP hD hS 0 rfl rfl 8 (by decide) (hts _ wd_1_47) (fun _ h9 => h9) rfl (by decide +kernel) rfl rfl (Nat.le_of_ble_eq_true rfl) dX10_readToken_49 (fun H locs hP hD hS => ?_)
        have hP : va_P (dC, dI) vwCl [(t0, .inr (9, [.ref tBytes, .int tsz, .int tfa, .int tfp, .int w_1, .int tki, .int w_1, .int tsp, .int 0, .int tac])), (tBytes, .inl (cyB, 800, .inl t_f))] H := hP
        have hD : va_D A [(t0, .inr (9, [.ref tBytes, .int tsz, .int tfa, .int tfp, .int w_1, .int tki, .int w_1, .int tsp, .int 0, .int tac])), (tBytes, .inl (cyB, 800, .inl t_f))] := hD
        refine lv_aload_n hx hb dX10_readToken_52 rfl (lv_at hl 0 rfl) ?_
        refine va_get (D := (dC, dI)) (ci := 9) (v := .int w_1) (C := RX10) (T := TX10) (N := 10) hx hb hts uinX10 hown hK hP 0 rfl rfl 4 (by decide) (hts _ wd_1_43) (fun _ h9 => h9) rfl dX10_readToken_53 ?_
        refine lv_aload_n hx hb dX10_readToken_56 rfl (lv_at hl 0 rfl) ?_
        refine va_get (D := (dC, dI)) (ci := 9) (v := .int tsz) (C := RX10) (T := TX10) (N := 10) hx hb hts uinX10 hown hK hP 0 rfl rfl 1 (by decide) (hts _ wd_1_37) (fun _ h9 => h9) rfl dX10_readToken_57 ?_
        have join_7 : ∀ (w_4 : Int32) (w_5 : Int32) (w_6 : Int32) (H : Heap) (locs : List Loc) (ls : Array Slot), (0 ≤ w_4.toInt ∧ w_4.toInt ≤ 800) → (0 ≤ w_5.toInt ∧ w_5.toInt ≤ 4) → (0 ≤ w_6.toInt ∧ w_6.toInt ≤ 1000000) → va_P (dC, dI) vwCl [(t0, .inr (9, [.ref tBytes, .int tsz, .int tfa, .int tfp, .int w_4, .int w_5, .int w_1, .int tsp, .int w_6, .int tac])), (tBytes, .inl (cyB, 800, .inl t_f))] H → va_D A [(t0, .inr (9, [.ref tBytes, .int tsz, .int tfa, .int tfp, .int w_4, .int w_5, .int w_1, .int tsp, .int w_6, .int tac])), (tBytes, .inl (cyB, 800, .inl t_f))] → va_S A s.heap H locs → lv_has ls 1 [(0, .ref t0)] → W p l e ({ frames := 2, cells := 0, slots := 0, locals := 80 }) s m ([.ref t0] : List Value).toArray below meth c H locs 0 0 Q9 (F0 m 251 ls []) := by
          intro w_4 w_5 w_6 H locs ls hw_4 hw_5 hw_6 hP hD hS hl
          refine lv_aload_n hx hb dX10_readToken_251 rfl (lv_at hl 0 rfl) ?_
          refine lv_aload_n hx hb dX10_readToken_252 rfl (lv_at hl 0 rfl) ?_
          refine va_get (D := (dC, dI)) (ci := 9) (v := .int w_4) (C := RX10) (T := TX10) (N := 10) hx hb hts uinX10 hown hK hP 0 rfl rfl 4 (by decide) (hts _ wd_1_43) (fun _ h9 => h9) rfl dX10_readToken_253 ?_
          refine va_put (D := (dC, dI)) (ci := 9) (v := .int w_4) (ty := .int) (C := RX10) (T := TX10) (N := 10) hx hb hts uinX10 tyX10 tyX10_ok nmX10 hown hK hP hD hS 0 rfl rfl 7 (by decide) (hts _ wd_1_46) (fun _ h9 => h9) rfl (by decide +kernel) rfl rfl (Nat.le_of_ble_eq_true rfl) dX10_readToken_256 (fun H locs hP hD hS => ?_)
          have hP : va_P (dC, dI) vwCl [(t0, .inr (9, [.ref tBytes, .int tsz, .int tfa, .int tfp, .int w_4, .int w_5, .int w_1, .int w_4, .int w_6, .int tac])), (tBytes, .inl (cyB, 800, .inl t_f))] H := hP
          have hD : va_D A [(t0, .inr (9, [.ref tBytes, .int tsz, .int tfa, .int tfp, .int w_4, .int w_5, .int w_1, .int w_4, .int w_6, .int tac])), (tBytes, .inl (cyB, 800, .inl t_f))] := hD
          rw [hQ9]
          have hP9 := hP.sub (ws' := [(t0, .inr (9, [.ref tBytes, .int tsz, .int tfa, .int tfp, .int w_4, .int w_5, .int w_1, .int w_4, .int w_6, .int tac])), (tBytes, .inl (cyB, 800, .inl t_f))]) [0, 1] rfl
          have hD9 := hD.sub (ws' := [(t0, .inr (9, [.ref tBytes, .int tsz, .int tfa, .int tfp, .int w_4, .int w_5, .int w_1, .int w_4, .int w_6, .int tac])), (tBytes, .inl (cyB, 800, .inl t_f))]) [0, 1] (by decide) rfl
          exact W.vret hx hb hr (fun t ht hW => ⟨⟨(), rfl, trivial, ⟨w_4, w_5, w_1, w_4, w_6, (by omega), (by omega), (by omega), (by omega), (by omega), by rw [ht]; exact hP9, hD9⟩⟩, hS.F ht⟩) hS.2.2 dX10_readToken_259
        refine lv_icmp_lt (tgt := 71) hx hb dX10_readToken_60 (by decide) (fun c_8 => ?_) (fun c_8 => ?_)
        · have c_8 : w_1.toInt < tsz.toInt := cv_lt c_8
          refine lv_aload_n hx hb dX10_readToken_71 rfl (lv_at hl 0 rfl) ?_
          refine va_get (D := (dC, dI)) (ci := 9) (v := .ref tBytes) (C := RX10) (T := TX10) (N := 10) hx hb hts uinX10 hown hK hP 0 rfl rfl 0 (by decide) (hts _ wd_1_36) (fun _ h9 => h9) rfl dX10_readToken_72 ?_
          refine lv_aload_n hx hb dX10_readToken_75 rfl (lv_at hl 0 rfl) ?_
          refine va_get (D := (dC, dI)) (ci := 9) (v := .int w_1) (C := RX10) (T := TX10) (N := 10) hx hb hts uinX10 hown hK hP 0 rfl rfl 4 (by decide) (hts _ wd_1_43) (fun _ h9 => h9) rfl dX10_readToken_76 ?_
          refine va_bald hx hb hK hP 1 1 rfl rfl (vp_in_iff.mpr (by omega)) dX10_readToken_79 ?_
          refine lv_topi (fun x_9 ex_9 => ?_)
          refine vp_callSi (va_Run.run (va_runS (As := [.int x_9]) (rest := []) ⟨hx, hb, hml, hown, hts⟩ (n_isLetter l dC dI cyI cyB cyJ cyZ cyH cyN x_9) (va_cwS 1 hts (gdS wd_2_149 wd_2_150 wd_1_2 wd_2_151) rfl rfl rfl (by decide +kernel) ⟨Nat.le_of_ble_eq_true rfl, Nat.le_of_ble_eq_true rfl⟩) ⟨fun a U g mk q => q, fun U hU hW => ⟨rfl, trivial⟩⟩ rfl rfl hl.1 rfl (lv_room (Nat.le_of_ble_eq_true rfl)) dX10_readToken_80 ⟨Nat.le_of_ble_eq_true rfl, Nat.le_of_ble_eq_true rfl⟩)) (fun r_10 hw => ?_)
          by_cases c_11 : (97 ≤ x_9.toInt ∧ x_9.toInt ≤ 122)
          · rw [if_pos c_11] at hw; subst hw; have c_11 : (97 ≤ x_9.toInt ∧ x_9.toInt ≤ 122) := c_11
            refine lv_if_eq (tgt := 130) hx hb dX10_readToken_83 (by decide) (fun c_12 => absurd c_12 (by decide)) (fun _ => ?_)
            refine lv_aload_n hx hb dX10_readToken_86 rfl (lv_at hl 0 rfl) ?_
            refine lv_iconst (v := 1) hx hb dX10_readToken_87 (by decide) ?_
            refine va_put (D := (dC, dI)) (ci := 9) (v := .int 1) (ty := .int) (C := RX10) (T := TX10) (N := 10) hx hb hts uinX10 tyX10 tyX10_ok nmX10 hown hK hP hD hS 0 rfl rfl 5 (by decide) (hts _ wd_1_44) (fun _ h9 => h9) rfl (by decide +kernel) rfl rfl (Nat.le_of_ble_eq_true rfl) dX10_readToken_88 (fun H locs hP hD hS => ?_)
            have hP : va_P (dC, dI) vwCl [(t0, .inr (9, [.ref tBytes, .int tsz, .int tfa, .int tfp, .int w_1, .int 1, .int w_1, .int tsp, .int 0, .int tac])), (tBytes, .inl (cyB, 800, .inl t_f))] H := hP
            have hD : va_D A [(t0, .inr (9, [.ref tBytes, .int tsz, .int tfa, .int tfp, .int w_1, .int 1, .int w_1, .int tsp, .int 0, .int tac])), (tBytes, .inl (cyB, 800, .inl t_f))] := hD
            have key_14 : ∀ (nkey_14 : Nat) (w_13 : Int32) (H : Heap) (locs : List Loc) (ls : Array Slot), (0 ≤ w_13.toInt ∧ w_13.toInt ≤ 800) → va_P (dC, dI) vwCl [(t0, .inr (9, [.ref tBytes, .int tsz, .int tfa, .int tfp, .int w_13, .int 1, .int w_1, .int tsp, .int 0, .int tac])), (tBytes, .inl (cyB, 800, .inl t_f))] H → va_D A [(t0, .inr (9, [.ref tBytes, .int tsz, .int tfa, .int tfp, .int w_13, .int 1, .int w_1, .int tsp, .int 0, .int tac])), (tBytes, .inl (cyB, 800, .inl t_f))] → va_S A s.heap H locs → lv_has ls 1 [(0, .ref t0)] → (tsz.toInt - w_13.toInt).toNat < nkey_14 → W p l e ({ frames := 2, cells := 0, slots := 0, locals := 80 }) s m ([.ref t0] : List Value).toArray below meth c H locs 0 0 Q9 (F0 m 91 ls []) := by
              intro nkey_14
              induction nkey_14 with
              | zero => intro w_13 H locs ls hw_13 hP hD hS hl hnkey_14; exact absurd hnkey_14 (Nat.not_lt_zero _)
              | succ nkey_14 ihkey_14 =>
                intro w_13 H locs ls hw_13 hP hD hS hl hnkey_14
                refine lv_aload_n hx hb dX10_readToken_91 rfl (lv_at hl 0 rfl) ?_
                refine va_get (D := (dC, dI)) (ci := 9) (v := .int w_13) (C := RX10) (T := TX10) (N := 10) hx hb hts uinX10 hown hK hP 0 rfl rfl 4 (by decide) (hts _ wd_1_43) (fun _ h9 => h9) rfl dX10_readToken_92 ?_
                refine lv_aload_n hx hb dX10_readToken_95 rfl (lv_at hl 0 rfl) ?_
                refine va_get (D := (dC, dI)) (ci := 9) (v := .int tsz) (C := RX10) (T := TX10) (N := 10) hx hb hts uinX10 hown hK hP 0 rfl rfl 1 (by decide) (hts _ wd_1_37) (fun _ h9 => h9) rfl dX10_readToken_96 ?_
                refine lv_icmp_ge (tgt := 251) hx hb dX10_readToken_99 (by decide) (fun c_15 => ?_) (fun c_15 => ?_)
                · have c_15 : tsz.toInt ≤ w_13.toInt := cv_le c_15
                  exact join_7 w_13 1 0 _ _ _ (by omega) (by decide) (by decide) hP hD hS (lv_sub hl [0] rfl)
                · have c_15 : w_13.toInt < tsz.toInt := cv_nle c_15
                  refine lv_aload_n hx hb dX10_readToken_102 rfl (lv_at hl 0 rfl) ?_
                  refine va_get (D := (dC, dI)) (ci := 9) (v := .ref tBytes) (C := RX10) (T := TX10) (N := 10) hx hb hts uinX10 hown hK hP 0 rfl rfl 0 (by decide) (hts _ wd_1_36) (fun _ h9 => h9) rfl dX10_readToken_103 ?_
                  refine lv_aload_n hx hb dX10_readToken_106 rfl (lv_at hl 0 rfl) ?_
                  refine va_get (D := (dC, dI)) (ci := 9) (v := .int w_13) (C := RX10) (T := TX10) (N := 10) hx hb hts uinX10 hown hK hP 0 rfl rfl 4 (by decide) (hts _ wd_1_43) (fun _ h9 => h9) rfl dX10_readToken_107 ?_
                  refine va_bald hx hb hK hP 1 1 rfl rfl (vp_in_iff.mpr (by omega)) dX10_readToken_110 ?_
                  refine lv_topi (fun x_16 ex_16 => ?_)
                  refine vp_callSi (va_Run.run (va_runS (As := [.int x_16]) (rest := []) ⟨hx, hb, hml, hown, hts⟩ (n_isLetter l dC dI cyI cyB cyJ cyZ cyH cyN x_16) (va_cwS 1 hts (gdS wd_2_149 wd_2_150 wd_1_2 wd_2_151) rfl rfl rfl (by decide +kernel) ⟨Nat.le_of_ble_eq_true rfl, Nat.le_of_ble_eq_true rfl⟩) ⟨fun a U g mk q => q, fun U hU hW => ⟨rfl, trivial⟩⟩ rfl rfl hl.1 rfl (lv_room (Nat.le_of_ble_eq_true rfl)) dX10_readToken_111 ⟨Nat.le_of_ble_eq_true rfl, Nat.le_of_ble_eq_true rfl⟩)) (fun r_17 hw => ?_)
                  by_cases c_18 : (97 ≤ x_16.toInt ∧ x_16.toInt ≤ 122)
                  · rw [if_pos c_18] at hw; subst hw; have c_18 : (97 ≤ x_16.toInt ∧ x_16.toInt ≤ 122) := c_18
                    refine lv_if_eq (tgt := 251) hx hb dX10_readToken_114 (by decide) (fun c_19 => absurd c_19 (by decide)) (fun _ => ?_)
                    refine lv_aload_n hx hb dX10_readToken_117 rfl (lv_at hl 0 rfl) ?_
                    refine lv_dup hx hb dX10_readToken_118 rfl ?_
                    refine va_get (D := (dC, dI)) (ci := 9) (v := .int w_13) (C := RX10) (T := TX10) (N := 10) hx hb hts uinX10 hown hK hP 0 rfl rfl 4 (by decide) (hts _ wd_1_43) (fun _ h9 => h9) rfl dX10_readToken_119 ?_
                    refine lv_iconst (v := 1) hx hb dX10_readToken_122 (by decide) ?_
                    refine lv_iadd hx hb dX10_readToken_123 ?_
                    refine lv_topi (fun x_20 ex_20 => ?_)
                    have fx_20 : x_20.toInt = w_13.toInt + 1 := by rw [ex_20]; exact cv_addI (by have : (1 : Int32).toInt = 1 := rfl; omega) (by have : (1 : Int32).toInt = 1 := rfl; omega)
                    refine va_put (D := (dC, dI)) (ci := 9) (v := .int x_20) (ty := .int) (C := RX10) (T := TX10) (N := 10) hx hb hts uinX10 tyX10 tyX10_ok nmX10 hown hK hP hD hS 0 rfl rfl 4 (by decide) (hts _ wd_1_43) (fun _ h9 => h9) rfl (by decide +kernel) rfl rfl (Nat.le_of_ble_eq_true rfl) dX10_readToken_124 (fun H locs hP hD hS => ?_)
                    have hP : va_P (dC, dI) vwCl [(t0, .inr (9, [.ref tBytes, .int tsz, .int tfa, .int tfp, .int x_20, .int 1, .int w_1, .int tsp, .int 0, .int tac])), (tBytes, .inl (cyB, 800, .inl t_f))] H := hP
                    have hD : va_D A [(t0, .inr (9, [.ref tBytes, .int tsz, .int tfa, .int tfp, .int x_20, .int 1, .int w_1, .int tsp, .int 0, .int tac])), (tBytes, .inl (cyB, 800, .inl t_f))] := hD
                    refine lv_goto (tgt := 91) hx hb dX10_readToken_127 (by decide) ?_
                    exact ihkey_14 x_20 _ _ _ (by omega) hP hD hS (lv_sub hl [0] rfl) (by omega)
                  · rw [if_neg c_18] at hw; subst hw; have c_18 : ¬ (97 ≤ x_16.toInt ∧ x_16.toInt ≤ 122) := c_18
                    refine lv_if_eq (tgt := 251) hx hb dX10_readToken_114 (by decide) (fun _ => ?_) (fun c_21 => absurd c_21 (by decide))
                    exact join_7 w_13 1 0 _ _ _ (by omega) (by decide) (by decide) hP hD hS (lv_sub hl [0] rfl)
            exact key_14 _ w_1 _ _ _ (by omega) hP hD hS (lv_sub hl [0] rfl) (Nat.lt_succ_self _)
          · rw [if_neg c_11] at hw; subst hw; have c_11 : ¬ (97 ≤ x_9.toInt ∧ x_9.toInt ≤ 122) := c_11
            refine lv_if_eq (tgt := 130) hx hb dX10_readToken_83 (by decide) (fun _ => ?_) (fun c_22 => absurd c_22 (by decide))
            refine lv_aload_n hx hb dX10_readToken_130 rfl (lv_at hl 0 rfl) ?_
            refine va_get (D := (dC, dI)) (ci := 9) (v := .ref tBytes) (C := RX10) (T := TX10) (N := 10) hx hb hts uinX10 hown hK hP 0 rfl rfl 0 (by decide) (hts _ wd_1_36) (fun _ h9 => h9) rfl dX10_readToken_131 ?_
            refine lv_aload_n hx hb dX10_readToken_134 rfl (lv_at hl 0 rfl) ?_
            refine va_get (D := (dC, dI)) (ci := 9) (v := .int w_1) (C := RX10) (T := TX10) (N := 10) hx hb hts uinX10 hown hK hP 0 rfl rfl 4 (by decide) (hts _ wd_1_43) (fun _ h9 => h9) rfl dX10_readToken_135 ?_
            refine va_bald hx hb hK hP 1 1 rfl rfl (vp_in_iff.mpr (by omega)) dX10_readToken_138 ?_
            refine cv_topi (b := x_9) ex_9.symm ?_
            refine vp_callSi (va_Run.run (va_runS (As := [.int x_9]) (rest := []) ⟨hx, hb, hml, hown, hts⟩ (n_isDigit l dC dI cyI cyB cyJ cyZ cyH cyN x_9) (va_cwS 1 hts (gdS wd_2_152 wd_2_153 wd_1_2 wd_2_154) rfl rfl rfl (by decide +kernel) ⟨Nat.le_of_ble_eq_true rfl, Nat.le_of_ble_eq_true rfl⟩) ⟨fun a U g mk q => q, fun U hU hW => ⟨rfl, trivial⟩⟩ rfl rfl hl.1 rfl (lv_room (Nat.le_of_ble_eq_true rfl)) dX10_readToken_139 ⟨Nat.le_of_ble_eq_true rfl, Nat.le_of_ble_eq_true rfl⟩)) (fun r_23 hw => ?_)
            by_cases c_24 : (48 ≤ x_9.toInt ∧ x_9.toInt ≤ 57)
            · rw [if_pos c_24] at hw; subst hw; have c_24 : (48 ≤ x_9.toInt ∧ x_9.toInt ≤ 57) := c_24
              refine lv_if_eq (tgt := 218) hx hb dX10_readToken_142 (by decide) (fun c_25 => absurd c_25 (by decide)) (fun _ => ?_)
              refine lv_aload_n hx hb dX10_readToken_145 rfl (lv_at hl 0 rfl) ?_
              refine lv_iconst (v := 2) hx hb dX10_readToken_146 (by decide) ?_
              refine va_put (D := (dC, dI)) (ci := 9) (v := .int 2) (ty := .int) (C := RX10) (T := TX10) (N := 10) hx hb hts uinX10 tyX10 tyX10_ok nmX10 hown hK hP hD hS 0 rfl rfl 5 (by decide) (hts _ wd_1_44) (fun _ h9 => h9) rfl (by decide +kernel) rfl rfl (Nat.le_of_ble_eq_true rfl) dX10_readToken_147 (fun H locs hP hD hS => ?_)
              have hP : va_P (dC, dI) vwCl [(t0, .inr (9, [.ref tBytes, .int tsz, .int tfa, .int tfp, .int w_1, .int 2, .int w_1, .int tsp, .int 0, .int tac])), (tBytes, .inl (cyB, 800, .inl t_f))] H := hP
              have hD : va_D A [(t0, .inr (9, [.ref tBytes, .int tsz, .int tfa, .int tfp, .int w_1, .int 2, .int w_1, .int tsp, .int 0, .int tac])), (tBytes, .inl (cyB, 800, .inl t_f))] := hD
              have key_28 : ∀ (nkey_28 : Nat) (w_26 : Int32) (w_27 : Int32) (H : Heap) (locs : List Loc) (ls : Array Slot), (0 ≤ w_26.toInt ∧ w_26.toInt ≤ 800) → (0 ≤ w_27.toInt ∧ w_27.toInt ≤ 1000000) → va_P (dC, dI) vwCl [(t0, .inr (9, [.ref tBytes, .int tsz, .int tfa, .int tfp, .int w_26, .int 2, .int w_1, .int tsp, .int w_27, .int tac])), (tBytes, .inl (cyB, 800, .inl t_f))] H → va_D A [(t0, .inr (9, [.ref tBytes, .int tsz, .int tfa, .int tfp, .int w_26, .int 2, .int w_1, .int tsp, .int w_27, .int tac])), (tBytes, .inl (cyB, 800, .inl t_f))] → va_S A s.heap H locs → lv_has ls 1 [(0, .ref t0)] → (tsz.toInt - w_26.toInt).toNat < nkey_28 → W p l e ({ frames := 2, cells := 0, slots := 0, locals := 80 }) s m ([.ref t0] : List Value).toArray below meth c H locs 0 0 Q9 (F0 m 150 ls []) := by
                intro nkey_28
                induction nkey_28 with
                | zero => intro w_26 w_27 H locs ls hw_26 hw_27 hP hD hS hl hnkey_28; exact absurd hnkey_28 (Nat.not_lt_zero _)
                | succ nkey_28 ihkey_28 =>
                  intro w_26 w_27 H locs ls hw_26 hw_27 hP hD hS hl hnkey_28
                  refine lv_aload_n hx hb dX10_readToken_150 rfl (lv_at hl 0 rfl) ?_
                  refine va_get (D := (dC, dI)) (ci := 9) (v := .int w_26) (C := RX10) (T := TX10) (N := 10) hx hb hts uinX10 hown hK hP 0 rfl rfl 4 (by decide) (hts _ wd_1_43) (fun _ h9 => h9) rfl dX10_readToken_151 ?_
                  refine lv_aload_n hx hb dX10_readToken_154 rfl (lv_at hl 0 rfl) ?_
                  refine va_get (D := (dC, dI)) (ci := 9) (v := .int tsz) (C := RX10) (T := TX10) (N := 10) hx hb hts uinX10 hown hK hP 0 rfl rfl 1 (by decide) (hts _ wd_1_37) (fun _ h9 => h9) rfl dX10_readToken_155 ?_
                  refine lv_icmp_ge (tgt := 251) hx hb dX10_readToken_158 (by decide) (fun c_29 => ?_) (fun c_29 => ?_)
                  · have c_29 : tsz.toInt ≤ w_26.toInt := cv_le c_29
                    exact join_7 w_26 2 w_27 _ _ _ (by omega) (by decide) (by omega) hP hD hS (lv_sub hl [0] rfl)
                  · have c_29 : w_26.toInt < tsz.toInt := cv_nle c_29
                    refine lv_aload_n hx hb dX10_readToken_161 rfl (lv_at hl 0 rfl) ?_
                    refine va_get (D := (dC, dI)) (ci := 9) (v := .ref tBytes) (C := RX10) (T := TX10) (N := 10) hx hb hts uinX10 hown hK hP 0 rfl rfl 0 (by decide) (hts _ wd_1_36) (fun _ h9 => h9) rfl dX10_readToken_162 ?_
                    refine lv_aload_n hx hb dX10_readToken_165 rfl (lv_at hl 0 rfl) ?_
                    refine va_get (D := (dC, dI)) (ci := 9) (v := .int w_26) (C := RX10) (T := TX10) (N := 10) hx hb hts uinX10 hown hK hP 0 rfl rfl 4 (by decide) (hts _ wd_1_43) (fun _ h9 => h9) rfl dX10_readToken_166 ?_
                    refine va_bald hx hb hK hP 1 1 rfl rfl (vp_in_iff.mpr (by omega)) dX10_readToken_169 ?_
                    refine lv_topi (fun x_30 ex_30 => ?_)
                    refine vp_callSi (va_Run.run (va_runS (As := [.int x_30]) (rest := []) ⟨hx, hb, hml, hown, hts⟩ (n_isDigit l dC dI cyI cyB cyJ cyZ cyH cyN x_30) (va_cwS 1 hts (gdS wd_2_152 wd_2_153 wd_1_2 wd_2_154) rfl rfl rfl (by decide +kernel) ⟨Nat.le_of_ble_eq_true rfl, Nat.le_of_ble_eq_true rfl⟩) ⟨fun a U g mk q => q, fun U hU hW => ⟨rfl, trivial⟩⟩ rfl rfl hl.1 rfl (lv_room (Nat.le_of_ble_eq_true rfl)) dX10_readToken_170 ⟨Nat.le_of_ble_eq_true rfl, Nat.le_of_ble_eq_true rfl⟩)) (fun r_31 hw => ?_)
                    by_cases c_32 : (48 ≤ x_30.toInt ∧ x_30.toInt ≤ 57)
                    · rw [if_pos c_32] at hw; subst hw; have c_32 : (48 ≤ x_30.toInt ∧ x_30.toInt ≤ 57) := c_32
                      refine lv_if_eq (tgt := 251) hx hb dX10_readToken_173 (by decide) (fun c_33 => absurd c_33 (by decide)) (fun _ => ?_)
                      refine lv_aload_n hx hb dX10_readToken_176 rfl (lv_at hl 0 rfl) ?_
                      refine lv_ldc (v := 1000000) hx hb hown (hts _ wd_2_155) dX10_readToken_177 ?_
                      refine lv_bipush (v := 10) hx hb dX10_readToken_179 (by decide) ?_
                      refine lv_aload_n hx hb dX10_readToken_181 rfl (lv_at hl 0 rfl) ?_
                      refine va_get (D := (dC, dI)) (ci := 9) (v := .int w_27) (C := RX10) (T := TX10) (N := 10) hx hb hts uinX10 hown hK hP 0 rfl rfl 8 (by decide) (hts _ wd_1_47) (fun _ h9 => h9) rfl dX10_readToken_182 ?_
                      refine lv_imul hx hb dX10_readToken_185 ?_
                      refine lv_topi (fun x_34 ex_34 => ?_)
                      have fx_34 : x_34.toInt = 10 * w_27.toInt := by rw [ex_34]; exact cv_mulI (by rw [show (10 : Int32).toInt = 10 from rfl]; omega) (by rw [show (10 : Int32).toInt = 10 from rfl]; omega)
                      refine lv_aload_n hx hb dX10_readToken_186 rfl (lv_at hl 0 rfl) ?_
                      refine va_get (D := (dC, dI)) (ci := 9) (v := .ref tBytes) (C := RX10) (T := TX10) (N := 10) hx hb hts uinX10 hown hK hP 0 rfl rfl 0 (by decide) (hts _ wd_1_36) (fun _ h9 => h9) rfl dX10_readToken_187 ?_
                      refine lv_aload_n hx hb dX10_readToken_190 rfl (lv_at hl 0 rfl) ?_
                      refine va_get (D := (dC, dI)) (ci := 9) (v := .int w_26) (C := RX10) (T := TX10) (N := 10) hx hb hts uinX10 hown hK hP 0 rfl rfl 4 (by decide) (hts _ wd_1_43) (fun _ h9 => h9) rfl dX10_readToken_191 ?_
                      refine va_bald hx hb hK hP 1 1 rfl rfl (vp_in_iff.mpr (by omega)) dX10_readToken_194 ?_
                      refine cv_topi (b := x_30) ex_30.symm ?_
                      refine lv_bipush (v := 48) hx hb dX10_readToken_195 (by decide) ?_
                      refine lv_isub hx hb dX10_readToken_197 ?_
                      refine lv_topi (fun x_35 ex_35 => ?_)
                      have fx_35 : x_35.toInt = x_30.toInt - 48 := by rw [ex_35]; exact cv_subI (by have : (48 : Int32).toInt = 48 := rfl; omega) (by have : (48 : Int32).toInt = 48 := rfl; omega)
                      refine lv_iadd hx hb dX10_readToken_198 ?_
                      refine lv_topi (fun x_36 ex_36 => ?_)
                      have fx_36 : x_36.toInt = x_34.toInt + x_35.toInt := by rw [ex_36]; exact cv_addI (by omega) (by omega)
                      refine va_mmin hx hb (by rw [hml]; exact hl.1.symm) hown (hts _ wd_2_156) (hts _ wd_2_157) (hts _ wd_1_13) (hts _ wd_2_158) (Nat.le_of_ble_eq_true rfl) (Nat.le_of_ble_eq_true rfl) (Nat.le_of_ble_eq_true rfl) (Nat.le_of_ble_eq_true rfl) dX10_readToken_199 ?_
                      refine lv_topi (fun x_37 ex_37 => ?_)
                      have fx_37 : 0 ≤ x_37.toInt ∧ x_37.toInt ≤ 1000000 := by rw [ex_37]; have : (1000000 : Int32).toInt = 1000000 := rfl; have q := cv_min (x := 1000000) (y := x_36); omega
                      refine va_put (D := (dC, dI)) (ci := 9) (v := .int x_37) (ty := .int) (C := RX10) (T := TX10) (N := 10) hx hb hts uinX10 tyX10 tyX10_ok nmX10 hown hK hP hD hS 0 rfl rfl 8 (by decide) (hts _ wd_1_47) (fun _ h9 => h9) rfl (by decide +kernel) rfl rfl (Nat.le_of_ble_eq_true rfl) dX10_readToken_202 (fun H locs hP hD hS => ?_)
                      have hP : va_P (dC, dI) vwCl [(t0, .inr (9, [.ref tBytes, .int tsz, .int tfa, .int tfp, .int w_26, .int 2, .int w_1, .int tsp, .int x_37, .int tac])), (tBytes, .inl (cyB, 800, .inl t_f))] H := hP
                      have hD : va_D A [(t0, .inr (9, [.ref tBytes, .int tsz, .int tfa, .int tfp, .int w_26, .int 2, .int w_1, .int tsp, .int x_37, .int tac])), (tBytes, .inl (cyB, 800, .inl t_f))] := hD
                      refine lv_aload_n hx hb dX10_readToken_205 rfl (lv_at hl 0 rfl) ?_
                      refine lv_dup hx hb dX10_readToken_206 rfl ?_
                      refine va_get (D := (dC, dI)) (ci := 9) (v := .int w_26) (C := RX10) (T := TX10) (N := 10) hx hb hts uinX10 hown hK hP 0 rfl rfl 4 (by decide) (hts _ wd_1_43) (fun _ h9 => h9) rfl dX10_readToken_207 ?_
                      refine lv_iconst (v := 1) hx hb dX10_readToken_210 (by decide) ?_
                      refine lv_iadd hx hb dX10_readToken_211 ?_
                      refine lv_topi (fun x_38 ex_38 => ?_)
                      have fx_38 : x_38.toInt = w_26.toInt + 1 := by rw [ex_38]; exact cv_addI (by have : (1 : Int32).toInt = 1 := rfl; omega) (by have : (1 : Int32).toInt = 1 := rfl; omega)
                      refine va_put (D := (dC, dI)) (ci := 9) (v := .int x_38) (ty := .int) (C := RX10) (T := TX10) (N := 10) hx hb hts uinX10 tyX10 tyX10_ok nmX10 hown hK hP hD hS 0 rfl rfl 4 (by decide) (hts _ wd_1_43) (fun _ h9 => h9) rfl (by decide +kernel) rfl rfl (Nat.le_of_ble_eq_true rfl) dX10_readToken_212 (fun H locs hP hD hS => ?_)
                      have hP : va_P (dC, dI) vwCl [(t0, .inr (9, [.ref tBytes, .int tsz, .int tfa, .int tfp, .int x_38, .int 2, .int w_1, .int tsp, .int x_37, .int tac])), (tBytes, .inl (cyB, 800, .inl t_f))] H := hP
                      have hD : va_D A [(t0, .inr (9, [.ref tBytes, .int tsz, .int tfa, .int tfp, .int x_38, .int 2, .int w_1, .int tsp, .int x_37, .int tac])), (tBytes, .inl (cyB, 800, .inl t_f))] := hD
                      refine lv_goto (tgt := 150) hx hb dX10_readToken_215 (by decide) ?_
                      exact ihkey_28 x_38 x_37 _ _ _ (by omega) (by omega) hP hD hS (lv_sub hl [0] rfl) (by omega)
                    · rw [if_neg c_32] at hw; subst hw; have c_32 : ¬ (48 ≤ x_30.toInt ∧ x_30.toInt ≤ 57) := c_32
                      refine lv_if_eq (tgt := 251) hx hb dX10_readToken_173 (by decide) (fun _ => ?_) (fun c_39 => absurd c_39 (by decide))
                      exact join_7 w_26 2 w_27 _ _ _ (by omega) (by decide) (by omega) hP hD hS (lv_sub hl [0] rfl)
              exact key_28 _ w_1 0 _ _ _ (by omega) (by decide) hP hD hS (lv_sub hl [0] rfl) (Nat.lt_succ_self _)
            · rw [if_neg c_24] at hw; subst hw; have c_24 : ¬ (48 ≤ x_9.toInt ∧ x_9.toInt ≤ 57) := c_24
              refine lv_if_eq (tgt := 218) hx hb dX10_readToken_142 (by decide) (fun _ => ?_) (fun c_40 => absurd c_40 (by decide))
              refine lv_aload_n hx hb dX10_readToken_218 rfl (lv_at hl 0 rfl) ?_
              refine lv_aload_n hx hb dX10_readToken_219 rfl (lv_at hl 0 rfl) ?_
              refine va_get (D := (dC, dI)) (ci := 9) (v := .ref tBytes) (C := RX10) (T := TX10) (N := 10) hx hb hts uinX10 hown hK hP 0 rfl rfl 0 (by decide) (hts _ wd_1_36) (fun _ h9 => h9) rfl dX10_readToken_220 ?_
              refine lv_aload_n hx hb dX10_readToken_223 rfl (lv_at hl 0 rfl) ?_
              refine va_get (D := (dC, dI)) (ci := 9) (v := .int w_1) (C := RX10) (T := TX10) (N := 10) hx hb hts uinX10 hown hK hP 0 rfl rfl 4 (by decide) (hts _ wd_1_43) (fun _ h9 => h9) rfl dX10_readToken_224 ?_
              refine va_bald hx hb hK hP 1 1 rfl rfl (vp_in_iff.mpr (by omega)) dX10_readToken_227 ?_
              refine cv_topi (b := x_9) ex_9.symm ?_
              refine lv_bipush (v := 59) hx hb dX10_readToken_228 (by decide) ?_
              have join_42 : ∀ (u_41 : Int32) (H : Heap) (locs : List Loc) (ls : Array Slot), (3 ≤ u_41.toInt ∧ u_41.toInt ≤ 4) → va_P (dC, dI) vwCl [(t0, .inr (9, [.ref tBytes, .int tsz, .int tfa, .int tfp, .int w_1, .int tki, .int w_1, .int tsp, .int 0, .int tac])), (tBytes, .inl (cyB, 800, .inl t_f))] H → va_D A [(t0, .inr (9, [.ref tBytes, .int tsz, .int tfa, .int tfp, .int w_1, .int tki, .int w_1, .int tsp, .int 0, .int tac])), (tBytes, .inl (cyB, 800, .inl t_f))] → va_S A s.heap H locs → lv_has ls 1 [(0, .ref t0)] → W p l e ({ frames := 2, cells := 0, slots := 0, locals := 80 }) s m ([.ref t0] : List Value).toArray below meth c H locs 0 0 Q9 (F0 m 238 ls [.int u_41, .ref t0]) := by
                intro u_41 H locs ls hu_41 hP hD hS hl
                refine va_put (D := (dC, dI)) (ci := 9) (v := .int u_41) (ty := .int) (C := RX10) (T := TX10) (N := 10) hx hb hts uinX10 tyX10 tyX10_ok nmX10 hown hK hP hD hS 0 rfl rfl 5 (by decide) (hts _ wd_1_44) (fun _ h9 => h9) rfl (by decide +kernel) rfl rfl (Nat.le_of_ble_eq_true rfl) dX10_readToken_238 (fun H locs hP hD hS => ?_)
                have hP : va_P (dC, dI) vwCl [(t0, .inr (9, [.ref tBytes, .int tsz, .int tfa, .int tfp, .int w_1, .int u_41, .int w_1, .int tsp, .int 0, .int tac])), (tBytes, .inl (cyB, 800, .inl t_f))] H := hP
                have hD : va_D A [(t0, .inr (9, [.ref tBytes, .int tsz, .int tfa, .int tfp, .int w_1, .int u_41, .int w_1, .int tsp, .int 0, .int tac])), (tBytes, .inl (cyB, 800, .inl t_f))] := hD
                refine lv_aload_n hx hb dX10_readToken_241 rfl (lv_at hl 0 rfl) ?_
                refine lv_dup hx hb dX10_readToken_242 rfl ?_
                refine va_get (D := (dC, dI)) (ci := 9) (v := .int w_1) (C := RX10) (T := TX10) (N := 10) hx hb hts uinX10 hown hK hP 0 rfl rfl 4 (by decide) (hts _ wd_1_43) (fun _ h9 => h9) rfl dX10_readToken_243 ?_
                refine lv_iconst (v := 1) hx hb dX10_readToken_246 (by decide) ?_
                refine lv_iadd hx hb dX10_readToken_247 ?_
                refine lv_topi (fun x_43 ex_43 => ?_)
                have fx_43 : x_43.toInt = w_1.toInt + 1 := by rw [ex_43]; exact cv_addI (by have : (1 : Int32).toInt = 1 := rfl; omega) (by have : (1 : Int32).toInt = 1 := rfl; omega)
                refine va_put (D := (dC, dI)) (ci := 9) (v := .int x_43) (ty := .int) (C := RX10) (T := TX10) (N := 10) hx hb hts uinX10 tyX10 tyX10_ok nmX10 hown hK hP hD hS 0 rfl rfl 4 (by decide) (hts _ wd_1_43) (fun _ h9 => h9) rfl (by decide +kernel) rfl rfl (Nat.le_of_ble_eq_true rfl) dX10_readToken_248 (fun H locs hP hD hS => ?_)
                have hP : va_P (dC, dI) vwCl [(t0, .inr (9, [.ref tBytes, .int tsz, .int tfa, .int tfp, .int x_43, .int u_41, .int w_1, .int tsp, .int 0, .int tac])), (tBytes, .inl (cyB, 800, .inl t_f))] H := hP
                have hD : va_D A [(t0, .inr (9, [.ref tBytes, .int tsz, .int tfa, .int tfp, .int x_43, .int u_41, .int w_1, .int tsp, .int 0, .int tac])), (tBytes, .inl (cyB, 800, .inl t_f))] := hD
                exact join_7 x_43 u_41 0 _ _ _ (by omega) (by omega) (by decide) hP hD hS (lv_sub hl [0] rfl)
              refine lv_icmp_ne (tgt := 237) hx hb dX10_readToken_230 (by decide) (fun c_44 => ?_) (fun c_44 => ?_)
              · have c_44 : x_9.toInt ≠ 59 := cv_ne c_44
                refine lv_iconst (v := 4) hx hb dX10_readToken_237 (by decide) ?_
                exact join_42 4 _ _ _ (by decide) hP hD hS (lv_sub hl [0] rfl)
              · have c_44 : x_9.toInt = 59 := cv_eq c_44
                refine lv_iconst (v := 3) hx hb dX10_readToken_233 (by decide) ?_
                refine lv_goto (tgt := 238) hx hb dX10_readToken_234 (by decide) ?_
                exact join_42 3 _ _ _ (by decide) hP hD hS (lv_sub hl [0] rfl)
        · have c_8 : tsz.toInt ≤ w_1.toInt := cv_nlt c_8
          refine lv_aload_n hx hb dX10_readToken_63 rfl (lv_at hl 0 rfl) ?_
          refine lv_iconst (v := 0) hx hb dX10_readToken_64 (by decide) ?_
          refine va_put (D := (dC, dI)) (ci := 9) (v := .int 0) (ty := .int) (C := RX10) (T := TX10) (N := 10) hx hb hts uinX10 tyX10 tyX10_ok nmX10 hown hK hP hD hS 0 rfl rfl 5 (by decide) (hts _ wd_1_44) (fun _ h9 => h9) rfl (by decide +kernel) rfl rfl (Nat.le_of_ble_eq_true rfl) dX10_readToken_65 (fun H locs hP hD hS => ?_)
          have hP : va_P (dC, dI) vwCl [(t0, .inr (9, [.ref tBytes, .int tsz, .int tfa, .int tfp, .int w_1, .int 0, .int w_1, .int tsp, .int 0, .int tac])), (tBytes, .inl (cyB, 800, .inl t_f))] H := hP
          have hD : va_D A [(t0, .inr (9, [.ref tBytes, .int tsz, .int tfa, .int tfp, .int w_1, .int 0, .int w_1, .int tsp, .int 0, .int tac])), (tBytes, .inl (cyB, 800, .inl t_f))] := hD
          refine lv_goto (tgt := 251) hx hb dX10_readToken_68 (by decide) ?_
          exact join_7 w_1 0 0 _ _ _ (by omega) (by decide) (by decide) hP hD hS (lv_sub hl [0] rfl)
      refine lv_icmp_ge (tgt := 39) hx hb dX10_readToken_8 (by decide) (fun c_45 => ?_) (fun c_45 => ?_)
      · have c_45 : tsz.toInt ≤ w_1.toInt := cv_le c_45
        exact join_3 _ _ _ hP hD hS (lv_sub hl [0] rfl)
      · have c_45 : w_1.toInt < tsz.toInt := cv_nle c_45
        refine lv_aload_n hx hb dX10_readToken_11 rfl (lv_at hl 0 rfl) ?_
        refine va_get (D := (dC, dI)) (ci := 9) (v := .ref tBytes) (C := RX10) (T := TX10) (N := 10) hx hb hts uinX10 hown hK hP 0 rfl rfl 0 (by decide) (hts _ wd_1_36) (fun _ h9 => h9) rfl dX10_readToken_12 ?_
        refine lv_aload_n hx hb dX10_readToken_15 rfl (lv_at hl 0 rfl) ?_
        refine va_get (D := (dC, dI)) (ci := 9) (v := .int w_1) (C := RX10) (T := TX10) (N := 10) hx hb hts uinX10 hown hK hP 0 rfl rfl 4 (by decide) (hts _ wd_1_43) (fun _ h9 => h9) rfl dX10_readToken_16 ?_
        refine va_bald hx hb hK hP 1 1 rfl rfl (vp_in_iff.mpr (by omega)) dX10_readToken_19 ?_
        refine lv_topi (fun x_46 ex_46 => ?_)
        refine vp_callSi (va_Run.run (va_runS (As := [.int x_46]) (rest := []) ⟨hx, hb, hml, hown, hts⟩ (n_isBlank l dC dI cyI cyB cyJ cyZ cyH cyN x_46) (va_cwS 1 hts (gdS wd_2_146 wd_2_147 wd_1_2 wd_2_148) rfl rfl rfl (by decide +kernel) ⟨Nat.le_of_ble_eq_true rfl, Nat.le_of_ble_eq_true rfl⟩) ⟨fun a U g mk q => q, fun U hU hW => ⟨rfl, trivial⟩⟩ rfl rfl hl.1 rfl (lv_room (Nat.le_of_ble_eq_true rfl)) dX10_readToken_20 ⟨Nat.le_of_ble_eq_true rfl, Nat.le_of_ble_eq_true rfl⟩)) (fun r_47 hw => ?_)
        have hrr_47 := hw
        refine lv_if_eq (tgt := 39) hx hb dX10_readToken_23 (by decide) (fun c_48 => ?_) (fun c_48 => ?_)
        · have c_48 : r_47.toInt = 0 := cv_eq c_48
          exact join_3 _ _ _ hP hD hS (lv_sub hl [0] rfl)
        · have c_48 : r_47.toInt ≠ 0 := cv_ne c_48
          refine lv_aload_n hx hb dX10_readToken_26 rfl (lv_at hl 0 rfl) ?_
          refine lv_dup hx hb dX10_readToken_27 rfl ?_
          refine va_get (D := (dC, dI)) (ci := 9) (v := .int w_1) (C := RX10) (T := TX10) (N := 10) hx hb hts uinX10 hown hK hP 0 rfl rfl 4 (by decide) (hts _ wd_1_43) (fun _ h9 => h9) rfl dX10_readToken_28 ?_
          refine lv_iconst (v := 1) hx hb dX10_readToken_31 (by decide) ?_
          refine lv_iadd hx hb dX10_readToken_32 ?_
          refine lv_topi (fun x_49 ex_49 => ?_)
          have fx_49 : x_49.toInt = w_1.toInt + 1 := by rw [ex_49]; exact cv_addI (by have : (1 : Int32).toInt = 1 := rfl; omega) (by have : (1 : Int32).toInt = 1 := rfl; omega)
          refine va_put (D := (dC, dI)) (ci := 9) (v := .int x_49) (ty := .int) (C := RX10) (T := TX10) (N := 10) hx hb hts uinX10 tyX10 tyX10_ok nmX10 hown hK hP hD hS 0 rfl rfl 4 (by decide) (hts _ wd_1_43) (fun _ h9 => h9) rfl (by decide +kernel) rfl rfl (Nat.le_of_ble_eq_true rfl) dX10_readToken_33 (fun H locs hP hD hS => ?_)
          have hP : va_P (dC, dI) vwCl [(t0, .inr (9, [.ref tBytes, .int tsz, .int tfa, .int tfp, .int x_49, .int tki, .int tst, .int tsp, .int tva, .int tac])), (tBytes, .inl (cyB, 800, .inl t_f))] H := hP
          have hD : va_D A [(t0, .inr (9, [.ref tBytes, .int tsz, .int tfa, .int tfp, .int x_49, .int tki, .int tst, .int tsp, .int tva, .int tac])), (tBytes, .inl (cyB, 800, .inl t_f))] := hD
          refine lv_goto (tgt := 0) hx hb dX10_readToken_36 (by decide) ?_
          exact ihkey_2 x_49 _ _ _ (by omega) hP hD hS (lv_sub hl [0] rfl) (by omega)
  exact key_2 _ tnx _ _ _ (by omega) hP hD hS (lv_sub hl [0] rfl) (Nat.lt_succ_self _)

/- X10_passSign -/
set_option maxHeartbeats 4000000 in
set_option maxRecDepth 100000 in
theorem n_passSgn (l : Launch) (dC : Nat → ClassId) (dI : Nat → Nat → Nat) (cyI cyB cyJ cyZ cyH cyN : ClassId) (sz : Nat) (t0 tBytes : Nat) (tsz tfa tfp tnx tki tst tsp tva tac : Int32) (t_f : Nat → Int32) (g0 : 0 ≤ tsz.toInt ∧ tsz.toInt ≤ 800) (g1 : 0 ≤ tnx.toInt ∧ tnx.toInt ≤ 800) (g2 : 0 ≤ tst.toInt ∧ tst.toInt ≤ 800) (g3 : 0 ≤ tsp.toInt ∧ tsp.toInt ≤ 800) (g4 : 0 ≤ tva.toInt ∧ tva.toInt ≤ 1000000) (g5 : 0 ≤ tac.toInt ∧ tac.toInt ≤ 1000000) : Met l yX10_passSign (wk yX10_passSign cX10_passSign 1 (some .boolean)) ({ frames := 3, cells := 0, slots := 0, locals := 100 }) (va_Pc [.ref t0] (fun U => U.heap.size = sz ∧ va_P (dC, dI) vwCl [(t0, .inr (9, [.ref tBytes, .int tsz, .int tfa, .int tfp, .int tnx, .int tki, .int tst, .int tsp, .int tva, .int tac])), (tBytes, .inl (cyB, 800, .inl t_f))] U.heap ∧ va_K (dC, dI) vwCl [(cyI, .int), (cyB, .byte), (cyJ, .long), (cyZ, .boolean), (cyH, .object RX2), (cyN, .array .long)] U ∧ va_D (fun _ => True) [(t0, .inr (9, [.ref tBytes, .int tsz, .int tfa, .int tfp, .int tnx, .int tki, .int tst, .int tsp, .int tva, .int tac])), (tBytes, .inl (cyB, 800, .inl t_f))])) (va_Qi (fun (r : Int32) (_ : Unit) => 0 ≤ r.toInt ∧ r.toInt ≤ 1) (fun (_ : Unit) (t : State) => ∃ z0 : Int32, ∃ z1 : Int32, ∃ z2 : Int32, ∃ z3 : Int32, ∃ z4 : Int32, ∃ z5 : Int32, ∃ z6 : Int32, (0 ≤ z2.toInt ∧ z2.toInt ≤ 800) ∧ (0 ≤ z4.toInt ∧ z4.toInt ≤ 800) ∧ (0 ≤ z5.toInt ∧ z5.toInt ≤ 800) ∧ (0 ≤ z6.toInt ∧ z6.toInt ≤ 1000000) ∧ va_P (dC, dI) vwCl [(t0, .inr (9, [.ref tBytes, .int tsz, .int z0, .int z1, .int z2, .int z3, .int z4, .int z5, .int z6, .int tac])), (tBytes, .inl (cyB, 800, .inl t_f))] t.heap ∧ va_D (va_A [(t0, .inr (9, [.ref tBytes, .int tsz, .int tfa, .int tfp, .int tnx, .int tki, .int tst, .int tsp, .int tva, .int tac])), (tBytes, .inl (cyB, 800, .inl t_f))] sz) [(t0, .inr (9, [.ref tBytes, .int tsz, .int z0, .int z1, .int z2, .int z3, .int z4, .int z5, .int z6, .int tac])), (tBytes, .inl (cyB, 800, .inl t_f))]) (va_A [(t0, .inr (9, [.ref tBytes, .int tsz, .int tfa, .int tfp, .int tnx, .int tki, .int tst, .int tsp, .int tva, .int tac])), (tBytes, .inl (cyB, 800, .inl t_f))] sz)) 0 0 (va_A [(t0, .inr (9, [.ref tBytes, .int tsz, .int tfa, .int tfp, .int tnx, .int tki, .int tst, .int tsp, .int tva, .int tac])), (tBytes, .inl (cyB, 800, .inl t_f))] sz) := by
  refine Met.ofW (cc := cX10_passSign) (maxL := 1) (ret := (some .boolean)) (by decide) rfl ?_
  intro p e s m args below meth c s₁ B hml hv
  obtain ⟨rfl, hsz, hP, hK, hD0⟩ := hv
  have hx := B.exec
  have hb := B.bytes
  have hr := B.returns
  have hts : ∀ w ∈ uU, w.before ([.ref t0] : List Value).toArray s = true := fun w h => atoms_spec (ws := wk yX10_passSign cX10_passSign 1 (some .boolean)) B.pre w (List.mem_cons_of_mem _ h)
  have hown : s.vm.findClass RX10 = some m.cls := findClass_of_methodNamed B.named
  have hlocks := B.notSynchronized
  subst hsz
  have hD := hD0.self (sz := s.heap.size)
  generalize hAe : va_A [(t0, .inr (9, [.ref tBytes, .int tsz, .int tfa, .int tfp, .int tnx, .int tki, .int tst, .int tsp, .int tva, .int tac])), (tBytes, .inl (cyB, 800, .inl t_f))] s.heap.size = A at hD ⊢
  have hA : ∀ q : Nat, s.heap.size ≤ q → A q := fun q h => by rw [← hAe]; exact Or.inr h
  have hS : va_S A s.heap s.heap [] := va_S.rf
  have hP : va_P (dC, dI) vwCl [(t0, .inr (9, [.ref tBytes, .int tsz, .int tfa, .int tfp, .int tnx, .int tki, .int tst, .int tsp, .int tva, .int tac])), (tBytes, .inl (cyB, 800, .inl t_f))] s.heap := hP
  have hl := lv_entry ([.ref t0]) (n := 1) (Nat.le_of_ble_eq_true rfl)
  rw [lg_entry_eq]
  generalize (lg_sl ([.ref t0]) ++ List.replicate (1 - (lg_sl ([.ref t0])).length) Slot.unset).toArray = ls at hl ⊢
  have hl : lv_has ls 1 [(0, .ref t0)] := hl
  obtain ⟨H, hHe⟩ : ∃ H, H = s.heap := ⟨_, rfl⟩
  have hP : va_P (dC, dI) vwCl [(t0, .inr (9, [.ref tBytes, .int tsz, .int tfa, .int tfp, .int tnx, .int tki, .int tst, .int tsp, .int tva, .int tac])), (tBytes, .inl (cyB, 800, .inl t_f))] H := by rw [hHe]; exact hP
  have hS : va_S A s.heap H [] := by rw [hHe]; exact hS
  refine cv_heap hHe ?_
  obtain ⟨Q9, hQ9⟩ : ∃ Q9 : State → Prop, Q9 = MQ below (va_Qi (fun (r : Int32) (_ : Unit) => 0 ≤ r.toInt ∧ r.toInt ≤ 1) (fun (_ : Unit) (t : State) => ∃ z0 : Int32, ∃ z1 : Int32, ∃ z2 : Int32, ∃ z3 : Int32, ∃ z4 : Int32, ∃ z5 : Int32, ∃ z6 : Int32, (0 ≤ z2.toInt ∧ z2.toInt ≤ 800) ∧ (0 ≤ z4.toInt ∧ z4.toInt ≤ 800) ∧ (0 ≤ z5.toInt ∧ z5.toInt ≤ 800) ∧ (0 ≤ z6.toInt ∧ z6.toInt ≤ 1000000) ∧ va_P (dC, dI) vwCl [(t0, .inr (9, [.ref tBytes, .int tsz, .int z0, .int z1, .int z2, .int z3, .int z4, .int z5, .int z6, .int tac])), (tBytes, .inl (cyB, 800, .inl t_f))] t.heap ∧ va_D A [(t0, .inr (9, [.ref tBytes, .int tsz, .int z0, .int z1, .int z2, .int z3, .int z4, .int z5, .int z6, .int tac])), (tBytes, .inl (cyB, 800, .inl t_f))]) A) ([.ref t0] : List Value).toArray s 0 0 A := ⟨_, rfl⟩
  rw [← hQ9]
  refine lv_aload_n hx hb dX10_passSign_0 rfl (lv_at hl 0 rfl) ?_
  refine va_get (D := (dC, dI)) (ci := 9) (v := .int tki) (C := RX10) (T := TX10) (N := 10) hx hb hts uinX10 hown hK hP 0 rfl rfl 5 (by decide) (hts _ wd_1_44) (fun _ h9 => h9) rfl dX10_passSign_1 ?_
  refine lv_iconst (v := 3) hx hb dX10_passSign_4 (by decide) ?_
  refine lv_icmp_eq (tgt := 14) hx hb dX10_passSign_5 (by decide) (fun c_1 => ?_) (fun c_1 => ?_)
  · have c_1 : tki.toInt = 3 := cv_eq c_1
    refine lv_aload_n hx hb dX10_passSign_14 rfl (lv_at hl 0 rfl) ?_
    have hPc := hP.sub (ws' := [(t0, .inr (9, [.ref tBytes, .int tsz, .int tfa, .int tfp, .int tnx, .int tki, .int tst, .int tsp, .int tva, .int tac])), (tBytes, .inl (cyB, 800, .inl t_f))]) [0, 1] rfl
    have hKc := hK.sub (tys' := [(cyI, .int), (cyB, .byte), (cyJ, .long), (cyZ, .boolean), (cyH, .object RX2), (cyN, .array .long)]) [0, 1, 2, 3, 4, 5] rfl
    have hDc := hD.sub (ws' := [(t0, .inr (9, [.ref tBytes, .int tsz, .int tfa, .int tfp, .int tnx, .int tki, .int tst, .int tsp, .int tva, .int tac])), (tBytes, .inl (cyB, 800, .inl t_f))]) [0, 1] (by decide) rfl
    have hFc := va_free (wc := [(t0, .inr (9, [.ref tBytes, .int tsz, .int tfa, .int tfp, .int tnx, .int tki, .int tst, .int tsp, .int tva, .int tac])), (tBytes, .inl (cyB, 800, .inl t_f))]) hD hS hA [0, 1] rfl
    refine va_callv (va_runV (As := []) (rest := []) ⟨hx, hb, hml, hown, hts⟩ (n_readTok l dC dI cyI cyB cyJ cyZ cyH cyN H.size t0 tBytes tsz tfa tfp tnx tki tst tsp tva tac t_f (by omega) (by omega) (by omega) (by omega) (by omega) (by omega)) (cwV 0 hts (gdV wd_2_142 wd_2_144 wd_s1_0 wd_1_2 wd_2_145) rfl rfl rfl (by decide +kernel) ⟨Nat.le_of_ble_eq_true rfl, Nat.le_of_ble_eq_true rfl⟩) ⟨fun a U g mk q => by obtain ⟨q0, q1, qP, qK, qD⟩ := q; exact ⟨q0, q1, qP, va_K.moved (u := U) (U := U.calling g mk a) (Vm.Alike.refl U.vm) qK, qD⟩, va_recv hKc hPc (ci := 9) (q0 := 0) rfl rfl, fun U hU hW => ⟨rfl, by rw [hU], by rw [hU]; exact hPc, va_K.moved hW.alike hKc, hDc.weaken (fun _ _ _ _ => trivial)⟩⟩ rfl rfl hl.1 rfl (lv_room (Nat.le_of_ble_eq_true rfl)) dX10_passSign_15 ⟨Nat.le_of_ble_eq_true rfl, Nat.le_of_ble_eq_true rfl⟩) hS (fun q _ h => hFc q h) hFc (fun  u t H1 locs ht hvm hw hB hz1 hk1 hS => ?_)
    obtain ⟨z0_2, z1_3, z2_4, z3_5, z4_6, hp_7, hp_8, hp_9, hp_10, hp_11, hP1, hD1⟩ := hB
    rw [ht] at hP1
    obtain ⟨hP, hD⟩ := va_join (wr := []) (w1 := [(t0, .inr (9, [.ref tBytes, .int tsz, .int tfa, .int tfp, .int z0_2, .int z1_3, .int z2_4, .int z3_5, .int z4_6, .int tac])), (tBytes, .inl (cyB, 800, .inl t_f))]) hP hD [0, 1] [] rfl rfl (by decide) (by decide) hk1 hFc hP1 hD1
    generalize H1 = H at hP hS ⊢
    have hP : va_P (dC, dI) vwCl [(t0, .inr (9, [.ref tBytes, .int tsz, .int tfa, .int tfp, .int z0_2, .int z1_3, .int z2_4, .int z3_5, .int z4_6, .int tac])), (tBytes, .inl (cyB, 800, .inl t_f))] H := hP
    have hD : va_D A [(t0, .inr (9, [.ref tBytes, .int tsz, .int tfa, .int tfp, .int z0_2, .int z1_3, .int z2_4, .int z3_5, .int z4_6, .int tac])), (tBytes, .inl (cyB, 800, .inl t_f))] := hD
    refine lv_iconst (v := 1) hx hb dX10_passSign_18 (by decide) ?_
    rw [hQ9]
    have hP9 := hP.sub (ws' := [(t0, .inr (9, [.ref tBytes, .int tsz, .int tfa, .int tfp, .int z0_2, .int z1_3, .int z2_4, .int z3_5, .int z4_6, .int tac])), (tBytes, .inl (cyB, 800, .inl t_f))]) [0, 1] rfl
    have hD9 := hD.sub (ws' := [(t0, .inr (9, [.ref tBytes, .int tsz, .int tfa, .int tfp, .int z0_2, .int z1_3, .int z2_4, .int z3_5, .int z4_6, .int tac])), (tBytes, .inl (cyB, 800, .inl t_f))]) [0, 1] (by decide) rfl
    exact W.zret (v := 1) (ty := .boolean) hx hb hr rfl (fun t ht hW => ⟨⟨1, (), rfl, (by decide), ⟨tfa, tfp, z0_2, z1_3, z2_4, z3_5, z4_6, (by omega), (by omega), (by omega), (by omega), by rw [ht]; exact hP9, hD9⟩⟩, hS.F ht⟩) hS.2.2 dX10_passSign_19
  · have c_1 : tki.toInt ≠ 3 := cv_ne c_1
    refine lv_aload_n hx hb dX10_passSign_8 rfl (lv_at hl 0 rfl) ?_
    refine lv_iconst (v := 1) hx hb dX10_passSign_9 (by decide) ?_
    have hPc := hP.sub (ws' := [(t0, .inr (9, [.ref tBytes, .int tsz, .int tfa, .int tfp, .int tnx, .int tki, .int tst, .int tsp, .int tva, .int tac])), (tBytes, .inl (cyB, 800, .inl t_f))]) [0, 1] rfl
    have hKc := hK.sub (tys' := [(cyI, .int), (cyB, .byte), (cyJ, .long), (cyZ, .boolean), (cyH, .object RX2), (cyN, .array .long)]) [0, 1, 2, 3, 4, 5] rfl
    have hDc := hD.sub (ws' := [(t0, .inr (9, [.ref tBytes, .int tsz, .int tfa, .int tfp, .int tnx, .int tki, .int tst, .int tsp, .int tva, .int tac])), (tBytes, .inl (cyB, 800, .inl t_f))]) [0, 1] (by decide) rfl
    have hFc := va_free (wc := [(t0, .inr (9, [.ref tBytes, .int tsz, .int tfa, .int tfp, .int tnx, .int tki, .int tst, .int tsp, .int tva, .int tac])), (tBytes, .inl (cyB, 800, .inl t_f))]) hD hS hA [0, 1] rfl
    refine va_calli (va_runV (As := [.int 1]) (rest := []) ⟨hx, hb, hml, hown, hts⟩ (n_refuse l dC dI cyI cyB cyJ cyZ cyH cyN H.size t0 tBytes tsz tfa tfp tnx tki tst tsp tva tac t_f 1 (by omega) (by omega) (by omega) (by omega) (by omega) (by omega)) (cwV 1 hts (gdV wd_2_224 wd_2_226 wd_s1_5 wd_1_2 wd_2_227) rfl rfl rfl (by decide +kernel) ⟨Nat.le_of_ble_eq_true rfl, Nat.le_of_ble_eq_true rfl⟩) ⟨fun a U g mk q => by obtain ⟨q0, q1, qP, qK, qD⟩ := q; exact ⟨q0, q1, qP, va_K.moved (u := U) (U := U.calling g mk a) (Vm.Alike.refl U.vm) qK, qD⟩, va_recv hKc hPc (ci := 9) (q0 := 0) rfl rfl, fun U hU hW => ⟨rfl, by rw [hU], by rw [hU]; exact hPc, va_K.moved hW.alike hKc, hDc.weaken (fun _ _ _ _ => trivial)⟩⟩ rfl rfl hl.1 rfl (lv_room (Nat.le_of_ble_eq_true rfl)) dX10_passSign_10 ⟨Nat.le_of_ble_eq_true rfl, Nat.le_of_ble_eq_true rfl⟩) hS (fun q _ h => hFc q h) hFc (fun r_12 u t H1 locs ht hvm hw hB hz1 hk1 hS => ?_)
    obtain ⟨z0_13, z1_14, hp_15, hP1, hD1⟩ := hB
    rw [ht] at hP1
    obtain ⟨hP, hD⟩ := va_join (wr := []) (w1 := [(t0, .inr (9, [.ref tBytes, .int tsz, .int z0_13, .int z1_14, .int tnx, .int tki, .int tst, .int tsp, .int tva, .int tac])), (tBytes, .inl (cyB, 800, .inl t_f))]) hP hD [0, 1] [] rfl rfl (by decide) (by decide) hk1 hFc hP1 hD1
    generalize H1 = H at hP hS ⊢
    have hP : va_P (dC, dI) vwCl [(t0, .inr (9, [.ref tBytes, .int tsz, .int z0_13, .int z1_14, .int tnx, .int tki, .int tst, .int tsp, .int tva, .int tac])), (tBytes, .inl (cyB, 800, .inl t_f))] H := hP
    have hD : va_D A [(t0, .inr (9, [.ref tBytes, .int tsz, .int z0_13, .int z1_14, .int tnx, .int tki, .int tst, .int tsp, .int tva, .int tac])), (tBytes, .inl (cyB, 800, .inl t_f))] := hD
    subst hw
    rw [hQ9]
    have hP9 := hP.sub (ws' := [(t0, .inr (9, [.ref tBytes, .int tsz, .int z0_13, .int z1_14, .int tnx, .int tki, .int tst, .int tsp, .int tva, .int tac])), (tBytes, .inl (cyB, 800, .inl t_f))]) [0, 1] rfl
    have hD9 := hD.sub (ws' := [(t0, .inr (9, [.ref tBytes, .int tsz, .int z0_13, .int z1_14, .int tnx, .int tki, .int tst, .int tsp, .int tva, .int tac])), (tBytes, .inl (cyB, 800, .inl t_f))]) [0, 1] (by decide) rfl
    exact W.zret (v := 0) (ty := .boolean) hx hb hr rfl (fun t ht hW => ⟨⟨0, (), rfl, (by decide), ⟨z0_13, z1_14, tnx, tki, tst, tsp, tva, (by omega), (by omega), (by omega), (by omega), by rw [ht]; exact hP9, hD9⟩⟩, hS.F ht⟩) hS.2.2 dX10_passSign_13

/- X10_passNumber -/
set_option maxHeartbeats 4000000 in
set_option maxRecDepth 100000 in
theorem n_passNum (l : Launch) (dC : Nat → ClassId) (dI : Nat → Nat → Nat) (cyI cyB cyJ cyZ cyH cyN : ClassId) (sz : Nat) (t0 tBytes : Nat) (tsz tfa tfp tnx tki tst tsp tva tac : Int32) (t_f : Nat → Int32) (p0 p1 p2 : Int32) (g0 : 0 ≤ tsz.toInt ∧ tsz.toInt ≤ 800) (g1 : 0 ≤ tnx.toInt ∧ tnx.toInt ≤ 800) (g2 : 0 ≤ tst.toInt ∧ tst.toInt ≤ 800) (g3 : 0 ≤ tsp.toInt ∧ tsp.toInt ≤ 800) (g4 : 0 ≤ tva.toInt ∧ tva.toInt ≤ 1000000) (g5 : 0 ≤ tac.toInt ∧ tac.toInt ≤ 1000000) : Met l yX10_passNumber (wk yX10_passNumber cX10_passNumber 5 (some .boolean)) ({ frames := 3, cells := 0, slots := 0, locals := 100 }) (va_Pc [.ref t0, .int p0, .int p1, .int p2] (fun U => U.heap.size = sz ∧ va_P (dC, dI) vwCl [(t0, .inr (9, [.ref tBytes, .int tsz, .int tfa, .int tfp, .int tnx, .int tki, .int tst, .int tsp, .int tva, .int tac])), (tBytes, .inl (cyB, 800, .inl t_f))] U.heap ∧ va_K (dC, dI) vwCl [(cyI, .int), (cyB, .byte), (cyJ, .long), (cyZ, .boolean), (cyH, .object RX2), (cyN, .array .long)] U ∧ va_D (fun _ => True) [(t0, .inr (9, [.ref tBytes, .int tsz, .int tfa, .int tfp, .int tnx, .int tki, .int tst, .int tsp, .int tva, .int tac])), (tBytes, .inl (cyB, 800, .inl t_f))])) (va_Qi (fun (r : Int32) (u9 : Int32) => r = u9 ∧ (0 ≤ r.toInt ∧ r.toInt ≤ 1)) (fun (gr : Int32) (t : State) => ∃ z0 : Int32, ∃ z1 : Int32, ∃ z2 : Int32, ∃ z3 : Int32, ∃ z4 : Int32, ∃ z5 : Int32, ∃ z6 : Int32, ∃ z7 : Int32, (0 ≤ z2.toInt ∧ z2.toInt ≤ 800) ∧ (0 ≤ z4.toInt ∧ z4.toInt ≤ 800) ∧ (0 ≤ z5.toInt ∧ z5.toInt ≤ 800) ∧ (0 ≤ z6.toInt ∧ z6.toInt ≤ 1000000) ∧ (0 ≤ z7.toInt ∧ z7.toInt ≤ 1000000) ∧ (gr.toInt = 1 → p0.toInt ≤ z7.toInt ∧ z7.toInt ≤ p1.toInt) ∧ va_P (dC, dI) vwCl [(t0, .inr (9, [.ref tBytes, .int tsz, .int z0, .int z1, .int z2, .int z3, .int z4, .int z5, .int z6, .int z7])), (tBytes, .inl (cyB, 800, .inl t_f))] t.heap ∧ va_D (va_A [(t0, .inr (9, [.ref tBytes, .int tsz, .int tfa, .int tfp, .int tnx, .int tki, .int tst, .int tsp, .int tva, .int tac])), (tBytes, .inl (cyB, 800, .inl t_f))] sz) [(t0, .inr (9, [.ref tBytes, .int tsz, .int z0, .int z1, .int z2, .int z3, .int z4, .int z5, .int z6, .int z7])), (tBytes, .inl (cyB, 800, .inl t_f))]) (va_A [(t0, .inr (9, [.ref tBytes, .int tsz, .int tfa, .int tfp, .int tnx, .int tki, .int tst, .int tsp, .int tva, .int tac])), (tBytes, .inl (cyB, 800, .inl t_f))] sz)) 0 0 (va_A [(t0, .inr (9, [.ref tBytes, .int tsz, .int tfa, .int tfp, .int tnx, .int tki, .int tst, .int tsp, .int tva, .int tac])), (tBytes, .inl (cyB, 800, .inl t_f))] sz) := by
  refine Met.ofW (cc := cX10_passNumber) (maxL := 5) (ret := (some .boolean)) (by decide) rfl ?_
  intro p e s m args below meth c s₁ B hml hv
  obtain ⟨rfl, hsz, hP, hK, hD0⟩ := hv
  have hx := B.exec
  have hb := B.bytes
  have hr := B.returns
  have hts : ∀ w ∈ uU, w.before ([.ref t0, .int p0, .int p1, .int p2] : List Value).toArray s = true := fun w h => atoms_spec (ws := wk yX10_passNumber cX10_passNumber 5 (some .boolean)) B.pre w (List.mem_cons_of_mem _ h)
  have hown : s.vm.findClass RX10 = some m.cls := findClass_of_methodNamed B.named
  have hlocks := B.notSynchronized
  subst hsz
  have hD := hD0.self (sz := s.heap.size)
  generalize hAe : va_A [(t0, .inr (9, [.ref tBytes, .int tsz, .int tfa, .int tfp, .int tnx, .int tki, .int tst, .int tsp, .int tva, .int tac])), (tBytes, .inl (cyB, 800, .inl t_f))] s.heap.size = A at hD ⊢
  have hA : ∀ q : Nat, s.heap.size ≤ q → A q := fun q h => by rw [← hAe]; exact Or.inr h
  have hS : va_S A s.heap s.heap [] := va_S.rf
  have hP : va_P (dC, dI) vwCl [(t0, .inr (9, [.ref tBytes, .int tsz, .int tfa, .int tfp, .int tnx, .int tki, .int tst, .int tsp, .int tva, .int tac])), (tBytes, .inl (cyB, 800, .inl t_f))] s.heap := hP
  have hl := lv_entry ([.ref t0, .int p0, .int p1, .int p2]) (n := 5) (Nat.le_of_ble_eq_true rfl)
  rw [lg_entry_eq]
  generalize (lg_sl ([.ref t0, .int p0, .int p1, .int p2]) ++ List.replicate (5 - (lg_sl ([.ref t0, .int p0, .int p1, .int p2])).length) Slot.unset).toArray = ls at hl ⊢
  have hl : lv_has ls 5 [(0, .ref t0), (1, .int p0), (2, .int p1), (3, .int p2)] := hl
  obtain ⟨H, hHe⟩ : ∃ H, H = s.heap := ⟨_, rfl⟩
  have hP : va_P (dC, dI) vwCl [(t0, .inr (9, [.ref tBytes, .int tsz, .int tfa, .int tfp, .int tnx, .int tki, .int tst, .int tsp, .int tva, .int tac])), (tBytes, .inl (cyB, 800, .inl t_f))] H := by rw [hHe]; exact hP
  have hS : va_S A s.heap H [] := by rw [hHe]; exact hS
  refine cv_heap hHe ?_
  obtain ⟨Q9, hQ9⟩ : ∃ Q9 : State → Prop, Q9 = MQ below (va_Qi (fun (r : Int32) (u9 : Int32) => r = u9 ∧ (0 ≤ r.toInt ∧ r.toInt ≤ 1)) (fun (gr : Int32) (t : State) => ∃ z0 : Int32, ∃ z1 : Int32, ∃ z2 : Int32, ∃ z3 : Int32, ∃ z4 : Int32, ∃ z5 : Int32, ∃ z6 : Int32, ∃ z7 : Int32, (0 ≤ z2.toInt ∧ z2.toInt ≤ 800) ∧ (0 ≤ z4.toInt ∧ z4.toInt ≤ 800) ∧ (0 ≤ z5.toInt ∧ z5.toInt ≤ 800) ∧ (0 ≤ z6.toInt ∧ z6.toInt ≤ 1000000) ∧ (0 ≤ z7.toInt ∧ z7.toInt ≤ 1000000) ∧ (gr.toInt = 1 → p0.toInt ≤ z7.toInt ∧ z7.toInt ≤ p1.toInt) ∧ va_P (dC, dI) vwCl [(t0, .inr (9, [.ref tBytes, .int tsz, .int z0, .int z1, .int z2, .int z3, .int z4, .int z5, .int z6, .int z7])), (tBytes, .inl (cyB, 800, .inl t_f))] t.heap ∧ va_D A [(t0, .inr (9, [.ref tBytes, .int tsz, .int z0, .int z1, .int z2, .int z3, .int z4, .int z5, .int z6, .int z7])), (tBytes, .inl (cyB, 800, .inl t_f))]) A) ([.ref t0, .int p0, .int p1, .int p2] : List Value).toArray s 0 0 A := ⟨_, rfl⟩
  rw [← hQ9]
  refine lv_aload_n hx hb dX10_passNumber_0 rfl (lv_at hl 0 rfl) ?_
  refine va_get (D := (dC, dI)) (ci := 9) (v := .int tki) (C := RX10) (T := TX10) (N := 10) hx hb hts uinX10 hown hK hP 0 rfl rfl 5 (by decide) (hts _ wd_1_44) (fun _ h9 => h9) rfl dX10_passNumber_1 ?_
  refine lv_iconst (v := 2) hx hb dX10_passNumber_4 (by decide) ?_
  refine lv_icmp_eq (tgt := 14) hx hb dX10_passNumber_5 (by decide) (fun c_1 => ?_) (fun c_1 => ?_)
  · have c_1 : tki.toInt = 2 := cv_eq c_1
    refine lv_aload_n hx hb dX10_passNumber_14 rfl (lv_at hl 0 rfl) ?_
    refine va_get (D := (dC, dI)) (ci := 9) (v := .int tva) (C := RX10) (T := TX10) (N := 10) hx hb hts uinX10 hown hK hP 0 rfl rfl 8 (by decide) (hts _ wd_1_47) (fun _ h9 => h9) rfl dX10_passNumber_15 ?_
    refine lv_bipush (v := 7) hx hb dX10_passNumber_18 (by decide) ?_
    refine lv_icmp_ge (tgt := 38) hx hb dX10_passNumber_20 (by decide) (fun c_2 => ?_) (fun c_2 => ?_)
    · have c_2 : 7 ≤ tva.toInt := cv_le c_2
      refine lv_iconst (v := 0) hx hb dX10_passNumber_38 (by decide) ?_
      refine lv_istore (lv' := [(4, .int 0), (0, .ref t0), (1, .int p0), (2, .int p1), (3, .int p2)]) hx hb dX10_passNumber_39 hl (by decide) rfl (fun ls hl => ?_)
      refine lv_aload_n hx hb dX10_passNumber_41 rfl (lv_at hl 1 rfl) ?_
      refine va_get (D := (dC, dI)) (ci := 9) (v := .int tva) (C := RX10) (T := TX10) (N := 10) hx hb hts uinX10 hown hK hP 0 rfl rfl 8 (by decide) (hts _ wd_1_47) (fun _ h9 => h9) rfl dX10_passNumber_42 ?_
      refine lv_iload_n hx hb dX10_passNumber_45 rfl (lv_at hl 2 rfl) ?_
      refine lv_icmp_lt (tgt := 62) hx hb dX10_passNumber_46 (by decide) (fun c_3 => ?_) (fun c_3 => ?_)
      · have c_3 : tva.toInt < p0.toInt := cv_lt c_3
        refine lv_aload_n hx hb dX10_passNumber_62 rfl (lv_at hl 1 rfl) ?_
        refine lv_iconst (v := 2) hx hb dX10_passNumber_63 (by decide) ?_
        have hPc := hP.sub (ws' := [(t0, .inr (9, [.ref tBytes, .int tsz, .int tfa, .int tfp, .int tnx, .int tki, .int tst, .int tsp, .int tva, .int tac])), (tBytes, .inl (cyB, 800, .inl t_f))]) [0, 1] rfl
        have hKc := hK.sub (tys' := [(cyI, .int), (cyB, .byte), (cyJ, .long), (cyZ, .boolean), (cyH, .object RX2), (cyN, .array .long)]) [0, 1, 2, 3, 4, 5] rfl
        have hDc := hD.sub (ws' := [(t0, .inr (9, [.ref tBytes, .int tsz, .int tfa, .int tfp, .int tnx, .int tki, .int tst, .int tsp, .int tva, .int tac])), (tBytes, .inl (cyB, 800, .inl t_f))]) [0, 1] (by decide) rfl
        have hFc := va_free (wc := [(t0, .inr (9, [.ref tBytes, .int tsz, .int tfa, .int tfp, .int tnx, .int tki, .int tst, .int tsp, .int tva, .int tac])), (tBytes, .inl (cyB, 800, .inl t_f))]) hD hS hA [0, 1] rfl
        refine va_calli (va_runV (As := [.int 2]) (rest := []) ⟨hx, hb, hml, hown, hts⟩ (n_refuse l dC dI cyI cyB cyJ cyZ cyH cyN H.size t0 tBytes tsz tfa tfp tnx tki tst tsp tva tac t_f 2 (by omega) (by omega) (by omega) (by omega) (by omega) (by omega)) (cwV 1 hts (gdV wd_2_224 wd_2_226 wd_s1_5 wd_1_2 wd_2_227) rfl rfl rfl (by decide +kernel) ⟨Nat.le_of_ble_eq_true rfl, Nat.le_of_ble_eq_true rfl⟩) ⟨fun a U g mk q => by obtain ⟨q0, q1, qP, qK, qD⟩ := q; exact ⟨q0, q1, qP, va_K.moved (u := U) (U := U.calling g mk a) (Vm.Alike.refl U.vm) qK, qD⟩, va_recv hKc hPc (ci := 9) (q0 := 0) rfl rfl, fun U hU hW => ⟨rfl, by rw [hU], by rw [hU]; exact hPc, va_K.moved hW.alike hKc, hDc.weaken (fun _ _ _ _ => trivial)⟩⟩ rfl rfl hl.1 rfl (lv_room (Nat.le_of_ble_eq_true rfl)) dX10_passNumber_64 ⟨Nat.le_of_ble_eq_true rfl, Nat.le_of_ble_eq_true rfl⟩) hS (fun q _ h => hFc q h) hFc (fun r_4 u t H1 locs ht hvm hw hB hz1 hk1 hS => ?_)
        obtain ⟨z0_5, z1_6, hp_7, hP1, hD1⟩ := hB
        rw [ht] at hP1
        obtain ⟨hP, hD⟩ := va_join (wr := []) (w1 := [(t0, .inr (9, [.ref tBytes, .int tsz, .int z0_5, .int z1_6, .int tnx, .int tki, .int tst, .int tsp, .int tva, .int tac])), (tBytes, .inl (cyB, 800, .inl t_f))]) hP hD [0, 1] [] rfl rfl (by decide) (by decide) hk1 hFc hP1 hD1
        generalize H1 = H at hP hS ⊢
        have hP : va_P (dC, dI) vwCl [(t0, .inr (9, [.ref tBytes, .int tsz, .int z0_5, .int z1_6, .int tnx, .int tki, .int tst, .int tsp, .int tva, .int tac])), (tBytes, .inl (cyB, 800, .inl t_f))] H := hP
        have hD : va_D A [(t0, .inr (9, [.ref tBytes, .int tsz, .int z0_5, .int z1_6, .int tnx, .int tki, .int tst, .int tsp, .int tva, .int tac])), (tBytes, .inl (cyB, 800, .inl t_f))] := hD
        subst hw
        rw [hQ9]
        have hP9 := hP.sub (ws' := [(t0, .inr (9, [.ref tBytes, .int tsz, .int z0_5, .int z1_6, .int tnx, .int tki, .int tst, .int tsp, .int tva, .int tac])), (tBytes, .inl (cyB, 800, .inl t_f))]) [0, 1] rfl
        have hD9 := hD.sub (ws' := [(t0, .inr (9, [.ref tBytes, .int tsz, .int z0_5, .int z1_6, .int tnx, .int tki, .int tst, .int tsp, .int tva, .int tac])), (tBytes, .inl (cyB, 800, .inl t_f))]) [0, 1] (by decide) rfl
        exact W.zret (v := 0) (ty := .boolean) hx hb hr rfl (fun t ht hW => ⟨⟨0, 0, rfl, ⟨rfl, (by decide)⟩, ⟨z0_5, z1_6, tnx, tki, tst, tsp, tva, tac, (by omega), (by omega), (by omega), (by omega), (by omega), (fun h9 => absurd h9 (by decide)), by rw [ht]; exact hP9, hD9⟩⟩, hS.F ht⟩) hS.2.2 dX10_passNumber_67
      · have c_3 : p0.toInt ≤ tva.toInt := cv_nlt c_3
        refine lv_aload_n hx hb dX10_passNumber_49 rfl (lv_at hl 1 rfl) ?_
        refine va_get (D := (dC, dI)) (ci := 9) (v := .int tva) (C := RX10) (T := TX10) (N := 10) hx hb hts uinX10 hown hK hP 0 rfl rfl 8 (by decide) (hts _ wd_1_47) (fun _ h9 => h9) rfl dX10_passNumber_50 ?_
        refine lv_iload_n hx hb dX10_passNumber_53 rfl (lv_at hl 3 rfl) ?_
        refine lv_icmp_gt (tgt := 62) hx hb dX10_passNumber_54 (by decide) (fun c_8 => ?_) (fun c_8 => ?_)
        · have c_8 : p1.toInt < tva.toInt := cv_lt c_8
          refine lv_aload_n hx hb dX10_passNumber_62 rfl (lv_at hl 1 rfl) ?_
          refine lv_iconst (v := 2) hx hb dX10_passNumber_63 (by decide) ?_
          have hPc := hP.sub (ws' := [(t0, .inr (9, [.ref tBytes, .int tsz, .int tfa, .int tfp, .int tnx, .int tki, .int tst, .int tsp, .int tva, .int tac])), (tBytes, .inl (cyB, 800, .inl t_f))]) [0, 1] rfl
          have hKc := hK.sub (tys' := [(cyI, .int), (cyB, .byte), (cyJ, .long), (cyZ, .boolean), (cyH, .object RX2), (cyN, .array .long)]) [0, 1, 2, 3, 4, 5] rfl
          have hDc := hD.sub (ws' := [(t0, .inr (9, [.ref tBytes, .int tsz, .int tfa, .int tfp, .int tnx, .int tki, .int tst, .int tsp, .int tva, .int tac])), (tBytes, .inl (cyB, 800, .inl t_f))]) [0, 1] (by decide) rfl
          have hFc := va_free (wc := [(t0, .inr (9, [.ref tBytes, .int tsz, .int tfa, .int tfp, .int tnx, .int tki, .int tst, .int tsp, .int tva, .int tac])), (tBytes, .inl (cyB, 800, .inl t_f))]) hD hS hA [0, 1] rfl
          refine va_calli (va_runV (As := [.int 2]) (rest := []) ⟨hx, hb, hml, hown, hts⟩ (n_refuse l dC dI cyI cyB cyJ cyZ cyH cyN H.size t0 tBytes tsz tfa tfp tnx tki tst tsp tva tac t_f 2 (by omega) (by omega) (by omega) (by omega) (by omega) (by omega)) (cwV 1 hts (gdV wd_2_224 wd_2_226 wd_s1_5 wd_1_2 wd_2_227) rfl rfl rfl (by decide +kernel) ⟨Nat.le_of_ble_eq_true rfl, Nat.le_of_ble_eq_true rfl⟩) ⟨fun a U g mk q => by obtain ⟨q0, q1, qP, qK, qD⟩ := q; exact ⟨q0, q1, qP, va_K.moved (u := U) (U := U.calling g mk a) (Vm.Alike.refl U.vm) qK, qD⟩, va_recv hKc hPc (ci := 9) (q0 := 0) rfl rfl, fun U hU hW => ⟨rfl, by rw [hU], by rw [hU]; exact hPc, va_K.moved hW.alike hKc, hDc.weaken (fun _ _ _ _ => trivial)⟩⟩ rfl rfl hl.1 rfl (lv_room (Nat.le_of_ble_eq_true rfl)) dX10_passNumber_64 ⟨Nat.le_of_ble_eq_true rfl, Nat.le_of_ble_eq_true rfl⟩) hS (fun q _ h => hFc q h) hFc (fun r_9 u t H1 locs ht hvm hw hB hz1 hk1 hS => ?_)
          obtain ⟨z0_10, z1_11, hp_12, hP1, hD1⟩ := hB
          rw [ht] at hP1
          obtain ⟨hP, hD⟩ := va_join (wr := []) (w1 := [(t0, .inr (9, [.ref tBytes, .int tsz, .int z0_10, .int z1_11, .int tnx, .int tki, .int tst, .int tsp, .int tva, .int tac])), (tBytes, .inl (cyB, 800, .inl t_f))]) hP hD [0, 1] [] rfl rfl (by decide) (by decide) hk1 hFc hP1 hD1
          generalize H1 = H at hP hS ⊢
          have hP : va_P (dC, dI) vwCl [(t0, .inr (9, [.ref tBytes, .int tsz, .int z0_10, .int z1_11, .int tnx, .int tki, .int tst, .int tsp, .int tva, .int tac])), (tBytes, .inl (cyB, 800, .inl t_f))] H := hP
          have hD : va_D A [(t0, .inr (9, [.ref tBytes, .int tsz, .int z0_10, .int z1_11, .int tnx, .int tki, .int tst, .int tsp, .int tva, .int tac])), (tBytes, .inl (cyB, 800, .inl t_f))] := hD
          subst hw
          rw [hQ9]
          have hP9 := hP.sub (ws' := [(t0, .inr (9, [.ref tBytes, .int tsz, .int z0_10, .int z1_11, .int tnx, .int tki, .int tst, .int tsp, .int tva, .int tac])), (tBytes, .inl (cyB, 800, .inl t_f))]) [0, 1] rfl
          have hD9 := hD.sub (ws' := [(t0, .inr (9, [.ref tBytes, .int tsz, .int z0_10, .int z1_11, .int tnx, .int tki, .int tst, .int tsp, .int tva, .int tac])), (tBytes, .inl (cyB, 800, .inl t_f))]) [0, 1] (by decide) rfl
          exact W.zret (v := 0) (ty := .boolean) hx hb hr rfl (fun t ht hW => ⟨⟨0, 0, rfl, ⟨rfl, (by decide)⟩, ⟨z0_10, z1_11, tnx, tki, tst, tsp, tva, tac, (by omega), (by omega), (by omega), (by omega), (by omega), (fun h9 => absurd h9 (by decide)), by rw [ht]; exact hP9, hD9⟩⟩, hS.F ht⟩) hS.2.2 dX10_passNumber_67
        · have c_8 : tva.toInt ≤ p1.toInt := cv_nlt c_8
          refine lv_iload hx hb dX10_passNumber_57 (lv_at hl 0 rfl) ?_
          refine lv_if_eq (tgt := 68) hx hb dX10_passNumber_59 (by decide) (fun _ => ?_) (fun c_13 => absurd c_13 (by decide))
          refine lv_aload_n hx hb dX10_passNumber_68 rfl (lv_at hl 1 rfl) ?_
          refine lv_aload_n hx hb dX10_passNumber_69 rfl (lv_at hl 1 rfl) ?_
          refine va_get (D := (dC, dI)) (ci := 9) (v := .int tva) (C := RX10) (T := TX10) (N := 10) hx hb hts uinX10 hown hK hP 0 rfl rfl 8 (by decide) (hts _ wd_1_47) (fun _ h9 => h9) rfl dX10_passNumber_70 ?_
          refine va_put (D := (dC, dI)) (ci := 9) (v := .int tva) (ty := .int) (C := RX10) (T := TX10) (N := 10) hx hb hts uinX10 tyX10 tyX10_ok nmX10 hown hK hP hD hS 0 rfl rfl 9 (by decide) (hts _ wd_1_48) (fun _ h9 => h9) rfl (by decide +kernel) rfl rfl (Nat.le_of_ble_eq_true rfl) dX10_passNumber_73 (fun H locs hP hD hS => ?_)
          have hP : va_P (dC, dI) vwCl [(t0, .inr (9, [.ref tBytes, .int tsz, .int tfa, .int tfp, .int tnx, .int tki, .int tst, .int tsp, .int tva, .int tva])), (tBytes, .inl (cyB, 800, .inl t_f))] H := hP
          have hD : va_D A [(t0, .inr (9, [.ref tBytes, .int tsz, .int tfa, .int tfp, .int tnx, .int tki, .int tst, .int tsp, .int tva, .int tva])), (tBytes, .inl (cyB, 800, .inl t_f))] := hD
          refine lv_aload_n hx hb dX10_passNumber_76 rfl (lv_at hl 1 rfl) ?_
          have hPc := hP.sub (ws' := [(t0, .inr (9, [.ref tBytes, .int tsz, .int tfa, .int tfp, .int tnx, .int tki, .int tst, .int tsp, .int tva, .int tva])), (tBytes, .inl (cyB, 800, .inl t_f))]) [0, 1] rfl
          have hKc := hK.sub (tys' := [(cyI, .int), (cyB, .byte), (cyJ, .long), (cyZ, .boolean), (cyH, .object RX2), (cyN, .array .long)]) [0, 1, 2, 3, 4, 5] rfl
          have hDc := hD.sub (ws' := [(t0, .inr (9, [.ref tBytes, .int tsz, .int tfa, .int tfp, .int tnx, .int tki, .int tst, .int tsp, .int tva, .int tva])), (tBytes, .inl (cyB, 800, .inl t_f))]) [0, 1] (by decide) rfl
          have hFc := va_free (wc := [(t0, .inr (9, [.ref tBytes, .int tsz, .int tfa, .int tfp, .int tnx, .int tki, .int tst, .int tsp, .int tva, .int tva])), (tBytes, .inl (cyB, 800, .inl t_f))]) hD hS hA [0, 1] rfl
          refine va_callv (va_runV (As := []) (rest := []) ⟨hx, hb, hml, hown, hts⟩ (n_readTok l dC dI cyI cyB cyJ cyZ cyH cyN H.size t0 tBytes tsz tfa tfp tnx tki tst tsp tva tva t_f (by omega) (by omega) (by omega) (by omega) (by omega) (by omega)) (cwV 0 hts (gdV wd_2_142 wd_2_144 wd_s1_0 wd_1_2 wd_2_145) rfl rfl rfl (by decide +kernel) ⟨Nat.le_of_ble_eq_true rfl, Nat.le_of_ble_eq_true rfl⟩) ⟨fun a U g mk q => by obtain ⟨q0, q1, qP, qK, qD⟩ := q; exact ⟨q0, q1, qP, va_K.moved (u := U) (U := U.calling g mk a) (Vm.Alike.refl U.vm) qK, qD⟩, va_recv hKc hPc (ci := 9) (q0 := 0) rfl rfl, fun U hU hW => ⟨rfl, by rw [hU], by rw [hU]; exact hPc, va_K.moved hW.alike hKc, hDc.weaken (fun _ _ _ _ => trivial)⟩⟩ rfl rfl hl.1 rfl (lv_room (Nat.le_of_ble_eq_true rfl)) dX10_passNumber_77 ⟨Nat.le_of_ble_eq_true rfl, Nat.le_of_ble_eq_true rfl⟩) hS (fun q _ h => hFc q h) hFc (fun  u t H1 locs ht hvm hw hB hz1 hk1 hS => ?_)
          obtain ⟨z0_14, z1_15, z2_16, z3_17, z4_18, hp_19, hp_20, hp_21, hp_22, hp_23, hP1, hD1⟩ := hB
          rw [ht] at hP1
          obtain ⟨hP, hD⟩ := va_join (wr := []) (w1 := [(t0, .inr (9, [.ref tBytes, .int tsz, .int tfa, .int tfp, .int z0_14, .int z1_15, .int z2_16, .int z3_17, .int z4_18, .int tva])), (tBytes, .inl (cyB, 800, .inl t_f))]) hP hD [0, 1] [] rfl rfl (by decide) (by decide) hk1 hFc hP1 hD1
          generalize H1 = H at hP hS ⊢
          have hP : va_P (dC, dI) vwCl [(t0, .inr (9, [.ref tBytes, .int tsz, .int tfa, .int tfp, .int z0_14, .int z1_15, .int z2_16, .int z3_17, .int z4_18, .int tva])), (tBytes, .inl (cyB, 800, .inl t_f))] H := hP
          have hD : va_D A [(t0, .inr (9, [.ref tBytes, .int tsz, .int tfa, .int tfp, .int z0_14, .int z1_15, .int z2_16, .int z3_17, .int z4_18, .int tva])), (tBytes, .inl (cyB, 800, .inl t_f))] := hD
          refine lv_iconst (v := 1) hx hb dX10_passNumber_80 (by decide) ?_
          rw [hQ9]
          have hP9 := hP.sub (ws' := [(t0, .inr (9, [.ref tBytes, .int tsz, .int tfa, .int tfp, .int z0_14, .int z1_15, .int z2_16, .int z3_17, .int z4_18, .int tva])), (tBytes, .inl (cyB, 800, .inl t_f))]) [0, 1] rfl
          have hD9 := hD.sub (ws' := [(t0, .inr (9, [.ref tBytes, .int tsz, .int tfa, .int tfp, .int z0_14, .int z1_15, .int z2_16, .int z3_17, .int z4_18, .int tva])), (tBytes, .inl (cyB, 800, .inl t_f))]) [0, 1] (by decide) rfl
          exact W.zret (v := 1) (ty := .boolean) hx hb hr rfl (fun t ht hW => ⟨⟨1, 1, rfl, ⟨rfl, (by decide)⟩, ⟨tfa, tfp, z0_14, z1_15, z2_16, z3_17, z4_18, tva, (by omega), (by omega), (by omega), (by omega), (by omega), (fun _ => by omega), by rw [ht]; exact hP9, hD9⟩⟩, hS.F ht⟩) hS.2.2 dX10_passNumber_81
    · have c_2 : tva.toInt < 7 := cv_nle c_2
      refine lv_iload_n hx hb dX10_passNumber_23 rfl (lv_at hl 3 rfl) ?_
      refine lv_aload_n hx hb dX10_passNumber_24 rfl (lv_at hl 0 rfl) ?_
      refine va_get (D := (dC, dI)) (ci := 9) (v := .int tva) (C := RX10) (T := TX10) (N := 10) hx hb hts uinX10 hown hK hP 0 rfl rfl 8 (by decide) (hts _ wd_1_47) (fun _ h9 => h9) rfl dX10_passNumber_25 ?_
      refine lv_ishr hx hb dX10_passNumber_28 ?_
      refine lv_topi (fun x_24 ex_24 => ?_)
      refine lv_iconst (v := 1) hx hb dX10_passNumber_29 (by decide) ?_
      refine lv_iand hx hb dX10_passNumber_30 ?_
      refine lv_topi (fun x_25 ex_25 => ?_)
      have fx_25 : 0 ≤ x_25.toInt ∧ x_25.toInt ≤ 1 := by rw [ex_25]; exact cv_andR (by decide) (by decide)
      refine lv_if_eq (tgt := 38) hx hb dX10_passNumber_31 (by decide) (fun c_26 => ?_) (fun c_26 => ?_)
      · have c_26 : x_25.toInt = 0 := cv_eq c_26
        refine lv_iconst (v := 0) hx hb dX10_passNumber_38 (by decide) ?_
        refine lv_istore (lv' := [(4, .int 0), (0, .ref t0), (1, .int p0), (2, .int p1), (3, .int p2)]) hx hb dX10_passNumber_39 hl (by decide) rfl (fun ls hl => ?_)
        refine lv_aload_n hx hb dX10_passNumber_41 rfl (lv_at hl 1 rfl) ?_
        refine va_get (D := (dC, dI)) (ci := 9) (v := .int tva) (C := RX10) (T := TX10) (N := 10) hx hb hts uinX10 hown hK hP 0 rfl rfl 8 (by decide) (hts _ wd_1_47) (fun _ h9 => h9) rfl dX10_passNumber_42 ?_
        refine lv_iload_n hx hb dX10_passNumber_45 rfl (lv_at hl 2 rfl) ?_
        refine lv_icmp_lt (tgt := 62) hx hb dX10_passNumber_46 (by decide) (fun c_27 => ?_) (fun c_27 => ?_)
        · have c_27 : tva.toInt < p0.toInt := cv_lt c_27
          refine lv_aload_n hx hb dX10_passNumber_62 rfl (lv_at hl 1 rfl) ?_
          refine lv_iconst (v := 2) hx hb dX10_passNumber_63 (by decide) ?_
          have hPc := hP.sub (ws' := [(t0, .inr (9, [.ref tBytes, .int tsz, .int tfa, .int tfp, .int tnx, .int tki, .int tst, .int tsp, .int tva, .int tac])), (tBytes, .inl (cyB, 800, .inl t_f))]) [0, 1] rfl
          have hKc := hK.sub (tys' := [(cyI, .int), (cyB, .byte), (cyJ, .long), (cyZ, .boolean), (cyH, .object RX2), (cyN, .array .long)]) [0, 1, 2, 3, 4, 5] rfl
          have hDc := hD.sub (ws' := [(t0, .inr (9, [.ref tBytes, .int tsz, .int tfa, .int tfp, .int tnx, .int tki, .int tst, .int tsp, .int tva, .int tac])), (tBytes, .inl (cyB, 800, .inl t_f))]) [0, 1] (by decide) rfl
          have hFc := va_free (wc := [(t0, .inr (9, [.ref tBytes, .int tsz, .int tfa, .int tfp, .int tnx, .int tki, .int tst, .int tsp, .int tva, .int tac])), (tBytes, .inl (cyB, 800, .inl t_f))]) hD hS hA [0, 1] rfl
          refine va_calli (va_runV (As := [.int 2]) (rest := []) ⟨hx, hb, hml, hown, hts⟩ (n_refuse l dC dI cyI cyB cyJ cyZ cyH cyN H.size t0 tBytes tsz tfa tfp tnx tki tst tsp tva tac t_f 2 (by omega) (by omega) (by omega) (by omega) (by omega) (by omega)) (cwV 1 hts (gdV wd_2_224 wd_2_226 wd_s1_5 wd_1_2 wd_2_227) rfl rfl rfl (by decide +kernel) ⟨Nat.le_of_ble_eq_true rfl, Nat.le_of_ble_eq_true rfl⟩) ⟨fun a U g mk q => by obtain ⟨q0, q1, qP, qK, qD⟩ := q; exact ⟨q0, q1, qP, va_K.moved (u := U) (U := U.calling g mk a) (Vm.Alike.refl U.vm) qK, qD⟩, va_recv hKc hPc (ci := 9) (q0 := 0) rfl rfl, fun U hU hW => ⟨rfl, by rw [hU], by rw [hU]; exact hPc, va_K.moved hW.alike hKc, hDc.weaken (fun _ _ _ _ => trivial)⟩⟩ rfl rfl hl.1 rfl (lv_room (Nat.le_of_ble_eq_true rfl)) dX10_passNumber_64 ⟨Nat.le_of_ble_eq_true rfl, Nat.le_of_ble_eq_true rfl⟩) hS (fun q _ h => hFc q h) hFc (fun r_28 u t H1 locs ht hvm hw hB hz1 hk1 hS => ?_)
          obtain ⟨z0_29, z1_30, hp_31, hP1, hD1⟩ := hB
          rw [ht] at hP1
          obtain ⟨hP, hD⟩ := va_join (wr := []) (w1 := [(t0, .inr (9, [.ref tBytes, .int tsz, .int z0_29, .int z1_30, .int tnx, .int tki, .int tst, .int tsp, .int tva, .int tac])), (tBytes, .inl (cyB, 800, .inl t_f))]) hP hD [0, 1] [] rfl rfl (by decide) (by decide) hk1 hFc hP1 hD1
          generalize H1 = H at hP hS ⊢
          have hP : va_P (dC, dI) vwCl [(t0, .inr (9, [.ref tBytes, .int tsz, .int z0_29, .int z1_30, .int tnx, .int tki, .int tst, .int tsp, .int tva, .int tac])), (tBytes, .inl (cyB, 800, .inl t_f))] H := hP
          have hD : va_D A [(t0, .inr (9, [.ref tBytes, .int tsz, .int z0_29, .int z1_30, .int tnx, .int tki, .int tst, .int tsp, .int tva, .int tac])), (tBytes, .inl (cyB, 800, .inl t_f))] := hD
          subst hw
          rw [hQ9]
          have hP9 := hP.sub (ws' := [(t0, .inr (9, [.ref tBytes, .int tsz, .int z0_29, .int z1_30, .int tnx, .int tki, .int tst, .int tsp, .int tva, .int tac])), (tBytes, .inl (cyB, 800, .inl t_f))]) [0, 1] rfl
          have hD9 := hD.sub (ws' := [(t0, .inr (9, [.ref tBytes, .int tsz, .int z0_29, .int z1_30, .int tnx, .int tki, .int tst, .int tsp, .int tva, .int tac])), (tBytes, .inl (cyB, 800, .inl t_f))]) [0, 1] (by decide) rfl
          exact W.zret (v := 0) (ty := .boolean) hx hb hr rfl (fun t ht hW => ⟨⟨0, 0, rfl, ⟨rfl, (by decide)⟩, ⟨z0_29, z1_30, tnx, tki, tst, tsp, tva, tac, (by omega), (by omega), (by omega), (by omega), (by omega), (fun h9 => absurd h9 (by decide)), by rw [ht]; exact hP9, hD9⟩⟩, hS.F ht⟩) hS.2.2 dX10_passNumber_67
        · have c_27 : p0.toInt ≤ tva.toInt := cv_nlt c_27
          refine lv_aload_n hx hb dX10_passNumber_49 rfl (lv_at hl 1 rfl) ?_
          refine va_get (D := (dC, dI)) (ci := 9) (v := .int tva) (C := RX10) (T := TX10) (N := 10) hx hb hts uinX10 hown hK hP 0 rfl rfl 8 (by decide) (hts _ wd_1_47) (fun _ h9 => h9) rfl dX10_passNumber_50 ?_
          refine lv_iload_n hx hb dX10_passNumber_53 rfl (lv_at hl 3 rfl) ?_
          refine lv_icmp_gt (tgt := 62) hx hb dX10_passNumber_54 (by decide) (fun c_32 => ?_) (fun c_32 => ?_)
          · have c_32 : p1.toInt < tva.toInt := cv_lt c_32
            refine lv_aload_n hx hb dX10_passNumber_62 rfl (lv_at hl 1 rfl) ?_
            refine lv_iconst (v := 2) hx hb dX10_passNumber_63 (by decide) ?_
            have hPc := hP.sub (ws' := [(t0, .inr (9, [.ref tBytes, .int tsz, .int tfa, .int tfp, .int tnx, .int tki, .int tst, .int tsp, .int tva, .int tac])), (tBytes, .inl (cyB, 800, .inl t_f))]) [0, 1] rfl
            have hKc := hK.sub (tys' := [(cyI, .int), (cyB, .byte), (cyJ, .long), (cyZ, .boolean), (cyH, .object RX2), (cyN, .array .long)]) [0, 1, 2, 3, 4, 5] rfl
            have hDc := hD.sub (ws' := [(t0, .inr (9, [.ref tBytes, .int tsz, .int tfa, .int tfp, .int tnx, .int tki, .int tst, .int tsp, .int tva, .int tac])), (tBytes, .inl (cyB, 800, .inl t_f))]) [0, 1] (by decide) rfl
            have hFc := va_free (wc := [(t0, .inr (9, [.ref tBytes, .int tsz, .int tfa, .int tfp, .int tnx, .int tki, .int tst, .int tsp, .int tva, .int tac])), (tBytes, .inl (cyB, 800, .inl t_f))]) hD hS hA [0, 1] rfl
            refine va_calli (va_runV (As := [.int 2]) (rest := []) ⟨hx, hb, hml, hown, hts⟩ (n_refuse l dC dI cyI cyB cyJ cyZ cyH cyN H.size t0 tBytes tsz tfa tfp tnx tki tst tsp tva tac t_f 2 (by omega) (by omega) (by omega) (by omega) (by omega) (by omega)) (cwV 1 hts (gdV wd_2_224 wd_2_226 wd_s1_5 wd_1_2 wd_2_227) rfl rfl rfl (by decide +kernel) ⟨Nat.le_of_ble_eq_true rfl, Nat.le_of_ble_eq_true rfl⟩) ⟨fun a U g mk q => by obtain ⟨q0, q1, qP, qK, qD⟩ := q; exact ⟨q0, q1, qP, va_K.moved (u := U) (U := U.calling g mk a) (Vm.Alike.refl U.vm) qK, qD⟩, va_recv hKc hPc (ci := 9) (q0 := 0) rfl rfl, fun U hU hW => ⟨rfl, by rw [hU], by rw [hU]; exact hPc, va_K.moved hW.alike hKc, hDc.weaken (fun _ _ _ _ => trivial)⟩⟩ rfl rfl hl.1 rfl (lv_room (Nat.le_of_ble_eq_true rfl)) dX10_passNumber_64 ⟨Nat.le_of_ble_eq_true rfl, Nat.le_of_ble_eq_true rfl⟩) hS (fun q _ h => hFc q h) hFc (fun r_33 u t H1 locs ht hvm hw hB hz1 hk1 hS => ?_)
            obtain ⟨z0_34, z1_35, hp_36, hP1, hD1⟩ := hB
            rw [ht] at hP1
            obtain ⟨hP, hD⟩ := va_join (wr := []) (w1 := [(t0, .inr (9, [.ref tBytes, .int tsz, .int z0_34, .int z1_35, .int tnx, .int tki, .int tst, .int tsp, .int tva, .int tac])), (tBytes, .inl (cyB, 800, .inl t_f))]) hP hD [0, 1] [] rfl rfl (by decide) (by decide) hk1 hFc hP1 hD1
            generalize H1 = H at hP hS ⊢
            have hP : va_P (dC, dI) vwCl [(t0, .inr (9, [.ref tBytes, .int tsz, .int z0_34, .int z1_35, .int tnx, .int tki, .int tst, .int tsp, .int tva, .int tac])), (tBytes, .inl (cyB, 800, .inl t_f))] H := hP
            have hD : va_D A [(t0, .inr (9, [.ref tBytes, .int tsz, .int z0_34, .int z1_35, .int tnx, .int tki, .int tst, .int tsp, .int tva, .int tac])), (tBytes, .inl (cyB, 800, .inl t_f))] := hD
            subst hw
            rw [hQ9]
            have hP9 := hP.sub (ws' := [(t0, .inr (9, [.ref tBytes, .int tsz, .int z0_34, .int z1_35, .int tnx, .int tki, .int tst, .int tsp, .int tva, .int tac])), (tBytes, .inl (cyB, 800, .inl t_f))]) [0, 1] rfl
            have hD9 := hD.sub (ws' := [(t0, .inr (9, [.ref tBytes, .int tsz, .int z0_34, .int z1_35, .int tnx, .int tki, .int tst, .int tsp, .int tva, .int tac])), (tBytes, .inl (cyB, 800, .inl t_f))]) [0, 1] (by decide) rfl
            exact W.zret (v := 0) (ty := .boolean) hx hb hr rfl (fun t ht hW => ⟨⟨0, 0, rfl, ⟨rfl, (by decide)⟩, ⟨z0_34, z1_35, tnx, tki, tst, tsp, tva, tac, (by omega), (by omega), (by omega), (by omega), (by omega), (fun h9 => absurd h9 (by decide)), by rw [ht]; exact hP9, hD9⟩⟩, hS.F ht⟩) hS.2.2 dX10_passNumber_67
          · have c_32 : tva.toInt ≤ p1.toInt := cv_nlt c_32
            refine lv_iload hx hb dX10_passNumber_57 (lv_at hl 0 rfl) ?_
            refine lv_if_eq (tgt := 68) hx hb dX10_passNumber_59 (by decide) (fun _ => ?_) (fun c_37 => absurd c_37 (by decide))
            refine lv_aload_n hx hb dX10_passNumber_68 rfl (lv_at hl 1 rfl) ?_
            refine lv_aload_n hx hb dX10_passNumber_69 rfl (lv_at hl 1 rfl) ?_
            refine va_get (D := (dC, dI)) (ci := 9) (v := .int tva) (C := RX10) (T := TX10) (N := 10) hx hb hts uinX10 hown hK hP 0 rfl rfl 8 (by decide) (hts _ wd_1_47) (fun _ h9 => h9) rfl dX10_passNumber_70 ?_
            refine va_put (D := (dC, dI)) (ci := 9) (v := .int tva) (ty := .int) (C := RX10) (T := TX10) (N := 10) hx hb hts uinX10 tyX10 tyX10_ok nmX10 hown hK hP hD hS 0 rfl rfl 9 (by decide) (hts _ wd_1_48) (fun _ h9 => h9) rfl (by decide +kernel) rfl rfl (Nat.le_of_ble_eq_true rfl) dX10_passNumber_73 (fun H locs hP hD hS => ?_)
            have hP : va_P (dC, dI) vwCl [(t0, .inr (9, [.ref tBytes, .int tsz, .int tfa, .int tfp, .int tnx, .int tki, .int tst, .int tsp, .int tva, .int tva])), (tBytes, .inl (cyB, 800, .inl t_f))] H := hP
            have hD : va_D A [(t0, .inr (9, [.ref tBytes, .int tsz, .int tfa, .int tfp, .int tnx, .int tki, .int tst, .int tsp, .int tva, .int tva])), (tBytes, .inl (cyB, 800, .inl t_f))] := hD
            refine lv_aload_n hx hb dX10_passNumber_76 rfl (lv_at hl 1 rfl) ?_
            have hPc := hP.sub (ws' := [(t0, .inr (9, [.ref tBytes, .int tsz, .int tfa, .int tfp, .int tnx, .int tki, .int tst, .int tsp, .int tva, .int tva])), (tBytes, .inl (cyB, 800, .inl t_f))]) [0, 1] rfl
            have hKc := hK.sub (tys' := [(cyI, .int), (cyB, .byte), (cyJ, .long), (cyZ, .boolean), (cyH, .object RX2), (cyN, .array .long)]) [0, 1, 2, 3, 4, 5] rfl
            have hDc := hD.sub (ws' := [(t0, .inr (9, [.ref tBytes, .int tsz, .int tfa, .int tfp, .int tnx, .int tki, .int tst, .int tsp, .int tva, .int tva])), (tBytes, .inl (cyB, 800, .inl t_f))]) [0, 1] (by decide) rfl
            have hFc := va_free (wc := [(t0, .inr (9, [.ref tBytes, .int tsz, .int tfa, .int tfp, .int tnx, .int tki, .int tst, .int tsp, .int tva, .int tva])), (tBytes, .inl (cyB, 800, .inl t_f))]) hD hS hA [0, 1] rfl
            refine va_callv (va_runV (As := []) (rest := []) ⟨hx, hb, hml, hown, hts⟩ (n_readTok l dC dI cyI cyB cyJ cyZ cyH cyN H.size t0 tBytes tsz tfa tfp tnx tki tst tsp tva tva t_f (by omega) (by omega) (by omega) (by omega) (by omega) (by omega)) (cwV 0 hts (gdV wd_2_142 wd_2_144 wd_s1_0 wd_1_2 wd_2_145) rfl rfl rfl (by decide +kernel) ⟨Nat.le_of_ble_eq_true rfl, Nat.le_of_ble_eq_true rfl⟩) ⟨fun a U g mk q => by obtain ⟨q0, q1, qP, qK, qD⟩ := q; exact ⟨q0, q1, qP, va_K.moved (u := U) (U := U.calling g mk a) (Vm.Alike.refl U.vm) qK, qD⟩, va_recv hKc hPc (ci := 9) (q0 := 0) rfl rfl, fun U hU hW => ⟨rfl, by rw [hU], by rw [hU]; exact hPc, va_K.moved hW.alike hKc, hDc.weaken (fun _ _ _ _ => trivial)⟩⟩ rfl rfl hl.1 rfl (lv_room (Nat.le_of_ble_eq_true rfl)) dX10_passNumber_77 ⟨Nat.le_of_ble_eq_true rfl, Nat.le_of_ble_eq_true rfl⟩) hS (fun q _ h => hFc q h) hFc (fun  u t H1 locs ht hvm hw hB hz1 hk1 hS => ?_)
            obtain ⟨z0_38, z1_39, z2_40, z3_41, z4_42, hp_43, hp_44, hp_45, hp_46, hp_47, hP1, hD1⟩ := hB
            rw [ht] at hP1
            obtain ⟨hP, hD⟩ := va_join (wr := []) (w1 := [(t0, .inr (9, [.ref tBytes, .int tsz, .int tfa, .int tfp, .int z0_38, .int z1_39, .int z2_40, .int z3_41, .int z4_42, .int tva])), (tBytes, .inl (cyB, 800, .inl t_f))]) hP hD [0, 1] [] rfl rfl (by decide) (by decide) hk1 hFc hP1 hD1
            generalize H1 = H at hP hS ⊢
            have hP : va_P (dC, dI) vwCl [(t0, .inr (9, [.ref tBytes, .int tsz, .int tfa, .int tfp, .int z0_38, .int z1_39, .int z2_40, .int z3_41, .int z4_42, .int tva])), (tBytes, .inl (cyB, 800, .inl t_f))] H := hP
            have hD : va_D A [(t0, .inr (9, [.ref tBytes, .int tsz, .int tfa, .int tfp, .int z0_38, .int z1_39, .int z2_40, .int z3_41, .int z4_42, .int tva])), (tBytes, .inl (cyB, 800, .inl t_f))] := hD
            refine lv_iconst (v := 1) hx hb dX10_passNumber_80 (by decide) ?_
            rw [hQ9]
            have hP9 := hP.sub (ws' := [(t0, .inr (9, [.ref tBytes, .int tsz, .int tfa, .int tfp, .int z0_38, .int z1_39, .int z2_40, .int z3_41, .int z4_42, .int tva])), (tBytes, .inl (cyB, 800, .inl t_f))]) [0, 1] rfl
            have hD9 := hD.sub (ws' := [(t0, .inr (9, [.ref tBytes, .int tsz, .int tfa, .int tfp, .int z0_38, .int z1_39, .int z2_40, .int z3_41, .int z4_42, .int tva])), (tBytes, .inl (cyB, 800, .inl t_f))]) [0, 1] (by decide) rfl
            exact W.zret (v := 1) (ty := .boolean) hx hb hr rfl (fun t ht hW => ⟨⟨1, 1, rfl, ⟨rfl, (by decide)⟩, ⟨tfa, tfp, z0_38, z1_39, z2_40, z3_41, z4_42, tva, (by omega), (by omega), (by omega), (by omega), (by omega), (fun _ => by omega), by rw [ht]; exact hP9, hD9⟩⟩, hS.F ht⟩) hS.2.2 dX10_passNumber_81
      · have c_26 : x_25.toInt ≠ 0 := cv_ne c_26
        refine lv_iconst (v := 1) hx hb dX10_passNumber_34 (by decide) ?_
        refine lv_goto (tgt := 39) hx hb dX10_passNumber_35 (by decide) ?_
        refine lv_istore (lv' := [(4, .int 1), (0, .ref t0), (1, .int p0), (2, .int p1), (3, .int p2)]) hx hb dX10_passNumber_39 hl (by decide) rfl (fun ls hl => ?_)
        refine lv_aload_n hx hb dX10_passNumber_41 rfl (lv_at hl 1 rfl) ?_
        refine va_get (D := (dC, dI)) (ci := 9) (v := .int tva) (C := RX10) (T := TX10) (N := 10) hx hb hts uinX10 hown hK hP 0 rfl rfl 8 (by decide) (hts _ wd_1_47) (fun _ h9 => h9) rfl dX10_passNumber_42 ?_
        refine lv_iload_n hx hb dX10_passNumber_45 rfl (lv_at hl 2 rfl) ?_
        refine lv_icmp_lt (tgt := 62) hx hb dX10_passNumber_46 (by decide) (fun c_48 => ?_) (fun c_48 => ?_)
        · have c_48 : tva.toInt < p0.toInt := cv_lt c_48
          refine lv_aload_n hx hb dX10_passNumber_62 rfl (lv_at hl 1 rfl) ?_
          refine lv_iconst (v := 2) hx hb dX10_passNumber_63 (by decide) ?_
          have hPc := hP.sub (ws' := [(t0, .inr (9, [.ref tBytes, .int tsz, .int tfa, .int tfp, .int tnx, .int tki, .int tst, .int tsp, .int tva, .int tac])), (tBytes, .inl (cyB, 800, .inl t_f))]) [0, 1] rfl
          have hKc := hK.sub (tys' := [(cyI, .int), (cyB, .byte), (cyJ, .long), (cyZ, .boolean), (cyH, .object RX2), (cyN, .array .long)]) [0, 1, 2, 3, 4, 5] rfl
          have hDc := hD.sub (ws' := [(t0, .inr (9, [.ref tBytes, .int tsz, .int tfa, .int tfp, .int tnx, .int tki, .int tst, .int tsp, .int tva, .int tac])), (tBytes, .inl (cyB, 800, .inl t_f))]) [0, 1] (by decide) rfl
          have hFc := va_free (wc := [(t0, .inr (9, [.ref tBytes, .int tsz, .int tfa, .int tfp, .int tnx, .int tki, .int tst, .int tsp, .int tva, .int tac])), (tBytes, .inl (cyB, 800, .inl t_f))]) hD hS hA [0, 1] rfl
          refine va_calli (va_runV (As := [.int 2]) (rest := []) ⟨hx, hb, hml, hown, hts⟩ (n_refuse l dC dI cyI cyB cyJ cyZ cyH cyN H.size t0 tBytes tsz tfa tfp tnx tki tst tsp tva tac t_f 2 (by omega) (by omega) (by omega) (by omega) (by omega) (by omega)) (cwV 1 hts (gdV wd_2_224 wd_2_226 wd_s1_5 wd_1_2 wd_2_227) rfl rfl rfl (by decide +kernel) ⟨Nat.le_of_ble_eq_true rfl, Nat.le_of_ble_eq_true rfl⟩) ⟨fun a U g mk q => by obtain ⟨q0, q1, qP, qK, qD⟩ := q; exact ⟨q0, q1, qP, va_K.moved (u := U) (U := U.calling g mk a) (Vm.Alike.refl U.vm) qK, qD⟩, va_recv hKc hPc (ci := 9) (q0 := 0) rfl rfl, fun U hU hW => ⟨rfl, by rw [hU], by rw [hU]; exact hPc, va_K.moved hW.alike hKc, hDc.weaken (fun _ _ _ _ => trivial)⟩⟩ rfl rfl hl.1 rfl (lv_room (Nat.le_of_ble_eq_true rfl)) dX10_passNumber_64 ⟨Nat.le_of_ble_eq_true rfl, Nat.le_of_ble_eq_true rfl⟩) hS (fun q _ h => hFc q h) hFc (fun r_49 u t H1 locs ht hvm hw hB hz1 hk1 hS => ?_)
          obtain ⟨z0_50, z1_51, hp_52, hP1, hD1⟩ := hB
          rw [ht] at hP1
          obtain ⟨hP, hD⟩ := va_join (wr := []) (w1 := [(t0, .inr (9, [.ref tBytes, .int tsz, .int z0_50, .int z1_51, .int tnx, .int tki, .int tst, .int tsp, .int tva, .int tac])), (tBytes, .inl (cyB, 800, .inl t_f))]) hP hD [0, 1] [] rfl rfl (by decide) (by decide) hk1 hFc hP1 hD1
          generalize H1 = H at hP hS ⊢
          have hP : va_P (dC, dI) vwCl [(t0, .inr (9, [.ref tBytes, .int tsz, .int z0_50, .int z1_51, .int tnx, .int tki, .int tst, .int tsp, .int tva, .int tac])), (tBytes, .inl (cyB, 800, .inl t_f))] H := hP
          have hD : va_D A [(t0, .inr (9, [.ref tBytes, .int tsz, .int z0_50, .int z1_51, .int tnx, .int tki, .int tst, .int tsp, .int tva, .int tac])), (tBytes, .inl (cyB, 800, .inl t_f))] := hD
          subst hw
          rw [hQ9]
          have hP9 := hP.sub (ws' := [(t0, .inr (9, [.ref tBytes, .int tsz, .int z0_50, .int z1_51, .int tnx, .int tki, .int tst, .int tsp, .int tva, .int tac])), (tBytes, .inl (cyB, 800, .inl t_f))]) [0, 1] rfl
          have hD9 := hD.sub (ws' := [(t0, .inr (9, [.ref tBytes, .int tsz, .int z0_50, .int z1_51, .int tnx, .int tki, .int tst, .int tsp, .int tva, .int tac])), (tBytes, .inl (cyB, 800, .inl t_f))]) [0, 1] (by decide) rfl
          exact W.zret (v := 0) (ty := .boolean) hx hb hr rfl (fun t ht hW => ⟨⟨0, 0, rfl, ⟨rfl, (by decide)⟩, ⟨z0_50, z1_51, tnx, tki, tst, tsp, tva, tac, (by omega), (by omega), (by omega), (by omega), (by omega), (fun h9 => absurd h9 (by decide)), by rw [ht]; exact hP9, hD9⟩⟩, hS.F ht⟩) hS.2.2 dX10_passNumber_67
        · have c_48 : p0.toInt ≤ tva.toInt := cv_nlt c_48
          refine lv_aload_n hx hb dX10_passNumber_49 rfl (lv_at hl 1 rfl) ?_
          refine va_get (D := (dC, dI)) (ci := 9) (v := .int tva) (C := RX10) (T := TX10) (N := 10) hx hb hts uinX10 hown hK hP 0 rfl rfl 8 (by decide) (hts _ wd_1_47) (fun _ h9 => h9) rfl dX10_passNumber_50 ?_
          refine lv_iload_n hx hb dX10_passNumber_53 rfl (lv_at hl 3 rfl) ?_
          refine lv_icmp_gt (tgt := 62) hx hb dX10_passNumber_54 (by decide) (fun c_53 => ?_) (fun c_53 => ?_)
          · have c_53 : p1.toInt < tva.toInt := cv_lt c_53
            refine lv_aload_n hx hb dX10_passNumber_62 rfl (lv_at hl 1 rfl) ?_
            refine lv_iconst (v := 2) hx hb dX10_passNumber_63 (by decide) ?_
            have hPc := hP.sub (ws' := [(t0, .inr (9, [.ref tBytes, .int tsz, .int tfa, .int tfp, .int tnx, .int tki, .int tst, .int tsp, .int tva, .int tac])), (tBytes, .inl (cyB, 800, .inl t_f))]) [0, 1] rfl
            have hKc := hK.sub (tys' := [(cyI, .int), (cyB, .byte), (cyJ, .long), (cyZ, .boolean), (cyH, .object RX2), (cyN, .array .long)]) [0, 1, 2, 3, 4, 5] rfl
            have hDc := hD.sub (ws' := [(t0, .inr (9, [.ref tBytes, .int tsz, .int tfa, .int tfp, .int tnx, .int tki, .int tst, .int tsp, .int tva, .int tac])), (tBytes, .inl (cyB, 800, .inl t_f))]) [0, 1] (by decide) rfl
            have hFc := va_free (wc := [(t0, .inr (9, [.ref tBytes, .int tsz, .int tfa, .int tfp, .int tnx, .int tki, .int tst, .int tsp, .int tva, .int tac])), (tBytes, .inl (cyB, 800, .inl t_f))]) hD hS hA [0, 1] rfl
            refine va_calli (va_runV (As := [.int 2]) (rest := []) ⟨hx, hb, hml, hown, hts⟩ (n_refuse l dC dI cyI cyB cyJ cyZ cyH cyN H.size t0 tBytes tsz tfa tfp tnx tki tst tsp tva tac t_f 2 (by omega) (by omega) (by omega) (by omega) (by omega) (by omega)) (cwV 1 hts (gdV wd_2_224 wd_2_226 wd_s1_5 wd_1_2 wd_2_227) rfl rfl rfl (by decide +kernel) ⟨Nat.le_of_ble_eq_true rfl, Nat.le_of_ble_eq_true rfl⟩) ⟨fun a U g mk q => by obtain ⟨q0, q1, qP, qK, qD⟩ := q; exact ⟨q0, q1, qP, va_K.moved (u := U) (U := U.calling g mk a) (Vm.Alike.refl U.vm) qK, qD⟩, va_recv hKc hPc (ci := 9) (q0 := 0) rfl rfl, fun U hU hW => ⟨rfl, by rw [hU], by rw [hU]; exact hPc, va_K.moved hW.alike hKc, hDc.weaken (fun _ _ _ _ => trivial)⟩⟩ rfl rfl hl.1 rfl (lv_room (Nat.le_of_ble_eq_true rfl)) dX10_passNumber_64 ⟨Nat.le_of_ble_eq_true rfl, Nat.le_of_ble_eq_true rfl⟩) hS (fun q _ h => hFc q h) hFc (fun r_54 u t H1 locs ht hvm hw hB hz1 hk1 hS => ?_)
            obtain ⟨z0_55, z1_56, hp_57, hP1, hD1⟩ := hB
            rw [ht] at hP1
            obtain ⟨hP, hD⟩ := va_join (wr := []) (w1 := [(t0, .inr (9, [.ref tBytes, .int tsz, .int z0_55, .int z1_56, .int tnx, .int tki, .int tst, .int tsp, .int tva, .int tac])), (tBytes, .inl (cyB, 800, .inl t_f))]) hP hD [0, 1] [] rfl rfl (by decide) (by decide) hk1 hFc hP1 hD1
            generalize H1 = H at hP hS ⊢
            have hP : va_P (dC, dI) vwCl [(t0, .inr (9, [.ref tBytes, .int tsz, .int z0_55, .int z1_56, .int tnx, .int tki, .int tst, .int tsp, .int tva, .int tac])), (tBytes, .inl (cyB, 800, .inl t_f))] H := hP
            have hD : va_D A [(t0, .inr (9, [.ref tBytes, .int tsz, .int z0_55, .int z1_56, .int tnx, .int tki, .int tst, .int tsp, .int tva, .int tac])), (tBytes, .inl (cyB, 800, .inl t_f))] := hD
            subst hw
            rw [hQ9]
            have hP9 := hP.sub (ws' := [(t0, .inr (9, [.ref tBytes, .int tsz, .int z0_55, .int z1_56, .int tnx, .int tki, .int tst, .int tsp, .int tva, .int tac])), (tBytes, .inl (cyB, 800, .inl t_f))]) [0, 1] rfl
            have hD9 := hD.sub (ws' := [(t0, .inr (9, [.ref tBytes, .int tsz, .int z0_55, .int z1_56, .int tnx, .int tki, .int tst, .int tsp, .int tva, .int tac])), (tBytes, .inl (cyB, 800, .inl t_f))]) [0, 1] (by decide) rfl
            exact W.zret (v := 0) (ty := .boolean) hx hb hr rfl (fun t ht hW => ⟨⟨0, 0, rfl, ⟨rfl, (by decide)⟩, ⟨z0_55, z1_56, tnx, tki, tst, tsp, tva, tac, (by omega), (by omega), (by omega), (by omega), (by omega), (fun h9 => absurd h9 (by decide)), by rw [ht]; exact hP9, hD9⟩⟩, hS.F ht⟩) hS.2.2 dX10_passNumber_67
          · have c_53 : tva.toInt ≤ p1.toInt := cv_nlt c_53
            refine lv_iload hx hb dX10_passNumber_57 (lv_at hl 0 rfl) ?_
            refine lv_if_eq (tgt := 68) hx hb dX10_passNumber_59 (by decide) (fun c_58 => absurd c_58 (by decide)) (fun _ => ?_)
            refine lv_aload_n hx hb dX10_passNumber_62 rfl (lv_at hl 1 rfl) ?_
            refine lv_iconst (v := 2) hx hb dX10_passNumber_63 (by decide) ?_
            have hPc := hP.sub (ws' := [(t0, .inr (9, [.ref tBytes, .int tsz, .int tfa, .int tfp, .int tnx, .int tki, .int tst, .int tsp, .int tva, .int tac])), (tBytes, .inl (cyB, 800, .inl t_f))]) [0, 1] rfl
            have hKc := hK.sub (tys' := [(cyI, .int), (cyB, .byte), (cyJ, .long), (cyZ, .boolean), (cyH, .object RX2), (cyN, .array .long)]) [0, 1, 2, 3, 4, 5] rfl
            have hDc := hD.sub (ws' := [(t0, .inr (9, [.ref tBytes, .int tsz, .int tfa, .int tfp, .int tnx, .int tki, .int tst, .int tsp, .int tva, .int tac])), (tBytes, .inl (cyB, 800, .inl t_f))]) [0, 1] (by decide) rfl
            have hFc := va_free (wc := [(t0, .inr (9, [.ref tBytes, .int tsz, .int tfa, .int tfp, .int tnx, .int tki, .int tst, .int tsp, .int tva, .int tac])), (tBytes, .inl (cyB, 800, .inl t_f))]) hD hS hA [0, 1] rfl
            refine va_calli (va_runV (As := [.int 2]) (rest := []) ⟨hx, hb, hml, hown, hts⟩ (n_refuse l dC dI cyI cyB cyJ cyZ cyH cyN H.size t0 tBytes tsz tfa tfp tnx tki tst tsp tva tac t_f 2 (by omega) (by omega) (by omega) (by omega) (by omega) (by omega)) (cwV 1 hts (gdV wd_2_224 wd_2_226 wd_s1_5 wd_1_2 wd_2_227) rfl rfl rfl (by decide +kernel) ⟨Nat.le_of_ble_eq_true rfl, Nat.le_of_ble_eq_true rfl⟩) ⟨fun a U g mk q => by obtain ⟨q0, q1, qP, qK, qD⟩ := q; exact ⟨q0, q1, qP, va_K.moved (u := U) (U := U.calling g mk a) (Vm.Alike.refl U.vm) qK, qD⟩, va_recv hKc hPc (ci := 9) (q0 := 0) rfl rfl, fun U hU hW => ⟨rfl, by rw [hU], by rw [hU]; exact hPc, va_K.moved hW.alike hKc, hDc.weaken (fun _ _ _ _ => trivial)⟩⟩ rfl rfl hl.1 rfl (lv_room (Nat.le_of_ble_eq_true rfl)) dX10_passNumber_64 ⟨Nat.le_of_ble_eq_true rfl, Nat.le_of_ble_eq_true rfl⟩) hS (fun q _ h => hFc q h) hFc (fun r_59 u t H1 locs ht hvm hw hB hz1 hk1 hS => ?_)
            obtain ⟨z0_60, z1_61, hp_62, hP1, hD1⟩ := hB
            rw [ht] at hP1
            obtain ⟨hP, hD⟩ := va_join (wr := []) (w1 := [(t0, .inr (9, [.ref tBytes, .int tsz, .int z0_60, .int z1_61, .int tnx, .int tki, .int tst, .int tsp, .int tva, .int tac])), (tBytes, .inl (cyB, 800, .inl t_f))]) hP hD [0, 1] [] rfl rfl (by decide) (by decide) hk1 hFc hP1 hD1
            generalize H1 = H at hP hS ⊢
            have hP : va_P (dC, dI) vwCl [(t0, .inr (9, [.ref tBytes, .int tsz, .int z0_60, .int z1_61, .int tnx, .int tki, .int tst, .int tsp, .int tva, .int tac])), (tBytes, .inl (cyB, 800, .inl t_f))] H := hP
            have hD : va_D A [(t0, .inr (9, [.ref tBytes, .int tsz, .int z0_60, .int z1_61, .int tnx, .int tki, .int tst, .int tsp, .int tva, .int tac])), (tBytes, .inl (cyB, 800, .inl t_f))] := hD
            subst hw
            rw [hQ9]
            have hP9 := hP.sub (ws' := [(t0, .inr (9, [.ref tBytes, .int tsz, .int z0_60, .int z1_61, .int tnx, .int tki, .int tst, .int tsp, .int tva, .int tac])), (tBytes, .inl (cyB, 800, .inl t_f))]) [0, 1] rfl
            have hD9 := hD.sub (ws' := [(t0, .inr (9, [.ref tBytes, .int tsz, .int z0_60, .int z1_61, .int tnx, .int tki, .int tst, .int tsp, .int tva, .int tac])), (tBytes, .inl (cyB, 800, .inl t_f))]) [0, 1] (by decide) rfl
            exact W.zret (v := 0) (ty := .boolean) hx hb hr rfl (fun t ht hW => ⟨⟨0, 0, rfl, ⟨rfl, (by decide)⟩, ⟨z0_60, z1_61, tnx, tki, tst, tsp, tva, tac, (by omega), (by omega), (by omega), (by omega), (by omega), (fun h9 => absurd h9 (by decide)), by rw [ht]; exact hP9, hD9⟩⟩, hS.F ht⟩) hS.2.2 dX10_passNumber_67
  · have c_1 : tki.toInt ≠ 2 := cv_ne c_1
    refine lv_aload_n hx hb dX10_passNumber_8 rfl (lv_at hl 0 rfl) ?_
    refine lv_iconst (v := 1) hx hb dX10_passNumber_9 (by decide) ?_
    have hPc := hP.sub (ws' := [(t0, .inr (9, [.ref tBytes, .int tsz, .int tfa, .int tfp, .int tnx, .int tki, .int tst, .int tsp, .int tva, .int tac])), (tBytes, .inl (cyB, 800, .inl t_f))]) [0, 1] rfl
    have hKc := hK.sub (tys' := [(cyI, .int), (cyB, .byte), (cyJ, .long), (cyZ, .boolean), (cyH, .object RX2), (cyN, .array .long)]) [0, 1, 2, 3, 4, 5] rfl
    have hDc := hD.sub (ws' := [(t0, .inr (9, [.ref tBytes, .int tsz, .int tfa, .int tfp, .int tnx, .int tki, .int tst, .int tsp, .int tva, .int tac])), (tBytes, .inl (cyB, 800, .inl t_f))]) [0, 1] (by decide) rfl
    have hFc := va_free (wc := [(t0, .inr (9, [.ref tBytes, .int tsz, .int tfa, .int tfp, .int tnx, .int tki, .int tst, .int tsp, .int tva, .int tac])), (tBytes, .inl (cyB, 800, .inl t_f))]) hD hS hA [0, 1] rfl
    refine va_calli (va_runV (As := [.int 1]) (rest := []) ⟨hx, hb, hml, hown, hts⟩ (n_refuse l dC dI cyI cyB cyJ cyZ cyH cyN H.size t0 tBytes tsz tfa tfp tnx tki tst tsp tva tac t_f 1 (by omega) (by omega) (by omega) (by omega) (by omega) (by omega)) (cwV 1 hts (gdV wd_2_224 wd_2_226 wd_s1_5 wd_1_2 wd_2_227) rfl rfl rfl (by decide +kernel) ⟨Nat.le_of_ble_eq_true rfl, Nat.le_of_ble_eq_true rfl⟩) ⟨fun a U g mk q => by obtain ⟨q0, q1, qP, qK, qD⟩ := q; exact ⟨q0, q1, qP, va_K.moved (u := U) (U := U.calling g mk a) (Vm.Alike.refl U.vm) qK, qD⟩, va_recv hKc hPc (ci := 9) (q0 := 0) rfl rfl, fun U hU hW => ⟨rfl, by rw [hU], by rw [hU]; exact hPc, va_K.moved hW.alike hKc, hDc.weaken (fun _ _ _ _ => trivial)⟩⟩ rfl rfl hl.1 rfl (lv_room (Nat.le_of_ble_eq_true rfl)) dX10_passNumber_10 ⟨Nat.le_of_ble_eq_true rfl, Nat.le_of_ble_eq_true rfl⟩) hS (fun q _ h => hFc q h) hFc (fun r_63 u t H1 locs ht hvm hw hB hz1 hk1 hS => ?_)
    obtain ⟨z0_64, z1_65, hp_66, hP1, hD1⟩ := hB
    rw [ht] at hP1
    obtain ⟨hP, hD⟩ := va_join (wr := []) (w1 := [(t0, .inr (9, [.ref tBytes, .int tsz, .int z0_64, .int z1_65, .int tnx, .int tki, .int tst, .int tsp, .int tva, .int tac])), (tBytes, .inl (cyB, 800, .inl t_f))]) hP hD [0, 1] [] rfl rfl (by decide) (by decide) hk1 hFc hP1 hD1
    generalize H1 = H at hP hS ⊢
    have hP : va_P (dC, dI) vwCl [(t0, .inr (9, [.ref tBytes, .int tsz, .int z0_64, .int z1_65, .int tnx, .int tki, .int tst, .int tsp, .int tva, .int tac])), (tBytes, .inl (cyB, 800, .inl t_f))] H := hP
    have hD : va_D A [(t0, .inr (9, [.ref tBytes, .int tsz, .int z0_64, .int z1_65, .int tnx, .int tki, .int tst, .int tsp, .int tva, .int tac])), (tBytes, .inl (cyB, 800, .inl t_f))] := hD
    subst hw
    rw [hQ9]
    have hP9 := hP.sub (ws' := [(t0, .inr (9, [.ref tBytes, .int tsz, .int z0_64, .int z1_65, .int tnx, .int tki, .int tst, .int tsp, .int tva, .int tac])), (tBytes, .inl (cyB, 800, .inl t_f))]) [0, 1] rfl
    have hD9 := hD.sub (ws' := [(t0, .inr (9, [.ref tBytes, .int tsz, .int z0_64, .int z1_65, .int tnx, .int tki, .int tst, .int tsp, .int tva, .int tac])), (tBytes, .inl (cyB, 800, .inl t_f))]) [0, 1] (by decide) rfl
    exact W.zret (v := 0) (ty := .boolean) hx hb hr rfl (fun t ht hW => ⟨⟨0, 0, rfl, ⟨rfl, (by decide)⟩, ⟨z0_64, z1_65, tnx, tki, tst, tsp, tva, tac, (by omega), (by omega), (by omega), (by omega), (by omega), (fun h9 => absurd h9 (by decide)), by rw [ht]; exact hP9, hD9⟩⟩, hS.F ht⟩) hS.2.2 dX10_passNumber_13

/- X10_isWord -/
set_option maxHeartbeats 4000000 in
set_option maxRecDepth 100000 in
theorem n_isWord (l : Launch) (dC : Nat → ClassId) (dI : Nat → Nat → Nat) (cyI cyB cyJ cyZ cyH cyN : ClassId) (tR tF : Nat) (aK aV : Nat → Nat) (sz : Nat) (si t0 tBytes : Nat) (tsz tfa tfp tnx tki tst tsp tva tac : Int32) (t_f : Nat → Int32) (g0 : 0 ≤ tsz.toInt ∧ tsz.toInt ≤ 800) (g1 : 0 ≤ tnx.toInt ∧ tnx.toInt ≤ 800) (g2 : 0 ≤ tst.toInt ∧ tst.toInt ≤ 800) (g3 : 0 ≤ tsp.toInt ∧ tsp.toInt ≤ 800) (g4 : 0 ≤ tva.toInt ∧ tva.toInt ≤ 1000000) (g5 : 0 ≤ tac.toInt ∧ tac.toInt ≤ 1000000) (g6 : si < 10) : Met l yX10_isWord (wk yX10_isWord cX10_isWord 3 (some .boolean)) ({ frames := 5, cells := 0, slots := 0, locals := 145 }) (va_Pc [.ref t0, .ref (aK si)] (fun U => U.heap.size = sz ∧ va_P (dC, dI) vwCl [(t0, .inr (9, [.ref tBytes, .int tsz, .int tfa, .int tfp, .int tnx, .int tki, .int tst, .int tsp, .int tva, .int tac])), (tBytes, .inl (cyB, 800, .inl t_f))] U.heap ∧ va_K (dC, dI) vwCl [(cyI, .int), (cyB, .byte), (cyJ, .long), (cyZ, .boolean), (cyH, .object RX2), (cyN, .array .long)] U ∧ va_D (fun _ => True) [(t0, .inr (9, [.ref tBytes, .int tsz, .int tfa, .int tfp, .int tnx, .int tki, .int tst, .int tsp, .int tva, .int tac])), (tBytes, .inl (cyB, 800, .inl t_f))] ∧ cv_FX tR tF aK aV (va_A [(t0, .inr (9, [.ref tBytes, .int tsz, .int tfa, .int tfp, .int tnx, .int tki, .int tst, .int tsp, .int tva, .int tac])), (tBytes, .inl (cyB, 800, .inl t_f))] sz) U U.heap)) (va_Qi (fun (r : Int32) (_ : Unit) => 0 ≤ r.toInt ∧ r.toInt ≤ 1) (fun (_ : Unit) (t : State) => va_P (dC, dI) vwCl [(t0, .inr (9, [.ref tBytes, .int tsz, .int tfa, .int tfp, .int tnx, .int tki, .int tst, .int tsp, .int tva, .int tac])), (tBytes, .inl (cyB, 800, .inl t_f))] t.heap ∧ va_D (va_A [(t0, .inr (9, [.ref tBytes, .int tsz, .int tfa, .int tfp, .int tnx, .int tki, .int tst, .int tsp, .int tva, .int tac])), (tBytes, .inl (cyB, 800, .inl t_f))] sz) [(t0, .inr (9, [.ref tBytes, .int tsz, .int tfa, .int tfp, .int tnx, .int tki, .int tst, .int tsp, .int tva, .int tac])), (tBytes, .inl (cyB, 800, .inl t_f))]) (va_A [(t0, .inr (9, [.ref tBytes, .int tsz, .int tfa, .int tfp, .int tnx, .int tki, .int tst, .int tsp, .int tva, .int tac])), (tBytes, .inl (cyB, 800, .inl t_f))] sz)) 0 0 (va_A [(t0, .inr (9, [.ref tBytes, .int tsz, .int tfa, .int tfp, .int tnx, .int tki, .int tst, .int tsp, .int tva, .int tac])), (tBytes, .inl (cyB, 800, .inl t_f))] sz) := by
  refine Met.ofW (cc := cX10_isWord) (maxL := 3) (ret := (some .boolean)) (by decide) rfl ?_
  intro p e s m args below meth c s₁ B hml hv
  obtain ⟨rfl, hsz, hP, hK, hD0, hFX⟩ := hv
  have hx := B.exec
  have hb := B.bytes
  have hr := B.returns
  have hts : ∀ w ∈ uU, w.before ([.ref t0, .ref (aK si)] : List Value).toArray s = true := fun w h => atoms_spec (ws := wk yX10_isWord cX10_isWord 3 (some .boolean)) B.pre w (List.mem_cons_of_mem _ h)
  have hown : s.vm.findClass RX10 = some m.cls := findClass_of_methodNamed B.named
  have hlocks := B.notSynchronized
  subst hsz
  have hD := hD0.self (sz := s.heap.size)
  generalize hAe : va_A [(t0, .inr (9, [.ref tBytes, .int tsz, .int tfa, .int tfp, .int tnx, .int tki, .int tst, .int tsp, .int tva, .int tac])), (tBytes, .inl (cyB, 800, .inl t_f))] s.heap.size = A at hD hFX ⊢
  have hA : ∀ q : Nat, s.heap.size ≤ q → A q := fun q h => by rw [← hAe]; exact Or.inr h
  have hS : va_S A s.heap s.heap [] := va_S.rf
  have hP : va_P (dC, dI) vwCl [(t0, .inr (9, [.ref tBytes, .int tsz, .int tfa, .int tfp, .int tnx, .int tki, .int tst, .int tsp, .int tva, .int tac])), (tBytes, .inl (cyB, 800, .inl t_f))] s.heap := hP
  have hl := lv_entry ([.ref t0, .ref (aK si)]) (n := 3) (Nat.le_of_ble_eq_true rfl)
  rw [lg_entry_eq]
  generalize (lg_sl ([.ref t0, .ref (aK si)]) ++ List.replicate (3 - (lg_sl ([.ref t0, .ref (aK si)])).length) Slot.unset).toArray = ls at hl ⊢
  have hl : lv_has ls 3 [(0, .ref t0), (1, .ref (aK si))] := hl
  obtain ⟨H, hHe⟩ : ∃ H, H = s.heap := ⟨_, rfl⟩
  have hP : va_P (dC, dI) vwCl [(t0, .inr (9, [.ref tBytes, .int tsz, .int tfa, .int tfp, .int tnx, .int tki, .int tst, .int tsp, .int tva, .int tac])), (tBytes, .inl (cyB, 800, .inl t_f))] H := by rw [hHe]; exact hP
  have hS : va_S A s.heap H [] := by rw [hHe]; exact hS
  refine cv_heap hHe ?_
  obtain ⟨Q9, hQ9⟩ : ∃ Q9 : State → Prop, Q9 = MQ below (va_Qi (fun (r : Int32) (_ : Unit) => 0 ≤ r.toInt ∧ r.toInt ≤ 1) (fun (_ : Unit) (t : State) => va_P (dC, dI) vwCl [(t0, .inr (9, [.ref tBytes, .int tsz, .int tfa, .int tfp, .int tnx, .int tki, .int tst, .int tsp, .int tva, .int tac])), (tBytes, .inl (cyB, 800, .inl t_f))] t.heap ∧ va_D A [(t0, .inr (9, [.ref tBytes, .int tsz, .int tfa, .int tfp, .int tnx, .int tki, .int tst, .int tsp, .int tva, .int tac])), (tBytes, .inl (cyB, 800, .inl t_f))]) A) ([.ref t0, .ref (aK si)] : List Value).toArray s 0 0 A := ⟨_, rfl⟩
  rw [← hQ9]
  have hst := hFX.2.2.2.2.2.2.2.2.1.1 si g6
  have hsl := fx_len g6
  have hsn := fx_lenN g6
  refine lv_aload_n hx hb dX10_isWord_0 rfl (lv_at hl 0 rfl) ?_
  refine va_get (D := (dC, dI)) (ci := 9) (v := .int tki) (C := RX10) (T := TX10) (N := 10) hx hb hts uinX10 hown hK hP 0 rfl rfl 5 (by decide) (hts _ wd_1_44) (fun _ h9 => h9) rfl dX10_isWord_1 ?_
  refine lv_iconst (v := 1) hx hb dX10_isWord_4 (by decide) ?_
  refine lv_icmp_ne (tgt := 24) hx hb dX10_isWord_5 (by decide) (fun c_1 => ?_) (fun c_1 => ?_)
  · have c_1 : tki.toInt ≠ 1 := cv_ne c_1
    refine lv_iconst (v := 0) hx hb dX10_isWord_24 (by decide) ?_
    rw [hQ9]
    have hP9 := hP.sub (ws' := [(t0, .inr (9, [.ref tBytes, .int tsz, .int tfa, .int tfp, .int tnx, .int tki, .int tst, .int tsp, .int tva, .int tac])), (tBytes, .inl (cyB, 800, .inl t_f))]) [0, 1] rfl
    have hD9 := hD.sub (ws' := [(t0, .inr (9, [.ref tBytes, .int tsz, .int tfa, .int tfp, .int tnx, .int tki, .int tst, .int tsp, .int tva, .int tac])), (tBytes, .inl (cyB, 800, .inl t_f))]) [0, 1] (by decide) rfl
    exact W.zret (v := 0) (ty := .boolean) hx hb hr rfl (fun t ht hW => ⟨⟨0, (), rfl, (by decide), ⟨by rw [ht]; exact hP9, hD9⟩⟩, hS.F ht⟩) hS.2.2 dX10_isWord_25
  · have c_1 : tki.toInt = 1 := cv_eq c_1
    refine lv_aload_n hx hb dX10_isWord_8 rfl (lv_at hl 0 rfl) ?_
    refine va_get (D := (dC, dI)) (ci := 9) (v := .int tsp) (C := RX10) (T := TX10) (N := 10) hx hb hts uinX10 hown hK hP 0 rfl rfl 7 (by decide) (hts _ wd_1_46) (fun _ h9 => h9) rfl dX10_isWord_9 ?_
    refine lv_aload_n hx hb dX10_isWord_12 rfl (lv_at hl 0 rfl) ?_
    refine va_get (D := (dC, dI)) (ci := 9) (v := .int tst) (C := RX10) (T := TX10) (N := 10) hx hb hts uinX10 hown hK hP 0 rfl rfl 6 (by decide) (hts _ wd_1_45) (fun _ h9 => h9) rfl dX10_isWord_13 ?_
    refine lv_isub hx hb dX10_isWord_16 ?_
    refine lv_topi (fun x_2 ex_2 => ?_)
    have fx_2 : x_2.toInt = tsp.toInt - tst.toInt := by rw [ex_2]; exact cv_subI (by omega) (by omega)
    refine lv_aload_n hx hb dX10_isWord_17 rfl (lv_at hl 1 rfl) ?_
    have hPc := hP.sub (ws' := []) [] rfl
    have hKc := hK.sub (tys' := [(cyI, .int), (cyB, .byte), (cyJ, .long), (cyZ, .boolean), (cyH, .object RX2), (cyN, .array .long)]) [0, 1, 2, 3, 4, 5] rfl
    have hDc := hD.sub (ws' := []) [] (by decide) rfl
    have hFc := va_free (wc := []) hD hS hA [] rfl
    refine va_calli (va_runV (As := []) (rest := [.int x_2]) ⟨hx, hb, hml, hown, hts⟩ (n_length l dC dI cyI cyB cyJ cyZ cyH cyN tR tF aK aV H.size si g6) (cwV 0 hts (gdV wd_2_176 wd_2_177 wd_2_178 wd_1_14 wd_2_179) rfl rfl rfl (by decide +kernel) ⟨Nat.le_of_ble_eq_true rfl, Nat.le_of_ble_eq_true rfl⟩) ⟨fun a U g mk q => by obtain ⟨q0, q1, qP, qK, qD, qF⟩ := q; exact ⟨q0, q1, qP, va_K.moved (u := U) (U := U.calling g mk a) (Vm.Alike.refl U.vm) qK, qD, cv_FX.same qF rfl rfl⟩, vk_recv (i := si) hFX.2.2.2.2.2.2.2.2.1 g6 hS, fun U hU hW => ⟨rfl, by rw [hU], by rw [hU]; exact hPc, va_K.moved hW.alike hKc, hDc.weaken (fun _ _ _ _ => trivial), cv_FX.go hFX hW hS hFc hU⟩⟩ rfl rfl hl.1 rfl (lv_room (Nat.le_of_ble_eq_true rfl)) dX10_isWord_18 ⟨Nat.le_of_ble_eq_true rfl, Nat.le_of_ble_eq_true rfl⟩) hS (fun q _ h => hFc q h) hFc (fun r_3 u t H1 locs ht hvm hw hB hz1 hk1 hS => ?_)
    obtain ⟨hP1, hD1⟩ := hB
    rw [ht] at hP1
    obtain ⟨hP, hD⟩ := va_join (wr := [(t0, .inr (9, [.ref tBytes, .int tsz, .int tfa, .int tfp, .int tnx, .int tki, .int tst, .int tsp, .int tva, .int tac])), (tBytes, .inl (cyB, 800, .inl t_f))]) (w1 := []) hP hD [] [0, 1] rfl rfl (by decide) (by decide) hk1 hFc hP1 hD1
    generalize H1 = H at hP hS ⊢
    have hP : va_P (dC, dI) vwCl [(t0, .inr (9, [.ref tBytes, .int tsz, .int tfa, .int tfp, .int tnx, .int tki, .int tst, .int tsp, .int tva, .int tac])), (tBytes, .inl (cyB, 800, .inl t_f))] H := hP
    have hD : va_D A [(t0, .inr (9, [.ref tBytes, .int tsz, .int tfa, .int tfp, .int tnx, .int tki, .int tst, .int tsp, .int tva, .int tac])), (tBytes, .inl (cyB, 800, .inl t_f))] := hD
    subst hw
    refine lv_icmp_eq (tgt := 26) hx hb dX10_isWord_21 (by decide) (fun c_4 => ?_) (fun c_4 => ?_)
    · have c_4 : x_2.toInt = (nI (fxL.getD si 0)).toInt := cv_eq c_4
      refine lv_iconst (v := 0) hx hb dX10_isWord_26 (by decide) ?_
      refine lv_istore_n (lv' := [(2, .int 0), (0, .ref t0), (1, .ref (aK si))]) hx hb dX10_isWord_27 rfl hl (by decide) rfl (fun ls hl => ?_)
      have key_6 : ∀ (nkey_6 : Nat) (u_5 : Int32) (H : Heap) (locs : List Loc) (ls : Array Slot), (0 ≤ u_5.toInt ∧ u_5.toInt ≤ 6) → va_P (dC, dI) vwCl [(t0, .inr (9, [.ref tBytes, .int tsz, .int tfa, .int tfp, .int tnx, .int tki, .int tst, .int tsp, .int tva, .int tac])), (tBytes, .inl (cyB, 800, .inl t_f))] H → va_D A [(t0, .inr (9, [.ref tBytes, .int tsz, .int tfa, .int tfp, .int tnx, .int tki, .int tst, .int tsp, .int tva, .int tac])), (tBytes, .inl (cyB, 800, .inl t_f))] → va_S A s.heap H locs → lv_has ls 3 [(2, .int u_5), (0, .ref t0), (1, .ref (aK si))] → ((nI (fxL.getD si 0)).toInt - u_5.toInt).toNat < nkey_6 → W p l e ({ frames := 5, cells := 0, slots := 0, locals := 145 }) s m ([.ref t0, .ref (aK si)] : List Value).toArray below meth c H locs 0 0 Q9 (F0 m 28 ls []) := by
        intro nkey_6
        induction nkey_6 with
        | zero => intro u_5 H locs ls hu_5 hP hD hS hl hnkey_6; exact absurd hnkey_6 (Nat.not_lt_zero _)
        | succ nkey_6 ihkey_6 =>
          intro u_5 H locs ls hu_5 hP hD hS hl hnkey_6
          refine lv_iload_n hx hb dX10_isWord_28 rfl (lv_at hl 0 rfl) ?_
          refine lv_aload_n hx hb dX10_isWord_29 rfl (lv_at hl 2 rfl) ?_
          have hPc := hP.sub (ws' := []) [] rfl
          have hKc := hK.sub (tys' := [(cyI, .int), (cyB, .byte), (cyJ, .long), (cyZ, .boolean), (cyH, .object RX2), (cyN, .array .long)]) [0, 1, 2, 3, 4, 5] rfl
          have hDc := hD.sub (ws' := []) [] (by decide) rfl
          have hFc := va_free (wc := []) hD hS hA [] rfl
          refine va_calli (va_runV (As := []) (rest := [.int u_5]) ⟨hx, hb, hml, hown, hts⟩ (n_length l dC dI cyI cyB cyJ cyZ cyH cyN tR tF aK aV H.size si g6) (cwV 0 hts (gdV wd_2_176 wd_2_177 wd_2_178 wd_1_14 wd_2_179) rfl rfl rfl (by decide +kernel) ⟨Nat.le_of_ble_eq_true rfl, Nat.le_of_ble_eq_true rfl⟩) ⟨fun a U g mk q => by obtain ⟨q0, q1, qP, qK, qD, qF⟩ := q; exact ⟨q0, q1, qP, va_K.moved (u := U) (U := U.calling g mk a) (Vm.Alike.refl U.vm) qK, qD, cv_FX.same qF rfl rfl⟩, vk_recv (i := si) hFX.2.2.2.2.2.2.2.2.1 g6 hS, fun U hU hW => ⟨rfl, by rw [hU], by rw [hU]; exact hPc, va_K.moved hW.alike hKc, hDc.weaken (fun _ _ _ _ => trivial), cv_FX.go hFX hW hS hFc hU⟩⟩ rfl rfl hl.1 rfl (lv_room (Nat.le_of_ble_eq_true rfl)) dX10_isWord_30 ⟨Nat.le_of_ble_eq_true rfl, Nat.le_of_ble_eq_true rfl⟩) hS (fun q _ h => hFc q h) hFc (fun r_7 u t H1 locs ht hvm hw hB hz1 hk1 hS => ?_)
          obtain ⟨hP1, hD1⟩ := hB
          rw [ht] at hP1
          obtain ⟨hP, hD⟩ := va_join (wr := [(t0, .inr (9, [.ref tBytes, .int tsz, .int tfa, .int tfp, .int tnx, .int tki, .int tst, .int tsp, .int tva, .int tac])), (tBytes, .inl (cyB, 800, .inl t_f))]) (w1 := []) hP hD [] [0, 1] rfl rfl (by decide) (by decide) hk1 hFc hP1 hD1
          generalize H1 = H at hP hS ⊢
          have hP : va_P (dC, dI) vwCl [(t0, .inr (9, [.ref tBytes, .int tsz, .int tfa, .int tfp, .int tnx, .int tki, .int tst, .int tsp, .int tva, .int tac])), (tBytes, .inl (cyB, 800, .inl t_f))] H := hP
          have hD : va_D A [(t0, .inr (9, [.ref tBytes, .int tsz, .int tfa, .int tfp, .int tnx, .int tki, .int tst, .int tsp, .int tva, .int tac])), (tBytes, .inl (cyB, 800, .inl t_f))] := hD
          subst hw
          refine lv_icmp_ge (tgt := 63) hx hb dX10_isWord_33 (by decide) (fun c_8 => ?_) (fun c_8 => ?_)
          · have c_8 : (nI (fxL.getD si 0)).toInt ≤ u_5.toInt := cv_le c_8
            refine lv_iconst (v := 1) hx hb dX10_isWord_63 (by decide) ?_
            rw [hQ9]
            have hP9 := hP.sub (ws' := [(t0, .inr (9, [.ref tBytes, .int tsz, .int tfa, .int tfp, .int tnx, .int tki, .int tst, .int tsp, .int tva, .int tac])), (tBytes, .inl (cyB, 800, .inl t_f))]) [0, 1] rfl
            have hD9 := hD.sub (ws' := [(t0, .inr (9, [.ref tBytes, .int tsz, .int tfa, .int tfp, .int tnx, .int tki, .int tst, .int tsp, .int tva, .int tac])), (tBytes, .inl (cyB, 800, .inl t_f))]) [0, 1] (by decide) rfl
            exact W.zret (v := 1) (ty := .boolean) hx hb hr rfl (fun t ht hW => ⟨⟨1, (), rfl, (by decide), ⟨by rw [ht]; exact hP9, hD9⟩⟩, hS.F ht⟩) hS.2.2 dX10_isWord_64
          · have c_8 : u_5.toInt < (nI (fxL.getD si 0)).toInt := cv_nle c_8
            refine lv_aload_n hx hb dX10_isWord_36 rfl (lv_at hl 1 rfl) ?_
            refine va_get (D := (dC, dI)) (ci := 9) (v := .ref tBytes) (C := RX10) (T := TX10) (N := 10) hx hb hts uinX10 hown hK hP 0 rfl rfl 0 (by decide) (hts _ wd_1_36) (fun _ h9 => h9) rfl dX10_isWord_37 ?_
            refine lv_aload_n hx hb dX10_isWord_40 rfl (lv_at hl 1 rfl) ?_
            refine va_get (D := (dC, dI)) (ci := 9) (v := .int tst) (C := RX10) (T := TX10) (N := 10) hx hb hts uinX10 hown hK hP 0 rfl rfl 6 (by decide) (hts _ wd_1_45) (fun _ h9 => h9) rfl dX10_isWord_41 ?_
            refine lv_iload_n hx hb dX10_isWord_44 rfl (lv_at hl 0 rfl) ?_
            refine lv_iadd hx hb dX10_isWord_45 ?_
            refine lv_topi (fun x_9 ex_9 => ?_)
            have fx_9 : x_9.toInt = tst.toInt + u_5.toInt := by rw [ex_9]; exact cv_addI (by omega) (by omega)
            refine va_bald hx hb hK hP 1 1 rfl rfl (vp_in_iff.mpr (by omega)) dX10_isWord_46 ?_
            refine lv_topi (fun x_10 ex_10 => ?_)
            refine lv_aload_n hx hb dX10_isWord_47 rfl (lv_at hl 2 rfl) ?_
            refine lv_iload_n hx hb dX10_isWord_48 rfl (lv_at hl 0 rfl) ?_
            have hPc := hP.sub (ws' := []) [] rfl
            have hKc := hK.sub (tys' := [(cyI, .int), (cyB, .byte), (cyJ, .long), (cyZ, .boolean), (cyH, .object RX2), (cyN, .array .long)]) [0, 1, 2, 3, 4, 5] rfl
            have hDc := hD.sub (ws' := []) [] (by decide) rfl
            have hFc := va_free (wc := []) hD hS hA [] rfl
            refine va_calli (va_runV (As := [.int u_5]) (rest := [.int x_10]) ⟨hx, hb, hml, hown, hts⟩ (n_charAt l dC dI cyI cyB cyJ cyZ cyH cyN tR tF aK aV H.size si u_5 (by omega) g6 (by omega)) (cwV 1 hts (gdV wd_2_186 wd_2_187 wd_2_188 wd_1_14 wd_2_189) rfl rfl rfl (by decide +kernel) ⟨Nat.le_of_ble_eq_true rfl, Nat.le_of_ble_eq_true rfl⟩) ⟨fun a U g mk q => by obtain ⟨q0, q1, qP, qK, qD, qF⟩ := q; exact ⟨q0, q1, qP, va_K.moved (u := U) (U := U.calling g mk a) (Vm.Alike.refl U.vm) qK, qD, cv_FX.same qF rfl rfl⟩, vk_recv (i := si) hFX.2.2.2.2.2.2.2.2.1 g6 hS, fun U hU hW => ⟨rfl, by rw [hU], by rw [hU]; exact hPc, va_K.moved hW.alike hKc, hDc.weaken (fun _ _ _ _ => trivial), cv_FX.go hFX hW hS hFc hU⟩⟩ rfl rfl hl.1 rfl (lv_room (Nat.le_of_ble_eq_true rfl)) dX10_isWord_49 ⟨Nat.le_of_ble_eq_true rfl, Nat.le_of_ble_eq_true rfl⟩) hS (fun q _ h => hFc q h) hFc (fun r_11 u t H1 locs ht hvm hw hB hz1 hk1 hS => ?_)
            obtain ⟨hP1, hD1⟩ := hB
            rw [ht] at hP1
            obtain ⟨hP, hD⟩ := va_join (wr := [(t0, .inr (9, [.ref tBytes, .int tsz, .int tfa, .int tfp, .int tnx, .int tki, .int tst, .int tsp, .int tva, .int tac])), (tBytes, .inl (cyB, 800, .inl t_f))]) (w1 := []) hP hD [] [0, 1] rfl rfl (by decide) (by decide) hk1 hFc hP1 hD1
            generalize H1 = H at hP hS ⊢
            have hP : va_P (dC, dI) vwCl [(t0, .inr (9, [.ref tBytes, .int tsz, .int tfa, .int tfp, .int tnx, .int tki, .int tst, .int tsp, .int tva, .int tac])), (tBytes, .inl (cyB, 800, .inl t_f))] H := hP
            have hD : va_D A [(t0, .inr (9, [.ref tBytes, .int tsz, .int tfa, .int tfp, .int tnx, .int tki, .int tst, .int tsp, .int tva, .int tac])), (tBytes, .inl (cyB, 800, .inl t_f))] := hD
            have hrr_11 := hw
            refine lv_icmp_eq (tgt := 57) hx hb dX10_isWord_52 (by decide) (fun c_12 => ?_) (fun c_12 => ?_)
            · have c_12 : x_10.toInt = r_11.toInt := cv_eq c_12
              obtain ⟨x_13, ex_13⟩ : ∃ y : Int32, y = u_5 + 1 := ⟨_, rfl⟩
              refine lv_iinc (v := x_13) (lv' := [(2, .int x_13), (0, .ref t0), (1, .ref (aK si))]) hx hb dX10_isWord_57 hl (k := 0) rfl (by rw [ex_13]; rfl) (by decide) rfl (fun ls hl => ?_)
              have fx_13 : x_13.toInt = u_5.toInt + 1 := by rw [ex_13]; exact cv_addI (by have : (1 : Int32).toInt = 1 := rfl; omega) (by have : (1 : Int32).toInt = 1 := rfl; omega)
              refine lv_goto (tgt := 28) hx hb dX10_isWord_60 (by decide) ?_
              exact ihkey_6 x_13 _ _ _ (by omega) hP hD hS (lv_sub hl [0, 1, 2] rfl) (by omega)
            · have c_12 : x_10.toInt ≠ r_11.toInt := cv_ne c_12
              refine lv_iconst (v := 0) hx hb dX10_isWord_55 (by decide) ?_
              rw [hQ9]
              have hP9 := hP.sub (ws' := [(t0, .inr (9, [.ref tBytes, .int tsz, .int tfa, .int tfp, .int tnx, .int tki, .int tst, .int tsp, .int tva, .int tac])), (tBytes, .inl (cyB, 800, .inl t_f))]) [0, 1] rfl
              have hD9 := hD.sub (ws' := [(t0, .inr (9, [.ref tBytes, .int tsz, .int tfa, .int tfp, .int tnx, .int tki, .int tst, .int tsp, .int tva, .int tac])), (tBytes, .inl (cyB, 800, .inl t_f))]) [0, 1] (by decide) rfl
              exact W.zret (v := 0) (ty := .boolean) hx hb hr rfl (fun t ht hW => ⟨⟨0, (), rfl, (by decide), ⟨by rw [ht]; exact hP9, hD9⟩⟩, hS.F ht⟩) hS.2.2 dX10_isWord_56
      exact key_6 _ 0 _ _ _ (by decide) hP hD hS (lv_sub hl [0, 1, 2] rfl) (Nat.lt_succ_self _)
    · have c_4 : x_2.toInt ≠ (nI (fxL.getD si 0)).toInt := cv_ne c_4
      refine lv_iconst (v := 0) hx hb dX10_isWord_24 (by decide) ?_
      rw [hQ9]
      have hP9 := hP.sub (ws' := [(t0, .inr (9, [.ref tBytes, .int tsz, .int tfa, .int tfp, .int tnx, .int tki, .int tst, .int tsp, .int tva, .int tac])), (tBytes, .inl (cyB, 800, .inl t_f))]) [0, 1] rfl
      have hD9 := hD.sub (ws' := [(t0, .inr (9, [.ref tBytes, .int tsz, .int tfa, .int tfp, .int tnx, .int tki, .int tst, .int tsp, .int tva, .int tac])), (tBytes, .inl (cyB, 800, .inl t_f))]) [0, 1] (by decide) rfl
      exact W.zret (v := 0) (ty := .boolean) hx hb hr rfl (fun t ht hW => ⟨⟨0, (), rfl, (by decide), ⟨by rw [ht]; exact hP9, hD9⟩⟩, hS.F ht⟩) hS.2.2 dX10_isWord_25

/- X10_passWord -/
set_option maxHeartbeats 4000000 in
set_option maxRecDepth 100000 in
theorem n_passWord (l : Launch) (dC : Nat → ClassId) (dI : Nat → Nat → Nat) (cyI cyB cyJ cyZ cyH cyN : ClassId) (tR tF : Nat) (aK aV : Nat → Nat) (sz : Nat) (si t0 tBytes : Nat) (tsz tfa tfp tnx tki tst tsp tva tac : Int32) (t_f : Nat → Int32) (g0 : 0 ≤ tsz.toInt ∧ tsz.toInt ≤ 800) (g1 : 0 ≤ tnx.toInt ∧ tnx.toInt ≤ 800) (g2 : 0 ≤ tst.toInt ∧ tst.toInt ≤ 800) (g3 : 0 ≤ tsp.toInt ∧ tsp.toInt ≤ 800) (g4 : 0 ≤ tva.toInt ∧ tva.toInt ≤ 1000000) (g5 : 0 ≤ tac.toInt ∧ tac.toInt ≤ 1000000) (g6 : si < 10) : Met l yX10_passWord (wk yX10_passWord cX10_passWord 2 (some .boolean)) ({ frames := 6, cells := 0, slots := 0, locals := 167 }) (va_Pc [.ref t0, .ref (aK si)] (fun U => U.heap.size = sz ∧ va_P (dC, dI) vwCl [(t0, .inr (9, [.ref tBytes, .int tsz, .int tfa, .int tfp, .int tnx, .int tki, .int tst, .int tsp, .int tva, .int tac])), (tBytes, .inl (cyB, 800, .inl t_f))] U.heap ∧ va_K (dC, dI) vwCl [(cyI, .int), (cyB, .byte), (cyJ, .long), (cyZ, .boolean), (cyH, .object RX2), (cyN, .array .long)] U ∧ va_D (fun _ => True) [(t0, .inr (9, [.ref tBytes, .int tsz, .int tfa, .int tfp, .int tnx, .int tki, .int tst, .int tsp, .int tva, .int tac])), (tBytes, .inl (cyB, 800, .inl t_f))] ∧ cv_FX tR tF aK aV (va_A [(t0, .inr (9, [.ref tBytes, .int tsz, .int tfa, .int tfp, .int tnx, .int tki, .int tst, .int tsp, .int tva, .int tac])), (tBytes, .inl (cyB, 800, .inl t_f))] sz) U U.heap)) (va_Qi (fun (r : Int32) (_ : Unit) => 0 ≤ r.toInt ∧ r.toInt ≤ 1) (fun (_ : Unit) (t : State) => ∃ z0 : Int32, ∃ z1 : Int32, ∃ z2 : Int32, ∃ z3 : Int32, ∃ z4 : Int32, ∃ z5 : Int32, ∃ z6 : Int32, (0 ≤ z2.toInt ∧ z2.toInt ≤ 800) ∧ (0 ≤ z4.toInt ∧ z4.toInt ≤ 800) ∧ (0 ≤ z5.toInt ∧ z5.toInt ≤ 800) ∧ (0 ≤ z6.toInt ∧ z6.toInt ≤ 1000000) ∧ va_P (dC, dI) vwCl [(t0, .inr (9, [.ref tBytes, .int tsz, .int z0, .int z1, .int z2, .int z3, .int z4, .int z5, .int z6, .int tac])), (tBytes, .inl (cyB, 800, .inl t_f))] t.heap ∧ va_D (va_A [(t0, .inr (9, [.ref tBytes, .int tsz, .int tfa, .int tfp, .int tnx, .int tki, .int tst, .int tsp, .int tva, .int tac])), (tBytes, .inl (cyB, 800, .inl t_f))] sz) [(t0, .inr (9, [.ref tBytes, .int tsz, .int z0, .int z1, .int z2, .int z3, .int z4, .int z5, .int z6, .int tac])), (tBytes, .inl (cyB, 800, .inl t_f))]) (va_A [(t0, .inr (9, [.ref tBytes, .int tsz, .int tfa, .int tfp, .int tnx, .int tki, .int tst, .int tsp, .int tva, .int tac])), (tBytes, .inl (cyB, 800, .inl t_f))] sz)) 0 0 (va_A [(t0, .inr (9, [.ref tBytes, .int tsz, .int tfa, .int tfp, .int tnx, .int tki, .int tst, .int tsp, .int tva, .int tac])), (tBytes, .inl (cyB, 800, .inl t_f))] sz) := by
  refine Met.ofW (cc := cX10_passWord) (maxL := 2) (ret := (some .boolean)) (by decide) rfl ?_
  intro p e s m args below meth c s₁ B hml hv
  obtain ⟨rfl, hsz, hP, hK, hD0, hFX⟩ := hv
  have hx := B.exec
  have hb := B.bytes
  have hr := B.returns
  have hts : ∀ w ∈ uU, w.before ([.ref t0, .ref (aK si)] : List Value).toArray s = true := fun w h => atoms_spec (ws := wk yX10_passWord cX10_passWord 2 (some .boolean)) B.pre w (List.mem_cons_of_mem _ h)
  have hown : s.vm.findClass RX10 = some m.cls := findClass_of_methodNamed B.named
  have hlocks := B.notSynchronized
  subst hsz
  have hD := hD0.self (sz := s.heap.size)
  generalize hAe : va_A [(t0, .inr (9, [.ref tBytes, .int tsz, .int tfa, .int tfp, .int tnx, .int tki, .int tst, .int tsp, .int tva, .int tac])), (tBytes, .inl (cyB, 800, .inl t_f))] s.heap.size = A at hD hFX ⊢
  have hA : ∀ q : Nat, s.heap.size ≤ q → A q := fun q h => by rw [← hAe]; exact Or.inr h
  have hS : va_S A s.heap s.heap [] := va_S.rf
  have hP : va_P (dC, dI) vwCl [(t0, .inr (9, [.ref tBytes, .int tsz, .int tfa, .int tfp, .int tnx, .int tki, .int tst, .int tsp, .int tva, .int tac])), (tBytes, .inl (cyB, 800, .inl t_f))] s.heap := hP
  have hl := lv_entry ([.ref t0, .ref (aK si)]) (n := 2) (Nat.le_of_ble_eq_true rfl)
  rw [lg_entry_eq]
  generalize (lg_sl ([.ref t0, .ref (aK si)]) ++ List.replicate (2 - (lg_sl ([.ref t0, .ref (aK si)])).length) Slot.unset).toArray = ls at hl ⊢
  have hl : lv_has ls 2 [(0, .ref t0), (1, .ref (aK si))] := hl
  obtain ⟨H, hHe⟩ : ∃ H, H = s.heap := ⟨_, rfl⟩
  have hP : va_P (dC, dI) vwCl [(t0, .inr (9, [.ref tBytes, .int tsz, .int tfa, .int tfp, .int tnx, .int tki, .int tst, .int tsp, .int tva, .int tac])), (tBytes, .inl (cyB, 800, .inl t_f))] H := by rw [hHe]; exact hP
  have hS : va_S A s.heap H [] := by rw [hHe]; exact hS
  refine cv_heap hHe ?_
  obtain ⟨Q9, hQ9⟩ : ∃ Q9 : State → Prop, Q9 = MQ below (va_Qi (fun (r : Int32) (_ : Unit) => 0 ≤ r.toInt ∧ r.toInt ≤ 1) (fun (_ : Unit) (t : State) => ∃ z0 : Int32, ∃ z1 : Int32, ∃ z2 : Int32, ∃ z3 : Int32, ∃ z4 : Int32, ∃ z5 : Int32, ∃ z6 : Int32, (0 ≤ z2.toInt ∧ z2.toInt ≤ 800) ∧ (0 ≤ z4.toInt ∧ z4.toInt ≤ 800) ∧ (0 ≤ z5.toInt ∧ z5.toInt ≤ 800) ∧ (0 ≤ z6.toInt ∧ z6.toInt ≤ 1000000) ∧ va_P (dC, dI) vwCl [(t0, .inr (9, [.ref tBytes, .int tsz, .int z0, .int z1, .int z2, .int z3, .int z4, .int z5, .int z6, .int tac])), (tBytes, .inl (cyB, 800, .inl t_f))] t.heap ∧ va_D A [(t0, .inr (9, [.ref tBytes, .int tsz, .int z0, .int z1, .int z2, .int z3, .int z4, .int z5, .int z6, .int tac])), (tBytes, .inl (cyB, 800, .inl t_f))]) A) ([.ref t0, .ref (aK si)] : List Value).toArray s 0 0 A := ⟨_, rfl⟩
  rw [← hQ9]
  have hst := hFX.2.2.2.2.2.2.2.2.1.1 si g6
  have hsl := fx_len g6
  have hsn := fx_lenN g6
  refine lv_aload_n hx hb dX10_passWord_0 rfl (lv_at hl 0 rfl) ?_
  refine lv_aload_n hx hb dX10_passWord_1 rfl (lv_at hl 1 rfl) ?_
  have hPc := hP.sub (ws' := [(t0, .inr (9, [.ref tBytes, .int tsz, .int tfa, .int tfp, .int tnx, .int tki, .int tst, .int tsp, .int tva, .int tac])), (tBytes, .inl (cyB, 800, .inl t_f))]) [0, 1] rfl
  have hKc := hK.sub (tys' := [(cyI, .int), (cyB, .byte), (cyJ, .long), (cyZ, .boolean), (cyH, .object RX2), (cyN, .array .long)]) [0, 1, 2, 3, 4, 5] rfl
  have hDc := hD.sub (ws' := [(t0, .inr (9, [.ref tBytes, .int tsz, .int tfa, .int tfp, .int tnx, .int tki, .int tst, .int tsp, .int tva, .int tac])), (tBytes, .inl (cyB, 800, .inl t_f))]) [0, 1] (by decide) rfl
  have hFc := va_free (wc := [(t0, .inr (9, [.ref tBytes, .int tsz, .int tfa, .int tfp, .int tnx, .int tki, .int tst, .int tsp, .int tva, .int tac])), (tBytes, .inl (cyB, 800, .inl t_f))]) hD hS hA [0, 1] rfl
  refine va_calli (va_runV (As := [.ref (aK si)]) (rest := []) ⟨hx, hb, hml, hown, hts⟩ (n_isWord l dC dI cyI cyB cyJ cyZ cyH cyN tR tF aK aV H.size si t0 tBytes tsz tfa tfp tnx tki tst tsp tva tac t_f (by omega) (by omega) (by omega) (by omega) (by omega) (by omega) g6) (cwV 1 hts (gdV wd_2_172 wd_2_174 wd_s1_4 wd_1_2 wd_2_175) rfl rfl rfl (by decide +kernel) ⟨Nat.le_of_ble_eq_true rfl, Nat.le_of_ble_eq_true rfl⟩) ⟨fun a U g mk q => by obtain ⟨q0, q1, qP, qK, qD, qF⟩ := q; exact ⟨q0, q1, qP, va_K.moved (u := U) (U := U.calling g mk a) (Vm.Alike.refl U.vm) qK, qD, cv_FX.same qF rfl rfl⟩, va_recv hKc hPc (ci := 9) (q0 := 0) rfl rfl, fun U hU hW => ⟨rfl, by rw [hU], by rw [hU]; exact hPc, va_K.moved hW.alike hKc, hDc.weaken (fun _ _ _ _ => trivial), cv_FX.go hFX hW hS hFc hU⟩⟩ rfl rfl hl.1 rfl (lv_room (Nat.le_of_ble_eq_true rfl)) dX10_passWord_2 ⟨Nat.le_of_ble_eq_true rfl, Nat.le_of_ble_eq_true rfl⟩) hS (fun q _ h => hFc q h) hFc (fun r_1 u t H1 locs ht hvm hw hB hz1 hk1 hS => ?_)
  obtain ⟨hP1, hD1⟩ := hB
  rw [ht] at hP1
  obtain ⟨hP, hD⟩ := va_join (wr := []) (w1 := [(t0, .inr (9, [.ref tBytes, .int tsz, .int tfa, .int tfp, .int tnx, .int tki, .int tst, .int tsp, .int tva, .int tac])), (tBytes, .inl (cyB, 800, .inl t_f))]) hP hD [0, 1] [] rfl rfl (by decide) (by decide) hk1 hFc hP1 hD1
  generalize H1 = H at hP hS ⊢
  have hP : va_P (dC, dI) vwCl [(t0, .inr (9, [.ref tBytes, .int tsz, .int tfa, .int tfp, .int tnx, .int tki, .int tst, .int tsp, .int tva, .int tac])), (tBytes, .inl (cyB, 800, .inl t_f))] H := hP
  have hD : va_D A [(t0, .inr (9, [.ref tBytes, .int tsz, .int tfa, .int tfp, .int tnx, .int tki, .int tst, .int tsp, .int tva, .int tac])), (tBytes, .inl (cyB, 800, .inl t_f))] := hD
  have hrr_1 := hw
  refine lv_if_ne (tgt := 14) hx hb dX10_passWord_5 (by decide) (fun c_2 => ?_) (fun c_2 => ?_)
  · have c_2 : r_1.toInt ≠ 0 := cv_ne c_2
    refine lv_aload_n hx hb dX10_passWord_14 rfl (lv_at hl 0 rfl) ?_
    have hPc := hP.sub (ws' := [(t0, .inr (9, [.ref tBytes, .int tsz, .int tfa, .int tfp, .int tnx, .int tki, .int tst, .int tsp, .int tva, .int tac])), (tBytes, .inl (cyB, 800, .inl t_f))]) [0, 1] rfl
    have hKc := hK.sub (tys' := [(cyI, .int), (cyB, .byte), (cyJ, .long), (cyZ, .boolean), (cyH, .object RX2), (cyN, .array .long)]) [0, 1, 2, 3, 4, 5] rfl
    have hDc := hD.sub (ws' := [(t0, .inr (9, [.ref tBytes, .int tsz, .int tfa, .int tfp, .int tnx, .int tki, .int tst, .int tsp, .int tva, .int tac])), (tBytes, .inl (cyB, 800, .inl t_f))]) [0, 1] (by decide) rfl
    have hFc := va_free (wc := [(t0, .inr (9, [.ref tBytes, .int tsz, .int tfa, .int tfp, .int tnx, .int tki, .int tst, .int tsp, .int tva, .int tac])), (tBytes, .inl (cyB, 800, .inl t_f))]) hD hS hA [0, 1] rfl
    refine va_callv (va_runV (As := []) (rest := []) ⟨hx, hb, hml, hown, hts⟩ (n_readTok l dC dI cyI cyB cyJ cyZ cyH cyN H.size t0 tBytes tsz tfa tfp tnx tki tst tsp tva tac t_f (by omega) (by omega) (by omega) (by omega) (by omega) (by omega)) (cwV 0 hts (gdV wd_2_142 wd_2_144 wd_s1_0 wd_1_2 wd_2_145) rfl rfl rfl (by decide +kernel) ⟨Nat.le_of_ble_eq_true rfl, Nat.le_of_ble_eq_true rfl⟩) ⟨fun a U g mk q => by obtain ⟨q0, q1, qP, qK, qD⟩ := q; exact ⟨q0, q1, qP, va_K.moved (u := U) (U := U.calling g mk a) (Vm.Alike.refl U.vm) qK, qD⟩, va_recv hKc hPc (ci := 9) (q0 := 0) rfl rfl, fun U hU hW => ⟨rfl, by rw [hU], by rw [hU]; exact hPc, va_K.moved hW.alike hKc, hDc.weaken (fun _ _ _ _ => trivial)⟩⟩ rfl rfl hl.1 rfl (lv_room (Nat.le_of_ble_eq_true rfl)) dX10_passWord_15 ⟨Nat.le_of_ble_eq_true rfl, Nat.le_of_ble_eq_true rfl⟩) hS (fun q _ h => hFc q h) hFc (fun  u t H1 locs ht hvm hw hB hz1 hk1 hS => ?_)
    obtain ⟨z0_3, z1_4, z2_5, z3_6, z4_7, hp_8, hp_9, hp_10, hp_11, hp_12, hP1, hD1⟩ := hB
    rw [ht] at hP1
    obtain ⟨hP, hD⟩ := va_join (wr := []) (w1 := [(t0, .inr (9, [.ref tBytes, .int tsz, .int tfa, .int tfp, .int z0_3, .int z1_4, .int z2_5, .int z3_6, .int z4_7, .int tac])), (tBytes, .inl (cyB, 800, .inl t_f))]) hP hD [0, 1] [] rfl rfl (by decide) (by decide) hk1 hFc hP1 hD1
    generalize H1 = H at hP hS ⊢
    have hP : va_P (dC, dI) vwCl [(t0, .inr (9, [.ref tBytes, .int tsz, .int tfa, .int tfp, .int z0_3, .int z1_4, .int z2_5, .int z3_6, .int z4_7, .int tac])), (tBytes, .inl (cyB, 800, .inl t_f))] H := hP
    have hD : va_D A [(t0, .inr (9, [.ref tBytes, .int tsz, .int tfa, .int tfp, .int z0_3, .int z1_4, .int z2_5, .int z3_6, .int z4_7, .int tac])), (tBytes, .inl (cyB, 800, .inl t_f))] := hD
    refine lv_iconst (v := 1) hx hb dX10_passWord_18 (by decide) ?_
    rw [hQ9]
    have hP9 := hP.sub (ws' := [(t0, .inr (9, [.ref tBytes, .int tsz, .int tfa, .int tfp, .int z0_3, .int z1_4, .int z2_5, .int z3_6, .int z4_7, .int tac])), (tBytes, .inl (cyB, 800, .inl t_f))]) [0, 1] rfl
    have hD9 := hD.sub (ws' := [(t0, .inr (9, [.ref tBytes, .int tsz, .int tfa, .int tfp, .int z0_3, .int z1_4, .int z2_5, .int z3_6, .int z4_7, .int tac])), (tBytes, .inl (cyB, 800, .inl t_f))]) [0, 1] (by decide) rfl
    exact W.zret (v := 1) (ty := .boolean) hx hb hr rfl (fun t ht hW => ⟨⟨1, (), rfl, (by decide), ⟨tfa, tfp, z0_3, z1_4, z2_5, z3_6, z4_7, (by omega), (by omega), (by omega), (by omega), by rw [ht]; exact hP9, hD9⟩⟩, hS.F ht⟩) hS.2.2 dX10_passWord_19
  · have c_2 : r_1.toInt = 0 := cv_eq c_2
    refine lv_aload_n hx hb dX10_passWord_8 rfl (lv_at hl 0 rfl) ?_
    refine lv_iconst (v := 1) hx hb dX10_passWord_9 (by decide) ?_
    have hPc := hP.sub (ws' := [(t0, .inr (9, [.ref tBytes, .int tsz, .int tfa, .int tfp, .int tnx, .int tki, .int tst, .int tsp, .int tva, .int tac])), (tBytes, .inl (cyB, 800, .inl t_f))]) [0, 1] rfl
    have hKc := hK.sub (tys' := [(cyI, .int), (cyB, .byte), (cyJ, .long), (cyZ, .boolean), (cyH, .object RX2), (cyN, .array .long)]) [0, 1, 2, 3, 4, 5] rfl
    have hDc := hD.sub (ws' := [(t0, .inr (9, [.ref tBytes, .int tsz, .int tfa, .int tfp, .int tnx, .int tki, .int tst, .int tsp, .int tva, .int tac])), (tBytes, .inl (cyB, 800, .inl t_f))]) [0, 1] (by decide) rfl
    have hFc := va_free (wc := [(t0, .inr (9, [.ref tBytes, .int tsz, .int tfa, .int tfp, .int tnx, .int tki, .int tst, .int tsp, .int tva, .int tac])), (tBytes, .inl (cyB, 800, .inl t_f))]) hD hS hA [0, 1] rfl
    refine va_calli (va_runV (As := [.int 1]) (rest := []) ⟨hx, hb, hml, hown, hts⟩ (n_refuse l dC dI cyI cyB cyJ cyZ cyH cyN H.size t0 tBytes tsz tfa tfp tnx tki tst tsp tva tac t_f 1 (by omega) (by omega) (by omega) (by omega) (by omega) (by omega)) (cwV 1 hts (gdV wd_2_224 wd_2_226 wd_s1_5 wd_1_2 wd_2_227) rfl rfl rfl (by decide +kernel) ⟨Nat.le_of_ble_eq_true rfl, Nat.le_of_ble_eq_true rfl⟩) ⟨fun a U g mk q => by obtain ⟨q0, q1, qP, qK, qD⟩ := q; exact ⟨q0, q1, qP, va_K.moved (u := U) (U := U.calling g mk a) (Vm.Alike.refl U.vm) qK, qD⟩, va_recv hKc hPc (ci := 9) (q0 := 0) rfl rfl, fun U hU hW => ⟨rfl, by rw [hU], by rw [hU]; exact hPc, va_K.moved hW.alike hKc, hDc.weaken (fun _ _ _ _ => trivial)⟩⟩ rfl rfl hl.1 rfl (lv_room (Nat.le_of_ble_eq_true rfl)) dX10_passWord_10 ⟨Nat.le_of_ble_eq_true rfl, Nat.le_of_ble_eq_true rfl⟩) hS (fun q _ h => hFc q h) hFc (fun r_13 u t H1 locs ht hvm hw hB hz1 hk1 hS => ?_)
    obtain ⟨z0_14, z1_15, hp_16, hP1, hD1⟩ := hB
    rw [ht] at hP1
    obtain ⟨hP, hD⟩ := va_join (wr := []) (w1 := [(t0, .inr (9, [.ref tBytes, .int tsz, .int z0_14, .int z1_15, .int tnx, .int tki, .int tst, .int tsp, .int tva, .int tac])), (tBytes, .inl (cyB, 800, .inl t_f))]) hP hD [0, 1] [] rfl rfl (by decide) (by decide) hk1 hFc hP1 hD1
    generalize H1 = H at hP hS ⊢
    have hP : va_P (dC, dI) vwCl [(t0, .inr (9, [.ref tBytes, .int tsz, .int z0_14, .int z1_15, .int tnx, .int tki, .int tst, .int tsp, .int tva, .int tac])), (tBytes, .inl (cyB, 800, .inl t_f))] H := hP
    have hD : va_D A [(t0, .inr (9, [.ref tBytes, .int tsz, .int z0_14, .int z1_15, .int tnx, .int tki, .int tst, .int tsp, .int tva, .int tac])), (tBytes, .inl (cyB, 800, .inl t_f))] := hD
    subst hw
    rw [hQ9]
    have hP9 := hP.sub (ws' := [(t0, .inr (9, [.ref tBytes, .int tsz, .int z0_14, .int z1_15, .int tnx, .int tki, .int tst, .int tsp, .int tva, .int tac])), (tBytes, .inl (cyB, 800, .inl t_f))]) [0, 1] rfl
    have hD9 := hD.sub (ws' := [(t0, .inr (9, [.ref tBytes, .int tsz, .int z0_14, .int z1_15, .int tnx, .int tki, .int tst, .int tsp, .int tva, .int tac])), (tBytes, .inl (cyB, 800, .inl t_f))]) [0, 1] (by decide) rfl
    exact W.zret (v := 0) (ty := .boolean) hx hb hr rfl (fun t ht hW => ⟨⟨0, (), rfl, (by decide), ⟨z0_14, z1_15, tnx, tki, tst, tsp, tva, (by omega), (by omega), (by omega), (by omega), by rw [ht]; exact hP9, hD9⟩⟩, hS.F ht⟩) hS.2.2 dX10_passWord_13

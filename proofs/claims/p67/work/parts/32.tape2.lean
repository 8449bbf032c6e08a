/- X10_passNumber -/
set_option maxHeartbeats 4000000 in
set_option maxRecDepth 100000 in
theorem n_passNumber (l : Launch) (dC : Nat → ClassId) (dI : Nat → Nat → Nat) (cyI cyB cyJ cyZ cyH cyN : ClassId) (sz : Nat) (t0 tBytes : Nat) (tsz tfa tfp tnx tki tst tsp tva tac : Int32) (t_f : Nat → Int32) (p0 p1 p2 : Int32) (g0 : 0 ≤ tsz.toInt ∧ tsz.toInt ≤ 800) (g1 : 0 ≤ tnx.toInt ∧ tnx.toInt ≤ 800) (g2 : 0 ≤ tst.toInt ∧ tst.toInt ≤ 800) (g3 : 0 ≤ tsp.toInt ∧ tsp.toInt ≤ 800) (g4 : 0 ≤ tva.toInt ∧ tva.toInt ≤ 1000000) (g5 : 0 ≤ tac.toInt ∧ tac.toInt ≤ 1000000) : Met l yX10_passNumber (wk yX10_passNumber cX10_passNumber 5 (some .boolean)) ({ frames := 3, cells := 0, slots := 0, locals := 100 }) (va_Pc [.ref t0, .int p0, .int p1, .int p2] (fun U => U.heap.size = sz ∧ va_P (dC, dI) vwCl [(t0, .inr (9, [.ref tBytes, .int tsz, .int tfa, .int tfp, .int tnx, .int tki, .int tst, .int tsp, .int tva, .int tac])), (tBytes, .inl (cyB, 800, .inl t_f))] U.heap ∧ va_K (dC, dI) vwCl [(cyI, .int), (cyB, .byte), (cyJ, .long), (cyZ, .boolean), (cyH, .object RX2), (cyN, .array .long)] U ∧ va_D (fun _ => True) [(t0, .inr (9, [.ref tBytes, .int tsz, .int tfa, .int tfp, .int tnx, .int tki, .int tst, .int tsp, .int tva, .int tac])), (tBytes, .inl (cyB, 800, .inl t_f))])) (va_Qi (fun (r : Int32) (u9 : Int32) => r = u9 ∧ (0 ≤ r.toInt ∧ r.toInt ≤ 1)) (fun (gr : Int32) (t : State) => ∃ z0 : Int32, ∃ z1 : Int32, ∃ z2 : Int32, ∃ z3 : Int32, ∃ z4 : Int32, ∃ z5 : Int32, ∃ z6 : Int32, ∃ z7 : Int32, (0 ≤ z2.toInt ∧ z2.toInt ≤ 800) ∧ (0 ≤ z4.toInt ∧ z4.toInt ≤ 800) ∧ (0 ≤ z5.toInt ∧ z5.toInt ≤ 800) ∧ ((-2147483648) ≤ z6.toInt ∧ z6.toInt ≤ 1000000) ∧ (0 ≤ z7.toInt ∧ z7.toInt ≤ 1000000) ∧ (gr.toInt = 1 → p0.toInt ≤ z7.toInt ∧ z7.toInt ≤ p1.toInt) ∧ va_P (dC, dI) vwCl [(t0, .inr (9, [.ref tBytes, .int tsz, .int z0, .int z1, .int z2, .int z3, .int z4, .int z5, .int z6, .int z7])), (tBytes, .inl (cyB, 800, .inl t_f))] t.heap ∧ va_D (va_A [(t0, .inr (9, [.ref tBytes, .int tsz, .int tfa, .int tfp, .int tnx, .int tki, .int tst, .int tsp, .int tva, .int tac])), (tBytes, .inl (cyB, 800, .inl t_f))] sz) [(t0, .inr (9, [.ref tBytes, .int tsz, .int z0, .int z1, .int z2, .int z3, .int z4, .int z5, .int z6, .int z7])), (tBytes, .inl (cyB, 800, .inl t_f))]) (va_A [(t0, .inr (9, [.ref tBytes, .int tsz, .int tfa, .int tfp, .int tnx, .int tki, .int tst, .int tsp, .int tva, .int tac])), (tBytes, .inl (cyB, 800, .inl t_f))] sz)) 0 0 (va_A [(t0, .inr (9, [.ref tBytes, .int tsz, .int tfa, .int tfp, .int tnx, .int tki, .int tst, .int tsp, .int tva, .int tac])), (tBytes, .inl (cyB, 800, .inl t_f))] sz) := by
  refine Met.ofW (cc := cX10_passNumber) (maxL := 5) (ret := (some .boolean)) (by decide) rfl ?_
  intro p e s m args below meth c s₁ B hml hv
  obtain ⟨rfl, hsz, hP, hK, hD0⟩ := hv
  have hx := B.exec
  have hb := B.bytes
  have hr := B.returns
  have hts : ∀ w ∈ uU, w.before ([.ref t0, .int p0, .int p1, .int p2] : List Value).toArray s = true := fun w h => atoms_spec (ws := wk yX10_passNumber cX10_passNumber 5 (some .boolean)) B.pre w (List.mem_cons_of_mem _ h)
  have hown : s.vm.findClass RX10 = some m.cls := findClass_of_methodNamed B.named
  have hlocks := B.notSynchronized
  subst hsz
  have hD := hD0.self (sz := s.heap.size)
  generalize hAe : va_A [(t0, .inr (9, [.ref tBytes, .int tsz, .int tfa, .int tfp, .int tnx, .int tki, .int tst, .int tsp, .int tva, .int tac])), (tBytes, .inl (cyB, 800, .inl t_f))] s.heap.size = A at hD ⊢
  have hA : ∀ q : Nat, s.heap.size ≤ q → A q := fun q h => by rw [← hAe]; exact Or.inr h
  have hS : va_S A s.heap s.heap [] := va_S.rf
  have hP : va_P (dC, dI) vwCl [(t0, .inr (9, [.ref tBytes, .int tsz, .int tfa, .int tfp, .int tnx, .int tki, .int tst, .int tsp, .int tva, .int tac])), (tBytes, .inl (cyB, 800, .inl t_f))] s.heap := hP
  have hl := lv_entry ([.ref t0, .int p0, .int p1, .int p2]) (n := 5) (Nat.le_of_ble_eq_true rfl)
  rw [lg_entry_eq]
  generalize (lg_sl ([.ref t0, .int p0, .int p1, .int p2]) ++ List.replicate (5 - (lg_sl ([.ref t0, .int p0, .int p1, .int p2])).length) Slot.unset).toArray = ls at hl ⊢
  have hl : lv_has ls 5 [(0, .ref t0), (1, .int p0), (2, .int p1), (3, .int p2)] := hl
  obtain ⟨H, hHe⟩ : ∃ H, H = s.heap := ⟨_, rfl⟩
  have hP : va_P (dC, dI) vwCl [(t0, .inr (9, [.ref tBytes, .int tsz, .int tfa, .int tfp, .int tnx, .int tki, .int tst, .int tsp, .int tva, .int tac])), (tBytes, .inl (cyB, 800, .inl t_f))] H := by rw [hHe]; exact hP
  have hS : va_S A s.heap H [] := by rw [hHe]; exact hS
  refine cv_heap hHe ?_
  obtain ⟨Q9, hQ9⟩ : ∃ Q9 : State → Prop, Q9 = MQ below (va_Qi (fun (r : Int32) (u9 : Int32) => r = u9 ∧ (0 ≤ r.toInt ∧ r.toInt ≤ 1)) (fun (gr : Int32) (t : State) => ∃ z0 : Int32, ∃ z1 : Int32, ∃ z2 : Int32, ∃ z3 : Int32, ∃ z4 : Int32, ∃ z5 : Int32, ∃ z6 : Int32, ∃ z7 : Int32, (0 ≤ z2.toInt ∧ z2.toInt ≤ 800) ∧ (0 ≤ z4.toInt ∧ z4.toInt ≤ 800) ∧ (0 ≤ z5.toInt ∧ z5.toInt ≤ 800) ∧ ((-2147483648) ≤ z6.toInt ∧ z6.toInt ≤ 1000000) ∧ (0 ≤ z7.toInt ∧ z7.toInt ≤ 1000000) ∧ (gr.toInt = 1 → p0.toInt ≤ z7.toInt ∧ z7.toInt ≤ p1.toInt) ∧ va_P (dC, dI) vwCl [(t0, .inr (9, [.ref tBytes, .int tsz, .int z0, .int z1, .int z2, .int z3, .int z4, .int z5, .int z6, .int z7])), (tBytes, .inl (cyB, 800, .inl t_f))] t.heap ∧ va_D A [(t0, .inr (9, [.ref tBytes, .int tsz, .int z0, .int z1, .int z2, .int z3, .int z4, .int z5, .int z6, .int z7])), (tBytes, .inl (cyB, 800, .inl t_f))]) A) ([.ref t0, .int p0, .int p1, .int p2] : List Value).toArray s 0 0 A := ⟨_, rfl⟩
  rw [← hQ9]
  refine lv_aload_n hx hb dX10_passNumber_0 rfl (lv_at hl 0 rfl) ?_
  refine va_get (D := (dC, dI)) (ci := 9) (v := .int tki) (C := RX10) (T := TX10) (N := 10) hx hb hts uinX10 hown hK hP 0 rfl rfl 5 (by decide) (hts _ wd_1_44) (fun _ h9 => h9) rfl dX10_passNumber_1 ?_
  refine lv_iconst (v := 2) hx hb dX10_passNumber_4 (by decide) ?_
  refine lv_icmp_eq (tgt := 14) hx hb dX10_passNumber_5 (by decide) (fun c_1 => ?_) (fun c_1 => ?_)
  · have c_1 : tki.toInt = 2 := cv_eq c_1
    refine lv_aload_n hx hb dX10_passNumber_14 rfl (lv_at hl 0 rfl) ?_
    refine va_get (D := (dC, dI)) (ci := 9) (v := .int tva) (C := RX10) (T := TX10) (N := 10) hx hb hts uinX10 hown hK hP 0 rfl rfl 8 (by decide) (hts _ wd_1_47) (fun _ h9 => h9) rfl dX10_passNumber_15 ?_
    refine lv_bipush (v := 7) hx hb dX10_passNumber_18 (by decide) ?_
    refine lv_icmp_ge (tgt := 38) hx hb dX10_passNumber_20 (by decide) (fun c_2 => ?_) (fun c_2 => ?_)
    · have c_2 : 7 ≤ tva.toInt := cv_le c_2
      refine lv_iconst (v := 0) hx hb dX10_passNumber_38 (by decide) ?_
      refine lv_istore (lv' := [(4, .int 0), (0, .ref t0), (1, .int p0), (2, .int p1), (3, .int p2)]) hx hb dX10_passNumber_39 hl (by decide) rfl (fun ls hl => ?_)
      refine lv_aload_n hx hb dX10_passNumber_41 rfl (lv_at hl 1 rfl) ?_
      refine va_get (D := (dC, dI)) (ci := 9) (v := .int tva) (C := RX10) (T := TX10) (N := 10) hx hb hts uinX10 hown hK hP 0 rfl rfl 8 (by decide) (hts _ wd_1_47) (fun _ h9 => h9) rfl dX10_passNumber_42 ?_
      refine lv_iload_n hx hb dX10_passNumber_45 rfl (lv_at hl 2 rfl) ?_
      refine lv_icmp_lt (tgt := 62) hx hb dX10_passNumber_46 (by decide) (fun c_3 => ?_) (fun c_3 => ?_)
      · have c_3 : tva.toInt < p0.toInt := cv_lt c_3
        refine lv_aload_n hx hb dX10_passNumber_62 rfl (lv_at hl 1 rfl) ?_
        refine lv_iconst (v := 2) hx hb dX10_passNumber_63 (by decide) ?_
        have hPc := hP.sub (ws' := [(t0, .inr (9, [.ref tBytes, .int tsz, .int tfa, .int tfp, .int tnx, .int tki, .int tst, .int tsp, .int tva, .int tac])), (tBytes, .inl (cyB, 800, .inl t_f))]) [0, 1] rfl
        have hKc := hK.sub (tys' := [(cyI, .int), (cyB, .byte), (cyJ, .long), (cyZ, .boolean), (cyH, .object RX2), (cyN, .array .long)]) [0, 1, 2, 3, 4, 5] rfl
        have hDc := hD.sub (ws' := [(t0, .inr (9, [.ref tBytes, .int tsz, .int tfa, .int tfp, .int tnx, .int tki, .int tst, .int tsp, .int tva, .int tac])), (tBytes, .inl (cyB, 800, .inl t_f))]) [0, 1] (by decide) rfl
        have hFc := va_free (wc := [(t0, .inr (9, [.ref tBytes, .int tsz, .int tfa, .int tfp, .int tnx, .int tki, .int tst, .int tsp, .int tva, .int tac])), (tBytes, .inl (cyB, 800, .inl t_f))]) hD hS hA [0, 1] rfl
        refine va_calli (va_runV (As := [.int 2]) (rest := []) ⟨hx, hb, hml, hown, hts⟩ (n_refuse l dC dI cyI cyB cyJ cyZ cyH cyN H.size t0 tBytes tsz tfa tfp tnx tki tst tsp tva tac t_f 2 (by omega) (by omega) (by omega) (by omega) (by omega) (by omega)) (cwV 1 hts (gdV wd_2_224 wd_2_226 wd_s1_5 wd_1_2 wd_2_227) rfl rfl rfl (by decide +kernel) ⟨Nat.le_of_ble_eq_true rfl, Nat.le_of_ble_eq_true rfl⟩) ⟨fun a U g mk q => by obtain ⟨q0, q1, qP, qK, qD⟩ := q; exact ⟨q0, q1, qP, va_K.moved (u := U) (U := U.calling g mk a) (Vm.Alike.refl U.vm) qK, qD⟩, va_recv hKc hPc (ci := 9) (q0 := 0) rfl rfl, fun U hU hW => ⟨rfl, by rw [hU], by rw [hU]; exact hPc, va_K.moved hW.alike hKc, hDc.weaken (fun _ _ _ _ => trivial)⟩⟩ rfl rfl hl.1 rfl (lv_room (Nat.le_of_ble_eq_true rfl)) dX10_passNumber_64 ⟨Nat.le_of_ble_eq_true rfl, Nat.le_of_ble_eq_true rfl⟩) hS (fun q _ h => hFc q h) hFc (fun r_4 u t H1 locs ht hvm hw hB hz1 hk1 hS => ?_)
        obtain ⟨z0_5, z1_6, hp_7, hP1, hD1⟩ := hB
        rw [ht] at hP1
        obtain ⟨hP, hD⟩ := va_join (wr := []) (w1 := [(t0, .inr (9, [.ref tBytes, .int tsz, .int z0_5, .int z1_6, .int tnx, .int tki, .int tst, .int tsp, .int tva, .int tac])), (tBytes, .inl (cyB, 800, .inl t_f))]) hP hD [0, 1] [] rfl rfl (by decide) (by decide) hk1 hFc hP1 hD1
        generalize H1 = H at hP hS ⊢
        have hP : va_P (dC, dI) vwCl [(t0, .inr (9, [.ref tBytes, .int tsz, .int z0_5, .int z1_6, .int tnx, .int tki, .int tst, .int tsp, .int tva, .int tac])), (tBytes, .inl (cyB, 800, .inl t_f))] H := hP
        have hD : va_D A [(t0, .inr (9, [.ref tBytes, .int tsz, .int z0_5, .int z1_6, .int tnx, .int tki, .int tst, .int tsp, .int tva, .int tac])), (tBytes, .inl (cyB, 800, .inl t_f))] := hD
        subst hw
        rw [hQ9]
        have hP9 := hP.sub (ws' := [(t0, .inr (9, [.ref tBytes, .int tsz, .int z0_5, .int z1_6, .int tnx, .int tki, .int tst, .int tsp, .int tva, .int tac])), (tBytes, .inl (cyB, 800, .inl t_f))]) [0, 1] rfl
        have hD9 := hD.sub (ws' := [(t0, .inr (9, [.ref tBytes, .int tsz, .int z0_5, .int z1_6, .int tnx, .int tki, .int tst, .int tsp, .int tva, .int tac])), (tBytes, .inl (cyB, 800, .inl t_f))]) [0, 1] (by decide) rfl
        exact W.zret (v := 0) (ty := .boolean) hx hb hr rfl (fun t ht hW => ⟨⟨0, 0, rfl, ⟨rfl, (by decide)⟩, ⟨z0_5, z1_6, tnx, tki, tst, tsp, tva, tac, (by omega), (by omega), (by omega), ⟨cv_lo, by omega⟩, (by omega), (fun h9 => absurd h9 (by decide)), by rw [ht]; exact hP9, hD9⟩⟩, hS.F ht⟩) hS.2.2 dX10_passNumber_67
      · have c_3 : p0.toInt ≤ tva.toInt := cv_nlt c_3
        refine lv_aload_n hx hb dX10_passNumber_49 rfl (lv_at hl 1 rfl) ?_
        refine va_get (D := (dC, dI)) (ci := 9) (v := .int tva) (C := RX10) (T := TX10) (N := 10) hx hb hts uinX10 hown hK hP 0 rfl rfl 8 (by decide) (hts _ wd_1_47) (fun _ h9 => h9) rfl dX10_passNumber_50 ?_
        refine lv_iload_n hx hb dX10_passNumber_53 rfl (lv_at hl 3 rfl) ?_
        refine lv_icmp_gt (tgt := 62) hx hb dX10_passNumber_54 (by decide) (fun c_8 => ?_) (fun c_8 => ?_)
        · have c_8 : p1.toInt < tva.toInt := cv_lt c_8
          refine lv_aload_n hx hb dX10_passNumber_62 rfl (lv_at hl 1 rfl) ?_
          refine lv_iconst (v := 2) hx hb dX10_passNumber_63 (by decide) ?_
          have hPc := hP.sub (ws' := [(t0, .inr (9, [.ref tBytes, .int tsz, .int tfa, .int tfp, .int tnx, .int tki, .int tst, .int tsp, .int tva, .int tac])), (tBytes, .inl (cyB, 800, .inl t_f))]) [0, 1] rfl
          have hKc := hK.sub (tys' := [(cyI, .int), (cyB, .byte), (cyJ, .long), (cyZ, .boolean), (cyH, .object RX2), (cyN, .array .long)]) [0, 1, 2, 3, 4, 5] rfl
          have hDc := hD.sub (ws' := [(t0, .inr (9, [.ref tBytes, .int tsz, .int tfa, .int tfp, .int tnx, .int tki, .int tst, .int tsp, .int tva, .int tac])), (tBytes, .inl (cyB, 800, .inl t_f))]) [0, 1] (by decide) rfl
          have hFc := va_free (wc := [(t0, .inr (9, [.ref tBytes, .int tsz, .int tfa, .int tfp, .int tnx, .int tki, .int tst, .int tsp, .int tva, .int tac])), (tBytes, .inl (cyB, 800, .inl t_f))]) hD hS hA [0, 1] rfl
          refine va_calli (va_runV (As := [.int 2]) (rest := []) ⟨hx, hb, hml, hown, hts⟩ (n_refuse l dC dI cyI cyB cyJ cyZ cyH cyN H.size t0 tBytes tsz tfa tfp tnx tki tst tsp tva tac t_f 2 (by omega) (by omega) (by omega) (by omega) (by omega) (by omega)) (cwV 1 hts (gdV wd_2_224 wd_2_226 wd_s1_5 wd_1_2 wd_2_227) rfl rfl rfl (by decide +kernel) ⟨Nat.le_of_ble_eq_true rfl, Nat.le_of_ble_eq_true rfl⟩) ⟨fun a U g mk q => by obtain ⟨q0, q1, qP, qK, qD⟩ := q; exact ⟨q0, q1, qP, va_K.moved (u := U) (U := U.calling g mk a) (Vm.Alike.refl U.vm) qK, qD⟩, va_recv hKc hPc (ci := 9) (q0 := 0) rfl rfl, fun U hU hW => ⟨rfl, by rw [hU], by rw [hU]; exact hPc, va_K.moved hW.alike hKc, hDc.weaken (fun _ _ _ _ => trivial)⟩⟩ rfl rfl hl.1 rfl (lv_room (Nat.le_of_ble_eq_true rfl)) dX10_passNumber_64 ⟨Nat.le_of_ble_eq_true rfl, Nat.le_of_ble_eq_true rfl⟩) hS (fun q _ h => hFc q h) hFc (fun r_9 u t H1 locs ht hvm hw hB hz1 hk1 hS => ?_)
          obtain ⟨z0_10, z1_11, hp_12, hP1, hD1⟩ := hB
          rw [ht] at hP1
          obtain ⟨hP, hD⟩ := va_join (wr := []) (w1 := [(t0, .inr (9, [.ref tBytes, .int tsz, .int z0_10, .int z1_11, .int tnx, .int tki, .int tst, .int tsp, .int tva, .int tac])), (tBytes, .inl (cyB, 800, .inl t_f))]) hP hD [0, 1] [] rfl rfl (by decide) (by decide) hk1 hFc hP1 hD1
          generalize H1 = H at hP hS ⊢
          have hP : va_P (dC, dI) vwCl [(t0, .inr (9, [.ref tBytes, .int tsz, .int z0_10, .int z1_11, .int tnx, .int tki, .int tst, .int tsp, .int tva, .int tac])), (tBytes, .inl (cyB, 800, .inl t_f))] H := hP
          have hD : va_D A [(t0, .inr (9, [.ref tBytes, .int tsz, .int z0_10, .int z1_11, .int tnx, .int tki, .int tst, .int tsp, .int tva, .int tac])), (tBytes, .inl (cyB, 800, .inl t_f))] := hD
          subst hw
          rw [hQ9]
          have hP9 := hP.sub (ws' := [(t0, .inr (9, [.ref tBytes, .int tsz, .int z0_10, .int z1_11, .int tnx, .int tki, .int tst, .int tsp, .int tva, .int tac])), (tBytes, .inl (cyB, 800, .inl t_f))]) [0, 1] rfl
          have hD9 := hD.sub (ws' := [(t0, .inr (9, [.ref tBytes, .int tsz, .int z0_10, .int z1_11, .int tnx, .int tki, .int tst, .int tsp, .int tva, .int tac])), (tBytes, .inl (cyB, 800, .inl t_f))]) [0, 1] (by decide) rfl
          exact W.zret (v := 0) (ty := .boolean) hx hb hr rfl (fun t ht hW => ⟨⟨0, 0, rfl, ⟨rfl, (by decide)⟩, ⟨z0_10, z1_11, tnx, tki, tst, tsp, tva, tac, (by omega), (by omega), (by omega), ⟨cv_lo, by omega⟩, (by omega), (fun h9 => absurd h9 (by decide)), by rw [ht]; exact hP9, hD9⟩⟩, hS.F ht⟩) hS.2.2 dX10_passNumber_67
        · have c_8 : tva.toInt ≤ p1.toInt := cv_nlt c_8
          refine lv_iload hx hb dX10_passNumber_57 (lv_at hl 0 rfl) ?_
          refine lv_if_eq (tgt := 68) hx hb dX10_passNumber_59 (by decide) (fun _ => ?_) (fun c_13 => absurd c_13 (by decide))
          refine lv_aload_n hx hb dX10_passNumber_68 rfl (lv_at hl 1 rfl) ?_
          refine lv_aload_n hx hb dX10_passNumber_69 rfl (lv_at hl 1 rfl) ?_
          refine va_get (D := (dC, dI)) (ci := 9) (v := .int tva) (C := RX10) (T := TX10) (N := 10) hx hb hts uinX10 hown hK hP 0 rfl rfl 8 (by decide) (hts _ wd_1_47) (fun _ h9 => h9) rfl dX10_passNumber_70 ?_
          refine va_put (D := (dC, dI)) (ci := 9) (v := .int tva) (ty := .int) (C := RX10) (T := TX10) (N := 10) hx hb hts uinX10 tyX10 tyX10_ok nmX10 hown hK hP hD hS 0 rfl rfl 9 (by decide) (hts _ wd_1_48) (fun _ h9 => h9) rfl (by decide +kernel) rfl rfl (Nat.le_of_ble_eq_true rfl) dX10_passNumber_73 (fun H locs hP hD hS => ?_)
          have hP : va_P (dC, dI) vwCl [(t0, .inr (9, [.ref tBytes, .int tsz, .int tfa, .int tfp, .int tnx, .int tki, .int tst, .int tsp, .int tva, .int tva])), (tBytes, .inl (cyB, 800, .inl t_f))] H := hP
          have hD : va_D A [(t0, .inr (9, [.ref tBytes, .int tsz, .int tfa, .int tfp, .int tnx, .int tki, .int tst, .int tsp, .int tva, .int tva])), (tBytes, .inl (cyB, 800, .inl t_f))] := hD
          refine lv_aload_n hx hb dX10_passNumber_76 rfl (lv_at hl 1 rfl) ?_
          have hPc := hP.sub (ws' := [(t0, .inr (9, [.ref tBytes, .int tsz, .int tfa, .int tfp, .int tnx, .int tki, .int tst, .int tsp, .int tva, .int tva])), (tBytes, .inl (cyB, 800, .inl t_f))]) [0, 1] rfl
          have hKc := hK.sub (tys' := [(cyI, .int), (cyB, .byte), (cyJ, .long), (cyZ, .boolean), (cyH, .object RX2), (cyN, .array .long)]) [0, 1, 2, 3, 4, 5] rfl
          have hDc := hD.sub (ws' := [(t0, .inr (9, [.ref tBytes, .int tsz, .int tfa, .int tfp, .int tnx, .int tki, .int tst, .int tsp, .int tva, .int tva])), (tBytes, .inl (cyB, 800, .inl t_f))]) [0, 1] (by decide) rfl
          have hFc := va_free (wc := [(t0, .inr (9, [.ref tBytes, .int tsz, .int tfa, .int tfp, .int tnx, .int tki, .int tst, .int tsp, .int tva, .int tva])), (tBytes, .inl (cyB, 800, .inl t_f))]) hD hS hA [0, 1] rfl
          refine va_callv (va_runV (As := []) (rest := []) ⟨hx, hb, hml, hown, hts⟩ (n_readToken l dC dI cyI cyB cyJ cyZ cyH cyN H.size t0 tBytes tsz tfa tfp tnx tki tst tsp tva tva t_f (by omega) (by omega) (by omega) (by omega) (by omega) (by omega)) (cwV 0 hts (gdV wd_2_142 wd_2_144 wd_s1_0 wd_1_2 wd_2_145) rfl rfl rfl (by decide +kernel) ⟨Nat.le_of_ble_eq_true rfl, Nat.le_of_ble_eq_true rfl⟩) ⟨fun a U g mk q => by obtain ⟨q0, q1, qP, qK, qD⟩ := q; exact ⟨q0, q1, qP, va_K.moved (u := U) (U := U.calling g mk a) (Vm.Alike.refl U.vm) qK, qD⟩, va_recv hKc hPc (ci := 9) (q0 := 0) rfl rfl, fun U hU hW => ⟨rfl, by rw [hU], by rw [hU]; exact hPc, va_K.moved hW.alike hKc, hDc.weaken (fun _ _ _ _ => trivial)⟩⟩ rfl rfl hl.1 rfl (lv_room (Nat.le_of_ble_eq_true rfl)) dX10_passNumber_77 ⟨Nat.le_of_ble_eq_true rfl, Nat.le_of_ble_eq_true rfl⟩) hS (fun q _ h => hFc q h) hFc (fun  u t H1 locs ht hvm hw hB hz1 hk1 hS => ?_)
          obtain ⟨z0_14, z1_15, z2_16, z3_17, z4_18, hp_19, hp_20, hp_21, hp_22, hp_23, hP1, hD1⟩ := hB
          rw [ht] at hP1
          obtain ⟨hP, hD⟩ := va_join (wr := []) (w1 := [(t0, .inr (9, [.ref tBytes, .int tsz, .int tfa, .int tfp, .int z0_14, .int z1_15, .int z2_16, .int z3_17, .int z4_18, .int tva])), (tBytes, .inl (cyB, 800, .inl t_f))]) hP hD [0, 1] [] rfl rfl (by decide) (by decide) hk1 hFc hP1 hD1
          generalize H1 = H at hP hS ⊢
          have hP : va_P (dC, dI) vwCl [(t0, .inr (9, [.ref tBytes, .int tsz, .int tfa, .int tfp, .int z0_14, .int z1_15, .int z2_16, .int z3_17, .int z4_18, .int tva])), (tBytes, .inl (cyB, 800, .inl t_f))] H := hP
          have hD : va_D A [(t0, .inr (9, [.ref tBytes, .int tsz, .int tfa, .int tfp, .int z0_14, .int z1_15, .int z2_16, .int z3_17, .int z4_18, .int tva])), (tBytes, .inl (cyB, 800, .inl t_f))] := hD
          refine lv_iconst (v := 1) hx hb dX10_passNumber_80 (by decide) ?_
          rw [hQ9]
          have hP9 := hP.sub (ws' := [(t0, .inr (9, [.ref tBytes, .int tsz, .int tfa, .int tfp, .int z0_14, .int z1_15, .int z2_16, .int z3_17, .int z4_18, .int tva])), (tBytes, .inl (cyB, 800, .inl t_f))]) [0, 1] rfl
          have hD9 := hD.sub (ws' := [(t0, .inr (9, [.ref tBytes, .int tsz, .int tfa, .int tfp, .int z0_14, .int z1_15, .int z2_16, .int z3_17, .int z4_18, .int tva])), (tBytes, .inl (cyB, 800, .inl t_f))]) [0, 1] (by decide) rfl
          exact W.zret (v := 1) (ty := .boolean) hx hb hr rfl (fun t ht hW => ⟨⟨1, 1, rfl, ⟨rfl, (by decide)⟩, ⟨tfa, tfp, z0_14, z1_15, z2_16, z3_17, z4_18, tva, (by omega), (by omega), (by omega), ⟨cv_lo, by omega⟩, (by omega), (fun _ => by omega), by rw [ht]; exact hP9, hD9⟩⟩, hS.F ht⟩) hS.2.2 dX10_passNumber_81
    · have c_2 : tva.toInt < 7 := cv_nle c_2
      refine lv_iload_n hx hb dX10_passNumber_23 rfl (lv_at hl 3 rfl) ?_
      refine lv_aload_n hx hb dX10_passNumber_24 rfl (lv_at hl 0 rfl) ?_
      refine va_get (D := (dC, dI)) (ci := 9) (v := .int tva) (C := RX10) (T := TX10) (N := 10) hx hb hts uinX10 hown hK hP 0 rfl rfl 8 (by decide) (hts _ wd_1_47) (fun _ h9 => h9) rfl dX10_passNumber_25 ?_
      refine lv_ishr hx hb dX10_passNumber_28 ?_
      refine lv_topi (fun x_24 ex_24 => ?_)
      refine lv_iconst (v := 1) hx hb dX10_passNumber_29 (by decide) ?_
      refine lv_iand hx hb dX10_passNumber_30 ?_
      refine lv_topi (fun x_25 ex_25 => ?_)
      have fx_25 : 0 ≤ x_25.toInt ∧ x_25.toInt ≤ 1 := by rw [ex_25]; exact cv_andR (by decide) (by decide)
      refine lv_if_eq (tgt := 38) hx hb dX10_passNumber_31 (by decide) (fun c_26 => ?_) (fun c_26 => ?_)
      · have c_26 : x_25.toInt = 0 := cv_eq c_26
        refine lv_iconst (v := 0) hx hb dX10_passNumber_38 (by decide) ?_
        refine lv_istore (lv' := [(4, .int 0), (0, .ref t0), (1, .int p0), (2, .int p1), (3, .int p2)]) hx hb dX10_passNumber_39 hl (by decide) rfl (fun ls hl => ?_)
        refine lv_aload_n hx hb dX10_passNumber_41 rfl (lv_at hl 1 rfl) ?_
        refine va_get (D := (dC, dI)) (ci := 9) (v := .int tva) (C := RX10) (T := TX10) (N := 10) hx hb hts uinX10 hown hK hP 0 rfl rfl 8 (by decide) (hts _ wd_1_47) (fun _ h9 => h9) rfl dX10_passNumber_42 ?_
        refine lv_iload_n hx hb dX10_passNumber_45 rfl (lv_at hl 2 rfl) ?_
        refine lv_icmp_lt (tgt := 62) hx hb dX10_passNumber_46 (by decide) (fun c_27 => ?_) (fun c_27 => ?_)
        · have c_27 : tva.toInt < p0.toInt := cv_lt c_27
          refine lv_aload_n hx hb dX10_passNumber_62 rfl (lv_at hl 1 rfl) ?_
          refine lv_iconst (v := 2) hx hb dX10_passNumber_63 (by decide) ?_
          have hPc := hP.sub (ws' := [(t0, .inr (9, [.ref tBytes, .int tsz, .int tfa, .int tfp, .int tnx, .int tki, .int tst, .int tsp, .int tva, .int tac])), (tBytes, .inl (cyB, 800, .inl t_f))]) [0, 1] rfl
          have hKc := hK.sub (tys' := [(cyI, .int), (cyB, .byte), (cyJ, .long), (cyZ, .boolean), (cyH, .object RX2), (cyN, .array .long)]) [0, 1, 2, 3, 4, 5] rfl
          have hDc := hD.sub (ws' := [(t0, .inr (9, [.ref tBytes, .int tsz, .int tfa, .int tfp, .int tnx, .int tki, .int tst, .int tsp, .int tva, .int tac])), (tBytes, .inl (cyB, 800, .inl t_f))]) [0, 1] (by decide) rfl
          have hFc := va_free (wc := [(t0, .inr (9, [.ref tBytes, .int tsz, .int tfa, .int tfp, .int tnx, .int tki, .int tst, .int tsp, .int tva, .int tac])), (tBytes, .inl (cyB, 800, .inl t_f))]) hD hS hA [0, 1] rfl
          refine va_calli (va_runV (As := [.int 2]) (rest := []) ⟨hx, hb, hml, hown, hts⟩ (n_refuse l dC dI cyI cyB cyJ cyZ cyH cyN H.size t0 tBytes tsz tfa tfp tnx tki tst tsp tva tac t_f 2 (by omega) (by omega) (by omega) (by omega) (by omega) (by omega)) (cwV 1 hts (gdV wd_2_224 wd_2_226 wd_s1_5 wd_1_2 wd_2_227) rfl rfl rfl (by decide +kernel) ⟨Nat.le_of_ble_eq_true rfl, Nat.le_of_ble_eq_true rfl⟩) ⟨fun a U g mk q => by obtain ⟨q0, q1, qP, qK, qD⟩ := q; exact ⟨q0, q1, qP, va_K.moved (u := U) (U := U.calling g mk a) (Vm.Alike.refl U.vm) qK, qD⟩, va_recv hKc hPc (ci := 9) (q0 := 0) rfl rfl, fun U hU hW => ⟨rfl, by rw [hU], by rw [hU]; exact hPc, va_K.moved hW.alike hKc, hDc.weaken (fun _ _ _ _ => trivial)⟩⟩ rfl rfl hl.1 rfl (lv_room (Nat.le_of_ble_eq_true rfl)) dX10_passNumber_64 ⟨Nat.le_of_ble_eq_true rfl, Nat.le_of_ble_eq_true rfl⟩) hS (fun q _ h => hFc q h) hFc (fun r_28 u t H1 locs ht hvm hw hB hz1 hk1 hS => ?_)
          obtain ⟨z0_29, z1_30, hp_31, hP1, hD1⟩ := hB
          rw [ht] at hP1
          obtain ⟨hP, hD⟩ := va_join (wr := []) (w1 := [(t0, .inr (9, [.ref tBytes, .int tsz, .int z0_29, .int z1_30, .int tnx, .int tki, .int tst, .int tsp, .int tva, .int tac])), (tBytes, .inl (cyB, 800, .inl t_f))]) hP hD [0, 1] [] rfl rfl (by decide) (by decide) hk1 hFc hP1 hD1
          generalize H1 = H at hP hS ⊢
          have hP : va_P (dC, dI) vwCl [(t0, .inr (9, [.ref tBytes, .int tsz, .int z0_29, .int z1_30, .int tnx, .int tki, .int tst, .int tsp, .int tva, .int tac])), (tBytes, .inl (cyB, 800, .inl t_f))] H := hP
          have hD : va_D A [(t0, .inr (9, [.ref tBytes, .int tsz, .int z0_29, .int z1_30, .int tnx, .int tki, .int tst, .int tsp, .int tva, .int tac])), (tBytes, .inl (cyB, 800, .inl t_f))] := hD
          subst hw
          rw [hQ9]
          have hP9 := hP.sub (ws' := [(t0, .inr (9, [.ref tBytes, .int tsz, .int z0_29, .int z1_30, .int tnx, .int tki, .int tst, .int tsp, .int tva, .int tac])), (tBytes, .inl (cyB, 800, .inl t_f))]) [0, 1] rfl
          have hD9 := hD.sub (ws' := [(t0, .inr (9, [.ref tBytes, .int tsz, .int z0_29, .int z1_30, .int tnx, .int tki, .int tst, .int tsp, .int tva, .int tac])), (tBytes, .inl (cyB, 800, .inl t_f))]) [0, 1] (by decide) rfl
          exact W.zret (v := 0) (ty := .boolean) hx hb hr rfl (fun t ht hW => ⟨⟨0, 0, rfl, ⟨rfl, (by decide)⟩, ⟨z0_29, z1_30, tnx, tki, tst, tsp, tva, tac, (by omega), (by omega), (by omega), ⟨cv_lo, by omega⟩, (by omega), (fun h9 => absurd h9 (by decide)), by rw [ht]; exact hP9, hD9⟩⟩, hS.F ht⟩) hS.2.2 dX10_passNumber_67
        · have c_27 : p0.toInt ≤ tva.toInt := cv_nlt c_27
          refine lv_aload_n hx hb dX10_passNumber_49 rfl (lv_at hl 1 rfl) ?_
          refine va_get (D := (dC, dI)) (ci := 9) (v := .int tva) (C := RX10) (T := TX10) (N := 10) hx hb hts uinX10 hown hK hP 0 rfl rfl 8 (by decide) (hts _ wd_1_47) (fun _ h9 => h9) rfl dX10_passNumber_50 ?_
          refine lv_iload_n hx hb dX10_passNumber_53 rfl (lv_at hl 3 rfl) ?_
          refine lv_icmp_gt (tgt := 62) hx hb dX10_passNumber_54 (by decide) (fun c_32 => ?_) (fun c_32 => ?_)
          · have c_32 : p1.toInt < tva.toInt := cv_lt c_32
            refine lv_aload_n hx hb dX10_passNumber_62 rfl (lv_at hl 1 rfl) ?_
            refine lv_iconst (v := 2) hx hb dX10_passNumber_63 (by decide) ?_
            have hPc := hP.sub (ws' := [(t0, .inr (9, [.ref tBytes, .int tsz, .int tfa, .int tfp, .int tnx, .int tki, .int tst, .int tsp, .int tva, .int tac])), (tBytes, .inl (cyB, 800, .inl t_f))]) [0, 1] rfl
            have hKc := hK.sub (tys' := [(cyI, .int), (cyB, .byte), (cyJ, .long), (cyZ, .boolean), (cyH, .object RX2), (cyN, .array .long)]) [0, 1, 2, 3, 4, 5] rfl
            have hDc := hD.sub (ws' := [(t0, .inr (9, [.ref tBytes, .int tsz, .int tfa, .int tfp, .int tnx, .int tki, .int tst, .int tsp, .int tva, .int tac])), (tBytes, .inl (cyB, 800, .inl t_f))]) [0, 1] (by decide) rfl
            have hFc := va_free (wc := [(t0, .inr (9, [.ref tBytes, .int tsz, .int tfa, .int tfp, .int tnx, .int tki, .int tst, .int tsp, .int tva, .int tac])), (tBytes, .inl (cyB, 800, .inl t_f))]) hD hS hA [0, 1] rfl
            refine va_calli (va_runV (As := [.int 2]) (rest := []) ⟨hx, hb, hml, hown, hts⟩ (n_refuse l dC dI cyI cyB cyJ cyZ cyH cyN H.size t0 tBytes tsz tfa tfp tnx tki tst tsp tva tac t_f 2 (by omega) (by omega) (by omega) (by omega) (by omega) (by omega)) (cwV 1 hts (gdV wd_2_224 wd_2_226 wd_s1_5 wd_1_2 wd_2_227) rfl rfl rfl (by decide +kernel) ⟨Nat.le_of_ble_eq_true rfl, Nat.le_of_ble_eq_true rfl⟩) ⟨fun a U g mk q => by obtain ⟨q0, q1, qP, qK, qD⟩ := q; exact ⟨q0, q1, qP, va_K.moved (u := U) (U := U.calling g mk a) (Vm.Alike.refl U.vm) qK, qD⟩, va_recv hKc hPc (ci := 9) (q0 := 0) rfl rfl, fun U hU hW => ⟨rfl, by rw [hU], by rw [hU]; exact hPc, va_K.moved hW.alike hKc, hDc.weaken (fun _ _ _ _ => trivial)⟩⟩ rfl rfl hl.1 rfl (lv_room (Nat.le_of_ble_eq_true rfl)) dX10_passNumber_64 ⟨Nat.le_of_ble_eq_true rfl, Nat.le_of_ble_eq_true rfl⟩) hS (fun q _ h => hFc q h) hFc (fun r_33 u t H1 locs ht hvm hw hB hz1 hk1 hS => ?_)
            obtain ⟨z0_34, z1_35, hp_36, hP1, hD1⟩ := hB
            rw [ht] at hP1
            obtain ⟨hP, hD⟩ := va_join (wr := []) (w1 := [(t0, .inr (9, [.ref tBytes, .int tsz, .int z0_34, .int z1_35, .int tnx, .int tki, .int tst, .int tsp, .int tva, .int tac])), (tBytes, .inl (cyB, 800, .inl t_f))]) hP hD [0, 1] [] rfl rfl (by decide) (by decide) hk1 hFc hP1 hD1
            generalize H1 = H at hP hS ⊢
            have hP : va_P (dC, dI) vwCl [(t0, .inr (9, [.ref tBytes, .int tsz, .int z0_34, .int z1_35, .int tnx, .int tki, .int tst, .int tsp, .int tva, .int tac])), (tBytes, .inl (cyB, 800, .inl t_f))] H := hP
            have hD : va_D A [(t0, .inr (9, [.ref tBytes, .int tsz, .int z0_34, .int z1_35, .int tnx, .int tki, .int tst, .int tsp, .int tva, .int tac])), (tBytes, .inl (cyB, 800, .inl t_f))] := hD
            subst hw
            rw [hQ9]
            have hP9 := hP.sub (ws' := [(t0, .inr (9, [.ref tBytes, .int tsz, .int z0_34, .int z1_35, .int tnx, .int tki, .int tst, .int tsp, .int tva, .int tac])), (tBytes, .inl (cyB, 800, .inl t_f))]) [0, 1] rfl
            have hD9 := hD.sub (ws' := [(t0, .inr (9, [.ref tBytes, .int tsz, .int z0_34, .int z1_35, .int tnx, .int tki, .int tst, .int tsp, .int tva, .int tac])), (tBytes, .inl (cyB, 800, .inl t_f))]) [0, 1] (by decide) rfl
            exact W.zret (v := 0) (ty := .boolean) hx hb hr rfl (fun t ht hW => ⟨⟨0, 0, rfl, ⟨rfl, (by decide)⟩, ⟨z0_34, z1_35, tnx, tki, tst, tsp, tva, tac, (by omega), (by omega), (by omega), ⟨cv_lo, by omega⟩, (by omega), (fun h9 => absurd h9 (by decide)), by rw [ht]; exact hP9, hD9⟩⟩, hS.F ht⟩) hS.2.2 dX10_passNumber_67
          · have c_32 : tva.toInt ≤ p1.toInt := cv_nlt c_32
            refine lv_iload hx hb dX10_passNumber_57 (lv_at hl 0 rfl) ?_
            refine lv_if_eq (tgt := 68) hx hb dX10_passNumber_59 (by decide) (fun _ => ?_) (fun c_37 => absurd c_37 (by decide))
            refine lv_aload_n hx hb dX10_passNumber_68 rfl (lv_at hl 1 rfl) ?_
            refine lv_aload_n hx hb dX10_passNumber_69 rfl (lv_at hl 1 rfl) ?_
            refine va_get (D := (dC, dI)) (ci := 9) (v := .int tva) (C := RX10) (T := TX10) (N := 10) hx hb hts uinX10 hown hK hP 0 rfl rfl 8 (by decide) (hts _ wd_1_47) (fun _ h9 => h9) rfl dX10_passNumber_70 ?_
            refine va_put (D := (dC, dI)) (ci := 9) (v := .int tva) (ty := .int) (C := RX10) (T := TX10) (N := 10) hx hb hts uinX10 tyX10 tyX10_ok nmX10 hown hK hP hD hS 0 rfl rfl 9 (by decide) (hts _ wd_1_48) (fun _ h9 => h9) rfl (by decide +kernel) rfl rfl (Nat.le_of_ble_eq_true rfl) dX10_passNumber_73 (fun H locs hP hD hS => ?_)
            have hP : va_P (dC, dI) vwCl [(t0, .inr (9, [.ref tBytes, .int tsz, .int tfa, .int tfp, .int tnx, .int tki, .int tst, .int tsp, .int tva, .int tva])), (tBytes, .inl (cyB, 800, .inl t_f))] H := hP
            have hD : va_D A [(t0, .inr (9, [.ref tBytes, .int tsz, .int tfa, .int tfp, .int tnx, .int tki, .int tst, .int tsp, .int tva, .int tva])), (tBytes, .inl (cyB, 800, .inl t_f))] := hD
            refine lv_aload_n hx hb dX10_passNumber_76 rfl (lv_at hl 1 rfl) ?_
            have hPc := hP.sub (ws' := [(t0, .inr (9, [.ref tBytes, .int tsz, .int tfa, .int tfp, .int tnx, .int tki, .int tst, .int tsp, .int tva, .int tva])), (tBytes, .inl (cyB, 800, .inl t_f))]) [0, 1] rfl
            have hKc := hK.sub (tys' := [(cyI, .int), (cyB, .byte), (cyJ, .long), (cyZ, .boolean), (cyH, .object RX2), (cyN, .array .long)]) [0, 1, 2, 3, 4, 5] rfl
            have hDc := hD.sub (ws' := [(t0, .inr (9, [.ref tBytes, .int tsz, .int tfa, .int tfp, .int tnx, .int tki, .int tst, .int tsp, .int tva, .int tva])), (tBytes, .inl (cyB, 800, .inl t_f))]) [0, 1] (by decide) rfl
            have hFc := va_free (wc := [(t0, .inr (9, [.ref tBytes, .int tsz, .int tfa, .int tfp, .int tnx, .int tki, .int tst, .int tsp, .int tva, .int tva])), (tBytes, .inl (cyB, 800, .inl t_f))]) hD hS hA [0, 1] rfl
            refine va_callv (va_runV (As := []) (rest := []) ⟨hx, hb, hml, hown, hts⟩ (n_readToken l dC dI cyI cyB cyJ cyZ cyH cyN H.size t0 tBytes tsz tfa tfp tnx tki tst tsp tva tva t_f (by omega) (by omega) (by omega) (by omega) (by omega) (by omega)) (cwV 0 hts (gdV wd_2_142 wd_2_144 wd_s1_0 wd_1_2 wd_2_145) rfl rfl rfl (by decide +kernel) ⟨Nat.le_of_ble_eq_true rfl, Nat.le_of_ble_eq_true rfl⟩) ⟨fun a U g mk q => by obtain ⟨q0, q1, qP, qK, qD⟩ := q; exact ⟨q0, q1, qP, va_K.moved (u := U) (U := U.calling g mk a) (Vm.Alike.refl U.vm) qK, qD⟩, va_recv hKc hPc (ci := 9) (q0 := 0) rfl rfl, fun U hU hW => ⟨rfl, by rw [hU], by rw [hU]; exact hPc, va_K.moved hW.alike hKc, hDc.weaken (fun _ _ _ _ => trivial)⟩⟩ rfl rfl hl.1 rfl (lv_room (Nat.le_of_ble_eq_true rfl)) dX10_passNumber_77 ⟨Nat.le_of_ble_eq_true rfl, Nat.le_of_ble_eq_true rfl⟩) hS (fun q _ h => hFc q h) hFc (fun  u t H1 locs ht hvm hw hB hz1 hk1 hS => ?_)
            obtain ⟨z0_38, z1_39, z2_40, z3_41, z4_42, hp_43, hp_44, hp_45, hp_46, hp_47, hP1, hD1⟩ := hB
            rw [ht] at hP1
            obtain ⟨hP, hD⟩ := va_join (wr := []) (w1 := [(t0, .inr (9, [.ref tBytes, .int tsz, .int tfa, .int tfp, .int z0_38, .int z1_39, .int z2_40, .int z3_41, .int z4_42, .int tva])), (tBytes, .inl (cyB, 800, .inl t_f))]) hP hD [0, 1] [] rfl rfl (by decide) (by decide) hk1 hFc hP1 hD1
            generalize H1 = H at hP hS ⊢
            have hP : va_P (dC, dI) vwCl [(t0, .inr (9, [.ref tBytes, .int tsz, .int tfa, .int tfp, .int z0_38, .int z1_39, .int z2_40, .int z3_41, .int z4_42, .int tva])), (tBytes, .inl (cyB, 800, .inl t_f))] H := hP
            have hD : va_D A [(t0, .inr (9, [.ref tBytes, .int tsz, .int tfa, .int tfp, .int z0_38, .int z1_39, .int z2_40, .int z3_41, .int z4_42, .int tva])), (tBytes, .inl (cyB, 800, .inl t_f))] := hD
            refine lv_iconst (v := 1) hx hb dX10_passNumber_80 (by decide) ?_
            rw [hQ9]
            have hP9 := hP.sub (ws' := [(t0, .inr (9, [.ref tBytes, .int tsz, .int tfa, .int tfp, .int z0_38, .int z1_39, .int z2_40, .int z3_41, .int z4_42, .int tva])), (tBytes, .inl (cyB, 800, .inl t_f))]) [0, 1] rfl
            have hD9 := hD.sub (ws' := [(t0, .inr (9, [.ref tBytes, .int tsz, .int tfa, .int tfp, .int z0_38, .int z1_39, .int z2_40, .int z3_41, .int z4_42, .int tva])), (tBytes, .inl (cyB, 800, .inl t_f))]) [0, 1] (by decide) rfl
            exact W.zret (v := 1) (ty := .boolean) hx hb hr rfl (fun t ht hW => ⟨⟨1, 1, rfl, ⟨rfl, (by decide)⟩, ⟨tfa, tfp, z0_38, z1_39, z2_40, z3_41, z4_42, tva, (by omega), (by omega), (by omega), ⟨cv_lo, by omega⟩, (by omega), (fun _ => by omega), by rw [ht]; exact hP9, hD9⟩⟩, hS.F ht⟩) hS.2.2 dX10_passNumber_81
      · have c_26 : x_25.toInt ≠ 0 := cv_ne c_26
        refine lv_iconst (v := 1) hx hb dX10_passNumber_34 (by decide) ?_
        refine lv_goto (tgt := 39) hx hb dX10_passNumber_35 (by decide) ?_
        refine lv_istore (lv' := [(4, .int 1), (0, .ref t0), (1, .int p0), (2, .int p1), (3, .int p2)]) hx hb dX10_passNumber_39 hl (by decide) rfl (fun ls hl => ?_)
        refine lv_aload_n hx hb dX10_passNumber_41 rfl (lv_at hl 1 rfl) ?_
        refine va_get (D := (dC, dI)) (ci := 9) (v := .int tva) (C := RX10) (T := TX10) (N := 10) hx hb hts uinX10 hown hK hP 0 rfl rfl 8 (by decide) (hts _ wd_1_47) (fun _ h9 => h9) rfl dX10_passNumber_42 ?_
        refine lv_iload_n hx hb dX10_passNumber_45 rfl (lv_at hl 2 rfl) ?_
        refine lv_icmp_lt (tgt := 62) hx hb dX10_passNumber_46 (by decide) (fun c_48 => ?_) (fun c_48 => ?_)
        · have c_48 : tva.toInt < p0.toInt := cv_lt c_48
          refine lv_aload_n hx hb dX10_passNumber_62 rfl (lv_at hl 1 rfl) ?_
          refine lv_iconst (v := 2) hx hb dX10_passNumber_63 (by decide) ?_
          have hPc := hP.sub (ws' := [(t0, .inr (9, [.ref tBytes, .int tsz, .int tfa, .int tfp, .int tnx, .int tki, .int tst, .int tsp, .int tva, .int tac])), (tBytes, .inl (cyB, 800, .inl t_f))]) [0, 1] rfl
          have hKc := hK.sub (tys' := [(cyI, .int), (cyB, .byte), (cyJ, .long), (cyZ, .boolean), (cyH, .object RX2), (cyN, .array .long)]) [0, 1, 2, 3, 4, 5] rfl
          have hDc := hD.sub (ws' := [(t0, .inr (9, [.ref tBytes, .int tsz, .int tfa, .int tfp, .int tnx, .int tki, .int tst, .int tsp, .int tva, .int tac])), (tBytes, .inl (cyB, 800, .inl t_f))]) [0, 1] (by decide) rfl
          have hFc := va_free (wc := [(t0, .inr (9, [.ref tBytes, .int tsz, .int tfa, .int tfp, .int tnx, .int tki, .int tst, .int tsp, .int tva, .int tac])), (tBytes, .inl (cyB, 800, .inl t_f))]) hD hS hA [0, 1] rfl
          refine va_calli (va_runV (As := [.int 2]) (rest := []) ⟨hx, hb, hml, hown, hts⟩ (n_refuse l dC dI cyI cyB cyJ cyZ cyH cyN H.size t0 tBytes tsz tfa tfp tnx tki tst tsp tva tac t_f 2 (by omega) (by omega) (by omega) (by omega) (by omega) (by omega)) (cwV 1 hts (gdV wd_2_224 wd_2_226 wd_s1_5 wd_1_2 wd_2_227) rfl rfl rfl (by decide +kernel) ⟨Nat.le_of_ble_eq_true rfl, Nat.le_of_ble_eq_true rfl⟩) ⟨fun a U g mk q => by obtain ⟨q0, q1, qP, qK, qD⟩ := q; exact ⟨q0, q1, qP, va_K.moved (u := U) (U := U.calling g mk a) (Vm.Alike.refl U.vm) qK, qD⟩, va_recv hKc hPc (ci := 9) (q0 := 0) rfl rfl, fun U hU hW => ⟨rfl, by rw [hU], by rw [hU]; exact hPc, va_K.moved hW.alike hKc, hDc.weaken (fun _ _ _ _ => trivial)⟩⟩ rfl rfl hl.1 rfl (lv_room (Nat.le_of_ble_eq_true rfl)) dX10_passNumber_64 ⟨Nat.le_of_ble_eq_true rfl, Nat.le_of_ble_eq_true rfl⟩) hS (fun q _ h => hFc q h) hFc (fun r_49 u t H1 locs ht hvm hw hB hz1 hk1 hS => ?_)
          obtain ⟨z0_50, z1_51, hp_52, hP1, hD1⟩ := hB
          rw [ht] at hP1
          obtain ⟨hP, hD⟩ := va_join (wr := []) (w1 := [(t0, .inr (9, [.ref tBytes, .int tsz, .int z0_50, .int z1_51, .int tnx, .int tki, .int tst, .int tsp, .int tva, .int tac])), (tBytes, .inl (cyB, 800, .inl t_f))]) hP hD [0, 1] [] rfl rfl (by decide) (by decide) hk1 hFc hP1 hD1
          generalize H1 = H at hP hS ⊢
          have hP : va_P (dC, dI) vwCl [(t0, .inr (9, [.ref tBytes, .int tsz, .int z0_50, .int z1_51, .int tnx, .int tki, .int tst, .int tsp, .int tva, .int tac])), (tBytes, .inl (cyB, 800, .inl t_f))] H := hP
          have hD : va_D A [(t0, .inr (9, [.ref tBytes, .int tsz, .int z0_50, .int z1_51, .int tnx, .int tki, .int tst, .int tsp, .int tva, .int tac])), (tBytes, .inl (cyB, 800, .inl t_f))] := hD
          subst hw
          rw [hQ9]
          have hP9 := hP.sub (ws' := [(t0, .inr (9, [.ref tBytes, .int tsz, .int z0_50, .int z1_51, .int tnx, .int tki, .int tst, .int tsp, .int tva, .int tac])), (tBytes, .inl (cyB, 800, .inl t_f))]) [0, 1] rfl
          have hD9 := hD.sub (ws' := [(t0, .inr (9, [.ref tBytes, .int tsz, .int z0_50, .int z1_51, .int tnx, .int tki, .int tst, .int tsp, .int tva, .int tac])), (tBytes, .inl (cyB, 800, .inl t_f))]) [0, 1] (by decide) rfl
          exact W.zret (v := 0) (ty := .boolean) hx hb hr rfl (fun t ht hW => ⟨⟨0, 0, rfl, ⟨rfl, (by decide)⟩, ⟨z0_50, z1_51, tnx, tki, tst, tsp, tva, tac, (by omega), (by omega), (by omega), ⟨cv_lo, by omega⟩, (by omega), (fun h9 => absurd h9 (by decide)), by rw [ht]; exact hP9, hD9⟩⟩, hS.F ht⟩) hS.2.2 dX10_passNumber_67
        · have c_48 : p0.toInt ≤ tva.toInt := cv_nlt c_48
          refine lv_aload_n hx hb dX10_passNumber_49 rfl (lv_at hl 1 rfl) ?_
          refine va_get (D := (dC, dI)) (ci := 9) (v := .int tva) (C := RX10) (T := TX10) (N := 10) hx hb hts uinX10 hown hK hP 0 rfl rfl 8 (by decide) (hts _ wd_1_47) (fun _ h9 => h9) rfl dX10_passNumber_50 ?_
          refine lv_iload_n hx hb dX10_passNumber_53 rfl (lv_at hl 3 rfl) ?_
          refine lv_icmp_gt (tgt := 62) hx hb dX10_passNumber_54 (by decide) (fun c_53 => ?_) (fun c_53 => ?_)
          · have c_53 : p1.toInt < tva.toInt := cv_lt c_53
            refine lv_aload_n hx hb dX10_passNumber_62 rfl (lv_at hl 1 rfl) ?_
            refine lv_iconst (v := 2) hx hb dX10_passNumber_63 (by decide) ?_
            have hPc := hP.sub (ws' := [(t0, .inr (9, [.ref tBytes, .int tsz, .int tfa, .int tfp, .int tnx, .int tki, .int tst, .int tsp, .int tva, .int tac])), (tBytes, .inl (cyB, 800, .inl t_f))]) [0, 1] rfl
            have hKc := hK.sub (tys' := [(cyI, .int), (cyB, .byte), (cyJ, .long), (cyZ, .boolean), (cyH, .object RX2), (cyN, .array .long)]) [0, 1, 2, 3, 4, 5] rfl
            have hDc := hD.sub (ws' := [(t0, .inr (9, [.ref tBytes, .int tsz, .int tfa, .int tfp, .int tnx, .int tki, .int tst, .int tsp, .int tva, .int tac])), (tBytes, .inl (cyB, 800, .inl t_f))]) [0, 1] (by decide) rfl
            have hFc := va_free (wc := [(t0, .inr (9, [.ref tBytes, .int tsz, .int tfa, .int tfp, .int tnx, .int tki, .int tst, .int tsp, .int tva, .int tac])), (tBytes, .inl (cyB, 800, .inl t_f))]) hD hS hA [0, 1] rfl
            refine va_calli (va_runV (As := [.int 2]) (rest := []) ⟨hx, hb, hml, hown, hts⟩ (n_refuse l dC dI cyI cyB cyJ cyZ cyH cyN H.size t0 tBytes tsz tfa tfp tnx tki tst tsp tva tac t_f 2 (by omega) (by omega) (by omega) (by omega) (by omega) (by omega)) (cwV 1 hts (gdV wd_2_224 wd_2_226 wd_s1_5 wd_1_2 wd_2_227) rfl rfl rfl (by decide +kernel) ⟨Nat.le_of_ble_eq_true rfl, Nat.le_of_ble_eq_true rfl⟩) ⟨fun a U g mk q => by obtain ⟨q0, q1, qP, qK, qD⟩ := q; exact ⟨q0, q1, qP, va_K.moved (u := U) (U := U.calling g mk a) (Vm.Alike.refl U.vm) qK, qD⟩, va_recv hKc hPc (ci := 9) (q0 := 0) rfl rfl, fun U hU hW => ⟨rfl, by rw [hU], by rw [hU]; exact hPc, va_K.moved hW.alike hKc, hDc.weaken (fun _ _ _ _ => trivial)⟩⟩ rfl rfl hl.1 rfl (lv_room (Nat.le_of_ble_eq_true rfl)) dX10_passNumber_64 ⟨Nat.le_of_ble_eq_true rfl, Nat.le_of_ble_eq_true rfl⟩) hS (fun q _ h => hFc q h) hFc (fun r_54 u t H1 locs ht hvm hw hB hz1 hk1 hS => ?_)
            obtain ⟨z0_55, z1_56, hp_57, hP1, hD1⟩ := hB
            rw [ht] at hP1
            obtain ⟨hP, hD⟩ := va_join (wr := []) (w1 := [(t0, .inr (9, [.ref tBytes, .int tsz, .int z0_55, .int z1_56, .int tnx, .int tki, .int tst, .int tsp, .int tva, .int tac])), (tBytes, .inl (cyB, 800, .inl t_f))]) hP hD [0, 1] [] rfl rfl (by decide) (by decide) hk1 hFc hP1 hD1
            generalize H1 = H at hP hS ⊢
            have hP : va_P (dC, dI) vwCl [(t0, .inr (9, [.ref tBytes, .int tsz, .int z0_55, .int z1_56, .int tnx, .int tki, .int tst, .int tsp, .int tva, .int tac])), (tBytes, .inl (cyB, 800, .inl t_f))] H := hP
            have hD : va_D A [(t0, .inr (9, [.ref tBytes, .int tsz, .int z0_55, .int z1_56, .int tnx, .int tki, .int tst, .int tsp, .int tva, .int tac])), (tBytes, .inl (cyB, 800, .inl t_f))] := hD
            subst hw
            rw [hQ9]
            have hP9 := hP.sub (ws' := [(t0, .inr (9, [.ref tBytes, .int tsz, .int z0_55, .int z1_56, .int tnx, .int tki, .int tst, .int tsp, .int tva, .int tac])), (tBytes, .inl (cyB, 800, .inl t_f))]) [0, 1] rfl
            have hD9 := hD.sub (ws' := [(t0, .inr (9, [.ref tBytes, .int tsz, .int z0_55, .int z1_56, .int tnx, .int tki, .int tst, .int tsp, .int tva, .int tac])), (tBytes, .inl (cyB, 800, .inl t_f))]) [0, 1] (by decide) rfl
            exact W.zret (v := 0) (ty := .boolean) hx hb hr rfl (fun t ht hW => ⟨⟨0, 0, rfl, ⟨rfl, (by decide)⟩, ⟨z0_55, z1_56, tnx, tki, tst, tsp, tva, tac, (by omega), (by omega), (by omega), ⟨cv_lo, by omega⟩, (by omega), (fun h9 => absurd h9 (by decide)), by rw [ht]; exact hP9, hD9⟩⟩, hS.F ht⟩) hS.2.2 dX10_passNumber_67
          · have c_53 : tva.toInt ≤ p1.toInt := cv_nlt c_53
            refine lv_iload hx hb dX10_passNumber_57 (lv_at hl 0 rfl) ?_
            refine lv_if_eq (tgt := 68) hx hb dX10_passNumber_59 (by decide) (fun c_58 => absurd c_58 (by decide)) (fun _ => ?_)
            refine lv_aload_n hx hb dX10_passNumber_62 rfl (lv_at hl 1 rfl) ?_
            refine lv_iconst (v := 2) hx hb dX10_passNumber_63 (by decide) ?_
            have hPc := hP.sub (ws' := [(t0, .inr (9, [.ref tBytes, .int tsz, .int tfa, .int tfp, .int tnx, .int tki, .int tst, .int tsp, .int tva, .int tac])), (tBytes, .inl (cyB, 800, .inl t_f))]) [0, 1] rfl
            have hKc := hK.sub (tys' := [(cyI, .int), (cyB, .byte), (cyJ, .long), (cyZ, .boolean), (cyH, .object RX2), (cyN, .array .long)]) [0, 1, 2, 3, 4, 5] rfl
            have hDc := hD.sub (ws' := [(t0, .inr (9, [.ref tBytes, .int tsz, .int tfa, .int tfp, .int tnx, .int tki, .int tst, .int tsp, .int tva, .int tac])), (tBytes, .inl (cyB, 800, .inl t_f))]) [0, 1] (by decide) rfl
            have hFc := va_free (wc := [(t0, .inr (9, [.ref tBytes, .int tsz, .int tfa, .int tfp, .int tnx, .int tki, .int tst, .int tsp, .int tva, .int tac])), (tBytes, .inl (cyB, 800, .inl t_f))]) hD hS hA [0, 1] rfl
            refine va_calli (va_runV (As := [.int 2]) (rest := []) ⟨hx, hb, hml, hown, hts⟩ (n_refuse l dC dI cyI cyB cyJ cyZ cyH cyN H.size t0 tBytes tsz tfa tfp tnx tki tst tsp tva tac t_f 2 (by omega) (by omega) (by omega) (by omega) (by omega) (by omega)) (cwV 1 hts (gdV wd_2_224 wd_2_226 wd_s1_5 wd_1_2 wd_2_227) rfl rfl rfl (by decide +kernel) ⟨Nat.le_of_ble_eq_true rfl, Nat.le_of_ble_eq_true rfl⟩) ⟨fun a U g mk q => by obtain ⟨q0, q1, qP, qK, qD⟩ := q; exact ⟨q0, q1, qP, va_K.moved (u := U) (U := U.calling g mk a) (Vm.Alike.refl U.vm) qK, qD⟩, va_recv hKc hPc (ci := 9) (q0 := 0) rfl rfl, fun U hU hW => ⟨rfl, by rw [hU], by rw [hU]; exact hPc, va_K.moved hW.alike hKc, hDc.weaken (fun _ _ _ _ => trivial)⟩⟩ rfl rfl hl.1 rfl (lv_room (Nat.le_of_ble_eq_true rfl)) dX10_passNumber_64 ⟨Nat.le_of_ble_eq_true rfl, Nat.le_of_ble_eq_true rfl⟩) hS (fun q _ h => hFc q h) hFc (fun r_59 u t H1 locs ht hvm hw hB hz1 hk1 hS => ?_)
            obtain ⟨z0_60, z1_61, hp_62, hP1, hD1⟩ := hB
            rw [ht] at hP1
            obtain ⟨hP, hD⟩ := va_join (wr := []) (w1 := [(t0, .inr (9, [.ref tBytes, .int tsz, .int z0_60, .int z1_61, .int tnx, .int tki, .int tst, .int tsp, .int tva, .int tac])), (tBytes, .inl (cyB, 800, .inl t_f))]) hP hD [0, 1] [] rfl rfl (by decide) (by decide) hk1 hFc hP1 hD1
            generalize H1 = H at hP hS ⊢
            have hP : va_P (dC, dI) vwCl [(t0, .inr (9, [.ref tBytes, .int tsz, .int z0_60, .int z1_61, .int tnx, .int tki, .int tst, .int tsp, .int tva, .int tac])), (tBytes, .inl (cyB, 800, .inl t_f))] H := hP
            have hD : va_D A [(t0, .inr (9, [.ref tBytes, .int tsz, .int z0_60, .int z1_61, .int tnx, .int tki, .int tst, .int tsp, .int tva, .int tac])), (tBytes, .inl (cyB, 800, .inl t_f))] := hD
            subst hw
            rw [hQ9]
            have hP9 := hP.sub (ws' := [(t0, .inr (9, [.ref tBytes, .int tsz, .int z0_60, .int z1_61, .int tnx, .int tki, .int tst, .int tsp, .int tva, .int tac])), (tBytes, .inl (cyB, 800, .inl t_f))]) [0, 1] rfl
            have hD9 := hD.sub (ws' := [(t0, .inr (9, [.ref tBytes, .int tsz, .int z0_60, .int z1_61, .int tnx, .int tki, .int tst, .int tsp, .int tva, .int tac])), (tBytes, .inl (cyB, 800, .inl t_f))]) [0, 1] (by decide) rfl
            exact W.zret (v := 0) (ty := .boolean) hx hb hr rfl (fun t ht hW => ⟨⟨0, 0, rfl, ⟨rfl, (by decide)⟩, ⟨z0_60, z1_61, tnx, tki, tst, tsp, tva, tac, (by omega), (by omega), (by omega), ⟨cv_lo, by omega⟩, (by omega), (fun h9 => absurd h9 (by decide)), by rw [ht]; exact hP9, hD9⟩⟩, hS.F ht⟩) hS.2.2 dX10_passNumber_67
  · have c_1 : tki.toInt ≠ 2 := cv_ne c_1
    refine lv_aload_n hx hb dX10_passNumber_8 rfl (lv_at hl 0 rfl) ?_
    refine lv_iconst (v := 1) hx hb dX10_passNumber_9 (by decide) ?_
    have hPc := hP.sub (ws' := [(t0, .inr (9, [.ref tBytes, .int tsz, .int tfa, .int tfp, .int tnx, .int tki, .int tst, .int tsp, .int tva, .int tac])), (tBytes, .inl (cyB, 800, .inl t_f))]) [0, 1] rfl
    have hKc := hK.sub (tys' := [(cyI, .int), (cyB, .byte), (cyJ, .long), (cyZ, .boolean), (cyH, .object RX2), (cyN, .array .long)]) [0, 1, 2, 3, 4, 5] rfl
    have hDc := hD.sub (ws' := [(t0, .inr (9, [.ref tBytes, .int tsz, .int tfa, .int tfp, .int tnx, .int tki, .int tst, .int tsp, .int tva, .int tac])), (tBytes, .inl (cyB, 800, .inl t_f))]) [0, 1] (by decide) rfl
    have hFc := va_free (wc := [(t0, .inr (9, [.ref tBytes, .int tsz, .int tfa, .int tfp, .int tnx, .int tki, .int tst, .int tsp, .int tva, .int tac])), (tBytes, .inl (cyB, 800, .inl t_f))]) hD hS hA [0, 1] rfl
    refine va_calli (va_runV (As := [.int 1]) (rest := []) ⟨hx, hb, hml, hown, hts⟩ (n_refuse l dC dI cyI cyB cyJ cyZ cyH cyN H.size t0 tBytes tsz tfa tfp tnx tki tst tsp tva tac t_f 1 (by omega) (by omega) (by omega) (by omega) (by omega) (by omega)) (cwV 1 hts (gdV wd_2_224 wd_2_226 wd_s1_5 wd_1_2 wd_2_227) rfl rfl rfl (by decide +kernel) ⟨Nat.le_of_ble_eq_true rfl, Nat.le_of_ble_eq_true rfl⟩) ⟨fun a U g mk q => by obtain ⟨q0, q1, qP, qK, qD⟩ := q; exact ⟨q0, q1, qP, va_K.moved (u := U) (U := U.calling g mk a) (Vm.Alike.refl U.vm) qK, qD⟩, va_recv hKc hPc (ci := 9) (q0 := 0) rfl rfl, fun U hU hW => ⟨rfl, by rw [hU], by rw [hU]; exact hPc, va_K.moved hW.alike hKc, hDc.weaken (fun _ _ _ _ => trivial)⟩⟩ rfl rfl hl.1 rfl (lv_room (Nat.le_of_ble_eq_true rfl)) dX10_passNumber_10 ⟨Nat.le_of_ble_eq_true rfl, Nat.le_of_ble_eq_true rfl⟩) hS (fun q _ h => hFc q h) hFc (fun r_63 u t H1 locs ht hvm hw hB hz1 hk1 hS => ?_)
    obtain ⟨z0_64, z1_65, hp_66, hP1, hD1⟩ := hB
    rw [ht] at hP1
    obtain ⟨hP, hD⟩ := va_join (wr := []) (w1 := [(t0, .inr (9, [.ref tBytes, .int tsz, .int z0_64, .int z1_65, .int tnx, .int tki, .int tst, .int tsp, .int tva, .int tac])), (tBytes, .inl (cyB, 800, .inl t_f))]) hP hD [0, 1] [] rfl rfl (by decide) (by decide) hk1 hFc hP1 hD1
    generalize H1 = H at hP hS ⊢
    have hP : va_P (dC, dI) vwCl [(t0, .inr (9, [.ref tBytes, .int tsz, .int z0_64, .int z1_65, .int tnx, .int tki, .int tst, .int tsp, .int tva, .int tac])), (tBytes, .inl (cyB, 800, .inl t_f))] H := hP
    have hD : va_D A [(t0, .inr (9, [.ref tBytes, .int tsz, .int z0_64, .int z1_65, .int tnx, .int tki, .int tst, .int tsp, .int tva, .int tac])), (tBytes, .inl (cyB, 800, .inl t_f))] := hD
    subst hw
    rw [hQ9]
    have hP9 := hP.sub (ws' := [(t0, .inr (9, [.ref tBytes, .int tsz, .int z0_64, .int z1_65, .int tnx, .int tki, .int tst, .int tsp, .int tva, .int tac])), (tBytes, .inl (cyB, 800, .inl t_f))]) [0, 1] rfl
    have hD9 := hD.sub (ws' := [(t0, .inr (9, [.ref tBytes, .int tsz, .int z0_64, .int z1_65, .int tnx, .int tki, .int tst, .int tsp, .int tva, .int tac])), (tBytes, .inl (cyB, 800, .inl t_f))]) [0, 1] (by decide) rfl
    exact W.zret (v := 0) (ty := .boolean) hx hb hr rfl (fun t ht hW => ⟨⟨0, 0, rfl, ⟨rfl, (by decide)⟩, ⟨z0_64, z1_65, tnx, tki, tst, tsp, tva, tac, (by omega), (by omega), (by omega), ⟨cv_lo, by omega⟩, (by omega), (fun h9 => absurd h9 (by decide)), by rw [ht]; exact hP9, hD9⟩⟩, hS.F ht⟩) hS.2.2 dX10_passNumber_13

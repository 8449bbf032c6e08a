/- X10_hasRoom -/
set_option maxHeartbeats 4000000 in
set_option maxRecDepth 100000 in
theorem n_hasRoom (l : Launch) (dC : Nat → ClassId) (dI : Nat → Nat → Nat) (cyI cyB cyJ cyZ cyH cyN : ClassId) (t0 tBytes : Nat) (tsz tfa tfp tnx tki tst tsp tva tac : Int32) (t_f : Nat → Int32) (g0 : 0 ≤ tsz.toInt ∧ tsz.toInt ≤ 800) (g1 : 0 ≤ tnx.toInt ∧ tnx.toInt ≤ 800) (g2 : 0 ≤ tst.toInt ∧ tst.toInt ≤ 800) (g3 : 0 ≤ tsp.toInt ∧ tsp.toInt ≤ 800) (g4 : 0 ≤ tva.toInt ∧ tva.toInt ≤ 1000000) (g5 : 0 ≤ tac.toInt ∧ tac.toInt ≤ 1000000) : Met l yX10_hasRoom (wk yX10_hasRoom cX10_hasRoom 1 (some .boolean)) ({ frames := 1, cells := 0, slots := 0, locals := 60 }) (va_Pc [.ref t0] (fun U => va_P (dC, dI) vwCl [(t0, .inr (9, [.ref tBytes, .int tsz, .int tfa, .int tfp, .int tnx, .int tki, .int tst, .int tsp, .int tva, .int tac])), (tBytes, .inl (cyB, 800, .inl t_f))] U.heap ∧ va_K (dC, dI) vwCl [(cyI, .int), (cyB, .byte), (cyJ, .long), (cyZ, .boolean), (cyH, .object RX2), (cyN, .array .long)] U)) (vp_Si (fun r : Int32 => 0 ≤ r.toInt ∧ r.toInt ≤ 1)) 0 0 (fun _ => False) := by
  refine Met.ofW (cc := cX10_hasRoom) (maxL := 1) (ret := (some .boolean)) (by decide) rfl ?_
  intro p e s m args below meth c s₁ B hml hv
  obtain ⟨rfl, hP, hK⟩ := hv
  have hx := B.exec
  have hb := B.bytes
  have hr := B.returns
  have hts : ∀ w ∈ uU, w.before ([.ref t0] : List Value).toArray s = true := fun w h => atoms_spec (ws := wk yX10_hasRoom cX10_hasRoom 1 (some .boolean)) B.pre w (List.mem_cons_of_mem _ h)
  have hown : s.vm.findClass RX10 = some m.cls := findClass_of_methodNamed B.named
  have hlocks := B.notSynchronized
  have hl := lv_entry ([.ref t0]) (n := 1) (Nat.le_of_ble_eq_true rfl)
  rw [lg_entry_eq]
  generalize (lg_sl ([.ref t0]) ++ List.replicate (1 - (lg_sl ([.ref t0])).length) Slot.unset).toArray = ls at hl ⊢
  have hl : lv_has ls 1 [(0, .ref t0)] := hl
  obtain ⟨Q9, hQ9⟩ : ∃ Q9 : State → Prop, Q9 = MQ below (vp_Si (fun r : Int32 => 0 ≤ r.toInt ∧ r.toInt ≤ 1)) ([.ref t0] : List Value).toArray s 0 0 (fun _ => False) := ⟨_, rfl⟩
  rw [← hQ9]
  refine lv_aload_n hx hb dX10_hasRoom_0 rfl (lv_at hl 0 rfl) ?_
  refine va_get (D := (dC, dI)) (ci := 9) (v := .int tsz) (C := RX10) (T := TX10) (N := 10) hx hb hts uinX10 hown hK hP 0 rfl rfl 1 (by decide) (hts _ wd_1_37) (fun _ h9 => h9) rfl dX10_hasRoom_1 ?_
  refine lv_if_lt (tgt := 24) hx hb dX10_hasRoom_4 (by decide) (fun c_1 => absurd (show tsz.toInt < 0 from cv_lt c_1) (by omega)) (fun _ => ?_)
  refine lv_aload_n hx hb dX10_hasRoom_7 rfl (lv_at hl 0 rfl) ?_
  refine va_get (D := (dC, dI)) (ci := 9) (v := .int tsz) (C := RX10) (T := TX10) (N := 10) hx hb hts uinX10 hown hK hP 0 rfl rfl 1 (by decide) (hts _ wd_1_37) (fun _ h9 => h9) rfl dX10_hasRoom_8 ?_
  refine lv_bipush (v := 20) hx hb dX10_hasRoom_11 (by decide) ?_
  refine lv_iadd hx hb dX10_hasRoom_13 ?_
  refine lv_topi (fun x_2 ex_2 => ?_)
  have fx_2 : x_2.toInt = tsz.toInt + 20 := by rw [ex_2]; exact cv_addI (by have : (20 : Int32).toInt = 20 := rfl; omega) (by have : (20 : Int32).toInt = 20 := rfl; omega)
  refine lv_sipush (v := 800) hx hb dX10_hasRoom_14 (by decide) ?_
  have join_4 : ∀ (u_3 : Int32) (ls : Array Slot), (0 ≤ u_3.toInt ∧ u_3.toInt ≤ 1) → lv_has ls 1 [(0, .ref t0)] → W p l e ({ frames := 1, cells := 0, slots := 0, locals := 60 }) s m ([.ref t0] : List Value).toArray below meth c s.heap [] 0 0 Q9 (F0 m 25 ls [.int u_3]) := by
    intro u_3 ls hu_3 hl
    rw [hQ9]
    exact W.zret (v := u_3) (ty := .boolean) hx hb hr (cv_nz (by omega) (by omega)) (fun t ht hW => ⟨u_3, rfl, (by omega), ht⟩) (fun q h => by cases h) dX10_hasRoom_25
  refine lv_icmp_gt (tgt := 24) hx hb dX10_hasRoom_17 (by decide) (fun c_5 => ?_) (fun c_5 => ?_)
  · have c_5 : 800 < x_2.toInt := cv_lt c_5
    refine lv_iconst (v := 0) hx hb dX10_hasRoom_24 (by decide) ?_
    exact join_4 0 _ (by decide) (lv_sub hl [0] rfl)
  · have c_5 : x_2.toInt ≤ 800 := cv_nlt c_5
    refine lv_iconst (v := 1) hx hb dX10_hasRoom_20 (by decide) ?_
    refine lv_goto (tgt := 25) hx hb dX10_hasRoom_21 (by decide) ?_
    exact join_4 1 _ (by decide) (lv_sub hl [0] rfl)

/- X10_put -/
set_option maxHeartbeats 4000000 in
set_option maxRecDepth 100000 in
theorem n_put (l : Launch) (dC : Nat → ClassId) (dI : Nat → Nat → Nat) (cyI cyB cyJ cyZ cyH cyN : ClassId) (sz : Nat) (t0 tBytes : Nat) (tsz tfa tfp tnx tki tst tsp tva tac : Int32) (t_f : Nat → Int32) (p0 : Int32) (g0 : 0 ≤ tsz.toInt ∧ tsz.toInt ≤ 800) (g1 : 0 ≤ tnx.toInt ∧ tnx.toInt ≤ 800) (g2 : 0 ≤ tst.toInt ∧ tst.toInt ≤ 800) (g3 : 0 ≤ tsp.toInt ∧ tsp.toInt ≤ 800) (g4 : 0 ≤ tva.toInt ∧ tva.toInt ≤ 1000000) (g5 : 0 ≤ tac.toInt ∧ tac.toInt ≤ 1000000) : Met l yX10_put (wk yX10_put cX10_put 3 none) ({ frames := 1, cells := 0, slots := 0, locals := 60 }) (va_Pc [.ref t0, .int p0] (fun U => U.heap.size = sz ∧ va_P (dC, dI) vwCl [(t0, .inr (9, [.ref tBytes, .int tsz, .int tfa, .int tfp, .int tnx, .int tki, .int tst, .int tsp, .int tva, .int tac])), (tBytes, .inl (cyB, 800, .inl t_f))] U.heap ∧ va_K (dC, dI) vwCl [(cyI, .int), (cyB, .byte), (cyJ, .long), (cyZ, .boolean), (cyH, .object RX2), (cyN, .array .long)] U ∧ va_D (fun _ => True) [(t0, .inr (9, [.ref tBytes, .int tsz, .int tfa, .int tfp, .int tnx, .int tki, .int tst, .int tsp, .int tva, .int tac])), (tBytes, .inl (cyB, 800, .inl t_f))])) (va_Qv (fun _ : Unit => True) (fun (_ : Unit) (t : State) => ∃ z0 : Int32, ∃ y1 : Nat → Int32, (0 ≤ z0.toInt ∧ z0.toInt ≤ 800) ∧ va_P (dC, dI) vwCl [(t0, .inr (9, [.ref tBytes, .int z0, .int tfa, .int tfp, .int tnx, .int tki, .int tst, .int tsp, .int tva, .int tac])), (tBytes, .inl (cyB, 800, .inl y1))] t.heap ∧ va_D (va_A [(t0, .inr (9, [.ref tBytes, .int tsz, .int tfa, .int tfp, .int tnx, .int tki, .int tst, .int tsp, .int tva, .int tac])), (tBytes, .inl (cyB, 800, .inl t_f))] sz) [(t0, .inr (9, [.ref tBytes, .int z0, .int tfa, .int tfp, .int tnx, .int tki, .int tst, .int tsp, .int tva, .int tac])), (tBytes, .inl (cyB, 800, .inl y1))]) (va_A [(t0, .inr (9, [.ref tBytes, .int tsz, .int tfa, .int tfp, .int tnx, .int tki, .int tst, .int tsp, .int tva, .int tac])), (tBytes, .inl (cyB, 800, .inl t_f))] sz)) 0 0 (va_A [(t0, .inr (9, [.ref tBytes, .int tsz, .int tfa, .int tfp, .int tnx, .int tki, .int tst, .int tsp, .int tva, .int tac])), (tBytes, .inl (cyB, 800, .inl t_f))] sz) := by
  refine Met.ofW (cc := cX10_put) (maxL := 3) (ret := none) (by decide) rfl ?_
  intro p e s m args below meth c s₁ B hml hv
  obtain ⟨rfl, hsz, hP, hK, hD0⟩ := hv
  have hx := B.exec
  have hb := B.bytes
  have hr := B.returns
  have hts : ∀ w ∈ uU, w.before ([.ref t0, .int p0] : List Value).toArray s = true := fun w h => atoms_spec (ws := wk yX10_put cX10_put 3 none) B.pre w (List.mem_cons_of_mem _ h)
  have hown : s.vm.findClass RX10 = some m.cls := findClass_of_methodNamed B.named
  have hlocks := B.notSynchronized
  subst hsz
  have hD := hD0.self (sz := s.heap.size)
  generalize hAe : va_A [(t0, .inr (9, [.ref tBytes, .int tsz, .int tfa, .int tfp, .int tnx, .int tki, .int tst, .int tsp, .int tva, .int tac])), (tBytes, .inl (cyB, 800, .inl t_f))] s.heap.size = A at hD ⊢
  have hA : ∀ q : Nat, s.heap.size ≤ q → A q := fun q h => by rw [← hAe]; exact Or.inr h
  have hS : va_S A s.heap s.heap [] := va_S.rf
  have hP : va_P (dC, dI) vwCl [(t0, .inr (9, [.ref tBytes, .int tsz, .int tfa, .int tfp, .int tnx, .int tki, .int tst, .int tsp, .int tva, .int tac])), (tBytes, .inl (cyB, 800, .inl t_f))] s.heap := hP
  have hl := lv_entry ([.ref t0, .int p0]) (n := 3) (Nat.le_of_ble_eq_true rfl)
  rw [lg_entry_eq]
  generalize (lg_sl ([.ref t0, .int p0]) ++ List.replicate (3 - (lg_sl ([.ref t0, .int p0])).length) Slot.unset).toArray = ls at hl ⊢
  have hl : lv_has ls 3 [(0, .ref t0), (1, .int p0)] := hl
  obtain ⟨H, hHe⟩ : ∃ H, H = s.heap := ⟨_, rfl⟩
  have hP : va_P (dC, dI) vwCl [(t0, .inr (9, [.ref tBytes, .int tsz, .int tfa, .int tfp, .int tnx, .int tki, .int tst, .int tsp, .int tva, .int tac])), (tBytes, .inl (cyB, 800, .inl t_f))] H := by rw [hHe]; exact hP
  have hS : va_S A s.heap H [] := by rw [hHe]; exact hS
  refine cv_heap hHe ?_
  obtain ⟨Q9, hQ9⟩ : ∃ Q9 : State → Prop, Q9 = MQ below (va_Qv (fun _ : Unit => True) (fun (_ : Unit) (t : State) => ∃ z0 : Int32, ∃ y1 : Nat → Int32, (0 ≤ z0.toInt ∧ z0.toInt ≤ 800) ∧ va_P (dC, dI) vwCl [(t0, .inr (9, [.ref tBytes, .int z0, .int tfa, .int tfp, .int tnx, .int tki, .int tst, .int tsp, .int tva, .int tac])), (tBytes, .inl (cyB, 800, .inl y1))] t.heap ∧ va_D A [(t0, .inr (9, [.ref tBytes, .int z0, .int tfa, .int tfp, .int tnx, .int tki, .int tst, .int tsp, .int tva, .int tac])), (tBytes, .inl (cyB, 800, .inl y1))]) A) ([.ref t0, .int p0] : List Value).toArray s 0 0 A := ⟨_, rfl⟩
  rw [← hQ9]
  refine lv_bipush (v := 24) hx hb dX10_put_0 (by decide) ?_
  refine lv_istore_n (lv' := [(2, .int 24), (0, .ref t0), (1, .int p0)]) hx hb dX10_put_2 rfl hl (by decide) rfl (fun ls hl => ?_)
  have key_4 : ∀ (nkey_4 : Nat) (u_1 : Int32) (w_2 : Int32) (f_3 : Nat → Int32) (H : Heap) (locs : List Loc) (ls : Array Slot), ((-8) ≤ u_1.toInt ∧ u_1.toInt ≤ 24) → (0 ≤ w_2.toInt ∧ w_2.toInt ≤ 800) → va_P (dC, dI) vwCl [(t0, .inr (9, [.ref tBytes, .int w_2, .int tfa, .int tfp, .int tnx, .int tki, .int tst, .int tsp, .int tva, .int tac])), (tBytes, .inl (cyB, 800, .inl f_3))] H → va_D A [(t0, .inr (9, [.ref tBytes, .int w_2, .int tfa, .int tfp, .int tnx, .int tki, .int tst, .int tsp, .int tva, .int tac])), (tBytes, .inl (cyB, 800, .inl f_3))] → va_S A s.heap H locs → lv_has ls 3 [(2, .int u_1), (0, .ref t0), (1, .int p0)] → (u_1.toInt - 0 + 1).toNat < nkey_4 → W p l e ({ frames := 1, cells := 0, slots := 0, locals := 60 }) s m ([.ref t0, .int p0] : List Value).toArray below meth c H locs 0 0 Q9 (F0 m 3 ls []) := by
    intro nkey_4
    induction nkey_4 with
    | zero => intro u_1 w_2 f_3 H locs ls hu_1 hw_2 hP hD hS hl hnkey_4; exact absurd hnkey_4 (Nat.not_lt_zero _)
    | succ nkey_4 ihkey_4 =>
      intro u_1 w_2 f_3 H locs ls hu_1 hw_2 hP hD hS hl hnkey_4
      refine lv_iload_n hx hb dX10_put_3 rfl (lv_at hl 0 rfl) ?_
      have join_5 : ∀ (H : Heap) (locs : List Loc) (ls : Array Slot), va_P (dC, dI) vwCl [(t0, .inr (9, [.ref tBytes, .int w_2, .int tfa, .int tfp, .int tnx, .int tki, .int tst, .int tsp, .int tva, .int tac])), (tBytes, .inl (cyB, 800, .inl f_3))] H → va_D A [(t0, .inr (9, [.ref tBytes, .int w_2, .int tfa, .int tfp, .int tnx, .int tki, .int tst, .int tsp, .int tva, .int tac])), (tBytes, .inl (cyB, 800, .inl f_3))] → va_S A s.heap H locs → lv_has ls 3 [(2, .int u_1), (0, .ref t0), (1, .int p0)] → W p l e ({ frames := 1, cells := 0, slots := 0, locals := 60 }) s m ([.ref t0, .int p0] : List Value).toArray below meth c H locs 0 0 Q9 (F0 m 46 ls []) := by
        intro H locs ls hP hD hS hl
        rw [hQ9]
        have hP9 := hP.sub (ws' := [(t0, .inr (9, [.ref tBytes, .int w_2, .int tfa, .int tfp, .int tnx, .int tki, .int tst, .int tsp, .int tva, .int tac])), (tBytes, .inl (cyB, 800, .inl f_3))]) [0, 1] rfl
        have hD9 := hD.sub (ws' := [(t0, .inr (9, [.ref tBytes, .int w_2, .int tfa, .int tfp, .int tnx, .int tki, .int tst, .int tsp, .int tva, .int tac])), (tBytes, .inl (cyB, 800, .inl f_3))]) [0, 1] (by decide) rfl
        exact W.vret hx hb hr (fun t ht hW => ⟨⟨(), rfl, trivial, ⟨w_2, f_3, (by omega), by rw [ht]; exact hP9, hD9⟩⟩, hS.F ht⟩) hS.2.2 dX10_put_46
      refine lv_if_lt (tgt := 46) hx hb dX10_put_4 (by decide) (fun c_6 => ?_) (fun c_6 => ?_)
      · have c_6 : u_1.toInt < 0 := cv_lt c_6
        exact join_5 _ _ _ hP hD hS (lv_sub hl [0, 1, 2] rfl)
      · have c_6 : 0 ≤ u_1.toInt := cv_nlt c_6
        refine lv_aload_n hx hb dX10_put_7 rfl (lv_at hl 1 rfl) ?_
        refine va_get (D := (dC, dI)) (ci := 9) (v := .int w_2) (C := RX10) (T := TX10) (N := 10) hx hb hts uinX10 hown hK hP 0 rfl rfl 1 (by decide) (hts _ wd_1_37) (fun _ h9 => h9) rfl dX10_put_8 ?_
        refine lv_sipush (v := 800) hx hb dX10_put_11 (by decide) ?_
        refine lv_icmp_ge (tgt := 46) hx hb dX10_put_14 (by decide) (fun c_7 => ?_) (fun c_7 => ?_)
        · have c_7 : 800 ≤ w_2.toInt := cv_le c_7
          exact join_5 _ _ _ hP hD hS (lv_sub hl [0, 1, 2] rfl)
        · have c_7 : w_2.toInt < 800 := cv_nle c_7
          refine lv_aload_n hx hb dX10_put_17 rfl (lv_at hl 1 rfl) ?_
          refine va_get (D := (dC, dI)) (ci := 9) (v := .ref tBytes) (C := RX10) (T := TX10) (N := 10) hx hb hts uinX10 hown hK hP 0 rfl rfl 0 (by decide) (hts _ wd_1_36) (fun _ h9 => h9) rfl dX10_put_18 ?_
          refine lv_aload_n hx hb dX10_put_21 rfl (lv_at hl 1 rfl) ?_
          refine va_get (D := (dC, dI)) (ci := 9) (v := .int w_2) (C := RX10) (T := TX10) (N := 10) hx hb hts uinX10 hown hK hP 0 rfl rfl 1 (by decide) (hts _ wd_1_37) (fun _ h9 => h9) rfl dX10_put_22 ?_
          refine lv_iload_n hx hb dX10_put_25 rfl (lv_at hl 2 rfl) ?_
          refine lv_iload_n hx hb dX10_put_26 rfl (lv_at hl 0 rfl) ?_
          refine lv_ishr hx hb dX10_put_27 ?_
          refine lv_topi (fun x_8 ex_8 => ?_)
          refine lv_i2b hx hb dX10_put_28 rfl ?_
          refine lv_topi (fun x_9 ex_9 => ?_)
          refine va_bast hx hb hK hP hD hS 1 1 rfl rfl (vp_in_iff.mpr (by omega)) dX10_put_29 (fun H locs hP hD hS => ?_)
          obtain ⟨f_10, ef_10⟩ : ∃ z9 : Nat → Int32, z9 = upd f_3 w_2.toNatClampNeg (vp_nar .byte x_9) := ⟨_, rfl⟩
          rw [← ef_10] at hP hD
          have hP : va_P (dC, dI) vwCl [(t0, .inr (9, [.ref tBytes, .int w_2, .int tfa, .int tfp, .int tnx, .int tki, .int tst, .int tsp, .int tva, .int tac])), (tBytes, .inl (cyB, 800, .inl f_10))] H := hP
          have hD : va_D A [(t0, .inr (9, [.ref tBytes, .int w_2, .int tfa, .int tfp, .int tnx, .int tki, .int tst, .int tsp, .int tva, .int tac])), (tBytes, .inl (cyB, 800, .inl f_10))] := hD
          refine lv_aload_n hx hb dX10_put_30 rfl (lv_at hl 1 rfl) ?_
          refine lv_dup hx hb dX10_put_31 rfl ?_
          refine va_get (D := (dC, dI)) (ci := 9) (v := .int w_2) (C := RX10) (T := TX10) (N := 10) hx hb hts uinX10 hown hK hP 0 rfl rfl 1 (by decide) (hts _ wd_1_37) (fun _ h9 => h9) rfl dX10_put_32 ?_
          refine lv_iconst (v := 1) hx hb dX10_put_35 (by decide) ?_
          refine lv_iadd hx hb dX10_put_36 ?_
          refine lv_topi (fun x_11 ex_11 => ?_)
          have fx_11 : x_11.toInt = w_2.toInt + 1 := by rw [ex_11]; exact cv_addI (by have : (1 : Int32).toInt = 1 := rfl; omega) (by have : (1 : Int32).toInt = 1 := rfl; omega)
          refine va_put (D := (dC, dI)) (ci := 9) (v := .int x_11) (ty := .int) (C := RX10) (T := TX10) (N := 10) hx hb hts uinX10 tyX10 tyX10_ok nmX10 hown hK hP hD hS 0 rfl rfl 1 (by decide) (hts _ wd_1_37) (fun _ h9 => h9) rfl (by decide +kernel) rfl rfl (Nat.le_of_ble_eq_true rfl) dX10_put_37 (fun H locs hP hD hS => ?_)
          have hP : va_P (dC, dI) vwCl [(t0, .inr (9, [.ref tBytes, .int x_11, .int tfa, .int tfp, .int tnx, .int tki, .int tst, .int tsp, .int tva, .int tac])), (tBytes, .inl (cyB, 800, .inl f_10))] H := hP
          have hD : va_D A [(t0, .inr (9, [.ref tBytes, .int x_11, .int tfa, .int tfp, .int tnx, .int tki, .int tst, .int tsp, .int tva, .int tac])), (tBytes, .inl (cyB, 800, .inl f_10))] := hD
          obtain ⟨x_12, ex_12⟩ : ∃ y : Int32, y = u_1 + (-8) := ⟨_, rfl⟩
          refine lv_iinc (v := x_12) (lv' := [(2, .int x_12), (0, .ref t0), (1, .int p0)]) hx hb dX10_put_40 hl (k := 0) rfl (by rw [ex_12]; rfl) (by decide) rfl (fun ls hl => ?_)
          have fx_12 : x_12.toInt = u_1.toInt + (-8) := by rw [ex_12]; exact cv_addI (by have : ((-8) : Int32).toInt = (-8) := rfl; omega) (by have : ((-8) : Int32).toInt = (-8) := rfl; omega)
          refine lv_goto (tgt := 3) hx hb dX10_put_43 (by decide) ?_
          exact ihkey_4 x_12 x_11 f_10 _ _ _ (by omega) (by omega) hP hD hS (lv_sub hl [0, 1, 2] rfl) (by omega)
  exact key_4 _ 24 tsz t_f _ _ _ (by decide) (by omega) hP hD hS (lv_sub hl [0, 1, 2] rfl) (Nat.lt_succ_self _)

/- X10_refuse -/
set_option maxHeartbeats 4000000 in
set_option maxRecDepth 100000 in
theorem n_refuse (l : Launch) (dC : Nat → ClassId) (dI : Nat → Nat → Nat) (cyI cyB cyJ cyZ cyH cyN : ClassId) (sz : Nat) (t0 tBytes : Nat) (tsz tfa tfp tnx tki tst tsp tva tac : Int32) (t_f : Nat → Int32) (p0 : Int32) (g0 : 0 ≤ tsz.toInt ∧ tsz.toInt ≤ 800) (g1 : 0 ≤ tnx.toInt ∧ tnx.toInt ≤ 800) (g2 : 0 ≤ tst.toInt ∧ tst.toInt ≤ 800) (g3 : 0 ≤ tsp.toInt ∧ tsp.toInt ≤ 800) (g4 : 0 ≤ tva.toInt ∧ tva.toInt ≤ 1000000) (g5 : 0 ≤ tac.toInt ∧ tac.toInt ≤ 1000000) : Met l yX10_refuse (wk yX10_refuse cX10_refuse 2 (some .boolean)) ({ frames := 1, cells := 0, slots := 0, locals := 60 }) (va_Pc [.ref t0, .int p0] (fun U => U.heap.size = sz ∧ va_P (dC, dI) vwCl [(t0, .inr (9, [.ref tBytes, .int tsz, .int tfa, .int tfp, .int tnx, .int tki, .int tst, .int tsp, .int tva, .int tac])), (tBytes, .inl (cyB, 800, .inl t_f))] U.heap ∧ va_K (dC, dI) vwCl [(cyI, .int), (cyB, .byte), (cyJ, .long), (cyZ, .boolean), (cyH, .object RX2), (cyN, .array .long)] U ∧ va_D (fun _ => True) [(t0, .inr (9, [.ref tBytes, .int tsz, .int tfa, .int tfp, .int tnx, .int tki, .int tst, .int tsp, .int tva, .int tac])), (tBytes, .inl (cyB, 800, .inl t_f))])) (va_Qi (fun (r : Int32) (_ : Unit) => r = 0) (fun (_ : Unit) (t : State) => ∃ z0 : Int32, ∃ z1 : Int32, (0 ≤ z1.toInt ∧ z1.toInt ≤ 800) ∧ va_P (dC, dI) vwCl [(t0, .inr (9, [.ref tBytes, .int tsz, .int z0, .int z1, .int tnx, .int tki, .int tst, .int tsp, .int tva, .int tac])), (tBytes, .inl (cyB, 800, .inl t_f))] t.heap ∧ va_D (va_A [(t0, .inr (9, [.ref tBytes, .int tsz, .int tfa, .int tfp, .int tnx, .int tki, .int tst, .int tsp, .int tva, .int tac])), (tBytes, .inl (cyB, 800, .inl t_f))] sz) [(t0, .inr (9, [.ref tBytes, .int tsz, .int z0, .int z1, .int tnx, .int tki, .int tst, .int tsp, .int tva, .int tac])), (tBytes, .inl (cyB, 800, .inl t_f))]) (va_A [(t0, .inr (9, [.ref tBytes, .int tsz, .int tfa, .int tfp, .int tnx, .int tki, .int tst, .int tsp, .int tva, .int tac])), (tBytes, .inl (cyB, 800, .inl t_f))] sz)) 0 0 (va_A [(t0, .inr (9, [.ref tBytes, .int tsz, .int tfa, .int tfp, .int tnx, .int tki, .int tst, .int tsp, .int tva, .int tac])), (tBytes, .inl (cyB, 800, .inl t_f))] sz) := by
  refine Met.ofW (cc := cX10_refuse) (maxL := 2) (ret := (some .boolean)) (by decide) rfl ?_
  intro p e s m args below meth c s₁ B hml hv
  obtain ⟨rfl, hsz, hP, hK, hD0⟩ := hv
  have hx := B.exec
  have hb := B.bytes
  have hr := B.returns
  have hts : ∀ w ∈ uU, w.before ([.ref t0, .int p0] : List Value).toArray s = true := fun w h => atoms_spec (ws := wk yX10_refuse cX10_refuse 2 (some .boolean)) B.pre w (List.mem_cons_of_mem _ h)
  have hown : s.vm.findClass RX10 = some m.cls := findClass_of_methodNamed B.named
  have hlocks := B.notSynchronized
  subst hsz
  have hD := hD0.self (sz := s.heap.size)
  generalize hAe : va_A [(t0, .inr (9, [.ref tBytes, .int tsz, .int tfa, .int tfp, .int tnx, .int tki, .int tst, .int tsp, .int tva, .int tac])), (tBytes, .inl (cyB, 800, .inl t_f))] s.heap.size = A at hD ⊢
  have hA : ∀ q : Nat, s.heap.size ≤ q → A q := fun q h => by rw [← hAe]; exact Or.inr h
  have hS : va_S A s.heap s.heap [] := va_S.rf
  have hP : va_P (dC, dI) vwCl [(t0, .inr (9, [.ref tBytes, .int tsz, .int tfa, .int tfp, .int tnx, .int tki, .int tst, .int tsp, .int tva, .int tac])), (tBytes, .inl (cyB, 800, .inl t_f))] s.heap := hP
  have hl := lv_entry ([.ref t0, .int p0]) (n := 2) (Nat.le_of_ble_eq_true rfl)
  rw [lg_entry_eq]
  generalize (lg_sl ([.ref t0, .int p0]) ++ List.replicate (2 - (lg_sl ([.ref t0, .int p0])).length) Slot.unset).toArray = ls at hl ⊢
  have hl : lv_has ls 2 [(0, .ref t0), (1, .int p0)] := hl
  obtain ⟨H, hHe⟩ : ∃ H, H = s.heap := ⟨_, rfl⟩
  have hP : va_P (dC, dI) vwCl [(t0, .inr (9, [.ref tBytes, .int tsz, .int tfa, .int tfp, .int tnx, .int tki, .int tst, .int tsp, .int tva, .int tac])), (tBytes, .inl (cyB, 800, .inl t_f))] H := by rw [hHe]; exact hP
  have hS : va_S A s.heap H [] := by rw [hHe]; exact hS
  refine cv_heap hHe ?_
  obtain ⟨Q9, hQ9⟩ : ∃ Q9 : State → Prop, Q9 = MQ below (va_Qi (fun (r : Int32) (_ : Unit) => r = 0) (fun (_ : Unit) (t : State) => ∃ z0 : Int32, ∃ z1 : Int32, (0 ≤ z1.toInt ∧ z1.toInt ≤ 800) ∧ va_P (dC, dI) vwCl [(t0, .inr (9, [.ref tBytes, .int tsz, .int z0, .int z1, .int tnx, .int tki, .int tst, .int tsp, .int tva, .int tac])), (tBytes, .inl (cyB, 800, .inl t_f))] t.heap ∧ va_D A [(t0, .inr (9, [.ref tBytes, .int tsz, .int z0, .int z1, .int tnx, .int tki, .int tst, .int tsp, .int tva, .int tac])), (tBytes, .inl (cyB, 800, .inl t_f))]) A) ([.ref t0, .int p0] : List Value).toArray s 0 0 A := ⟨_, rfl⟩
  rw [← hQ9]
  refine lv_aload_n hx hb dX10_refuse_0 rfl (lv_at hl 0 rfl) ?_
  refine lv_iload_n hx hb dX10_refuse_1 rfl (lv_at hl 1 rfl) ?_
  refine va_put (D := (dC, dI)) (ci := 9) (v := .int p0) (ty := .int) (C := RX10) (T := TX10) (N := 10) hx hb hts uinX10 tyX10 tyX10_ok nmX10 hown hK hP hD hS 0 rfl rfl 2 (by decide) (hts _ wd_1_39) (fun _ h9 => h9) rfl (by decide +kernel) rfl rfl (Nat.le_of_ble_eq_true rfl) dX10_refuse_2 (fun H locs hP hD hS => ?_)
  have hP : va_P (dC, dI) vwCl [(t0, .inr (9, [.ref tBytes, .int tsz, .int p0, .int tfp, .int tnx, .int tki, .int tst, .int tsp, .int tva, .int tac])), (tBytes, .inl (cyB, 800, .inl t_f))] H := hP
  have hD : va_D A [(t0, .inr (9, [.ref tBytes, .int tsz, .int p0, .int tfp, .int tnx, .int tki, .int tst, .int tsp, .int tva, .int tac])), (tBytes, .inl (cyB, 800, .inl t_f))] := hD
  refine lv_aload_n hx hb dX10_refuse_5 rfl (lv_at hl 0 rfl) ?_
  refine lv_aload_n hx hb dX10_refuse_6 rfl (lv_at hl 0 rfl) ?_
  refine va_get (D := (dC, dI)) (ci := 9) (v := .int tst) (C := RX10) (T := TX10) (N := 10) hx hb hts uinX10 hown hK hP 0 rfl rfl 6 (by decide) (hts _ wd_1_45) (fun _ h9 => h9) rfl dX10_refuse_7 ?_
  refine va_put (D := (dC, dI)) (ci := 9) (v := .int tst) (ty := .int) (C := RX10) (T := TX10) (N := 10) hx hb hts uinX10 tyX10 tyX10_ok nmX10 hown hK hP hD hS 0 rfl rfl 3 (by decide) (hts _ wd_1_41) (fun _ h9 => h9) rfl (by decide +kernel) rfl rfl (Nat.le_of_ble_eq_true rfl) dX10_refuse_10 (fun H locs hP hD hS => ?_)
  have hP : va_P (dC, dI) vwCl [(t0, .inr (9, [.ref tBytes, .int tsz, .int p0, .int tst, .int tnx, .int tki, .int tst, .int tsp, .int tva, .int tac])), (tBytes, .inl (cyB, 800, .inl t_f))] H := hP
  have hD : va_D A [(t0, .inr (9, [.ref tBytes, .int tsz, .int p0, .int tst, .int tnx, .int tki, .int tst, .int tsp, .int tva, .int tac])), (tBytes, .inl (cyB, 800, .inl t_f))] := hD
  refine lv_iconst (v := 0) hx hb dX10_refuse_13 (by decide) ?_
  rw [hQ9]
  have hP9 := hP.sub (ws' := [(t0, .inr (9, [.ref tBytes, .int tsz, .int p0, .int tst, .int tnx, .int tki, .int tst, .int tsp, .int tva, .int tac])), (tBytes, .inl (cyB, 800, .inl t_f))]) [0, 1] rfl
  have hD9 := hD.sub (ws' := [(t0, .inr (9, [.ref tBytes, .int tsz, .int p0, .int tst, .int tnx, .int tki, .int tst, .int tsp, .int tva, .int tac])), (tBytes, .inl (cyB, 800, .inl t_f))]) [0, 1] (by decide) rfl
  exact W.zret (v := 0) (ty := .boolean) hx hb hr rfl (fun t ht hW => ⟨⟨0, (), rfl, rfl, ⟨p0, tst, (by omega), by rw [ht]; exact hP9, hD9⟩⟩, hS.F ht⟩) hS.2.2 dX10_refuse_14

/- X10_readToken -/
set_option maxHeartbeats 4000000 in
set_option maxRecDepth 100000 in
theorem n_readToken (l : Launch) (dC : Nat → ClassId) (dI : Nat → Nat → Nat) (cyI cyB cyJ cyZ cyH cyN : ClassId) (sz : Nat) (t0 tBytes : Nat) (tsz tfa tfp tnx tki tst tsp tva tac : Int32) (t_f : Nat → Int32) (g0 : 0 ≤ tsz.toInt ∧ tsz.toInt ≤ 800) (g1 : 0 ≤ tnx.toInt ∧ tnx.toInt ≤ 800) (g2 : 0 ≤ tst.toInt ∧ tst.toInt ≤ 800) (g3 : 0 ≤ tsp.toInt ∧ tsp.toInt ≤ 800) (g4 : 0 ≤ tva.toInt ∧ tva.toInt ≤ 1000000) (g5 : 0 ≤ tac.toInt ∧ tac.toInt ≤ 1000000) : Met l yX10_readToken (wk yX10_readToken cX10_readToken 1 none) ({ frames := 2, cells := 0, slots := 0, locals := 80 }) (va_Pc [.ref t0] (fun U => U.heap.size = sz ∧ va_P (dC, dI) vwCl [(t0, .inr (9, [.ref tBytes, .int tsz, .int tfa, .int tfp, .int tnx, .int tki, .int tst, .int tsp, .int tva, .int tac])), (tBytes, .inl (cyB, 800, .inl t_f))] U.heap ∧ va_K (dC, dI) vwCl [(cyI, .int), (cyB, .byte), (cyJ, .long), (cyZ, .boolean), (cyH, .object RX2), (cyN, .array .long)] U ∧ va_D (fun _ => True) [(t0, .inr (9, [.ref tBytes, .int tsz, .int tfa, .int tfp, .int tnx, .int tki, .int tst, .int tsp, .int tva, .int tac])), (tBytes, .inl (cyB, 800, .inl t_f))])) (va_Qv (fun _ : Unit => True) (fun (_ : Unit) (t : State) => ∃ z0 : Int32, ∃ z1 : Int32, ∃ z2 : Int32, ∃ z3 : Int32, ∃ z4 : Int32, (0 ≤ z0.toInt ∧ z0.toInt ≤ 800) ∧ (0 ≤ z1.toInt ∧ z1.toInt ≤ 4) ∧ (0 ≤ z2.toInt ∧ z2.toInt ≤ 800) ∧ (0 ≤ z3.toInt ∧ z3.toInt ≤ 800) ∧ ((-2147483648) ≤ z4.toInt ∧ z4.toInt ≤ 1000000) ∧ va_P (dC, dI) vwCl [(t0, .inr (9, [.ref tBytes, .int tsz, .int tfa, .int tfp, .int z0, .int z1, .int z2, .int z3, .int z4, .int tac])), (tBytes, .inl (cyB, 800, .inl t_f))] t.heap ∧ va_D (va_A [(t0, .inr (9, [.ref tBytes, .int tsz, .int tfa, .int tfp, .int tnx, .int tki, .int tst, .int tsp, .int tva, .int tac])), (tBytes, .inl (cyB, 800, .inl t_f))] sz) [(t0, .inr (9, [.ref tBytes, .int tsz, .int tfa, .int tfp, .int z0, .int z1, .int z2, .int z3, .int z4, .int tac])), (tBytes, .inl (cyB, 800, .inl t_f))]) (va_A [(t0, .inr (9, [.ref tBytes, .int tsz, .int tfa, .int tfp, .int tnx, .int tki, .int tst, .int tsp, .int tva, .int tac])), (tBytes, .inl (cyB, 800, .inl t_f))] sz)) 0 0 (va_A [(t0, .inr (9, [.ref tBytes, .int tsz, .int tfa, .int tfp, .int tnx, .int tki, .int tst, .int tsp, .int tva, .int tac])), (tBytes, .inl (cyB, 800, .inl t_f))] sz) := by
  refine Met.ofW (cc := cX10_readToken) (maxL := 1) (ret := none) (by decide) rfl ?_
  intro p e s m args below meth c s₁ B hml hv
  obtain ⟨rfl, hsz, hP, hK, hD0⟩ := hv
  have hx := B.exec
  have hb := B.bytes
  have hr := B.returns
  have hts : ∀ w ∈ uU, w.before ([.ref t0] : List Value).toArray s = true := fun w h => atoms_spec (ws := wk yX10_readToken cX10_readToken 1 none) B.pre w (List.mem_cons_of_mem _ h)
  have hown : s.vm.findClass RX10 = some m.cls := findClass_of_methodNamed B.named
  have hlocks := B.notSynchronized
  subst hsz
  have hD := hD0.self (sz := s.heap.size)
  generalize hAe : va_A [(t0, .inr (9, [.ref tBytes, .int tsz, .int tfa, .int tfp, .int tnx, .int tki, .int tst, .int tsp, .int tva, .int tac])), (tBytes, .inl (cyB, 800, .inl t_f))] s.heap.size = A at hD ⊢
  have hA : ∀ q : Nat, s.heap.size ≤ q → A q := fun q h => by rw [← hAe]; exact Or.inr h
  have hS : va_S A s.heap s.heap [] := va_S.rf
  have hP : va_P (dC, dI) vwCl [(t0, .inr (9, [.ref tBytes, .int tsz, .int tfa, .int tfp, .int tnx, .int tki, .int tst, .int tsp, .int tva, .int tac])), (tBytes, .inl (cyB, 800, .inl t_f))] s.heap := hP
  have hl := lv_entry ([.ref t0]) (n := 1) (Nat.le_of_ble_eq_true rfl)
  rw [lg_entry_eq]
  generalize (lg_sl ([.ref t0]) ++ List.replicate (1 - (lg_sl ([.ref t0])).length) Slot.unset).toArray = ls at hl ⊢
  have hl : lv_has ls 1 [(0, .ref t0)] := hl
  obtain ⟨H, hHe⟩ : ∃ H, H = s.heap := ⟨_, rfl⟩
  have hP : va_P (dC, dI) vwCl [(t0, .inr (9, [.ref tBytes, .int tsz, .int tfa, .int tfp, .int tnx, .int tki, .int tst, .int tsp, .int tva, .int tac])), (tBytes, .inl (cyB, 800, .inl t_f))] H := by rw [hHe]; exact hP
  have hS : va_S A s.heap H [] := by rw [hHe]; exact hS
  refine cv_heap hHe ?_
  obtain ⟨Q9, hQ9⟩ : ∃ Q9 : State → Prop, Q9 = MQ below (va_Qv (fun _ : Unit => True) (fun (_ : Unit) (t : State) => ∃ z0 : Int32, ∃ z1 : Int32, ∃ z2 : Int32, ∃ z3 : Int32, ∃ z4 : Int32, (0 ≤ z0.toInt ∧ z0.toInt ≤ 800) ∧ (0 ≤ z1.toInt ∧ z1.toInt ≤ 4) ∧ (0 ≤ z2.toInt ∧ z2.toInt ≤ 800) ∧ (0 ≤ z3.toInt ∧ z3.toInt ≤ 800) ∧ ((-2147483648) ≤ z4.toInt ∧ z4.toInt ≤ 1000000) ∧ va_P (dC, dI) vwCl [(t0, .inr (9, [.ref tBytes, .int tsz, .int tfa, .int tfp, .int z0, .int z1, .int z2, .int z3, .int z4, .int tac])), (tBytes, .inl (cyB, 800, .inl t_f))] t.heap ∧ va_D A [(t0, .inr (9, [.ref tBytes, .int tsz, .int tfa, .int tfp, .int z0, .int z1, .int z2, .int z3, .int z4, .int tac])), (tBytes, .inl (cyB, 800, .inl t_f))]) A) ([.ref t0] : List Value).toArray s 0 0 A := ⟨_, rfl⟩
  rw [← hQ9]
  have key_2 : ∀ (nkey_2 : Nat) (w_1 : Int32) (H : Heap) (locs : List Loc) (ls : Array Slot), (0 ≤ w_1.toInt ∧ w_1.toInt ≤ 800) → va_P (dC, dI) vwCl [(t0, .inr (9, [.ref tBytes, .int tsz, .int tfa, .int tfp, .int w_1, .int tki, .int tst, .int tsp, .int tva, .int tac])), (tBytes, .inl (cyB, 800, .inl t_f))] H → va_D A [(t0, .inr (9, [.ref tBytes, .int tsz, .int tfa, .int tfp, .int w_1, .int tki, .int tst, .int tsp, .int tva, .int tac])), (tBytes, .inl (cyB, 800, .inl t_f))] → va_S A s.heap H locs → lv_has ls 1 [(0, .ref t0)] → (tsz.toInt - w_1.toInt).toNat < nkey_2 → W p l e ({ frames := 2, cells := 0, slots := 0, locals := 80 }) s m ([.ref t0] : List Value).toArray below meth c H locs 0 0 Q9 (F0 m 0 ls []) := by
    intro nkey_2
    induction nkey_2 with
    | zero => intro w_1 H locs ls hw_1 hP hD hS hl hnkey_2; exact absurd hnkey_2 (Nat.not_lt_zero _)
    | succ nkey_2 ihkey_2 =>
      intro w_1 H locs ls hw_1 hP hD hS hl hnkey_2
      refine lv_aload_n hx hb dX10_readToken_0 rfl (lv_at hl 0 rfl) ?_
      refine va_get (D := (dC, dI)) (ci := 9) (v := .int w_1) (C := RX10) (T := TX10) (N := 10) hx hb hts uinX10 hown hK hP 0 rfl rfl 4 (by decide) (hts _ wd_1_43) (fun _ h9 => h9) rfl dX10_readToken_1 ?_
      refine lv_aload_n hx hb dX10_readToken_4 rfl (lv_at hl 0 rfl) ?_
      refine va_get (D := (dC, dI)) (ci := 9) (v := .int tsz) (C := RX10) (T := TX10) (N := 10) hx hb hts uinX10 hown hK hP 0 rfl rfl 1 (by decide) (hts _ wd_1_37) (fun _ h9 => h9) rfl dX10_readToken_5 ?_
      have join_3 : ∀ (H : Heap) (locs : List Loc) (ls : Array Slot), va_P (dC, dI) vwCl [(t0, .inr (9, [.ref tBytes, .int tsz, .int tfa, .int tfp, .int w_1, .int tki, .int tst, .int tsp, .int tva, .int tac])), (tBytes, .inl (cyB, 800, .inl t_f))] H → va_D A [(t0, .inr (9, [.ref tBytes, .int tsz, .int tfa, .int tfp, .int w_1, .int tki, .int tst, .int tsp, .int tva, .int tac])), (tBytes, .inl (cyB, 800, .inl t_f))] → va_S A s.heap H locs → lv_has ls 1 [(0, .ref t0)] → W p l e ({ frames := 2, cells := 0, slots := 0, locals := 80 }) s m ([.ref t0] : List Value).toArray below meth c H locs 0 0 Q9 (F0 m 39 ls []) := by
        intro H locs ls hP hD hS hl
        refine lv_aload_n hx hb dX10_readToken_39 rfl (lv_at hl 0 rfl) ?_
        refine lv_aload_n hx hb dX10_readToken_40 rfl (lv_at hl 0 rfl) ?_
        refine va_get (D := (dC, dI)) (ci := 9) (v := .int w_1) (C := RX10) (T := TX10) (N := 10) hx hb hts uinX10 hown hK hP 0 rfl rfl 4 (by decide) (hts _ wd_1_43) (fun _ h9 => h9) rfl dX10_readToken_41 ?_
        refine va_put (D := (dC, dI)) (ci := 9) (v := .int w_1) (ty := .int) (C := RX10) (T := TX10) (N := 10) hx hb hts uinX10 tyX10 tyX10_ok nmX10 hown hK hP hD hS 0 rfl rfl 6 (by decide) (hts _ wd_1_45) (fun _ h9 => h9) rfl (by decide +kernel) rfl rfl (Nat.le_of_ble_eq_true rfl) dX10_readToken_44 (fun H locs hP hD hS => ?_)
        have hP : va_P (dC, dI) vwCl [(t0, .inr (9, [.ref tBytes, .int tsz, .int tfa, .int tfp, .int w_1, .int tki, .int w_1, .int tsp, .int tva, .int tac])), (tBytes, .inl (cyB, 800, .inl t_f))] H := hP
        have hD : va_D A [(t0, .inr (9, [.ref tBytes, .int tsz, .int tfa, .int tfp, .int w_1, .int tki, .int w_1, .int tsp, .int tva, .int tac])), (tBytes, .inl (cyB, 800, .inl t_f))] := hD
        refine lv_aload_n hx hb dX10_readToken_47 rfl (lv_at hl 0 rfl) ?_
        refine lv_iconst (v := 0) hx hb dX10_readToken_48 (by decide) ?_
        refine va_put (D := (dC, dI)) (ci := 9) (v := .int 0) (ty := .int) (C := RX10) (T := TX10) (N := 10) hx hb hts uinX10 tyX10 tyX10_ok nmX10 hown hK hP hD hS 0 rfl rfl 8 (by decide) (hts _ wd_1_47) (fun _ h9 => h9) rfl (by decide +kernel) rfl rfl (Nat.le_of_ble_eq_true rfl) dX10_readToken_49 (fun H locs hP hD hS => ?_)
        have hP : va_P (dC, dI) vwCl [(t0, .inr (9, [.ref tBytes, .int tsz, .int tfa, .int tfp, .int w_1, .int tki, .int w_1, .int tsp, .int 0, .int tac])), (tBytes, .inl (cyB, 800, .inl t_f))] H := hP
        have hD : va_D A [(t0, .inr (9, [.ref tBytes, .int tsz, .int tfa, .int tfp, .int w_1, .int tki, .int w_1, .int tsp, .int 0, .int tac])), (tBytes, .inl (cyB, 800, .inl t_f))] := hD
        refine lv_aload_n hx hb dX10_readToken_52 rfl (lv_at hl 0 rfl) ?_
        refine va_get (D := (dC, dI)) (ci := 9) (v := .int w_1) (C := RX10) (T := TX10) (N := 10) hx hb hts uinX10 hown hK hP 0 rfl rfl 4 (by decide) (hts _ wd_1_43) (fun _ h9 => h9) rfl dX10_readToken_53 ?_
        refine lv_aload_n hx hb dX10_readToken_56 rfl (lv_at hl 0 rfl) ?_
        refine va_get (D := (dC, dI)) (ci := 9) (v := .int tsz) (C := RX10) (T := TX10) (N := 10) hx hb hts uinX10 hown hK hP 0 rfl rfl 1 (by decide) (hts _ wd_1_37) (fun _ h9 => h9) rfl dX10_readToken_57 ?_
        have join_7 : ∀ (w_4 : Int32) (w_5 : Int32) (w_6 : Int32) (H : Heap) (locs : List Loc) (ls : Array Slot), (0 ≤ w_4.toInt ∧ w_4.toInt ≤ 800) → (0 ≤ w_5.toInt ∧ w_5.toInt ≤ 4) → ((-2147483648) ≤ w_6.toInt ∧ w_6.toInt ≤ 1000000) → va_P (dC, dI) vwCl [(t0, .inr (9, [.ref tBytes, .int tsz, .int tfa, .int tfp, .int w_4, .int w_5, .int w_1, .int tsp, .int w_6, .int tac])), (tBytes, .inl (cyB, 800, .inl t_f))] H → va_D A [(t0, .inr (9, [.ref tBytes, .int tsz, .int tfa, .int tfp, .int w_4, .int w_5, .int w_1, .int tsp, .int w_6, .int tac])), (tBytes, .inl (cyB, 800, .inl t_f))] → va_S A s.heap H locs → lv_has ls 1 [(0, .ref t0)] → W p l e ({ frames := 2, cells := 0, slots := 0, locals := 80 }) s m ([.ref t0] : List Value).toArray below meth c H locs 0 0 Q9 (F0 m 251 ls []) := by
          intro w_4 w_5 w_6 H locs ls hw_4 hw_5 hw_6 hP hD hS hl
          refine lv_aload_n hx hb dX10_readToken_251 rfl (lv_at hl 0 rfl) ?_
          refine lv_aload_n hx hb dX10_readToken_252 rfl (lv_at hl 0 rfl) ?_
          refine va_get (D := (dC, dI)) (ci := 9) (v := .int w_4) (C := RX10) (T := TX10) (N := 10) hx hb hts uinX10 hown hK hP 0 rfl rfl 4 (by decide) (hts _ wd_1_43) (fun _ h9 => h9) rfl dX10_readToken_253 ?_
          refine va_put (D := (dC, dI)) (ci := 9) (v := .int w_4) (ty := .int) (C := RX10) (T := TX10) (N := 10) hx hb hts uinX10 tyX10 tyX10_ok nmX10 hown hK hP hD hS 0 rfl rfl 7 (by decide) (hts _ wd_1_46) (fun _ h9 => h9) rfl (by decide +kernel) rfl rfl (Nat.le_of_ble_eq_true rfl) dX10_readToken_256 (fun H locs hP hD hS => ?_)
          have hP : va_P (dC, dI) vwCl [(t0, .inr (9, [.ref tBytes, .int tsz, .int tfa, .int tfp, .int w_4, .int w_5, .int w_1, .int w_4, .int w_6, .int tac])), (tBytes, .inl (cyB, 800, .inl t_f))] H := hP
          have hD : va_D A [(t0, .inr (9, [.ref tBytes, .int tsz, .int tfa, .int tfp, .int w_4, .int w_5, .int w_1, .int w_4, .int w_6, .int tac])), (tBytes, .inl (cyB, 800, .inl t_f))] := hD
          rw [hQ9]
          have hP9 := hP.sub (ws' := [(t0, .inr (9, [.ref tBytes, .int tsz, .int tfa, .int tfp, .int w_4, .int w_5, .int w_1, .int w_4, .int w_6, .int tac])), (tBytes, .inl (cyB, 800, .inl t_f))]) [0, 1] rfl
          have hD9 := hD.sub (ws' := [(t0, .inr (9, [.ref tBytes, .int tsz, .int tfa, .int tfp, .int w_4, .int w_5, .int w_1, .int w_4, .int w_6, .int tac])), (tBytes, .inl (cyB, 800, .inl t_f))]) [0, 1] (by decide) rfl
          exact W.vret hx hb hr (fun t ht hW => ⟨⟨(), rfl, trivial, ⟨w_4, w_5, w_1, w_4, w_6, (by omega), (by omega), (by omega), (by omega), ⟨cv_lo, by omega⟩, by rw [ht]; exact hP9, hD9⟩⟩, hS.F ht⟩) hS.2.2 dX10_readToken_259
        refine lv_icmp_lt (tgt := 71) hx hb dX10_readToken_60 (by decide) (fun c_8 => ?_) (fun c_8 => ?_)
        · have c_8 : w_1.toInt < tsz.toInt := cv_lt c_8
          refine lv_aload_n hx hb dX10_readToken_71 rfl (lv_at hl 0 rfl) ?_
          refine va_get (D := (dC, dI)) (ci := 9) (v := .ref tBytes) (C := RX10) (T := TX10) (N := 10) hx hb hts uinX10 hown hK hP 0 rfl rfl 0 (by decide) (hts _ wd_1_36) (fun _ h9 => h9) rfl dX10_readToken_72 ?_
          refine lv_aload_n hx hb dX10_readToken_75 rfl (lv_at hl 0 rfl) ?_
          refine va_get (D := (dC, dI)) (ci := 9) (v := .int w_1) (C := RX10) (T := TX10) (N := 10) hx hb hts uinX10 hown hK hP 0 rfl rfl 4 (by decide) (hts _ wd_1_43) (fun _ h9 => h9) rfl dX10_readToken_76 ?_
          refine va_bald hx hb hK hP 1 1 rfl rfl (vp_in_iff.mpr (by omega)) dX10_readToken_79 ?_
          refine lv_topi (fun x_9 ex_9 => ?_)
          refine vp_callSi (va_Run.run (va_runS (As := [.int x_9]) (rest := []) ⟨hx, hb, hml, hown, hts⟩ (n_isLetter l dC dI cyI cyB cyJ cyZ cyH cyN x_9) (va_cwS 1 hts (gdS wd_2_149 wd_2_150 wd_1_2 wd_2_151) rfl rfl rfl (by decide +kernel) ⟨Nat.le_of_ble_eq_true rfl, Nat.le_of_ble_eq_true rfl⟩) ⟨fun a U g mk q => q, fun U hU hW => ⟨rfl, trivial⟩⟩ rfl rfl hl.1 rfl (lv_room (Nat.le_of_ble_eq_true rfl)) dX10_readToken_80 ⟨Nat.le_of_ble_eq_true rfl, Nat.le_of_ble_eq_true rfl⟩)) (fun r_10 hw => ?_)
          by_cases c_11 : (97 ≤ x_9.toInt ∧ x_9.toInt ≤ 122)
          · rw [if_pos c_11] at hw; subst hw; have c_11 : (97 ≤ x_9.toInt ∧ x_9.toInt ≤ 122) := c_11
            refine lv_if_eq (tgt := 130) hx hb dX10_readToken_83 (by decide) (fun c_12 => absurd c_12 (by decide)) (fun _ => ?_)
            refine lv_aload_n hx hb dX10_readToken_86 rfl (lv_at hl 0 rfl) ?_
            refine lv_iconst (v := 1) hx hb dX10_readToken_87 (by decide) ?_
            refine va_put (D := (dC, dI)) (ci := 9) (v := .int 1) (ty := .int) (C := RX10) (T := TX10) (N := 10) hx hb hts uinX10 tyX10 tyX10_ok nmX10 hown hK hP hD hS 0 rfl rfl 5 (by decide) (hts _ wd_1_44) (fun _ h9 => h9) rfl (by decide +kernel) rfl rfl (Nat.le_of_ble_eq_true rfl) dX10_readToken_88 (fun H locs hP hD hS => ?_)
            have hP : va_P (dC, dI) vwCl [(t0, .inr (9, [.ref tBytes, .int tsz, .int tfa, .int tfp, .int w_1, .int 1, .int w_1, .int tsp, .int 0, .int tac])), (tBytes, .inl (cyB, 800, .inl t_f))] H := hP
            have hD : va_D A [(t0, .inr (9, [.ref tBytes, .int tsz, .int tfa, .int tfp, .int w_1, .int 1, .int w_1, .int tsp, .int 0, .int tac])), (tBytes, .inl (cyB, 800, .inl t_f))] := hD
            have key_14 : ∀ (nkey_14 : Nat) (w_13 : Int32) (H : Heap) (locs : List Loc) (ls : Array Slot), (0 ≤ w_13.toInt ∧ w_13.toInt ≤ 800) → va_P (dC, dI) vwCl [(t0, .inr (9, [.ref tBytes, .int tsz, .int tfa, .int tfp, .int w_13, .int 1, .int w_1, .int tsp, .int 0, .int tac])), (tBytes, .inl (cyB, 800, .inl t_f))] H → va_D A [(t0, .inr (9, [.ref tBytes, .int tsz, .int tfa, .int tfp, .int w_13, .int 1, .int w_1, .int tsp, .int 0, .int tac])), (tBytes, .inl (cyB, 800, .inl t_f))] → va_S A s.heap H locs → lv_has ls 1 [(0, .ref t0)] → (tsz.toInt - w_13.toInt).toNat < nkey_14 → W p l e ({ frames := 2, cells := 0, slots := 0, locals := 80 }) s m ([.ref t0] : List Value).toArray below meth c H locs 0 0 Q9 (F0 m 91 ls []) := by
              intro nkey_14
              induction nkey_14 with
              | zero => intro w_13 H locs ls hw_13 hP hD hS hl hnkey_14; exact absurd hnkey_14 (Nat.not_lt_zero _)
              | succ nkey_14 ihkey_14 =>
                intro w_13 H locs ls hw_13 hP hD hS hl hnkey_14
                refine lv_aload_n hx hb dX10_readToken_91 rfl (lv_at hl 0 rfl) ?_
                refine va_get (D := (dC, dI)) (ci := 9) (v := .int w_13) (C := RX10) (T := TX10) (N := 10) hx hb hts uinX10 hown hK hP 0 rfl rfl 4 (by decide) (hts _ wd_1_43) (fun _ h9 => h9) rfl dX10_readToken_92 ?_
                refine lv_aload_n hx hb dX10_readToken_95 rfl (lv_at hl 0 rfl) ?_
                refine va_get (D := (dC, dI)) (ci := 9) (v := .int tsz) (C := RX10) (T := TX10) (N := 10) hx hb hts uinX10 hown hK hP 0 rfl rfl 1 (by decide) (hts _ wd_1_37) (fun _ h9 => h9) rfl dX10_readToken_96 ?_
                refine lv_icmp_ge (tgt := 251) hx hb dX10_readToken_99 (by decide) (fun c_15 => ?_) (fun c_15 => ?_)
                · have c_15 : tsz.toInt ≤ w_13.toInt := cv_le c_15
                  exact join_7 w_13 1 0 _ _ _ (by omega) (by decide) (by decide) hP hD hS (lv_sub hl [0] rfl)
                · have c_15 : w_13.toInt < tsz.toInt := cv_nle c_15
                  refine lv_aload_n hx hb dX10_readToken_102 rfl (lv_at hl 0 rfl) ?_
                  refine va_get (D := (dC, dI)) (ci := 9) (v := .ref tBytes) (C := RX10) (T := TX10) (N := 10) hx hb hts uinX10 hown hK hP 0 rfl rfl 0 (by decide) (hts _ wd_1_36) (fun _ h9 => h9) rfl dX10_readToken_103 ?_
                  refine lv_aload_n hx hb dX10_readToken_106 rfl (lv_at hl 0 rfl) ?_
                  refine va_get (D := (dC, dI)) (ci := 9) (v := .int w_13) (C := RX10) (T := TX10) (N := 10) hx hb hts uinX10 hown hK hP 0 rfl rfl 4 (by decide) (hts _ wd_1_43) (fun _ h9 => h9) rfl dX10_readToken_107 ?_
                  refine va_bald hx hb hK hP 1 1 rfl rfl (vp_in_iff.mpr (by omega)) dX10_readToken_110 ?_
                  refine lv_topi (fun x_16 ex_16 => ?_)
                  refine vp_callSi (va_Run.run (va_runS (As := [.int x_16]) (rest := []) ⟨hx, hb, hml, hown, hts⟩ (n_isLetter l dC dI cyI cyB cyJ cyZ cyH cyN x_16) (va_cwS 1 hts (gdS wd_2_149 wd_2_150 wd_1_2 wd_2_151) rfl rfl rfl (by decide +kernel) ⟨Nat.le_of_ble_eq_true rfl, Nat.le_of_ble_eq_true rfl⟩) ⟨fun a U g mk q => q, fun U hU hW => ⟨rfl, trivial⟩⟩ rfl rfl hl.1 rfl (lv_room (Nat.le_of_ble_eq_true rfl)) dX10_readToken_111 ⟨Nat.le_of_ble_eq_true rfl, Nat.le_of_ble_eq_true rfl⟩)) (fun r_17 hw => ?_)
                  by_cases c_18 : (97 ≤ x_16.toInt ∧ x_16.toInt ≤ 122)
                  · rw [if_pos c_18] at hw; subst hw; have c_18 : (97 ≤ x_16.toInt ∧ x_16.toInt ≤ 122) := c_18
                    refine lv_if_eq (tgt := 251) hx hb dX10_readToken_114 (by decide) (fun c_19 => absurd c_19 (by decide)) (fun _ => ?_)
                    refine lv_aload_n hx hb dX10_readToken_117 rfl (lv_at hl 0 rfl) ?_
                    refine lv_dup hx hb dX10_readToken_118 rfl ?_
                    refine va_get (D := (dC, dI)) (ci := 9) (v := .int w_13) (C := RX10) (T := TX10) (N := 10) hx hb hts uinX10 hown hK hP 0 rfl rfl 4 (by decide) (hts _ wd_1_43) (fun _ h9 => h9) rfl dX10_readToken_119 ?_
                    refine lv_iconst (v := 1) hx hb dX10_readToken_122 (by decide) ?_
                    refine lv_iadd hx hb dX10_readToken_123 ?_
                    refine lv_topi (fun x_20 ex_20 => ?_)
                    have fx_20 : x_20.toInt = w_13.toInt + 1 := by rw [ex_20]; exact cv_addI (by have : (1 : Int32).toInt = 1 := rfl; omega) (by have : (1 : Int32).toInt = 1 := rfl; omega)
                    refine va_put (D := (dC, dI)) (ci := 9) (v := .int x_20) (ty := .int) (C := RX10) (T := TX10) (N := 10) hx hb hts uinX10 tyX10 tyX10_ok nmX10 hown hK hP hD hS 0 rfl rfl 4 (by decide) (hts _ wd_1_43) (fun _ h9 => h9) rfl (by decide +kernel) rfl rfl (Nat.le_of_ble_eq_true rfl) dX10_readToken_124 (fun H locs hP hD hS => ?_)
                    have hP : va_P (dC, dI) vwCl [(t0, .inr (9, [.ref tBytes, .int tsz, .int tfa, .int tfp, .int x_20, .int 1, .int w_1, .int tsp, .int 0, .int tac])), (tBytes, .inl (cyB, 800, .inl t_f))] H := hP
                    have hD : va_D A [(t0, .inr (9, [.ref tBytes, .int tsz, .int tfa, .int tfp, .int x_20, .int 1, .int w_1, .int tsp, .int 0, .int tac])), (tBytes, .inl (cyB, 800, .inl t_f))] := hD
                    refine lv_goto (tgt := 91) hx hb dX10_readToken_127 (by decide) ?_
                    exact ihkey_14 x_20 _ _ _ (by omega) hP hD hS (lv_sub hl [0] rfl) (by omega)
                  · rw [if_neg c_18] at hw; subst hw; have c_18 : ¬ (97 ≤ x_16.toInt ∧ x_16.toInt ≤ 122) := c_18
                    refine lv_if_eq (tgt := 251) hx hb dX10_readToken_114 (by decide) (fun _ => ?_) (fun c_21 => absurd c_21 (by decide))
                    exact join_7 w_13 1 0 _ _ _ (by omega) (by decide) (by decide) hP hD hS (lv_sub hl [0] rfl)
            exact key_14 _ w_1 _ _ _ (by omega) hP hD hS (lv_sub hl [0] rfl) (Nat.lt_succ_self _)
          · rw [if_neg c_11] at hw; subst hw; have c_11 : ¬ (97 ≤ x_9.toInt ∧ x_9.toInt ≤ 122) := c_11
            refine lv_if_eq (tgt := 130) hx hb dX10_readToken_83 (by decide) (fun _ => ?_) (fun c_22 => absurd c_22 (by decide))
            refine lv_aload_n hx hb dX10_readToken_130 rfl (lv_at hl 0 rfl) ?_
            refine va_get (D := (dC, dI)) (ci := 9) (v := .ref tBytes) (C := RX10) (T := TX10) (N := 10) hx hb hts uinX10 hown hK hP 0 rfl rfl 0 (by decide) (hts _ wd_1_36) (fun _ h9 => h9) rfl dX10_readToken_131 ?_
            refine lv_aload_n hx hb dX10_readToken_134 rfl (lv_at hl 0 rfl) ?_
            refine va_get (D := (dC, dI)) (ci := 9) (v := .int w_1) (C := RX10) (T := TX10) (N := 10) hx hb hts uinX10 hown hK hP 0 rfl rfl 4 (by decide) (hts _ wd_1_43) (fun _ h9 => h9) rfl dX10_readToken_135 ?_
            refine va_bald hx hb hK hP 1 1 rfl rfl (vp_in_iff.mpr (by omega)) dX10_readToken_138 ?_
            refine lv_topi (fun x_23 ex_23 => ?_)
            refine vp_callSi (va_Run.run (va_runS (As := [.int x_23]) (rest := []) ⟨hx, hb, hml, hown, hts⟩ (n_isDigit l dC dI cyI cyB cyJ cyZ cyH cyN x_23) (va_cwS 1 hts (gdS wd_2_152 wd_2_153 wd_1_2 wd_2_154) rfl rfl rfl (by decide +kernel) ⟨Nat.le_of_ble_eq_true rfl, Nat.le_of_ble_eq_true rfl⟩) ⟨fun a U g mk q => q, fun U hU hW => ⟨rfl, trivial⟩⟩ rfl rfl hl.1 rfl (lv_room (Nat.le_of_ble_eq_true rfl)) dX10_readToken_139 ⟨Nat.le_of_ble_eq_true rfl, Nat.le_of_ble_eq_true rfl⟩)) (fun r_24 hw => ?_)
            by_cases c_25 : (48 ≤ x_23.toInt ∧ x_23.toInt ≤ 57)
            · rw [if_pos c_25] at hw; subst hw; have c_25 : (48 ≤ x_23.toInt ∧ x_23.toInt ≤ 57) := c_25
              refine lv_if_eq (tgt := 218) hx hb dX10_readToken_142 (by decide) (fun c_26 => absurd c_26 (by decide)) (fun _ => ?_)
              refine lv_aload_n hx hb dX10_readToken_145 rfl (lv_at hl 0 rfl) ?_
              refine lv_iconst (v := 2) hx hb dX10_readToken_146 (by decide) ?_
              refine va_put (D := (dC, dI)) (ci := 9) (v := .int 2) (ty := .int) (C := RX10) (T := TX10) (N := 10) hx hb hts uinX10 tyX10 tyX10_ok nmX10 hown hK hP hD hS 0 rfl rfl 5 (by decide) (hts _ wd_1_44) (fun _ h9 => h9) rfl (by decide +kernel) rfl rfl (Nat.le_of_ble_eq_true rfl) dX10_readToken_147 (fun H locs hP hD hS => ?_)
              have hP : va_P (dC, dI) vwCl [(t0, .inr (9, [.ref tBytes, .int tsz, .int tfa, .int tfp, .int w_1, .int 2, .int w_1, .int tsp, .int 0, .int tac])), (tBytes, .inl (cyB, 800, .inl t_f))] H := hP
              have hD : va_D A [(t0, .inr (9, [.ref tBytes, .int tsz, .int tfa, .int tfp, .int w_1, .int 2, .int w_1, .int tsp, .int 0, .int tac])), (tBytes, .inl (cyB, 800, .inl t_f))] := hD
              have key_29 : ∀ (nkey_29 : Nat) (w_27 : Int32) (w_28 : Int32) (H : Heap) (locs : List Loc) (ls : Array Slot), (0 ≤ w_27.toInt ∧ w_27.toInt ≤ 800) → ((-2147483648) ≤ w_28.toInt ∧ w_28.toInt ≤ 1000000) → va_P (dC, dI) vwCl [(t0, .inr (9, [.ref tBytes, .int tsz, .int tfa, .int tfp, .int w_27, .int 2, .int w_1, .int tsp, .int w_28, .int tac])), (tBytes, .inl (cyB, 800, .inl t_f))] H → va_D A [(t0, .inr (9, [.ref tBytes, .int tsz, .int tfa, .int tfp, .int w_27, .int 2, .int w_1, .int tsp, .int w_28, .int tac])), (tBytes, .inl (cyB, 800, .inl t_f))] → va_S A s.heap H locs → lv_has ls 1 [(0, .ref t0)] → (tsz.toInt - w_27.toInt).toNat < nkey_29 → W p l e ({ frames := 2, cells := 0, slots := 0, locals := 80 }) s m ([.ref t0] : List Value).toArray below meth c H locs 0 0 Q9 (F0 m 150 ls []) := by
                intro nkey_29
                induction nkey_29 with
                | zero => intro w_27 w_28 H locs ls hw_27 hw_28 hP hD hS hl hnkey_29; exact absurd hnkey_29 (Nat.not_lt_zero _)
                | succ nkey_29 ihkey_29 =>
                  intro w_27 w_28 H locs ls hw_27 hw_28 hP hD hS hl hnkey_29
                  refine lv_aload_n hx hb dX10_readToken_150 rfl (lv_at hl 0 rfl) ?_
                  refine va_get (D := (dC, dI)) (ci := 9) (v := .int w_27) (C := RX10) (T := TX10) (N := 10) hx hb hts uinX10 hown hK hP 0 rfl rfl 4 (by decide) (hts _ wd_1_43) (fun _ h9 => h9) rfl dX10_readToken_151 ?_
                  refine lv_aload_n hx hb dX10_readToken_154 rfl (lv_at hl 0 rfl) ?_
                  refine va_get (D := (dC, dI)) (ci := 9) (v := .int tsz) (C := RX10) (T := TX10) (N := 10) hx hb hts uinX10 hown hK hP 0 rfl rfl 1 (by decide) (hts _ wd_1_37) (fun _ h9 => h9) rfl dX10_readToken_155 ?_
                  refine lv_icmp_ge (tgt := 251) hx hb dX10_readToken_158 (by decide) (fun c_30 => ?_) (fun c_30 => ?_)
                  · have c_30 : tsz.toInt ≤ w_27.toInt := cv_le c_30
                    exact join_7 w_27 2 w_28 _ _ _ (by omega) (by decide) ⟨cv_lo, by omega⟩ hP hD hS (lv_sub hl [0] rfl)
                  · have c_30 : w_27.toInt < tsz.toInt := cv_nle c_30
                    refine lv_aload_n hx hb dX10_readToken_161 rfl (lv_at hl 0 rfl) ?_
                    refine va_get (D := (dC, dI)) (ci := 9) (v := .ref tBytes) (C := RX10) (T := TX10) (N := 10) hx hb hts uinX10 hown hK hP 0 rfl rfl 0 (by decide) (hts _ wd_1_36) (fun _ h9 => h9) rfl dX10_readToken_162 ?_
                    refine lv_aload_n hx hb dX10_readToken_165 rfl (lv_at hl 0 rfl) ?_
                    refine va_get (D := (dC, dI)) (ci := 9) (v := .int w_27) (C := RX10) (T := TX10) (N := 10) hx hb hts uinX10 hown hK hP 0 rfl rfl 4 (by decide) (hts _ wd_1_43) (fun _ h9 => h9) rfl dX10_readToken_166 ?_
                    refine va_bald hx hb hK hP 1 1 rfl rfl (vp_in_iff.mpr (by omega)) dX10_readToken_169 ?_
                    refine lv_topi (fun x_31 ex_31 => ?_)
                    refine vp_callSi (va_Run.run (va_runS (As := [.int x_31]) (rest := []) ⟨hx, hb, hml, hown, hts⟩ (n_isDigit l dC dI cyI cyB cyJ cyZ cyH cyN x_31) (va_cwS 1 hts (gdS wd_2_152 wd_2_153 wd_1_2 wd_2_154) rfl rfl rfl (by decide +kernel) ⟨Nat.le_of_ble_eq_true rfl, Nat.le_of_ble_eq_true rfl⟩) ⟨fun a U g mk q => q, fun U hU hW => ⟨rfl, trivial⟩⟩ rfl rfl hl.1 rfl (lv_room (Nat.le_of_ble_eq_true rfl)) dX10_readToken_170 ⟨Nat.le_of_ble_eq_true rfl, Nat.le_of_ble_eq_true rfl⟩)) (fun r_32 hw => ?_)
                    by_cases c_33 : (48 ≤ x_31.toInt ∧ x_31.toInt ≤ 57)
                    · rw [if_pos c_33] at hw; subst hw; have c_33 : (48 ≤ x_31.toInt ∧ x_31.toInt ≤ 57) := c_33
                      refine lv_if_eq (tgt := 251) hx hb dX10_readToken_173 (by decide) (fun c_34 => absurd c_34 (by decide)) (fun _ => ?_)
                      refine lv_aload_n hx hb dX10_readToken_176 rfl (lv_at hl 0 rfl) ?_
                      refine lv_ldc (v := 1000000) hx hb hown (hts _ wd_2_155) dX10_readToken_177 ?_
                      refine lv_bipush (v := 10) hx hb dX10_readToken_179 (by decide) ?_
                      refine lv_aload_n hx hb dX10_readToken_181 rfl (lv_at hl 0 rfl) ?_
                      refine va_get (D := (dC, dI)) (ci := 9) (v := .int w_28) (C := RX10) (T := TX10) (N := 10) hx hb hts uinX10 hown hK hP 0 rfl rfl 8 (by decide) (hts _ wd_1_47) (fun _ h9 => h9) rfl dX10_readToken_182 ?_
                      refine lv_imul hx hb dX10_readToken_185 ?_
                      refine lv_topi (fun x_35 ex_35 => ?_)
                      refine lv_aload_n hx hb dX10_readToken_186 rfl (lv_at hl 0 rfl) ?_
                      refine va_get (D := (dC, dI)) (ci := 9) (v := .ref tBytes) (C := RX10) (T := TX10) (N := 10) hx hb hts uinX10 hown hK hP 0 rfl rfl 0 (by decide) (hts _ wd_1_36) (fun _ h9 => h9) rfl dX10_readToken_187 ?_
                      refine lv_aload_n hx hb dX10_readToken_190 rfl (lv_at hl 0 rfl) ?_
                      refine va_get (D := (dC, dI)) (ci := 9) (v := .int w_27) (C := RX10) (T := TX10) (N := 10) hx hb hts uinX10 hown hK hP 0 rfl rfl 4 (by decide) (hts _ wd_1_43) (fun _ h9 => h9) rfl dX10_readToken_191 ?_
                      refine va_bald hx hb hK hP 1 1 rfl rfl (vp_in_iff.mpr (by omega)) dX10_readToken_194 ?_
                      refine lv_topi (fun x_36 ex_36 => ?_)
                      refine lv_bipush (v := 48) hx hb dX10_readToken_195 (by decide) ?_
                      refine lv_isub hx hb dX10_readToken_197 ?_
                      refine lv_topi (fun x_37 ex_37 => ?_)
                      refine lv_iadd hx hb dX10_readToken_198 ?_
                      refine lv_topi (fun x_38 ex_38 => ?_)
                      refine va_mmin hx hb (by rw [hml]; exact hl.1.symm) hown (hts _ wd_2_156) (hts _ wd_2_157) (hts _ wd_1_13) (hts _ wd_2_158) (Nat.le_of_ble_eq_true rfl) (Nat.le_of_ble_eq_true rfl) (Nat.le_of_ble_eq_true rfl) (Nat.le_of_ble_eq_true rfl) dX10_readToken_199 ?_
                      refine lv_topi (fun x_39 ex_39 => ?_)
                      have fx_39 : x_39.toInt ≤ 1000000 := by rw [ex_39]; have : (1000000 : Int32).toInt = 1000000 := rfl; have q := cv_min (x := 1000000) (y := x_38); omega
                      refine va_put (D := (dC, dI)) (ci := 9) (v := .int x_39) (ty := .int) (C := RX10) (T := TX10) (N := 10) hx hb hts uinX10 tyX10 tyX10_ok nmX10 hown hK hP hD hS 0 rfl rfl 8 (by decide) (hts _ wd_1_47) (fun _ h9 => h9) rfl (by decide +kernel) rfl rfl (Nat.le_of_ble_eq_true rfl) dX10_readToken_202 (fun H locs hP hD hS => ?_)
                      have hP : va_P (dC, dI) vwCl [(t0, .inr (9, [.ref tBytes, .int tsz, .int tfa, .int tfp, .int w_27, .int 2, .int w_1, .int tsp, .int x_39, .int tac])), (tBytes, .inl (cyB, 800, .inl t_f))] H := hP
                      have hD : va_D A [(t0, .inr (9, [.ref tBytes, .int tsz, .int tfa, .int tfp, .int w_27, .int 2, .int w_1, .int tsp, .int x_39, .int tac])), (tBytes, .inl (cyB, 800, .inl t_f))] := hD
                      refine lv_aload_n hx hb dX10_readToken_205 rfl (lv_at hl 0 rfl) ?_
                      refine lv_dup hx hb dX10_readToken_206 rfl ?_
                      refine va_get (D := (dC, dI)) (ci := 9) (v := .int w_27) (C := RX10) (T := TX10) (N := 10) hx hb hts uinX10 hown hK hP 0 rfl rfl 4 (by decide) (hts _ wd_1_43) (fun _ h9 => h9) rfl dX10_readToken_207 ?_
                      refine lv_iconst (v := 1) hx hb dX10_readToken_210 (by decide) ?_
                      refine lv_iadd hx hb dX10_readToken_211 ?_
                      refine lv_topi (fun x_40 ex_40 => ?_)
                      have fx_40 : x_40.toInt = w_27.toInt + 1 := by rw [ex_40]; exact cv_addI (by have : (1 : Int32).toInt = 1 := rfl; omega) (by have : (1 : Int32).toInt = 1 := rfl; omega)
                      refine va_put (D := (dC, dI)) (ci := 9) (v := .int x_40) (ty := .int) (C := RX10) (T := TX10) (N := 10) hx hb hts uinX10 tyX10 tyX10_ok nmX10 hown hK hP hD hS 0 rfl rfl 4 (by decide) (hts _ wd_1_43) (fun _ h9 => h9) rfl (by decide +kernel) rfl rfl (Nat.le_of_ble_eq_true rfl) dX10_readToken_212 (fun H locs hP hD hS => ?_)
                      have hP : va_P (dC, dI) vwCl [(t0, .inr (9, [.ref tBytes, .int tsz, .int tfa, .int tfp, .int x_40, .int 2, .int w_1, .int tsp, .int x_39, .int tac])), (tBytes, .inl (cyB, 800, .inl t_f))] H := hP
                      have hD : va_D A [(t0, .inr (9, [.ref tBytes, .int tsz, .int tfa, .int tfp, .int x_40, .int 2, .int w_1, .int tsp, .int x_39, .int tac])), (tBytes, .inl (cyB, 800, .inl t_f))] := hD
                      refine lv_goto (tgt := 150) hx hb dX10_readToken_215 (by decide) ?_
                      exact ihkey_29 x_40 x_39 _ _ _ (by omega) ⟨cv_lo, by omega⟩ hP hD hS (lv_sub hl [0] rfl) (by omega)
                    · rw [if_neg c_33] at hw; subst hw; have c_33 : ¬ (48 ≤ x_31.toInt ∧ x_31.toInt ≤ 57) := c_33
                      refine lv_if_eq (tgt := 251) hx hb dX10_readToken_173 (by decide) (fun _ => ?_) (fun c_41 => absurd c_41 (by decide))
                      exact join_7 w_27 2 w_28 _ _ _ (by omega) (by decide) ⟨cv_lo, by omega⟩ hP hD hS (lv_sub hl [0] rfl)
              exact key_29 _ w_1 0 _ _ _ (by omega) (by decide) hP hD hS (lv_sub hl [0] rfl) (Nat.lt_succ_self _)
            · rw [if_neg c_25] at hw; subst hw; have c_25 : ¬ (48 ≤ x_23.toInt ∧ x_23.toInt ≤ 57) := c_25
              refine lv_if_eq (tgt := 218) hx hb dX10_readToken_142 (by decide) (fun _ => ?_) (fun c_42 => absurd c_42 (by decide))
              refine lv_aload_n hx hb dX10_readToken_218 rfl (lv_at hl 0 rfl) ?_
              refine lv_aload_n hx hb dX10_readToken_219 rfl (lv_at hl 0 rfl) ?_
              refine va_get (D := (dC, dI)) (ci := 9) (v := .ref tBytes) (C := RX10) (T := TX10) (N := 10) hx hb hts uinX10 hown hK hP 0 rfl rfl 0 (by decide) (hts _ wd_1_36) (fun _ h9 => h9) rfl dX10_readToken_220 ?_
              refine lv_aload_n hx hb dX10_readToken_223 rfl (lv_at hl 0 rfl) ?_
              refine va_get (D := (dC, dI)) (ci := 9) (v := .int w_1) (C := RX10) (T := TX10) (N := 10) hx hb hts uinX10 hown hK hP 0 rfl rfl 4 (by decide) (hts _ wd_1_43) (fun _ h9 => h9) rfl dX10_readToken_224 ?_
              refine va_bald hx hb hK hP 1 1 rfl rfl (vp_in_iff.mpr (by omega)) dX10_readToken_227 ?_
              refine lv_topi (fun x_43 ex_43 => ?_)
              refine lv_bipush (v := 59) hx hb dX10_readToken_228 (by decide) ?_
              have join_45 : ∀ (u_44 : Int32) (H : Heap) (locs : List Loc) (ls : Array Slot), (3 ≤ u_44.toInt ∧ u_44.toInt ≤ 4) → va_P (dC, dI) vwCl [(t0, .inr (9, [.ref tBytes, .int tsz, .int tfa, .int tfp, .int w_1, .int tki, .int w_1, .int tsp, .int 0, .int tac])), (tBytes, .inl (cyB, 800, .inl t_f))] H → va_D A [(t0, .inr (9, [.ref tBytes, .int tsz, .int tfa, .int tfp, .int w_1, .int tki, .int w_1, .int tsp, .int 0, .int tac])), (tBytes, .inl (cyB, 800, .inl t_f))] → va_S A s.heap H locs → lv_has ls 1 [(0, .ref t0)] → W p l e ({ frames := 2, cells := 0, slots := 0, locals := 80 }) s m ([.ref t0] : List Value).toArray below meth c H locs 0 0 Q9 (F0 m 238 ls [.int u_44, .ref t0]) := by
                intro u_44 H locs ls hu_44 hP hD hS hl
                refine va_put (D := (dC, dI)) (ci := 9) (v := .int u_44) (ty := .int) (C := RX10) (T := TX10) (N := 10) hx hb hts uinX10 tyX10 tyX10_ok nmX10 hown hK hP hD hS 0 rfl rfl 5 (by decide) (hts _ wd_1_44) (fun _ h9 => h9) rfl (by decide +kernel) rfl rfl (Nat.le_of_ble_eq_true rfl) dX10_readToken_238 (fun H locs hP hD hS => ?_)
                have hP : va_P (dC, dI) vwCl [(t0, .inr (9, [.ref tBytes, .int tsz, .int tfa, .int tfp, .int w_1, .int u_44, .int w_1, .int tsp, .int 0, .int tac])), (tBytes, .inl (cyB, 800, .inl t_f))] H := hP
                have hD : va_D A [(t0, .inr (9, [.ref tBytes, .int tsz, .int tfa, .int tfp, .int w_1, .int u_44, .int w_1, .int tsp, .int 0, .int tac])), (tBytes, .inl (cyB, 800, .inl t_f))] := hD
                refine lv_aload_n hx hb dX10_readToken_241 rfl (lv_at hl 0 rfl) ?_
                refine lv_dup hx hb dX10_readToken_242 rfl ?_
                refine va_get (D := (dC, dI)) (ci := 9) (v := .int w_1) (C := RX10) (T := TX10) (N := 10) hx hb hts uinX10 hown hK hP 0 rfl rfl 4 (by decide) (hts _ wd_1_43) (fun _ h9 => h9) rfl dX10_readToken_243 ?_
                refine lv_iconst (v := 1) hx hb dX10_readToken_246 (by decide) ?_
                refine lv_iadd hx hb dX10_readToken_247 ?_
                refine lv_topi (fun x_46 ex_46 => ?_)
                have fx_46 : x_46.toInt = w_1.toInt + 1 := by rw [ex_46]; exact cv_addI (by have : (1 : Int32).toInt = 1 := rfl; omega) (by have : (1 : Int32).toInt = 1 := rfl; omega)
                refine va_put (D := (dC, dI)) (ci := 9) (v := .int x_46) (ty := .int) (C := RX10) (T := TX10) (N := 10) hx hb hts uinX10 tyX10 tyX10_ok nmX10 hown hK hP hD hS 0 rfl rfl 4 (by decide) (hts _ wd_1_43) (fun _ h9 => h9) rfl (by decide +kernel) rfl rfl (Nat.le_of_ble_eq_true rfl) dX10_readToken_248 (fun H locs hP hD hS => ?_)
                have hP : va_P (dC, dI) vwCl [(t0, .inr (9, [.ref tBytes, .int tsz, .int tfa, .int tfp, .int x_46, .int u_44, .int w_1, .int tsp, .int 0, .int tac])), (tBytes, .inl (cyB, 800, .inl t_f))] H := hP
                have hD : va_D A [(t0, .inr (9, [.ref tBytes, .int tsz, .int tfa, .int tfp, .int x_46, .int u_44, .int w_1, .int tsp, .int 0, .int tac])), (tBytes, .inl (cyB, 800, .inl t_f))] := hD
                exact join_7 x_46 u_44 0 _ _ _ (by omega) (by omega) (by decide) hP hD hS (lv_sub hl [0] rfl)
              refine lv_icmp_ne (tgt := 237) hx hb dX10_readToken_230 (by decide) (fun c_47 => ?_) (fun c_47 => ?_)
              · have c_47 : x_43.toInt ≠ 59 := cv_ne c_47
                refine lv_iconst (v := 4) hx hb dX10_readToken_237 (by decide) ?_
                exact join_45 4 _ _ _ (by decide) hP hD hS (lv_sub hl [0] rfl)
              · have c_47 : x_43.toInt = 59 := cv_eq c_47
                refine lv_iconst (v := 3) hx hb dX10_readToken_233 (by decide) ?_
                refine lv_goto (tgt := 238) hx hb dX10_readToken_234 (by decide) ?_
                exact join_45 3 _ _ _ (by decide) hP hD hS (lv_sub hl [0] rfl)
        · have c_8 : tsz.toInt ≤ w_1.toInt := cv_nlt c_8
          refine lv_aload_n hx hb dX10_readToken_63 rfl (lv_at hl 0 rfl) ?_
          refine lv_iconst (v := 0) hx hb dX10_readToken_64 (by decide) ?_
          refine va_put (D := (dC, dI)) (ci := 9) (v := .int 0) (ty := .int) (C := RX10) (T := TX10) (N := 10) hx hb hts uinX10 tyX10 tyX10_ok nmX10 hown hK hP hD hS 0 rfl rfl 5 (by decide) (hts _ wd_1_44) (fun _ h9 => h9) rfl (by decide +kernel) rfl rfl (Nat.le_of_ble_eq_true rfl) dX10_readToken_65 (fun H locs hP hD hS => ?_)
          have hP : va_P (dC, dI) vwCl [(t0, .inr (9, [.ref tBytes, .int tsz, .int tfa, .int tfp, .int w_1, .int 0, .int w_1, .int tsp, .int 0, .int tac])), (tBytes, .inl (cyB, 800, .inl t_f))] H := hP
          have hD : va_D A [(t0, .inr (9, [.ref tBytes, .int tsz, .int tfa, .int tfp, .int w_1, .int 0, .int w_1, .int tsp, .int 0, .int tac])), (tBytes, .inl (cyB, 800, .inl t_f))] := hD
          refine lv_goto (tgt := 251) hx hb dX10_readToken_68 (by decide) ?_
          exact join_7 w_1 0 0 _ _ _ (by omega) (by decide) (by decide) hP hD hS (lv_sub hl [0] rfl)
      refine lv_icmp_ge (tgt := 39) hx hb dX10_readToken_8 (by decide) (fun c_48 => ?_) (fun c_48 => ?_)
      · have c_48 : tsz.toInt ≤ w_1.toInt := cv_le c_48
        exact join_3 _ _ _ hP hD hS (lv_sub hl [0] rfl)
      · have c_48 : w_1.toInt < tsz.toInt := cv_nle c_48
        refine lv_aload_n hx hb dX10_readToken_11 rfl (lv_at hl 0 rfl) ?_
        refine va_get (D := (dC, dI)) (ci := 9) (v := .ref tBytes) (C := RX10) (T := TX10) (N := 10) hx hb hts uinX10 hown hK hP 0 rfl rfl 0 (by decide) (hts _ wd_1_36) (fun _ h9 => h9) rfl dX10_readToken_12 ?_
        refine lv_aload_n hx hb dX10_readToken_15 rfl (lv_at hl 0 rfl) ?_
        refine va_get (D := (dC, dI)) (ci := 9) (v := .int w_1) (C := RX10) (T := TX10) (N := 10) hx hb hts uinX10 hown hK hP 0 rfl rfl 4 (by decide) (hts _ wd_1_43) (fun _ h9 => h9) rfl dX10_readToken_16 ?_
        refine va_bald hx hb hK hP 1 1 rfl rfl (vp_in_iff.mpr (by omega)) dX10_readToken_19 ?_
        refine lv_topi (fun x_49 ex_49 => ?_)
        refine vp_callSi (va_Run.run (va_runS (As := [.int x_49]) (rest := []) ⟨hx, hb, hml, hown, hts⟩ (n_isBlank l dC dI cyI cyB cyJ cyZ cyH cyN x_49) (va_cwS 1 hts (gdS wd_2_146 wd_2_147 wd_1_2 wd_2_148) rfl rfl rfl (by decide +kernel) ⟨Nat.le_of_ble_eq_true rfl, Nat.le_of_ble_eq_true rfl⟩) ⟨fun a U g mk q => q, fun U hU hW => ⟨rfl, trivial⟩⟩ rfl rfl hl.1 rfl (lv_room (Nat.le_of_ble_eq_true rfl)) dX10_readToken_20 ⟨Nat.le_of_ble_eq_true rfl, Nat.le_of_ble_eq_true rfl⟩)) (fun r_50 hw => ?_)
        have hrr_50 := hw
        refine lv_if_eq (tgt := 39) hx hb dX10_readToken_23 (by decide) (fun c_51 => ?_) (fun c_51 => ?_)
        · have c_51 : r_50.toInt = 0 := cv_eq c_51
          exact join_3 _ _ _ hP hD hS (lv_sub hl [0] rfl)
        · have c_51 : r_50.toInt ≠ 0 := cv_ne c_51
          refine lv_aload_n hx hb dX10_readToken_26 rfl (lv_at hl 0 rfl) ?_
          refine lv_dup hx hb dX10_readToken_27 rfl ?_
          refine va_get (D := (dC, dI)) (ci := 9) (v := .int w_1) (C := RX10) (T := TX10) (N := 10) hx hb hts uinX10 hown hK hP 0 rfl rfl 4 (by decide) (hts _ wd_1_43) (fun _ h9 => h9) rfl dX10_readToken_28 ?_
          refine lv_iconst (v := 1) hx hb dX10_readToken_31 (by decide) ?_
          refine lv_iadd hx hb dX10_readToken_32 ?_
          refine lv_topi (fun x_52 ex_52 => ?_)
          have fx_52 : x_52.toInt = w_1.toInt + 1 := by rw [ex_52]; exact cv_addI (by have : (1 : Int32).toInt = 1 := rfl; omega) (by have : (1 : Int32).toInt = 1 := rfl; omega)
          refine va_put (D := (dC, dI)) (ci := 9) (v := .int x_52) (ty := .int) (C := RX10) (T := TX10) (N := 10) hx hb hts uinX10 tyX10 tyX10_ok nmX10 hown hK hP hD hS 0 rfl rfl 4 (by decide) (hts _ wd_1_43) (fun _ h9 => h9) rfl (by decide +kernel) rfl rfl (Nat.le_of_ble_eq_true rfl) dX10_readToken_33 (fun H locs hP hD hS => ?_)
          have hP : va_P (dC, dI) vwCl [(t0, .inr (9, [.ref tBytes, .int tsz, .int tfa, .int tfp, .int x_52, .int tki, .int tst, .int tsp, .int tva, .int tac])), (tBytes, .inl (cyB, 800, .inl t_f))] H := hP
          have hD : va_D A [(t0, .inr (9, [.ref tBytes, .int tsz, .int tfa, .int tfp, .int x_52, .int tki, .int tst, .int tsp, .int tva, .int tac])), (tBytes, .inl (cyB, 800, .inl t_f))] := hD
          refine lv_goto (tgt := 0) hx hb dX10_readToken_36 (by decide) ?_
          exact ihkey_2 x_52 _ _ _ (by omega) hP hD hS (lv_sub hl [0] rfl) (by omega)
  exact key_2 _ tnx _ _ _ (by omega) hP hD hS (lv_sub hl [0] rfl) (Nat.lt_succ_self _)

/- X5_exchange -/
set_option maxHeartbeats 4000000 in
set_option maxRecDepth 100000 in
theorem n_exchange (l : Launch) (dC : Nat → ClassId) (dI : Nat → Nat → Nat) (cyI cyB cyJ cyZ cyH cyN : ClassId) (sz : Nat) (r0 : Nat) (f0 : Nat → Int32) (p0 p1 : Int32) (g0 : rg 0 6 7 f0) (g1 : 0 ≤ p0.toInt ∧ p0.toInt ≤ 6) (g2 : 0 ≤ p1.toInt ∧ p1.toInt ≤ 6) : Met l yX5_exchange (wk yX5_exchange cX5_exchange 4 none) ({ frames := 1, cells := 0, slots := 0, locals := 60 }) (va_Pc [.ref r0, .int p0, .int p1] (fun U => U.heap.size = sz ∧ va_P (dC, dI) vwCl [(r0, .inl (cyI, 7, .inl f0))] U.heap ∧ va_K (dC, dI) vwCl [(cyI, .int), (cyB, .byte), (cyJ, .long), (cyZ, .boolean), (cyH, .object RX2), (cyN, .array .long)] U ∧ va_D (fun _ => True) [(r0, .inl (cyI, 7, .inl f0))])) (va_Qv (fun _ : Unit => True) (fun (_ : Unit) (t : State) => ∃ y0 : Nat → Int32, (rg 0 6 7 y0) ∧ va_P (dC, dI) vwCl [(r0, .inl (cyI, 7, .inl y0))] t.heap ∧ va_D (va_A [(r0, .inl (cyI, 7, .inl f0))] sz) [(r0, .inl (cyI, 7, .inl y0))]) (va_A [(r0, .inl (cyI, 7, .inl f0))] sz)) 0 0 (va_A [(r0, .inl (cyI, 7, .inl f0))] sz) := by
  refine Met.ofW (cc := cX5_exchange) (maxL := 4) (ret := none) (by decide) rfl ?_
  intro p e s m args below meth c s₁ B hml hv
  obtain ⟨rfl, hsz, hP, hK, hD0⟩ := hv
  have hx := B.exec
  have hb := B.bytes
  have hr := B.returns
  have hts : ∀ w ∈ uU, w.before ([.ref r0, .int p0, .int p1] : List Value).toArray s = true := fun w h => atoms_spec (ws := wk yX5_exchange cX5_exchange 4 none) B.pre w (List.mem_cons_of_mem _ h)
  have hown : s.vm.findClass RX5 = some m.cls := findClass_of_methodNamed B.named
  have hlocks := B.notSynchronized
  subst hsz
  have hD := hD0.self (sz := s.heap.size)
  generalize hAe : va_A [(r0, .inl (cyI, 7, .inl f0))] s.heap.size = A at hD ⊢
  have hA : ∀ q : Nat, s.heap.size ≤ q → A q := fun q h => by rw [← hAe]; exact Or.inr h
  have hS : va_S A s.heap s.heap [] := va_S.rf
  have hP : va_P (dC, dI) vwCl [(r0, .inl (cyI, 7, .inl f0))] s.heap := hP
  have hl := lv_entry ([.ref r0, .int p0, .int p1]) (n := 4) (Nat.le_of_ble_eq_true rfl)
  rw [lg_entry_eq]
  generalize (lg_sl ([.ref r0, .int p0, .int p1]) ++ List.replicate (4 - (lg_sl ([.ref r0, .int p0, .int p1])).length) Slot.unset).toArray = ls at hl ⊢
  have hl : lv_has ls 4 [(0, .ref r0), (1, .int p0), (2, .int p1)] := hl
  obtain ⟨H, hHe⟩ : ∃ H, H = s.heap := ⟨_, rfl⟩
  have hP : va_P (dC, dI) vwCl [(r0, .inl (cyI, 7, .inl f0))] H := by rw [hHe]; exact hP
  have hS : va_S A s.heap H [] := by rw [hHe]; exact hS
  refine cv_heap hHe ?_
  obtain ⟨Q9, hQ9⟩ : ∃ Q9 : State → Prop, Q9 = MQ below (va_Qv (fun _ : Unit => True) (fun (_ : Unit) (t : State) => ∃ y0 : Nat → Int32, (rg 0 6 7 y0) ∧ va_P (dC, dI) vwCl [(r0, .inl (cyI, 7, .inl y0))] t.heap ∧ va_D A [(r0, .inl (cyI, 7, .inl y0))]) A) ([.ref r0, .int p0, .int p1] : List Value).toArray s 0 0 A := ⟨_, rfl⟩
  rw [← hQ9]
  refine lv_aload_n hx hb dX5_exchange_0 rfl (lv_at hl 0 rfl) ?_
  refine lv_iload_n hx hb dX5_exchange_1 rfl (lv_at hl 1 rfl) ?_
  refine va_iald hx hb hK hP 0 0 rfl rfl (vp_in_iff.mpr (by omega)) dX5_exchange_2 ?_
  refine lv_topi (fun x_1 ex_1 => ?_)
  have fx_1 : 0 ≤ x_1.toInt ∧ x_1.toInt ≤ 6 := by rw [ex_1]; exact g0 _ (cv_ix (by omega) (by omega))
  refine lv_istore_n (lv' := [(3, .int x_1), (0, .ref r0), (1, .int p0), (2, .int p1)]) hx hb dX5_exchange_3 rfl hl (by decide) rfl (fun ls hl => ?_)
  refine lv_aload_n hx hb dX5_exchange_4 rfl (lv_at hl 1 rfl) ?_
  refine lv_iload_n hx hb dX5_exchange_5 rfl (lv_at hl 2 rfl) ?_
  refine lv_aload_n hx hb dX5_exchange_6 rfl (lv_at hl 1 rfl) ?_
  refine lv_iload_n hx hb dX5_exchange_7 rfl (lv_at hl 3 rfl) ?_
  refine va_iald hx hb hK hP 0 0 rfl rfl (vp_in_iff.mpr (by omega)) dX5_exchange_8 ?_
  refine lv_topi (fun x_2 ex_2 => ?_)
  have fx_2 : 0 ≤ x_2.toInt ∧ x_2.toInt ≤ 6 := by rw [ex_2]; exact g0 _ (cv_ix (by omega) (by omega))
  refine va_iast hx hb hK hP hD hS 0 0 rfl rfl (vp_in_iff.mpr (by omega)) dX5_exchange_9 (fun H locs hP hD hS => ?_)
  obtain ⟨f_3, ef_3⟩ : ∃ z9 : Nat → Int32, z9 = upd f0 p0.toNatClampNeg x_2 := ⟨_, rfl⟩
  rw [← ef_3] at hP hD
  have hP : va_P (dC, dI) vwCl [(r0, .inl (cyI, 7, .inl f_3))] H := hP
  have hD : va_D A [(r0, .inl (cyI, 7, .inl f_3))] := hD
  have hf_3 : rg 0 6 7 f_3 := by rw [ef_3]; exact rg_upd (g0) ⟨by omega, by omega⟩
  refine lv_aload_n hx hb dX5_exchange_10 rfl (lv_at hl 1 rfl) ?_
  refine lv_iload_n hx hb dX5_exchange_11 rfl (lv_at hl 3 rfl) ?_
  refine lv_iload_n hx hb dX5_exchange_12 rfl (lv_at hl 0 rfl) ?_
  refine va_iast hx hb hK hP hD hS 0 0 rfl rfl (vp_in_iff.mpr (by omega)) dX5_exchange_13 (fun H locs hP hD hS => ?_)
  obtain ⟨f_4, ef_4⟩ : ∃ z9 : Nat → Int32, z9 = upd f_3 p1.toNatClampNeg x_1 := ⟨_, rfl⟩
  rw [← ef_4] at hP hD
  have hP : va_P (dC, dI) vwCl [(r0, .inl (cyI, 7, .inl f_4))] H := hP
  have hD : va_D A [(r0, .inl (cyI, 7, .inl f_4))] := hD
  have hf_4 : rg 0 6 7 f_4 := by rw [ef_4]; exact rg_upd (hf_3) ⟨by omega, by omega⟩
  rw [hQ9]
  have hP9 := hP.sub (ws' := [(r0, .inl (cyI, 7, .inl f_4))]) [0] rfl
  have hD9 := hD.sub (ws' := [(r0, .inl (cyI, 7, .inl f_4))]) [0] (by decide) rfl
  exact W.vret hx hb hr (fun t ht hW => ⟨⟨(), rfl, trivial, ⟨f_4, hf_4, by rw [ht]; exact hP9, hD9⟩⟩, hS.F ht⟩) hS.2.2 dX5_exchange_14

/- X5_placeIn -/
set_option maxHeartbeats 4000000 in
set_option maxRecDepth 100000 in
theorem n_placeIn (l : Launch) (dC : Nat → ClassId) (dI : Nat → Nat → Nat) (cyI cyB cyJ cyZ cyH cyN : ClassId) (r0 : Nat) (f0 : Nat → Int32) (p0 p1 : Int32) (g0 : 0 ≤ p0.toInt ∧ p0.toInt ≤ 7) : Met l yX5_placeIn (wk yX5_placeIn cX5_placeIn 4 (some .int)) ({ frames := 1, cells := 0, slots := 0, locals := 60 }) (va_Pc [.ref r0, .int p0, .int p1] (fun U => va_P (dC, dI) vwCl [(r0, .inl (cyI, 7, .inl f0))] U.heap ∧ va_K (dC, dI) vwCl [(cyI, .int), (cyB, .byte), (cyJ, .long), (cyZ, .boolean), (cyH, .object RX2), (cyN, .array .long)] U)) (vp_Si (fun r : Int32 => (-1) ≤ r.toInt ∧ r.toInt ≤ 6)) 0 0 (fun _ => False) := by
  refine Met.ofW (cc := cX5_placeIn) (maxL := 4) (ret := (some .int)) (by decide) rfl ?_
  intro p e s m args below meth c s₁ B hml hv
  obtain ⟨rfl, hP, hK⟩ := hv
  have hx := B.exec
  have hb := B.bytes
  have hr := B.returns
  have hts : ∀ w ∈ uU, w.before ([.ref r0, .int p0, .int p1] : List Value).toArray s = true := fun w h => atoms_spec (ws := wk yX5_placeIn cX5_placeIn 4 (some .int)) B.pre w (List.mem_cons_of_mem _ h)
  have hown : s.vm.findClass RX5 = some m.cls := findClass_of_methodNamed B.named
  have hlocks := B.notSynchronized
  have hl := lv_entry ([.ref r0, .int p0, .int p1]) (n := 4) (Nat.le_of_ble_eq_true rfl)
  rw [lg_entry_eq]
  generalize (lg_sl ([.ref r0, .int p0, .int p1]) ++ List.replicate (4 - (lg_sl ([.ref r0, .int p0, .int p1])).length) Slot.unset).toArray = ls at hl ⊢
  have hl : lv_has ls 4 [(0, .ref r0), (1, .int p0), (2, .int p1)] := hl
  obtain ⟨Q9, hQ9⟩ : ∃ Q9 : State → Prop, Q9 = MQ below (vp_Si (fun r : Int32 => (-1) ≤ r.toInt ∧ r.toInt ≤ 6)) ([.ref r0, .int p0, .int p1] : List Value).toArray s 0 0 (fun _ => False) := ⟨_, rfl⟩
  rw [← hQ9]
  refine lv_iconst (v := 0) hx hb dX5_placeIn_0 (by decide) ?_
  refine lv_istore_n (lv' := [(3, .int 0), (0, .ref r0), (1, .int p0), (2, .int p1)]) hx hb dX5_placeIn_1 rfl hl (by decide) rfl (fun ls hl => ?_)
  have key_2 : ∀ (nkey_2 : Nat) (u_1 : Int32) (ls : Array Slot), (0 ≤ u_1.toInt ∧ u_1.toInt ≤ 7) → lv_has ls 4 [(3, .int u_1), (0, .ref r0), (1, .int p0), (2, .int p1)] → (p0.toInt - u_1.toInt).toNat < nkey_2 → W p l e ({ frames := 1, cells := 0, slots := 0, locals := 60 }) s m ([.ref r0, .int p0, .int p1] : List Value).toArray below meth c s.heap [] 0 0 Q9 (F0 m 2 ls []) := by
    intro nkey_2
    induction nkey_2 with
    | zero => intro u_1 ls hu_1 hl hnkey_2; exact absurd hnkey_2 (Nat.not_lt_zero _)
    | succ nkey_2 ihkey_2 =>
      intro u_1 ls hu_1 hl hnkey_2
      refine lv_iload_n hx hb dX5_placeIn_2 rfl (lv_at hl 0 rfl) ?_
      refine lv_iload_n hx hb dX5_placeIn_3 rfl (lv_at hl 2 rfl) ?_
      refine lv_icmp_ge (tgt := 22) hx hb dX5_placeIn_4 (by decide) (fun c_3 => ?_) (fun c_3 => ?_)
      · have c_3 : p0.toInt ≤ u_1.toInt := cv_le c_3
        refine lv_iconst (v := (-1)) hx hb dX5_placeIn_22 (by decide) ?_
        rw [hQ9]
        exact W.iret (v := (-1)) hx hb hr (fun t ht hW => ⟨(-1), rfl, (by decide), ht⟩) (fun q h => by cases h) dX5_placeIn_23
      · have c_3 : u_1.toInt < p0.toInt := cv_nle c_3
        refine lv_aload_n hx hb dX5_placeIn_7 rfl (lv_at hl 1 rfl) ?_
        refine lv_iload_n hx hb dX5_placeIn_8 rfl (lv_at hl 0 rfl) ?_
        refine va_iald hx hb hK hP 0 0 rfl rfl (vp_in_iff.mpr (by omega)) dX5_placeIn_9 ?_
        refine lv_topi (fun x_4 ex_4 => ?_)
        refine lv_iload_n hx hb dX5_placeIn_10 rfl (lv_at hl 3 rfl) ?_
        refine lv_icmp_ne (tgt := 16) hx hb dX5_placeIn_11 (by decide) (fun c_5 => ?_) (fun c_5 => ?_)
        · have c_5 : x_4.toInt ≠ p1.toInt := cv_ne c_5
          obtain ⟨x_6, ex_6⟩ : ∃ y : Int32, y = u_1 + 1 := ⟨_, rfl⟩
          refine lv_iinc (v := x_6) (lv' := [(3, .int x_6), (0, .ref r0), (1, .int p0), (2, .int p1)]) hx hb dX5_placeIn_16 hl (k := 0) rfl (by rw [ex_6]; rfl) (by decide) rfl (fun ls hl => ?_)
          have fx_6 : x_6.toInt = u_1.toInt + 1 := by rw [ex_6]; exact cv_addI (by have : (1 : Int32).toInt = 1 := rfl; omega) (by have : (1 : Int32).toInt = 1 := rfl; omega)
          refine lv_goto (tgt := 2) hx hb dX5_placeIn_19 (by decide) ?_
          exact ihkey_2 x_6 _ (by omega) (lv_sub hl [0, 1, 2, 3] rfl) (by omega)
        · have c_5 : x_4.toInt = p1.toInt := cv_eq c_5
          refine lv_iload_n hx hb dX5_placeIn_14 rfl (lv_at hl 0 rfl) ?_
          rw [hQ9]
          exact W.iret (v := u_1) hx hb hr (fun t ht hW => ⟨u_1, rfl, (by omega), ht⟩) (fun q h => by cases h) dX5_placeIn_15
  exact key_2 _ 0 _ (by decide) (lv_sub hl [0, 1, 2, 3] rfl) (Nat.lt_succ_self _)

/- X5_rightBits -/
set_option maxHeartbeats 4000000 in
set_option maxRecDepth 100000 in
theorem n_rightBits (l : Launch) (dC : Nat → ClassId) (dI : Nat → Nat → Nat) (cyI cyB cyJ cyZ cyH cyN : ClassId) (r0 : Nat) (f0 : Nat → Int32) (p0 : Int32) (g0 : rg 0 6 7 f0) (g1 : 0 ≤ p0.toInt ∧ p0.toInt ≤ 7) : Met l yX5_rightBits (wk yX5_rightBits cX5_rightBits 4 (some .int)) ({ frames := 1, cells := 0, slots := 0, locals := 60 }) (va_Pc [.ref r0, .int p0] (fun U => va_P (dC, dI) vwCl [(r0, .inl (cyI, 7, .inl f0))] U.heap ∧ va_K (dC, dI) vwCl [(cyI, .int), (cyB, .byte), (cyJ, .long), (cyZ, .boolean), (cyH, .object RX2), (cyN, .array .long)] U)) (vp_Si (fun r : Int32 => 0 ≤ r.toInt ∧ r.toInt ≤ 127)) 0 0 (fun _ => False) := by
  refine Met.ofW (cc := cX5_rightBits) (maxL := 4) (ret := (some .int)) (by decide) rfl ?_
  intro p e s m args below meth c s₁ B hml hv
  obtain ⟨rfl, hP, hK⟩ := hv
  have hx := B.exec
  have hb := B.bytes
  have hr := B.returns
  have hts : ∀ w ∈ uU, w.before ([.ref r0, .int p0] : List Value).toArray s = true := fun w h => atoms_spec (ws := wk yX5_rightBits cX5_rightBits 4 (some .int)) B.pre w (List.mem_cons_of_mem _ h)
  have hown : s.vm.findClass RX5 = some m.cls := findClass_of_methodNamed B.named
  have hlocks := B.notSynchronized
  have hl := lv_entry ([.ref r0, .int p0]) (n := 4) (Nat.le_of_ble_eq_true rfl)
  rw [lg_entry_eq]
  generalize (lg_sl ([.ref r0, .int p0]) ++ List.replicate (4 - (lg_sl ([.ref r0, .int p0])).length) Slot.unset).toArray = ls at hl ⊢
  have hl : lv_has ls 4 [(0, .ref r0), (1, .int p0)] := hl
  obtain ⟨Q9, hQ9⟩ : ∃ Q9 : State → Prop, Q9 = MQ below (vp_Si (fun r : Int32 => 0 ≤ r.toInt ∧ r.toInt ≤ 127)) ([.ref r0, .int p0] : List Value).toArray s 0 0 (fun _ => False) := ⟨_, rfl⟩
  rw [← hQ9]
  refine lv_iconst (v := 0) hx hb dX5_rightBits_0 (by decide) ?_
  refine lv_istore_n (lv' := [(2, .int 0), (0, .ref r0), (1, .int p0)]) hx hb dX5_rightBits_1 rfl hl (by decide) rfl (fun ls hl => ?_)
  refine lv_iconst (v := 0) hx hb dX5_rightBits_2 (by decide) ?_
  refine lv_istore_n (lv' := [(3, .int 0), (2, .int 0), (0, .ref r0), (1, .int p0)]) hx hb dX5_rightBits_3 rfl hl (by decide) rfl (fun ls hl => ?_)
  have key_3 : ∀ (nkey_3 : Nat) (u_1 : Int32) (u_2 : Int32) (ls : Array Slot), (0 ≤ u_1.toInt ∧ u_1.toInt ≤ 7) → (0 ≤ u_2.toInt ∧ u_2.toInt ≤ 127) → lv_has ls 4 [(3, .int u_1), (2, .int u_2), (0, .ref r0), (1, .int p0)] → (p0.toInt - u_1.toInt).toNat < nkey_3 → W p l e ({ frames := 1, cells := 0, slots := 0, locals := 60 }) s m ([.ref r0, .int p0] : List Value).toArray below meth c s.heap [] 0 0 Q9 (F0 m 4 ls []) := by
    intro nkey_3
    induction nkey_3 with
    | zero => intro u_1 u_2 ls hu_1 hu_2 hl hnkey_3; exact absurd hnkey_3 (Nat.not_lt_zero _)
    | succ nkey_3 ihkey_3 =>
      intro u_1 u_2 ls hu_1 hu_2 hl hnkey_3
      refine lv_iload_n hx hb dX5_rightBits_4 rfl (lv_at hl 0 rfl) ?_
      refine lv_iload_n hx hb dX5_rightBits_5 rfl (lv_at hl 3 rfl) ?_
      refine lv_icmp_ge (tgt := 28) hx hb dX5_rightBits_6 (by decide) (fun c_4 => ?_) (fun c_4 => ?_)
      · have c_4 : p0.toInt ≤ u_1.toInt := cv_le c_4
        refine lv_iload_n hx hb dX5_rightBits_28 rfl (lv_at hl 1 rfl) ?_
        rw [hQ9]
        exact W.iret (v := u_2) hx hb hr (fun t ht hW => ⟨u_2, rfl, (by omega), ht⟩) (fun q h => by cases h) dX5_rightBits_29
      · have c_4 : u_1.toInt < p0.toInt := cv_nle c_4
        refine lv_aload_n hx hb dX5_rightBits_9 rfl (lv_at hl 2 rfl) ?_
        refine lv_iload_n hx hb dX5_rightBits_10 rfl (lv_at hl 0 rfl) ?_
        refine va_iald hx hb hK hP 0 0 rfl rfl (vp_in_iff.mpr (by omega)) dX5_rightBits_11 ?_
        refine lv_topi (fun x_5 ex_5 => ?_)
        have fx_5 : 0 ≤ x_5.toInt ∧ x_5.toInt ≤ 6 := by rw [ex_5]; exact g0 _ (cv_ix (by omega) (by omega))
        refine lv_iload_n hx hb dX5_rightBits_12 rfl (lv_at hl 0 rfl) ?_
        have join_7 : ∀ (u_6 : Int32) (ls : Array Slot), (0 ≤ u_6.toInt ∧ u_6.toInt ≤ 127) → lv_has ls 4 [(3, .int u_1), (2, .int u_6), (0, .ref r0), (1, .int p0)] → W p l e ({ frames := 1, cells := 0, slots := 0, locals := 60 }) s m ([.ref r0, .int p0] : List Value).toArray below meth c s.heap [] 0 0 Q9 (F0 m 22 ls []) := by
          intro u_6 ls hu_6 hl
          obtain ⟨x_8, ex_8⟩ : ∃ y : Int32, y = u_1 + 1 := ⟨_, rfl⟩
          refine lv_iinc (v := x_8) (lv' := [(3, .int x_8), (2, .int u_6), (0, .ref r0), (1, .int p0)]) hx hb dX5_rightBits_22 hl (k := 0) rfl (by rw [ex_8]; rfl) (by decide) rfl (fun ls hl => ?_)
          have fx_8 : x_8.toInt = u_1.toInt + 1 := by rw [ex_8]; exact cv_addI (by have : (1 : Int32).toInt = 1 := rfl; omega) (by have : (1 : Int32).toInt = 1 := rfl; omega)
          refine lv_goto (tgt := 4) hx hb dX5_rightBits_25 (by decide) ?_
          exact ihkey_3 x_8 u_6 _ (by omega) (by omega) (lv_sub hl [0, 1, 2, 3] rfl) (by omega)
        refine lv_icmp_ne (tgt := 22) hx hb dX5_rightBits_13 (by decide) (fun c_9 => ?_) (fun c_9 => ?_)
        · have c_9 : x_5.toInt ≠ u_1.toInt := cv_ne c_9
          exact join_7 u_2 _ (by omega) (lv_sub hl [0, 1, 2, 3] rfl)
        · have c_9 : x_5.toInt = u_1.toInt := cv_eq c_9
          refine lv_iload_n hx hb dX5_rightBits_16 rfl (lv_at hl 1 rfl) ?_
          refine lv_iconst (v := 1) hx hb dX5_rightBits_17 (by decide) ?_
          refine lv_iload_n hx hb dX5_rightBits_18 rfl (lv_at hl 0 rfl) ?_
          refine lv_ishl hx hb dX5_rightBits_19 ?_
          refine lv_topi (fun x_10 ex_10 => ?_)
          have fx_10 : 1 ≤ x_10.toInt ∧ x_10.toInt ≤ 64 := by rw [ex_10]; have q := cv_shl1 (y := u_1) 0 6 (by decide) (by decide) (by omega) (by omega); omega
          refine lv_ior hx hb dX5_rightBits_20 ?_
          refine lv_topi (fun x_11 ex_11 => ?_)
          have fx_11 : 0 ≤ x_11.toInt ∧ x_11.toInt ≤ 127 := by rw [ex_11]; have q := cv_or (x := u_2) (y := x_10) 7 (by decide) (by omega) (by omega) (by omega) (by omega); omega
          refine lv_istore_n (lv' := [(2, .int x_11), (3, .int u_1), (0, .ref r0), (1, .int p0)]) hx hb dX5_rightBits_21 rfl hl (by decide) rfl (fun ls hl => ?_)
          exact join_7 x_11 _ (by omega) (lv_sub hl [1, 0, 2, 3] rfl)
  exact key_3 _ 0 0 _ (by decide) (by decide) (lv_sub hl [0, 1, 2, 3] rfl) (Nat.lt_succ_self _)

/- X5_crossings -/
set_option maxHeartbeats 4000000 in
set_option maxRecDepth 100000 in
theorem n_crossings (l : Launch) (dC : Nat → ClassId) (dI : Nat → Nat → Nat) (cyI cyB cyJ cyZ cyH cyN : ClassId) (r0 : Nat) (f0 : Nat → Int32) (p0 : Int32) (g0 : 0 ≤ p0.toInt ∧ p0.toInt ≤ 7) : Met l yX5_crossings (wk yX5_crossings cX5_crossings 5 (some .int)) ({ frames := 1, cells := 0, slots := 0, locals := 60 }) (va_Pc [.ref r0, .int p0] (fun U => va_P (dC, dI) vwCl [(r0, .inl (cyI, 7, .inl f0))] U.heap ∧ va_K (dC, dI) vwCl [(cyI, .int), (cyB, .byte), (cyJ, .long), (cyZ, .boolean), (cyH, .object RX2), (cyN, .array .long)] U)) (vp_Si (fun r : Int32 => True)) 0 0 (fun _ => False) := by
  refine Met.ofW (cc := cX5_crossings) (maxL := 5) (ret := (some .int)) (by decide) rfl ?_
  intro p e s m args below meth c s₁ B hml hv
  obtain ⟨rfl, hP, hK⟩ := hv
  have hx := B.exec
  have hb := B.bytes
  have hr := B.returns
  have hts : ∀ w ∈ uU, w.before ([.ref r0, .int p0] : List Value).toArray s = true := fun w h => atoms_spec (ws := wk yX5_crossings cX5_crossings 5 (some .int)) B.pre w (List.mem_cons_of_mem _ h)
  have hown : s.vm.findClass RX5 = some m.cls := findClass_of_methodNamed B.named
  have hlocks := B.notSynchronized
  have hl := lv_entry ([.ref r0, .int p0]) (n := 5) (Nat.le_of_ble_eq_true rfl)
  rw [lg_entry_eq]
  generalize (lg_sl ([.ref r0, .int p0]) ++ List.replicate (5 - (lg_sl ([.ref r0, .int p0])).length) Slot.unset).toArray = ls at hl ⊢
  have hl : lv_has ls 5 [(0, .ref r0), (1, .int p0)] := hl
  obtain ⟨Q9, hQ9⟩ : ∃ Q9 : State → Prop, Q9 = MQ below (vp_Si (fun r : Int32 => True)) ([.ref r0, .int p0] : List Value).toArray s 0 0 (fun _ => False) := ⟨_, rfl⟩
  rw [← hQ9]
  refine lv_iconst (v := 0) hx hb dX5_crossings_0 (by decide) ?_
  refine lv_istore_n (lv' := [(2, .int 0), (0, .ref r0), (1, .int p0)]) hx hb dX5_crossings_1 rfl hl (by decide) rfl (fun ls hl => ?_)
  refine lv_iconst (v := 0) hx hb dX5_crossings_2 (by decide) ?_
  refine lv_istore_n (lv' := [(3, .int 0), (2, .int 0), (0, .ref r0), (1, .int p0)]) hx hb dX5_crossings_3 rfl hl (by decide) rfl (fun ls hl => ?_)
  have key_3 : ∀ (nkey_3 : Nat) (u_1 : Int32) (u_2 : Int32) (ls : Array Slot), (0 ≤ u_1.toInt ∧ u_1.toInt ≤ 7) → lv_has ls 5 [(3, .int u_1), (2, .int u_2), (0, .ref r0), (1, .int p0)] → (p0.toInt - u_1.toInt).toNat < nkey_3 → W p l e ({ frames := 1, cells := 0, slots := 0, locals := 60 }) s m ([.ref r0, .int p0] : List Value).toArray below meth c s.heap [] 0 0 Q9 (F0 m 4 ls []) := by
    intro nkey_3
    induction nkey_3 with
    | zero => intro u_1 u_2 ls hu_1 hl hnkey_3; exact absurd hnkey_3 (Nat.not_lt_zero _)
    | succ nkey_3 ihkey_3 =>
      intro u_1 u_2 ls hu_1 hl hnkey_3
      refine lv_iload_n hx hb dX5_crossings_4 rfl (lv_at hl 0 rfl) ?_
      refine lv_iload_n hx hb dX5_crossings_5 rfl (lv_at hl 3 rfl) ?_
      refine lv_icmp_ge (tgt := 45) hx hb dX5_crossings_6 (by decide) (fun c_4 => ?_) (fun c_4 => ?_)
      · have c_4 : p0.toInt ≤ u_1.toInt := cv_le c_4
        refine lv_iload_n hx hb dX5_crossings_45 rfl (lv_at hl 1 rfl) ?_
        rw [hQ9]
        exact W.iret (v := u_2) hx hb hr (fun t ht hW => ⟨u_2, rfl, trivial, ht⟩) (fun q h => by cases h) dX5_crossings_46
      · have c_4 : u_1.toInt < p0.toInt := cv_nle c_4
        refine lv_iload_n hx hb dX5_crossings_9 rfl (lv_at hl 0 rfl) ?_
        refine lv_iconst (v := 1) hx hb dX5_crossings_10 (by decide) ?_
        refine lv_iadd hx hb dX5_crossings_11 ?_
        refine lv_topi (fun x_5 ex_5 => ?_)
        have fx_5 : x_5.toInt = u_1.toInt + 1 := by rw [ex_5]; exact cv_addI (by have : (1 : Int32).toInt = 1 := rfl; omega) (by have : (1 : Int32).toInt = 1 := rfl; omega)
        refine lv_istore (lv' := [(4, .int x_5), (3, .int u_1), (2, .int u_2), (0, .ref r0), (1, .int p0)]) hx hb dX5_crossings_12 hl (by decide) rfl (fun ls hl => ?_)
        have key_8 : ∀ (nkey_8 : Nat) (u_6 : Int32) (u_7 : Int32) (ls : Array Slot), (1 ≤ u_6.toInt ∧ u_6.toInt ≤ 7) → lv_has ls 5 [(4, .int u_6), (3, .int u_1), (2, .int u_7), (0, .ref r0), (1, .int p0)] → (p0.toInt - u_6.toInt).toNat < nkey_8 → W p l e ({ frames := 1, cells := 0, slots := 0, locals := 60 }) s m ([.ref r0, .int p0] : List Value).toArray below meth c s.heap [] 0 0 Q9 (F0 m 14 ls []) := by
          intro nkey_8
          induction nkey_8 with
          | zero => intro u_6 u_7 ls hu_6 hl hnkey_8; exact absurd hnkey_8 (Nat.not_lt_zero _)
          | succ nkey_8 ihkey_8 =>
            intro u_6 u_7 ls hu_6 hl hnkey_8
            refine lv_iload hx hb dX5_crossings_14 (lv_at hl 0 rfl) ?_
            refine lv_iload_n hx hb dX5_crossings_16 rfl (lv_at hl 4 rfl) ?_
            refine lv_icmp_ge (tgt := 39) hx hb dX5_crossings_17 (by decide) (fun c_9 => ?_) (fun c_9 => ?_)
            · have c_9 : p0.toInt ≤ u_6.toInt := cv_le c_9
              obtain ⟨x_10, ex_10⟩ : ∃ y : Int32, y = u_1 + 1 := ⟨_, rfl⟩
              refine lv_iinc (v := x_10) (lv' := [(3, .int x_10), (4, .int u_6), (2, .int u_7), (0, .ref r0), (1, .int p0)]) hx hb dX5_crossings_39 hl (k := 1) rfl (by rw [ex_10]; rfl) (by decide) rfl (fun ls hl => ?_)
              have fx_10 : x_10.toInt = u_1.toInt + 1 := by rw [ex_10]; exact cv_addI (by have : (1 : Int32).toInt = 1 := rfl; omega) (by have : (1 : Int32).toInt = 1 := rfl; omega)
              refine lv_goto (tgt := 4) hx hb dX5_crossings_42 (by decide) ?_
              exact ihkey_3 x_10 u_7 _ (by omega) (lv_sub hl [0, 2, 3, 4] rfl) (by omega)
            · have c_9 : u_6.toInt < p0.toInt := cv_nle c_9
              refine lv_aload_n hx hb dX5_crossings_20 rfl (lv_at hl 3 rfl) ?_
              refine lv_iload_n hx hb dX5_crossings_21 rfl (lv_at hl 1 rfl) ?_
              refine va_iald hx hb hK hP 0 0 rfl rfl (vp_in_iff.mpr (by omega)) dX5_crossings_22 ?_
              refine lv_topi (fun x_11 ex_11 => ?_)
              refine lv_aload_n hx hb dX5_crossings_23 rfl (lv_at hl 3 rfl) ?_
              refine lv_iload hx hb dX5_crossings_24 (lv_at hl 0 rfl) ?_
              refine va_iald hx hb hK hP 0 0 rfl rfl (vp_in_iff.mpr (by omega)) dX5_crossings_26 ?_
              refine lv_topi (fun x_12 ex_12 => ?_)
              have join_14 : ∀ (u_13 : Int32) (ls : Array Slot), lv_has ls 5 [(4, .int u_6), (3, .int u_1), (2, .int u_13), (0, .ref r0), (1, .int p0)] → W p l e ({ frames := 1, cells := 0, slots := 0, locals := 60 }) s m ([.ref r0, .int p0] : List Value).toArray below meth c s.heap [] 0 0 Q9 (F0 m 33 ls []) := by
                intro u_13 ls hl
                obtain ⟨x_15, ex_15⟩ : ∃ y : Int32, y = u_6 + 1 := ⟨_, rfl⟩
                refine lv_iinc (v := x_15) (lv' := [(4, .int x_15), (3, .int u_1), (2, .int u_13), (0, .ref r0), (1, .int p0)]) hx hb dX5_crossings_33 hl (k := 0) rfl (by rw [ex_15]; rfl) (by decide) rfl (fun ls hl => ?_)
                have fx_15 : x_15.toInt = u_6.toInt + 1 := by rw [ex_15]; exact cv_addI (by have : (1 : Int32).toInt = 1 := rfl; omega) (by have : (1 : Int32).toInt = 1 := rfl; omega)
                refine lv_goto (tgt := 14) hx hb dX5_crossings_36 (by decide) ?_
                exact ihkey_8 x_15 u_13 _ (by omega) (lv_sub hl [0, 1, 2, 3, 4] rfl) (by omega)
              refine lv_icmp_le (tgt := 33) hx hb dX5_crossings_27 (by decide) (fun c_16 => ?_) (fun c_16 => ?_)
              · have c_16 : x_11.toInt ≤ x_12.toInt := cv_le c_16
                exact join_14 u_7 _ (lv_sub hl [0, 1, 2, 3, 4] rfl)
              · have c_16 : x_12.toInt < x_11.toInt := cv_nle c_16
                obtain ⟨x_17, ex_17⟩ : ∃ y : Int32, y = u_7 + 1 := ⟨_, rfl⟩
                refine lv_iinc (v := x_17) (lv' := [(2, .int x_17), (4, .int u_6), (3, .int u_1), (0, .ref r0), (1, .int p0)]) hx hb dX5_crossings_30 hl (k := 2) rfl (by rw [ex_17]; rfl) (by decide) rfl (fun ls hl => ?_)
                exact join_14 x_17 _ (lv_sub hl [1, 2, 0, 3, 4] rfl)
        exact key_8 _ x_5 u_2 _ (by omega) (lv_sub hl [0, 1, 2, 3, 4] rfl) (Nat.lt_succ_self _)
  exact key_3 _ 0 0 _ (by decide) (lv_sub hl [0, 1, 2, 3] rfl) (Nat.lt_succ_self _)

/- X5_ringBits -/
set_option maxHeartbeats 4000000 in
set_option maxRecDepth 100000 in
theorem n_ringBits (l : Launch) (dC : Nat → ClassId) (dI : Nat → Nat → Nat) (cyI cyB cyJ cyZ cyH cyN : ClassId) (r0 : Nat) (f0 : Nat → Int32) (p0 p1 : Int32) (g0 : rg 0 6 7 f0) (g1 : 0 ≤ p0.toInt ∧ p0.toInt ≤ 7) (g2 : 0 ≤ p1.toInt ∧ p1.toInt ≤ 6) : Met l yX5_ringBits (wk yX5_ringBits cX5_ringBits 6 (some .int)) ({ frames := 1, cells := 0, slots := 0, locals := 60 }) (va_Pc [.ref r0, .int p0, .int p1] (fun U => va_P (dC, dI) vwCl [(r0, .inl (cyI, 7, .inl f0))] U.heap ∧ va_K (dC, dI) vwCl [(cyI, .int), (cyB, .byte), (cyJ, .long), (cyZ, .boolean), (cyH, .object RX2), (cyN, .array .long)] U)) (vp_Si (fun r : Int32 => True)) 0 0 (fun _ => False) := by
  refine Met.ofW (cc := cX5_ringBits) (maxL := 6) (ret := (some .int)) (by decide) rfl ?_
  intro p e s m args below meth c s₁ B hml hv
  obtain ⟨rfl, hP, hK⟩ := hv
  have hx := B.exec
  have hb := B.bytes
  have hr := B.returns
  have hts : ∀ w ∈ uU, w.before ([.ref r0, .int p0, .int p1] : List Value).toArray s = true := fun w h => atoms_spec (ws := wk yX5_ringBits cX5_ringBits 6 (some .int)) B.pre w (List.mem_cons_of_mem _ h)
  have hown : s.vm.findClass RX5 = some m.cls := findClass_of_methodNamed B.named
  have hlocks := B.notSynchronized
  have hl := lv_entry ([.ref r0, .int p0, .int p1]) (n := 6) (Nat.le_of_ble_eq_true rfl)
  rw [lg_entry_eq]
  generalize (lg_sl ([.ref r0, .int p0, .int p1]) ++ List.replicate (6 - (lg_sl ([.ref r0, .int p0, .int p1])).length) Slot.unset).toArray = ls at hl ⊢
  have hl : lv_has ls 6 [(0, .ref r0), (1, .int p0), (2, .int p1)] := hl
  obtain ⟨Q9, hQ9⟩ : ∃ Q9 : State → Prop, Q9 = MQ below (vp_Si (fun r : Int32 => True)) ([.ref r0, .int p0, .int p1] : List Value).toArray s 0 0 (fun _ => False) := ⟨_, rfl⟩
  rw [← hQ9]
  refine lv_iconst (v := 0) hx hb dX5_ringBits_0 (by decide) ?_
  refine lv_istore_n (lv' := [(3, .int 0), (0, .ref r0), (1, .int p0), (2, .int p1)]) hx hb dX5_ringBits_1 rfl hl (by decide) rfl (fun ls hl => ?_)
  refine lv_iload_n hx hb dX5_ringBits_2 rfl (lv_at hl 3 rfl) ?_
  refine lv_istore (lv' := [(4, .int p1), (3, .int 0), (0, .ref r0), (1, .int p0), (2, .int p1)]) hx hb dX5_ringBits_3 hl (by decide) rfl (fun ls hl => ?_)
  refine lv_iconst (v := 0) hx hb dX5_ringBits_5 (by decide) ?_
  refine lv_istore (lv' := [(5, .int 0), (4, .int p1), (3, .int 0), (0, .ref r0), (1, .int p0), (2, .int p1)]) hx hb dX5_ringBits_6 hl (by decide) rfl (fun ls hl => ?_)
  have key_4 : ∀ (nkey_4 : Nat) (u_1 : Int32) (u_2 : Int32) (u_3 : Int32) (ls : Array Slot), (0 ≤ u_1.toInt ∧ u_1.toInt ≤ 7) → (0 ≤ u_2.toInt ∧ u_2.toInt ≤ 6) → (0 ≤ u_3.toInt ∧ u_3.toInt ≤ 127) → lv_has ls 6 [(5, .int u_1), (4, .int u_2), (3, .int u_3), (0, .ref r0), (1, .int p0), (2, .int p1)] → (p0.toInt - u_1.toInt).toNat < nkey_4 → W p l e ({ frames := 1, cells := 0, slots := 0, locals := 60 }) s m ([.ref r0, .int p0, .int p1] : List Value).toArray below meth c s.heap [] 0 0 Q9 (F0 m 8 ls []) := by
    intro nkey_4
    induction nkey_4 with
    | zero => intro u_1 u_2 u_3 ls hu_1 hu_2 hu_3 hl hnkey_4; exact absurd hnkey_4 (Nat.not_lt_zero _)
    | succ nkey_4 ihkey_4 =>
      intro u_1 u_2 u_3 ls hu_1 hu_2 hu_3 hl hnkey_4
      refine lv_iload hx hb dX5_ringBits_8 (lv_at hl 0 rfl) ?_
      refine lv_iload_n hx hb dX5_ringBits_10 rfl (lv_at hl 4 rfl) ?_
      refine lv_icmp_ge (tgt := 33) hx hb dX5_ringBits_11 (by decide) (fun c_5 => ?_) (fun c_5 => ?_)
      · have c_5 : p0.toInt ≤ u_1.toInt := cv_le c_5
        refine lv_iload_n hx hb dX5_ringBits_33 rfl (lv_at hl 2 rfl) ?_
        rw [hQ9]
        exact W.iret (v := u_3) hx hb hr (fun t ht hW => ⟨u_3, rfl, trivial, ht⟩) (fun q h => by cases h) dX5_ringBits_34
      · have c_5 : u_1.toInt < p0.toInt := cv_nle c_5
        refine lv_iload_n hx hb dX5_ringBits_14 rfl (lv_at hl 2 rfl) ?_
        refine lv_iconst (v := 1) hx hb dX5_ringBits_15 (by decide) ?_
        refine lv_iload hx hb dX5_ringBits_16 (lv_at hl 1 rfl) ?_
        refine lv_ishl hx hb dX5_ringBits_18 ?_
        refine lv_topi (fun x_6 ex_6 => ?_)
        have fx_6 : 1 ≤ x_6.toInt ∧ x_6.toInt ≤ 64 := by rw [ex_6]; have q := cv_shl1 (y := u_2) 0 6 (by decide) (by decide) (by omega) (by omega); omega
        refine lv_ior hx hb dX5_ringBits_19 ?_
        refine lv_topi (fun x_7 ex_7 => ?_)
        have fx_7 : 0 ≤ x_7.toInt ∧ x_7.toInt ≤ 127 := by rw [ex_7]; have q := cv_or (x := u_3) (y := x_6) 7 (by decide) (by omega) (by omega) (by omega) (by omega); omega
        refine lv_istore_n (lv' := [(3, .int x_7), (5, .int u_1), (4, .int u_2), (0, .ref r0), (1, .int p0), (2, .int p1)]) hx hb dX5_ringBits_20 rfl hl (by decide) rfl (fun ls hl => ?_)
        refine lv_aload_n hx hb dX5_ringBits_21 rfl (lv_at hl 3 rfl) ?_
        refine lv_iload hx hb dX5_ringBits_22 (lv_at hl 2 rfl) ?_
        refine va_iald hx hb hK hP 0 0 rfl rfl (vp_in_iff.mpr (by omega)) dX5_ringBits_24 ?_
        refine lv_topi (fun x_8 ex_8 => ?_)
        have fx_8 : 0 ≤ x_8.toInt ∧ x_8.toInt ≤ 6 := by rw [ex_8]; exact g0 _ (cv_ix (by omega) (by omega))
        refine lv_istore (lv' := [(4, .int x_8), (3, .int x_7), (5, .int u_1), (0, .ref r0), (1, .int p0), (2, .int p1)]) hx hb dX5_ringBits_25 hl (by decide) rfl (fun ls hl => ?_)
        obtain ⟨x_9, ex_9⟩ : ∃ y : Int32, y = u_1 + 1 := ⟨_, rfl⟩
        refine lv_iinc (v := x_9) (lv' := [(5, .int x_9), (4, .int x_8), (3, .int x_7), (0, .ref r0), (1, .int p0), (2, .int p1)]) hx hb dX5_ringBits_27 hl (k := 2) rfl (by rw [ex_9]; rfl) (by decide) rfl (fun ls hl => ?_)
        have fx_9 : x_9.toInt = u_1.toInt + 1 := by rw [ex_9]; exact cv_addI (by have : (1 : Int32).toInt = 1 := rfl; omega) (by have : (1 : Int32).toInt = 1 := rfl; omega)
        refine lv_goto (tgt := 8) hx hb dX5_ringBits_30 (by decide) ?_
        exact ihkey_4 x_9 x_8 x_7 _ (by omega) (by omega) (by omega) (lv_sub hl [0, 1, 2, 3, 4, 5] rfl) (by omega)
  exact key_4 _ 0 p1 0 _ (by decide) (by omega) (by decide) (lv_sub hl [0, 1, 2, 3, 4, 5] rfl) (Nat.lt_succ_self _)

/- X5_alike -/
set_option maxHeartbeats 4000000 in
set_option maxRecDepth 100000 in
theorem n_alike (l : Launch) (dC : Nat → ClassId) (dI : Nat → Nat → Nat) (cyI cyB cyJ cyZ cyH cyN : ClassId) (r0 : Nat) (f0 : Nat → Int32) (r1 : Nat) (f1 : Nat → Int32) (p0 : Int32) (g0 : 0 ≤ p0.toInt ∧ p0.toInt ≤ 7) : Met l yX5_alike (wk yX5_alike cX5_alike 4 (some .boolean)) ({ frames := 1, cells := 0, slots := 0, locals := 60 }) (va_Pc [.ref r0, .ref r1, .int p0] (fun U => va_P (dC, dI) vwCl [(r0, .inl (cyI, 7, .inl f0)), (r1, .inl (cyI, 7, .inl f1))] U.heap ∧ va_K (dC, dI) vwCl [(cyI, .int), (cyB, .byte), (cyJ, .long), (cyZ, .boolean), (cyH, .object RX2), (cyN, .array .long)] U)) (vp_Si (fun r : Int32 => 0 ≤ r.toInt ∧ r.toInt ≤ 1)) 0 0 (fun _ => False) := by
  refine Met.ofW (cc := cX5_alike) (maxL := 4) (ret := (some .boolean)) (by decide) rfl ?_
  intro p e s m args below meth c s₁ B hml hv
  obtain ⟨rfl, hP, hK⟩ := hv
  have hx := B.exec
  have hb := B.bytes
  have hr := B.returns
  have hts : ∀ w ∈ uU, w.before ([.ref r0, .ref r1, .int p0] : List Value).toArray s = true := fun w h => atoms_spec (ws := wk yX5_alike cX5_alike 4 (some .boolean)) B.pre w (List.mem_cons_of_mem _ h)
  have hown : s.vm.findClass RX5 = some m.cls := findClass_of_methodNamed B.named
  have hlocks := B.notSynchronized
  have hl := lv_entry ([.ref r0, .ref r1, .int p0]) (n := 4) (Nat.le_of_ble_eq_true rfl)
  rw [lg_entry_eq]
  generalize (lg_sl ([.ref r0, .ref r1, .int p0]) ++ List.replicate (4 - (lg_sl ([.ref r0, .ref r1, .int p0])).length) Slot.unset).toArray = ls at hl ⊢
  have hl : lv_has ls 4 [(0, .ref r0), (1, .ref r1), (2, .int p0)] := hl
  obtain ⟨Q9, hQ9⟩ : ∃ Q9 : State → Prop, Q9 = MQ below (vp_Si (fun r : Int32 => 0 ≤ r.toInt ∧ r.toInt ≤ 1)) ([.ref r0, .ref r1, .int p0] : List Value).toArray s 0 0 (fun _ => False) := ⟨_, rfl⟩
  rw [← hQ9]
  refine lv_iconst (v := 0) hx hb dX5_alike_0 (by decide) ?_
  refine lv_istore_n (lv' := [(3, .int 0), (0, .ref r0), (1, .ref r1), (2, .int p0)]) hx hb dX5_alike_1 rfl hl (by decide) rfl (fun ls hl => ?_)
  have key_2 : ∀ (nkey_2 : Nat) (u_1 : Int32) (ls : Array Slot), (0 ≤ u_1.toInt ∧ u_1.toInt ≤ 7) → lv_has ls 4 [(3, .int u_1), (0, .ref r0), (1, .ref r1), (2, .int p0)] → (p0.toInt - u_1.toInt).toNat < nkey_2 → W p l e ({ frames := 1, cells := 0, slots := 0, locals := 60 }) s m ([.ref r0, .ref r1, .int p0] : List Value).toArray below meth c s.heap [] 0 0 Q9 (F0 m 2 ls []) := by
    intro nkey_2
    induction nkey_2 with
    | zero => intro u_1 ls hu_1 hl hnkey_2; exact absurd hnkey_2 (Nat.not_lt_zero _)
    | succ nkey_2 ihkey_2 =>
      intro u_1 ls hu_1 hl hnkey_2
      refine lv_iload_n hx hb dX5_alike_2 rfl (lv_at hl 0 rfl) ?_
      refine lv_iload_n hx hb dX5_alike_3 rfl (lv_at hl 3 rfl) ?_
      refine lv_icmp_ge (tgt := 24) hx hb dX5_alike_4 (by decide) (fun c_3 => ?_) (fun c_3 => ?_)
      · have c_3 : p0.toInt ≤ u_1.toInt := cv_le c_3
        refine lv_iconst (v := 1) hx hb dX5_alike_24 (by decide) ?_
        rw [hQ9]
        exact W.zret (v := 1) (ty := .boolean) hx hb hr rfl (fun t ht hW => ⟨1, rfl, (by decide), ht⟩) (fun q h => by cases h) dX5_alike_25
      · have c_3 : u_1.toInt < p0.toInt := cv_nle c_3
        refine lv_aload_n hx hb dX5_alike_7 rfl (lv_at hl 1 rfl) ?_
        refine lv_iload_n hx hb dX5_alike_8 rfl (lv_at hl 0 rfl) ?_
        refine va_iald hx hb hK hP 0 0 rfl rfl (vp_in_iff.mpr (by omega)) dX5_alike_9 ?_
        refine lv_topi (fun x_4 ex_4 => ?_)
        refine lv_aload_n hx hb dX5_alike_10 rfl (lv_at hl 2 rfl) ?_
        refine lv_iload_n hx hb dX5_alike_11 rfl (lv_at hl 0 rfl) ?_
        refine va_iald hx hb hK hP 1 0 rfl rfl (vp_in_iff.mpr (by omega)) dX5_alike_12 ?_
        refine lv_topi (fun x_5 ex_5 => ?_)
        refine lv_icmp_eq (tgt := 18) hx hb dX5_alike_13 (by decide) (fun c_6 => ?_) (fun c_6 => ?_)
        · have c_6 : x_4.toInt = x_5.toInt := cv_eq c_6
          obtain ⟨x_7, ex_7⟩ : ∃ y : Int32, y = u_1 + 1 := ⟨_, rfl⟩
          refine lv_iinc (v := x_7) (lv' := [(3, .int x_7), (0, .ref r0), (1, .ref r1), (2, .int p0)]) hx hb dX5_alike_18 hl (k := 0) rfl (by rw [ex_7]; rfl) (by decide) rfl (fun ls hl => ?_)
          have fx_7 : x_7.toInt = u_1.toInt + 1 := by rw [ex_7]; exact cv_addI (by have : (1 : Int32).toInt = 1 := rfl; omega) (by have : (1 : Int32).toInt = 1 := rfl; omega)
          refine lv_goto (tgt := 2) hx hb dX5_alike_21 (by decide) ?_
          exact ihkey_2 x_7 _ (by omega) (lv_sub hl [0, 1, 2, 3] rfl) (by omega)
        · have c_6 : x_4.toInt ≠ x_5.toInt := cv_ne c_6
          refine lv_iconst (v := 0) hx hb dX5_alike_16 (by decide) ?_
          rw [hQ9]
          exact W.zret (v := 0) (ty := .boolean) hx hb hr rfl (fun t ht hW => ⟨0, rfl, (by decide), ht⟩) (fun q h => by cases h) dX5_alike_17
  exact key_2 _ 0 _ (by decide) (lv_sub hl [0, 1, 2, 3] rfl) (Nat.lt_succ_self _)

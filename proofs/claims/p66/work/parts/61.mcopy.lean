/- X12_copyRow -/
set_option maxHeartbeats 4000000 in
set_option maxRecDepth 100000 in
theorem m_cp_lines_40 (l : Launch) (dC : Nat → ClassId) (dI : Nat → Nat → Nat) (cyI cyB cyJ cyZ cyH cyN : ClassId) (sz : Nat) (r0 : Nat) (f0 : Nat → Int32) : Met l yX12_copyRow (wk yX12_copyRow cX12_copyRow 5 none) ({ frames := 1, cells := 0, slots := 0, locals := 60 }) (va_Pc [.ref r0, .int 1, .int 4, .int 0] (fun U => U.heap.size = sz ∧ va_P (dC, dI) vwCl [(r0, .inl (cyI, 5, .inl f0))] U.heap ∧ va_K (dC, dI) vwCl [(cyI, .int), (cyB, .byte), (cyJ, .long), (cyZ, .boolean), (cyH, .object RX2), (cyN, .array .long)] U ∧ va_D (fun _ => True) [(r0, .inl (cyI, 5, .inl f0))])) (va_Qv (fun _ : Unit => True) (fun (_ : Unit) (t : State) => ∃ y0 : Nat → Int32, (cpr 1 4 0 1 f0 y0) ∧ va_P (dC, dI) vwCl [(r0, .inl (cyI, 5, .inl y0))] t.heap ∧ va_D (va_A [(r0, .inl (cyI, 5, .inl f0))] sz) [(r0, .inl (cyI, 5, .inl y0))]) (va_A [(r0, .inl (cyI, 5, .inl f0))] sz)) 0 0 (va_A [(r0, .inl (cyI, 5, .inl f0))] sz) := by
  refine Met.ofW (cc := cX12_copyRow) (maxL := 5) (ret := none) (by decide) rfl ?_
  intro p e s m args below meth c s₁ B hml hv
  obtain ⟨rfl, hsz, hP, hK, hD0⟩ := hv
  have hx := B.exec
  have hb := B.bytes
  have hr := B.returns
  have hts : ∀ w ∈ uU, w.before ([.ref r0, .int 1, .int 4, .int 0] : List Value).toArray s = true := fun w h => atoms_spec (ws := wk yX12_copyRow cX12_copyRow 5 none) B.pre w (List.mem_cons_of_mem _ h)
  have hown : s.vm.findClass RX12 = some m.cls := findClass_of_methodNamed B.named
  have hlocks := B.notSynchronized
  subst hsz
  have hD := hD0.self (sz := s.heap.size)
  generalize hAe : va_A [(r0, .inl (cyI, 5, .inl f0))] s.heap.size = A at hD ⊢
  have hA : ∀ q : Nat, s.heap.size ≤ q → A q := fun q h => by rw [← hAe]; exact Or.inr h
  have hS : va_S A s.heap s.heap [] := va_S.rf
  have hP : va_P (dC, dI) vwCl [(r0, .inl (cyI, 5, .inl f0))] s.heap := hP
  have hl := lv_entry ([.ref r0, .int 1, .int 4, .int 0]) (n := 5) (Nat.le_of_ble_eq_true rfl)
  rw [lg_entry_eq]
  generalize (lg_sl ([.ref r0, .int 1, .int 4, .int 0]) ++ List.replicate (5 - (lg_sl ([.ref r0, .int 1, .int 4, .int 0])).length) Slot.unset).toArray = ls at hl ⊢
  have hl : lv_has ls 5 [(0, .ref r0), (1, .int 1), (2, .int 4), (3, .int 0)] := hl
  obtain ⟨H, hHe⟩ : ∃ H, H = s.heap := ⟨_, rfl⟩
  have hP : va_P (dC, dI) vwCl [(r0, .inl (cyI, 5, .inl f0))] H := by rw [hHe]; exact hP
  have hS : va_S A s.heap H [] := by rw [hHe]; exact hS
  refine cv_heap hHe ?_
  obtain ⟨Q9, hQ9⟩ : ∃ Q9 : State → Prop, Q9 = MQ below (va_Qv (fun _ : Unit => True) (fun (_ : Unit) (t : State) => ∃ y0 : Nat → Int32, (cpr 1 4 0 1 f0 y0) ∧ va_P (dC, dI) vwCl [(r0, .inl (cyI, 5, .inl y0))] t.heap ∧ va_D A [(r0, .inl (cyI, 5, .inl y0))]) A) ([.ref r0, .int 1, .int 4, .int 0] : List Value).toArray s 0 0 A := ⟨_, rfl⟩
  rw [← hQ9]
  refine lv_iconst (v := 0) hx hb dX12_copyRow_0 (by decide) ?_
  refine lv_istore (lv' := [(4, .int 0), (0, .ref r0), (1, .int 1), (2, .int 4), (3, .int 0)]) hx hb dX12_copyRow_1 hl (by decide) rfl (fun ls hl => ?_)
  have key_3 : ∀ (nkey_3 : Nat) (u_1 : Int32) (f_2 : Nat → Int32) (H : Heap) (locs : List Loc) (ls : Array Slot), (0 ≤ u_1.toInt ∧ u_1.toInt ≤ 1) → (cpr 1 4 0 u_1.toInt.toNat f0 f_2) → va_P (dC, dI) vwCl [(r0, .inl (cyI, 5, .inl f_2))] H → va_D A [(r0, .inl (cyI, 5, .inl f_2))] → va_S A s.heap H locs → lv_has ls 5 [(4, .int u_1), (0, .ref r0), (1, .int 1), (2, .int 4), (3, .int 0)] → (1 - u_1.toInt).toNat < nkey_3 → W p l e ({ frames := 1, cells := 0, slots := 0, locals := 60 }) s m ([.ref r0, .int 1, .int 4, .int 0] : List Value).toArray below meth c H locs 0 0 Q9 (F0 m 3 ls []) := by
    intro nkey_3
    induction nkey_3 with
    | zero => intro u_1 f_2 H locs ls hu_1 hcp9 hP hD hS hl hnkey_3; exact absurd hnkey_3 (Nat.not_lt_zero _)
    | succ nkey_3 ihkey_3 =>
      intro u_1 f_2 H locs ls hu_1 hcp9 hP hD hS hl hnkey_3
      refine lv_iload hx hb dX12_copyRow_3 (lv_at hl 0 rfl) ?_
      refine lv_iload_n hx hb dX12_copyRow_5 rfl (lv_at hl 2 rfl) ?_
      refine lv_icmp_ge (tgt := 31) hx hb dX12_copyRow_6 (by decide) (fun c_4 => ?_) (fun c_4 => ?_)
      · have c_4 : 1 ≤ u_1.toInt := cv_le c_4
        rw [hQ9]
        have hP9 := hP.sub (ws' := [(r0, .inl (cyI, 5, .inl f_2))]) [0] rfl
        have hD9 := hD.sub (ws' := [(r0, .inl (cyI, 5, .inl f_2))]) [0] (by decide) rfl
        exact W.vret hx hb hr (fun t ht hW => ⟨⟨(), rfl, trivial, ⟨f_2, (cpr_end hcp9 (by omega)), by rw [ht]; exact hP9, hD9⟩⟩, hS.F ht⟩) hS.2.2 dX12_copyRow_31
      · have c_4 : u_1.toInt < 1 := cv_nle c_4
        refine lv_aload_n hx hb dX12_copyRow_9 rfl (lv_at hl 1 rfl) ?_
        refine lv_iload_n hx hb dX12_copyRow_10 rfl (lv_at hl 2 rfl) ?_
        refine lv_iload_n hx hb dX12_copyRow_11 rfl (lv_at hl 4 rfl) ?_
        refine lv_imul hx hb dX12_copyRow_12 ?_
        refine cv_topi (b := 0) (by decide) ?_
        refine lv_iload hx hb dX12_copyRow_13 (lv_at hl 0 rfl) ?_
        refine lv_iadd hx hb dX12_copyRow_15 ?_
        refine lv_topi (fun x_5 ex_5 => ?_)
        have fx_5 : x_5.toInt = 0 + u_1.toInt := by rw [ex_5]; exact cv_addI (by have : (0 : Int32).toInt = 0 := rfl; omega) (by have : (0 : Int32).toInt = 0 := rfl; omega)
        refine lv_aload_n hx hb dX12_copyRow_16 rfl (lv_at hl 1 rfl) ?_
        refine lv_iload_n hx hb dX12_copyRow_17 rfl (lv_at hl 2 rfl) ?_
        refine lv_iload_n hx hb dX12_copyRow_18 rfl (lv_at hl 3 rfl) ?_
        refine lv_imul hx hb dX12_copyRow_19 ?_
        refine cv_topi (b := 4) (by decide) ?_
        refine lv_iload hx hb dX12_copyRow_20 (lv_at hl 0 rfl) ?_
        refine lv_iadd hx hb dX12_copyRow_22 ?_
        refine lv_topi (fun x_6 ex_6 => ?_)
        have fx_6 : x_6.toInt = 4 + u_1.toInt := by rw [ex_6]; exact cv_addI (by have : (4 : Int32).toInt = 4 := rfl; omega) (by have : (4 : Int32).toInt = 4 := rfl; omega)
        refine va_iald hx hb hK hP 0 0 rfl rfl (vp_in_iff.mpr (by omega)) dX12_copyRow_23 ?_
        refine lv_topi (fun x_7 ex_7 => ?_)
        refine va_iast hx hb hK hP hD hS 0 0 rfl rfl (vp_in_iff.mpr (by omega)) dX12_copyRow_24 (fun H locs hP hD hS => ?_)
        obtain ⟨f_8, ef_8⟩ : ∃ z9 : Nat → Int32, z9 = upd f_2 x_5.toNatClampNeg x_7 := ⟨_, rfl⟩
        rw [← ef_8] at hP hD
        have hP : va_P (dC, dI) vwCl [(r0, .inl (cyI, 5, .inl f_8))] H := hP
        have hD : va_D A [(r0, .inl (cyI, 5, .inl f_8))] := hD
        obtain ⟨x_9, ex_9⟩ : ∃ y : Int32, y = u_1 + 1 := ⟨_, rfl⟩
        refine lv_iinc (v := x_9) (lv' := [(4, .int x_9), (0, .ref r0), (1, .int 1), (2, .int 4), (3, .int 0)]) hx hb dX12_copyRow_25 hl (k := 0) rfl (by rw [ex_9]; rfl) (by decide) rfl (fun ls hl => ?_)
        have fx_9 : x_9.toInt = u_1.toInt + 1 := by rw [ex_9]; exact cv_addI (by have : (1 : Int32).toInt = 1 := rfl; omega) (by have : (1 : Int32).toInt = 1 := rfl; omega)
        refine lv_goto (tgt := 3) hx hb dX12_copyRow_28 (by decide) ?_
        exact ihkey_3 x_9 f_8 _ _ _ (by omega) (cpr_step (n := 0) hcp9 (by assumption) (by assumption) (by omega) (by omega) (by omega) (by omega) (by decide) (by omega)) hP hD hS (lv_sub hl [0, 1, 2, 3, 4] rfl) (by omega)
  exact key_3 _ 0 f0 _ _ _ (by decide) cpr_zero hP hD hS (lv_sub hl [0, 1, 2, 3, 4] rfl) (Nat.lt_succ_self _)

/- X12_copyRow -/
set_option maxHeartbeats 4000000 in
set_option maxRecDepth 100000 in
theorem m_cp_lines_01 (l : Launch) (dC : Nat → ClassId) (dI : Nat → Nat → Nat) (cyI cyB cyJ cyZ cyH cyN : ClassId) (sz : Nat) (r0 : Nat) (f0 : Nat → Int32) : Met l yX12_copyRow (wk yX12_copyRow cX12_copyRow 5 none) ({ frames := 1, cells := 0, slots := 0, locals := 60 }) (va_Pc [.ref r0, .int 1, .int 0, .int 1] (fun U => U.heap.size = sz ∧ va_P (dC, dI) vwCl [(r0, .inl (cyI, 5, .inl f0))] U.heap ∧ va_K (dC, dI) vwCl [(cyI, .int), (cyB, .byte), (cyJ, .long), (cyZ, .boolean), (cyH, .object RX2), (cyN, .array .long)] U ∧ va_D (fun _ => True) [(r0, .inl (cyI, 5, .inl f0))])) (va_Qv (fun _ : Unit => True) (fun (_ : Unit) (t : State) => ∃ y0 : Nat → Int32, (cpr 1 0 1 1 f0 y0) ∧ va_P (dC, dI) vwCl [(r0, .inl (cyI, 5, .inl y0))] t.heap ∧ va_D (va_A [(r0, .inl (cyI, 5, .inl f0))] sz) [(r0, .inl (cyI, 5, .inl y0))]) (va_A [(r0, .inl (cyI, 5, .inl f0))] sz)) 0 0 (va_A [(r0, .inl (cyI, 5, .inl f0))] sz) := by
  refine Met.ofW (cc := cX12_copyRow) (maxL := 5) (ret := none) (by decide) rfl ?_
  intro p e s m args below meth c s₁ B hml hv
  obtain ⟨rfl, hsz, hP, hK, hD0⟩ := hv
  have hx := B.exec
  have hb := B.bytes
  have hr := B.returns
  have hts : ∀ w ∈ uU, w.before ([.ref r0, .int 1, .int 0, .int 1] : List Value).toArray s = true := fun w h => atoms_spec (ws := wk yX12_copyRow cX12_copyRow 5 none) B.pre w (List.mem_cons_of_mem _ h)
  have hown : s.vm.findClass RX12 = some m.cls := findClass_of_methodNamed B.named
  have hlocks := B.notSynchronized
  subst hsz
  have hD := hD0.self (sz := s.heap.size)
  generalize hAe : va_A [(r0, .inl (cyI, 5, .inl f0))] s.heap.size = A at hD ⊢
  have hA : ∀ q : Nat, s.heap.size ≤ q → A q := fun q h => by rw [← hAe]; exact Or.inr h
  have hS : va_S A s.heap s.heap [] := va_S.rf
  have hP : va_P (dC, dI) vwCl [(r0, .inl (cyI, 5, .inl f0))] s.heap := hP
  have hl := lv_entry ([.ref r0, .int 1, .int 0, .int 1]) (n := 5) (Nat.le_of_ble_eq_true rfl)
  rw [lg_entry_eq]
  generalize (lg_sl ([.ref r0, .int 1, .int 0, .int 1]) ++ List.replicate (5 - (lg_sl ([.ref r0, .int 1, .int 0, .int 1])).length) Slot.unset).toArray = ls at hl ⊢
  have hl : lv_has ls 5 [(0, .ref r0), (1, .int 1), (2, .int 0), (3, .int 1)] := hl
  obtain ⟨H, hHe⟩ : ∃ H, H = s.heap := ⟨_, rfl⟩
  have hP : va_P (dC, dI) vwCl [(r0, .inl (cyI, 5, .inl f0))] H := by rw [hHe]; exact hP
  have hS : va_S A s.heap H [] := by rw [hHe]; exact hS
  refine cv_heap hHe ?_
  obtain ⟨Q9, hQ9⟩ : ∃ Q9 : State → Prop, Q9 = MQ below (va_Qv (fun _ : Unit => True) (fun (_ : Unit) (t : State) => ∃ y0 : Nat → Int32, (cpr 1 0 1 1 f0 y0) ∧ va_P (dC, dI) vwCl [(r0, .inl (cyI, 5, .inl y0))] t.heap ∧ va_D A [(r0, .inl (cyI, 5, .inl y0))]) A) ([.ref r0, .int 1, .int 0, .int 1] : List Value).toArray s 0 0 A := ⟨_, rfl⟩
  rw [← hQ9]
  refine lv_iconst (v := 0) hx hb dX12_copyRow_0 (by decide) ?_
  refine lv_istore (lv' := [(4, .int 0), (0, .ref r0), (1, .int 1), (2, .int 0), (3, .int 1)]) hx hb dX12_copyRow_1 hl (by decide) rfl (fun ls hl => ?_)
  have key_3 : ∀ (nkey_3 : Nat) (u_1 : Int32) (f_2 : Nat → Int32) (H : Heap) (locs : List Loc) (ls : Array Slot), (0 ≤ u_1.toInt ∧ u_1.toInt ≤ 1) → (cpr 1 0 1 u_1.toInt.toNat f0 f_2) → va_P (dC, dI) vwCl [(r0, .inl (cyI, 5, .inl f_2))] H → va_D A [(r0, .inl (cyI, 5, .inl f_2))] → va_S A s.heap H locs → lv_has ls 5 [(4, .int u_1), (0, .ref r0), (1, .int 1), (2, .int 0), (3, .int 1)] → (1 - u_1.toInt).toNat < nkey_3 → W p l e ({ frames := 1, cells := 0, slots := 0, locals := 60 }) s m ([.ref r0, .int 1, .int 0, .int 1] : List Value).toArray below meth c H locs 0 0 Q9 (F0 m 3 ls []) := by
    intro nkey_3
    induction nkey_3 with
    | zero => intro u_1 f_2 H locs ls hu_1 hcp9 hP hD hS hl hnkey_3; exact absurd hnkey_3 (Nat.not_lt_zero _)
    | succ nkey_3 ihkey_3 =>
      intro u_1 f_2 H locs ls hu_1 hcp9 hP hD hS hl hnkey_3
      refine lv_iload hx hb dX12_copyRow_3 (lv_at hl 0 rfl) ?_
      refine lv_iload_n hx hb dX12_copyRow_5 rfl (lv_at hl 2 rfl) ?_
      refine lv_icmp_ge (tgt := 31) hx hb dX12_copyRow_6 (by decide) (fun c_4 => ?_) (fun c_4 => ?_)
      · have c_4 : 1 ≤ u_1.toInt := cv_le c_4
        rw [hQ9]
        have hP9 := hP.sub (ws' := [(r0, .inl (cyI, 5, .inl f_2))]) [0] rfl
        have hD9 := hD.sub (ws' := [(r0, .inl (cyI, 5, .inl f_2))]) [0] (by decide) rfl
        exact W.vret hx hb hr (fun t ht hW => ⟨⟨(), rfl, trivial, ⟨f_2, (cpr_end hcp9 (by omega)), by rw [ht]; exact hP9, hD9⟩⟩, hS.F ht⟩) hS.2.2 dX12_copyRow_31
      · have c_4 : u_1.toInt < 1 := cv_nle c_4
        refine lv_aload_n hx hb dX12_copyRow_9 rfl (lv_at hl 1 rfl) ?_
        refine lv_iload_n hx hb dX12_copyRow_10 rfl (lv_at hl 2 rfl) ?_
        refine lv_iload_n hx hb dX12_copyRow_11 rfl (lv_at hl 4 rfl) ?_
        refine lv_imul hx hb dX12_copyRow_12 ?_
        refine cv_topi (b := 1) (by decide) ?_
        refine lv_iload hx hb dX12_copyRow_13 (lv_at hl 0 rfl) ?_
        refine lv_iadd hx hb dX12_copyRow_15 ?_
        refine lv_topi (fun x_5 ex_5 => ?_)
        have fx_5 : x_5.toInt = 1 + u_1.toInt := by rw [ex_5]; exact cv_addI (by have : (1 : Int32).toInt = 1 := rfl; omega) (by have : (1 : Int32).toInt = 1 := rfl; omega)
        refine lv_aload_n hx hb dX12_copyRow_16 rfl (lv_at hl 1 rfl) ?_
        refine lv_iload_n hx hb dX12_copyRow_17 rfl (lv_at hl 2 rfl) ?_
        refine lv_iload_n hx hb dX12_copyRow_18 rfl (lv_at hl 3 rfl) ?_
        refine lv_imul hx hb dX12_copyRow_19 ?_
        refine cv_topi (b := 0) (by decide) ?_
        refine lv_iload hx hb dX12_copyRow_20 (lv_at hl 0 rfl) ?_
        refine lv_iadd hx hb dX12_copyRow_22 ?_
        refine lv_topi (fun x_6 ex_6 => ?_)
        have fx_6 : x_6.toInt = 0 + u_1.toInt := by rw [ex_6]; exact cv_addI (by have : (0 : Int32).toInt = 0 := rfl; omega) (by have : (0 : Int32).toInt = 0 := rfl; omega)
        refine va_iald hx hb hK hP 0 0 rfl rfl (vp_in_iff.mpr (by omega)) dX12_copyRow_23 ?_
        refine lv_topi (fun x_7 ex_7 => ?_)
        refine va_iast hx hb hK hP hD hS 0 0 rfl rfl (vp_in_iff.mpr (by omega)) dX12_copyRow_24 (fun H locs hP hD hS => ?_)
        obtain ⟨f_8, ef_8⟩ : ∃ z9 : Nat → Int32, z9 = upd f_2 x_5.toNatClampNeg x_7 := ⟨_, rfl⟩
        rw [← ef_8] at hP hD
        have hP : va_P (dC, dI) vwCl [(r0, .inl (cyI, 5, .inl f_8))] H := hP
        have hD : va_D A [(r0, .inl (cyI, 5, .inl f_8))] := hD
        obtain ⟨x_9, ex_9⟩ : ∃ y : Int32, y = u_1 + 1 := ⟨_, rfl⟩
        refine lv_iinc (v := x_9) (lv' := [(4, .int x_9), (0, .ref r0), (1, .int 1), (2, .int 0), (3, .int 1)]) hx hb dX12_copyRow_25 hl (k := 0) rfl (by rw [ex_9]; rfl) (by decide) rfl (fun ls hl => ?_)
        have fx_9 : x_9.toInt = u_1.toInt + 1 := by rw [ex_9]; exact cv_addI (by have : (1 : Int32).toInt = 1 := rfl; omega) (by have : (1 : Int32).toInt = 1 := rfl; omega)
        refine lv_goto (tgt := 3) hx hb dX12_copyRow_28 (by decide) ?_
        exact ihkey_3 x_9 f_8 _ _ _ (by omega) (cpr_step (n := 0) hcp9 (by assumption) (by assumption) (by omega) (by omega) (by omega) (by omega) (by decide) (by omega)) hP hD hS (lv_sub hl [0, 1, 2, 3, 4] rfl) (by omega)
  exact key_3 _ 0 f0 _ _ _ (by decide) cpr_zero hP hD hS (lv_sub hl [0, 1, 2, 3, 4] rfl) (Nat.lt_succ_self _)

/- X12_copyRow -/
set_option maxHeartbeats 4000000 in
set_option maxRecDepth 100000 in
theorem m_cp_lines_02 (l : Launch) (dC : Nat → ClassId) (dI : Nat → Nat → Nat) (cyI cyB cyJ cyZ cyH cyN : ClassId) (sz : Nat) (r0 : Nat) (f0 : Nat → Int32) : Met l yX12_copyRow (wk yX12_copyRow cX12_copyRow 5 none) ({ frames := 1, cells := 0, slots := 0, locals := 60 }) (va_Pc [.ref r0, .int 1, .int 0, .int 2] (fun U => U.heap.size = sz ∧ va_P (dC, dI) vwCl [(r0, .inl (cyI, 5, .inl f0))] U.heap ∧ va_K (dC, dI) vwCl [(cyI, .int), (cyB, .byte), (cyJ, .long), (cyZ, .boolean), (cyH, .object RX2), (cyN, .array .long)] U ∧ va_D (fun _ => True) [(r0, .inl (cyI, 5, .inl f0))])) (va_Qv (fun _ : Unit => True) (fun (_ : Unit) (t : State) => ∃ y0 : Nat → Int32, (cpr 1 0 2 1 f0 y0) ∧ va_P (dC, dI) vwCl [(r0, .inl (cyI, 5, .inl y0))] t.heap ∧ va_D (va_A [(r0, .inl (cyI, 5, .inl f0))] sz) [(r0, .inl (cyI, 5, .inl y0))]) (va_A [(r0, .inl (cyI, 5, .inl f0))] sz)) 0 0 (va_A [(r0, .inl (cyI, 5, .inl f0))] sz) := by
  refine Met.ofW (cc := cX12_copyRow) (maxL := 5) (ret := none) (by decide) rfl ?_
  intro p e s m args below meth c s₁ B hml hv
  obtain ⟨rfl, hsz, hP, hK, hD0⟩ := hv
  have hx := B.exec
  have hb := B.bytes
  have hr := B.returns
  have hts : ∀ w ∈ uU, w.before ([.ref r0, .int 1, .int 0, .int 2] : List Value).toArray s = true := fun w h => atoms_spec (ws := wk yX12_copyRow cX12_copyRow 5 none) B.pre w (List.mem_cons_of_mem _ h)
  have hown : s.vm.findClass RX12 = some m.cls := findClass_of_methodNamed B.named
  have hlocks := B.notSynchronized
  subst hsz
  have hD := hD0.self (sz := s.heap.size)
  generalize hAe : va_A [(r0, .inl (cyI, 5, .inl f0))] s.heap.size = A at hD ⊢
  have hA : ∀ q : Nat, s.heap.size ≤ q → A q := fun q h => by rw [← hAe]; exact Or.inr h
  have hS : va_S A s.heap s.heap [] := va_S.rf
  have hP : va_P (dC, dI) vwCl [(r0, .inl (cyI, 5, .inl f0))] s.heap := hP
  have hl := lv_entry ([.ref r0, .int 1, .int 0, .int 2]) (n := 5) (Nat.le_of_ble_eq_true rfl)
  rw [lg_entry_eq]
  generalize (lg_sl ([.ref r0, .int 1, .int 0, .int 2]) ++ List.replicate (5 - (lg_sl ([.ref r0, .int 1, .int 0, .int 2])).length) Slot.unset).toArray = ls at hl ⊢
  have hl : lv_has ls 5 [(0, .ref r0), (1, .int 1), (2, .int 0), (3, .int 2)] := hl
  obtain ⟨H, hHe⟩ : ∃ H, H = s.heap := ⟨_, rfl⟩
  have hP : va_P (dC, dI) vwCl [(r0, .inl (cyI, 5, .inl f0))] H := by rw [hHe]; exact hP
  have hS : va_S A s.heap H [] := by rw [hHe]; exact hS
  refine cv_heap hHe ?_
  obtain ⟨Q9, hQ9⟩ : ∃ Q9 : State → Prop, Q9 = MQ below (va_Qv (fun _ : Unit => True) (fun (_ : Unit) (t : State) => ∃ y0 : Nat → Int32, (cpr 1 0 2 1 f0 y0) ∧ va_P (dC, dI) vwCl [(r0, .inl (cyI, 5, .inl y0))] t.heap ∧ va_D A [(r0, .inl (cyI, 5, .inl y0))]) A) ([.ref r0, .int 1, .int 0, .int 2] : List Value).toArray s 0 0 A := ⟨_, rfl⟩
  rw [← hQ9]
  refine lv_iconst (v := 0) hx hb dX12_copyRow_0 (by decide) ?_
  refine lv_istore (lv' := [(4, .int 0), (0, .ref r0), (1, .int 1), (2, .int 0), (3, .int 2)]) hx hb dX12_copyRow_1 hl (by decide) rfl (fun ls hl => ?_)
  have key_3 : ∀ (nkey_3 : Nat) (u_1 : Int32) (f_2 : Nat → Int32) (H : Heap) (locs : List Loc) (ls : Array Slot), (0 ≤ u_1.toInt ∧ u_1.toInt ≤ 1) → (cpr 1 0 2 u_1.toInt.toNat f0 f_2) → va_P (dC, dI) vwCl [(r0, .inl (cyI, 5, .inl f_2))] H → va_D A [(r0, .inl (cyI, 5, .inl f_2))] → va_S A s.heap H locs → lv_has ls 5 [(4, .int u_1), (0, .ref r0), (1, .int 1), (2, .int 0), (3, .int 2)] → (1 - u_1.toInt).toNat < nkey_3 → W p l e ({ frames := 1, cells := 0, slots := 0, locals := 60 }) s m ([.ref r0, .int 1, .int 0, .int 2] : List Value).toArray below meth c H locs 0 0 Q9 (F0 m 3 ls []) := by
    intro nkey_3
    induction nkey_3 with
    | zero => intro u_1 f_2 H locs ls hu_1 hcp9 hP hD hS hl hnkey_3; exact absurd hnkey_3 (Nat.not_lt_zero _)
    | succ nkey_3 ihkey_3 =>
      intro u_1 f_2 H locs ls hu_1 hcp9 hP hD hS hl hnkey_3
      refine lv_iload hx hb dX12_copyRow_3 (lv_at hl 0 rfl) ?_
      refine lv_iload_n hx hb dX12_copyRow_5 rfl (lv_at hl 2 rfl) ?_
      refine lv_icmp_ge (tgt := 31) hx hb dX12_copyRow_6 (by decide) (fun c_4 => ?_) (fun c_4 => ?_)
      · have c_4 : 1 ≤ u_1.toInt := cv_le c_4
        rw [hQ9]
        have hP9 := hP.sub (ws' := [(r0, .inl (cyI, 5, .inl f_2))]) [0] rfl
        have hD9 := hD.sub (ws' := [(r0, .inl (cyI, 5, .inl f_2))]) [0] (by decide) rfl
        exact W.vret hx hb hr (fun t ht hW => ⟨⟨(), rfl, trivial, ⟨f_2, (cpr_end hcp9 (by omega)), by rw [ht]; exact hP9, hD9⟩⟩, hS.F ht⟩) hS.2.2 dX12_copyRow_31
      · have c_4 : u_1.toInt < 1 := cv_nle c_4
        refine lv_aload_n hx hb dX12_copyRow_9 rfl (lv_at hl 1 rfl) ?_
        refine lv_iload_n hx hb dX12_copyRow_10 rfl (lv_at hl 2 rfl) ?_
        refine lv_iload_n hx hb dX12_copyRow_11 rfl (lv_at hl 4 rfl) ?_
        refine lv_imul hx hb dX12_copyRow_12 ?_
        refine cv_topi (b := 2) (by decide) ?_
        refine lv_iload hx hb dX12_copyRow_13 (lv_at hl 0 rfl) ?_
        refine lv_iadd hx hb dX12_copyRow_15 ?_
        refine lv_topi (fun x_5 ex_5 => ?_)
        have fx_5 : x_5.toInt = 2 + u_1.toInt := by rw [ex_5]; exact cv_addI (by have : (2 : Int32).toInt = 2 := rfl; omega) (by have : (2 : Int32).toInt = 2 := rfl; omega)
        refine lv_aload_n hx hb dX12_copyRow_16 rfl (lv_at hl 1 rfl) ?_
        refine lv_iload_n hx hb dX12_copyRow_17 rfl (lv_at hl 2 rfl) ?_
        refine lv_iload_n hx hb dX12_copyRow_18 rfl (lv_at hl 3 rfl) ?_
        refine lv_imul hx hb dX12_copyRow_19 ?_
        refine cv_topi (b := 0) (by decide) ?_
        refine lv_iload hx hb dX12_copyRow_20 (lv_at hl 0 rfl) ?_
        refine lv_iadd hx hb dX12_copyRow_22 ?_
        refine lv_topi (fun x_6 ex_6 => ?_)
        have fx_6 : x_6.toInt = 0 + u_1.toInt := by rw [ex_6]; exact cv_addI (by have : (0 : Int32).toInt = 0 := rfl; omega) (by have : (0 : Int32).toInt = 0 := rfl; omega)
        refine va_iald hx hb hK hP 0 0 rfl rfl (vp_in_iff.mpr (by omega)) dX12_copyRow_23 ?_
        refine lv_topi (fun x_7 ex_7 => ?_)
        refine va_iast hx hb hK hP hD hS 0 0 rfl rfl (vp_in_iff.mpr (by omega)) dX12_copyRow_24 (fun H locs hP hD hS => ?_)
        obtain ⟨f_8, ef_8⟩ : ∃ z9 : Nat → Int32, z9 = upd f_2 x_5.toNatClampNeg x_7 := ⟨_, rfl⟩
        rw [← ef_8] at hP hD
        have hP : va_P (dC, dI) vwCl [(r0, .inl (cyI, 5, .inl f_8))] H := hP
        have hD : va_D A [(r0, .inl (cyI, 5, .inl f_8))] := hD
        obtain ⟨x_9, ex_9⟩ : ∃ y : Int32, y = u_1 + 1 := ⟨_, rfl⟩
        refine lv_iinc (v := x_9) (lv' := [(4, .int x_9), (0, .ref r0), (1, .int 1), (2, .int 0), (3, .int 2)]) hx hb dX12_copyRow_25 hl (k := 0) rfl (by rw [ex_9]; rfl) (by decide) rfl (fun ls hl => ?_)
        have fx_9 : x_9.toInt = u_1.toInt + 1 := by rw [ex_9]; exact cv_addI (by have : (1 : Int32).toInt = 1 := rfl; omega) (by have : (1 : Int32).toInt = 1 := rfl; omega)
        refine lv_goto (tgt := 3) hx hb dX12_copyRow_28 (by decide) ?_
        exact ihkey_3 x_9 f_8 _ _ _ (by omega) (cpr_step (n := 0) hcp9 (by assumption) (by assumption) (by omega) (by omega) (by omega) (by omega) (by decide) (by omega)) hP hD hS (lv_sub hl [0, 1, 2, 3, 4] rfl) (by omega)
  exact key_3 _ 0 f0 _ _ _ (by decide) cpr_zero hP hD hS (lv_sub hl [0, 1, 2, 3, 4] rfl) (Nat.lt_succ_self _)

/- X12_copyRow -/
set_option maxHeartbeats 4000000 in
set_option maxRecDepth 100000 in
theorem m_cp_lines_03 (l : Launch) (dC : Nat → ClassId) (dI : Nat → Nat → Nat) (cyI cyB cyJ cyZ cyH cyN : ClassId) (sz : Nat) (r0 : Nat) (f0 : Nat → Int32) : Met l yX12_copyRow (wk yX12_copyRow cX12_copyRow 5 none) ({ frames := 1, cells := 0, slots := 0, locals := 60 }) (va_Pc [.ref r0, .int 1, .int 0, .int 3] (fun U => U.heap.size = sz ∧ va_P (dC, dI) vwCl [(r0, .inl (cyI, 5, .inl f0))] U.heap ∧ va_K (dC, dI) vwCl [(cyI, .int), (cyB, .byte), (cyJ, .long), (cyZ, .boolean), (cyH, .object RX2), (cyN, .array .long)] U ∧ va_D (fun _ => True) [(r0, .inl (cyI, 5, .inl f0))])) (va_Qv (fun _ : Unit => True) (fun (_ : Unit) (t : State) => ∃ y0 : Nat → Int32, (cpr 1 0 3 1 f0 y0) ∧ va_P (dC, dI) vwCl [(r0, .inl (cyI, 5, .inl y0))] t.heap ∧ va_D (va_A [(r0, .inl (cyI, 5, .inl f0))] sz) [(r0, .inl (cyI, 5, .inl y0))]) (va_A [(r0, .inl (cyI, 5, .inl f0))] sz)) 0 0 (va_A [(r0, .inl (cyI, 5, .inl f0))] sz) := by
  refine Met.ofW (cc := cX12_copyRow) (maxL := 5) (ret := none) (by decide) rfl ?_
  intro p e s m args below meth c s₁ B hml hv
  obtain ⟨rfl, hsz, hP, hK, hD0⟩ := hv
  have hx := B.exec
  have hb := B.bytes
  have hr := B.returns
  have hts : ∀ w ∈ uU, w.before ([.ref r0, .int 1, .int 0, .int 3] : List Value).toArray s = true := fun w h => atoms_spec (ws := wk yX12_copyRow cX12_copyRow 5 none) B.pre w (List.mem_cons_of_mem _ h)
  have hown : s.vm.findClass RX12 = some m.cls := findClass_of_methodNamed B.named
  have hlocks := B.notSynchronized
  subst hsz
  have hD := hD0.self (sz := s.heap.size)
  generalize hAe : va_A [(r0, .inl (cyI, 5, .inl f0))] s.heap.size = A at hD ⊢
  have hA : ∀ q : Nat, s.heap.size ≤ q → A q := fun q h => by rw [← hAe]; exact Or.inr h
  have hS : va_S A s.heap s.heap [] := va_S.rf
  have hP : va_P (dC, dI) vwCl [(r0, .inl (cyI, 5, .inl f0))] s.heap := hP
  have hl := lv_entry ([.ref r0, .int 1, .int 0, .int 3]) (n := 5) (Nat.le_of_ble_eq_true rfl)
  rw [lg_entry_eq]
  generalize (lg_sl ([.ref r0, .int 1, .int 0, .int 3]) ++ List.replicate (5 - (lg_sl ([.ref r0, .int 1, .int 0, .int 3])).length) Slot.unset).toArray = ls at hl ⊢
  have hl : lv_has ls 5 [(0, .ref r0), (1, .int 1), (2, .int 0), (3, .int 3)] := hl
  obtain ⟨H, hHe⟩ : ∃ H, H = s.heap := ⟨_, rfl⟩
  have hP : va_P (dC, dI) vwCl [(r0, .inl (cyI, 5, .inl f0))] H := by rw [hHe]; exact hP
  have hS : va_S A s.heap H [] := by rw [hHe]; exact hS
  refine cv_heap hHe ?_
  obtain ⟨Q9, hQ9⟩ : ∃ Q9 : State → Prop, Q9 = MQ below (va_Qv (fun _ : Unit => True) (fun (_ : Unit) (t : State) => ∃ y0 : Nat → Int32, (cpr 1 0 3 1 f0 y0) ∧ va_P (dC, dI) vwCl [(r0, .inl (cyI, 5, .inl y0))] t.heap ∧ va_D A [(r0, .inl (cyI, 5, .inl y0))]) A) ([.ref r0, .int 1, .int 0, .int 3] : List Value).toArray s 0 0 A := ⟨_, rfl⟩
  rw [← hQ9]
  refine lv_iconst (v := 0) hx hb dX12_copyRow_0 (by decide) ?_
  refine lv_istore (lv' := [(4, .int 0), (0, .ref r0), (1, .int 1), (2, .int 0), (3, .int 3)]) hx hb dX12_copyRow_1 hl (by decide) rfl (fun ls hl => ?_)
  have key_3 : ∀ (nkey_3 : Nat) (u_1 : Int32) (f_2 : Nat → Int32) (H : Heap) (locs : List Loc) (ls : Array Slot), (0 ≤ u_1.toInt ∧ u_1.toInt ≤ 1) → (cpr 1 0 3 u_1.toInt.toNat f0 f_2) → va_P (dC, dI) vwCl [(r0, .inl (cyI, 5, .inl f_2))] H → va_D A [(r0, .inl (cyI, 5, .inl f_2))] → va_S A s.heap H locs → lv_has ls 5 [(4, .int u_1), (0, .ref r0), (1, .int 1), (2, .int 0), (3, .int 3)] → (1 - u_1.toInt).toNat < nkey_3 → W p l e ({ frames := 1, cells := 0, slots := 0, locals := 60 }) s m ([.ref r0, .int 1, .int 0, .int 3] : List Value).toArray below meth c H locs 0 0 Q9 (F0 m 3 ls []) := by
    intro nkey_3
    induction nkey_3 with
    | zero => intro u_1 f_2 H locs ls hu_1 hcp9 hP hD hS hl hnkey_3; exact absurd hnkey_3 (Nat.not_lt_zero _)
    | succ nkey_3 ihkey_3 =>
      intro u_1 f_2 H locs ls hu_1 hcp9 hP hD hS hl hnkey_3
      refine lv_iload hx hb dX12_copyRow_3 (lv_at hl 0 rfl) ?_
      refine lv_iload_n hx hb dX12_copyRow_5 rfl (lv_at hl 2 rfl) ?_
      refine lv_icmp_ge (tgt := 31) hx hb dX12_copyRow_6 (by decide) (fun c_4 => ?_) (fun c_4 => ?_)
      · have c_4 : 1 ≤ u_1.toInt := cv_le c_4
        rw [hQ9]
        have hP9 := hP.sub (ws' := [(r0, .inl (cyI, 5, .inl f_2))]) [0] rfl
        have hD9 := hD.sub (ws' := [(r0, .inl (cyI, 5, .inl f_2))]) [0] (by decide) rfl
        exact W.vret hx hb hr (fun t ht hW => ⟨⟨(), rfl, trivial, ⟨f_2, (cpr_end hcp9 (by omega)), by rw [ht]; exact hP9, hD9⟩⟩, hS.F ht⟩) hS.2.2 dX12_copyRow_31
      · have c_4 : u_1.toInt < 1 := cv_nle c_4
        refine lv_aload_n hx hb dX12_copyRow_9 rfl (lv_at hl 1 rfl) ?_
        refine lv_iload_n hx hb dX12_copyRow_10 rfl (lv_at hl 2 rfl) ?_
        refine lv_iload_n hx hb dX12_copyRow_11 rfl (lv_at hl 4 rfl) ?_
        refine lv_imul hx hb dX12_copyRow_12 ?_
        refine cv_topi (b := 3) (by decide) ?_
        refine lv_iload hx hb dX12_copyRow_13 (lv_at hl 0 rfl) ?_
        refine lv_iadd hx hb dX12_copyRow_15 ?_
        refine lv_topi (fun x_5 ex_5 => ?_)
        have fx_5 : x_5.toInt = 3 + u_1.toInt := by rw [ex_5]; exact cv_addI (by have : (3 : Int32).toInt = 3 := rfl; omega) (by have : (3 : Int32).toInt = 3 := rfl; omega)
        refine lv_aload_n hx hb dX12_copyRow_16 rfl (lv_at hl 1 rfl) ?_
        refine lv_iload_n hx hb dX12_copyRow_17 rfl (lv_at hl 2 rfl) ?_
        refine lv_iload_n hx hb dX12_copyRow_18 rfl (lv_at hl 3 rfl) ?_
        refine lv_imul hx hb dX12_copyRow_19 ?_
        refine cv_topi (b := 0) (by decide) ?_
        refine lv_iload hx hb dX12_copyRow_20 (lv_at hl 0 rfl) ?_
        refine lv_iadd hx hb dX12_copyRow_22 ?_
        refine lv_topi (fun x_6 ex_6 => ?_)
        have fx_6 : x_6.toInt = 0 + u_1.toInt := by rw [ex_6]; exact cv_addI (by have : (0 : Int32).toInt = 0 := rfl; omega) (by have : (0 : Int32).toInt = 0 := rfl; omega)
        refine va_iald hx hb hK hP 0 0 rfl rfl (vp_in_iff.mpr (by omega)) dX12_copyRow_23 ?_
        refine lv_topi (fun x_7 ex_7 => ?_)
        refine va_iast hx hb hK hP hD hS 0 0 rfl rfl (vp_in_iff.mpr (by omega)) dX12_copyRow_24 (fun H locs hP hD hS => ?_)
        obtain ⟨f_8, ef_8⟩ : ∃ z9 : Nat → Int32, z9 = upd f_2 x_5.toNatClampNeg x_7 := ⟨_, rfl⟩
        rw [← ef_8] at hP hD
        have hP : va_P (dC, dI) vwCl [(r0, .inl (cyI, 5, .inl f_8))] H := hP
        have hD : va_D A [(r0, .inl (cyI, 5, .inl f_8))] := hD
        obtain ⟨x_9, ex_9⟩ : ∃ y : Int32, y = u_1 + 1 := ⟨_, rfl⟩
        refine lv_iinc (v := x_9) (lv' := [(4, .int x_9), (0, .ref r0), (1, .int 1), (2, .int 0), (3, .int 3)]) hx hb dX12_copyRow_25 hl (k := 0) rfl (by rw [ex_9]; rfl) (by decide) rfl (fun ls hl => ?_)
        have fx_9 : x_9.toInt = u_1.toInt + 1 := by rw [ex_9]; exact cv_addI (by have : (1 : Int32).toInt = 1 := rfl; omega) (by have : (1 : Int32).toInt = 1 := rfl; omega)
        refine lv_goto (tgt := 3) hx hb dX12_copyRow_28 (by decide) ?_
        exact ihkey_3 x_9 f_8 _ _ _ (by omega) (cpr_step (n := 0) hcp9 (by assumption) (by assumption) (by omega) (by omega) (by omega) (by omega) (by decide) (by omega)) hP hD hS (lv_sub hl [0, 1, 2, 3, 4] rfl) (by omega)
  exact key_3 _ 0 f0 _ _ _ (by decide) cpr_zero hP hD hS (lv_sub hl [0, 1, 2, 3, 4] rfl) (Nat.lt_succ_self _)

/- X12_copyRow -/
set_option maxHeartbeats 4000000 in
set_option maxRecDepth 100000 in
theorem m_cp_lines_10 (l : Launch) (dC : Nat → ClassId) (dI : Nat → Nat → Nat) (cyI cyB cyJ cyZ cyH cyN : ClassId) (sz : Nat) (r0 : Nat) (f0 : Nat → Int32) : Met l yX12_copyRow (wk yX12_copyRow cX12_copyRow 5 none) ({ frames := 1, cells := 0, slots := 0, locals := 60 }) (va_Pc [.ref r0, .int 1, .int 1, .int 0] (fun U => U.heap.size = sz ∧ va_P (dC, dI) vwCl [(r0, .inl (cyI, 5, .inl f0))] U.heap ∧ va_K (dC, dI) vwCl [(cyI, .int), (cyB, .byte), (cyJ, .long), (cyZ, .boolean), (cyH, .object RX2), (cyN, .array .long)] U ∧ va_D (fun _ => True) [(r0, .inl (cyI, 5, .inl f0))])) (va_Qv (fun _ : Unit => True) (fun (_ : Unit) (t : State) => ∃ y0 : Nat → Int32, (cpr 1 1 0 1 f0 y0) ∧ va_P (dC, dI) vwCl [(r0, .inl (cyI, 5, .inl y0))] t.heap ∧ va_D (va_A [(r0, .inl (cyI, 5, .inl f0))] sz) [(r0, .inl (cyI, 5, .inl y0))]) (va_A [(r0, .inl (cyI, 5, .inl f0))] sz)) 0 0 (va_A [(r0, .inl (cyI, 5, .inl f0))] sz) := by
  refine Met.ofW (cc := cX12_copyRow) (maxL := 5) (ret := none) (by decide) rfl ?_
  intro p e s m args below meth c s₁ B hml hv
  obtain ⟨rfl, hsz, hP, hK, hD0⟩ := hv
  have hx := B.exec
  have hb := B.bytes
  have hr := B.returns
  have hts : ∀ w ∈ uU, w.before ([.ref r0, .int 1, .int 1, .int 0] : List Value).toArray s = true := fun w h => atoms_spec (ws := wk yX12_copyRow cX12_copyRow 5 none) B.pre w (List.mem_cons_of_mem _ h)
  have hown : s.vm.findClass RX12 = some m.cls := findClass_of_methodNamed B.named
  have hlocks := B.notSynchronized
  subst hsz
  have hD := hD0.self (sz := s.heap.size)
  generalize hAe : va_A [(r0, .inl (cyI, 5, .inl f0))] s.heap.size = A at hD ⊢
  have hA : ∀ q : Nat, s.heap.size ≤ q → A q := fun q h => by rw [← hAe]; exact Or.inr h
  have hS : va_S A s.heap s.heap [] := va_S.rf
  have hP : va_P (dC, dI) vwCl [(r0, .inl (cyI, 5, .inl f0))] s.heap := hP
  have hl := lv_entry ([.ref r0, .int 1, .int 1, .int 0]) (n := 5) (Nat.le_of_ble_eq_true rfl)
  rw [lg_entry_eq]
  generalize (lg_sl ([.ref r0, .int 1, .int 1, .int 0]) ++ List.replicate (5 - (lg_sl ([.ref r0, .int 1, .int 1, .int 0])).length) Slot.unset).toArray = ls at hl ⊢
  have hl : lv_has ls 5 [(0, .ref r0), (1, .int 1), (2, .int 1), (3, .int 0)] := hl
  obtain ⟨H, hHe⟩ : ∃ H, H = s.heap := ⟨_, rfl⟩
  have hP : va_P (dC, dI) vwCl [(r0, .inl (cyI, 5, .inl f0))] H := by rw [hHe]; exact hP
  have hS : va_S A s.heap H [] := by rw [hHe]; exact hS
  refine cv_heap hHe ?_
  obtain ⟨Q9, hQ9⟩ : ∃ Q9 : State → Prop, Q9 = MQ below (va_Qv (fun _ : Unit => True) (fun (_ : Unit) (t : State) => ∃ y0 : Nat → Int32, (cpr 1 1 0 1 f0 y0) ∧ va_P (dC, dI) vwCl [(r0, .inl (cyI, 5, .inl y0))] t.heap ∧ va_D A [(r0, .inl (cyI, 5, .inl y0))]) A) ([.ref r0, .int 1, .int 1, .int 0] : List Value).toArray s 0 0 A := ⟨_, rfl⟩
  rw [← hQ9]
  refine lv_iconst (v := 0) hx hb dX12_copyRow_0 (by decide) ?_
  refine lv_istore (lv' := [(4, .int 0), (0, .ref r0), (1, .int 1), (2, .int 1), (3, .int 0)]) hx hb dX12_copyRow_1 hl (by decide) rfl (fun ls hl => ?_)
  have key_3 : ∀ (nkey_3 : Nat) (u_1 : Int32) (f_2 : Nat → Int32) (H : Heap) (locs : List Loc) (ls : Array Slot), (0 ≤ u_1.toInt ∧ u_1.toInt ≤ 1) → (cpr 1 1 0 u_1.toInt.toNat f0 f_2) → va_P (dC, dI) vwCl [(r0, .inl (cyI, 5, .inl f_2))] H → va_D A [(r0, .inl (cyI, 5, .inl f_2))] → va_S A s.heap H locs → lv_has ls 5 [(4, .int u_1), (0, .ref r0), (1, .int 1), (2, .int 1), (3, .int 0)] → (1 - u_1.toInt).toNat < nkey_3 → W p l e ({ frames := 1, cells := 0, slots := 0, locals := 60 }) s m ([.ref r0, .int 1, .int 1, .int 0] : List Value).toArray below meth c H locs 0 0 Q9 (F0 m 3 ls []) := by
    intro nkey_3
    induction nkey_3 with
    | zero => intro u_1 f_2 H locs ls hu_1 hcp9 hP hD hS hl hnkey_3; exact absurd hnkey_3 (Nat.not_lt_zero _)
    | succ nkey_3 ihkey_3 =>
      intro u_1 f_2 H locs ls hu_1 hcp9 hP hD hS hl hnkey_3
      refine lv_iload hx hb dX12_copyRow_3 (lv_at hl 0 rfl) ?_
      refine lv_iload_n hx hb dX12_copyRow_5 rfl (lv_at hl 2 rfl) ?_
      refine lv_icmp_ge (tgt := 31) hx hb dX12_copyRow_6 (by decide) (fun c_4 => ?_) (fun c_4 => ?_)
      · have c_4 : 1 ≤ u_1.toInt := cv_le c_4
        rw [hQ9]
        have hP9 := hP.sub (ws' := [(r0, .inl (cyI, 5, .inl f_2))]) [0] rfl
        have hD9 := hD.sub (ws' := [(r0, .inl (cyI, 5, .inl f_2))]) [0] (by decide) rfl
        exact W.vret hx hb hr (fun t ht hW => ⟨⟨(), rfl, trivial, ⟨f_2, (cpr_end hcp9 (by omega)), by rw [ht]; exact hP9, hD9⟩⟩, hS.F ht⟩) hS.2.2 dX12_copyRow_31
      · have c_4 : u_1.toInt < 1 := cv_nle c_4
        refine lv_aload_n hx hb dX12_copyRow_9 rfl (lv_at hl 1 rfl) ?_
        refine lv_iload_n hx hb dX12_copyRow_10 rfl (lv_at hl 2 rfl) ?_
        refine lv_iload_n hx hb dX12_copyRow_11 rfl (lv_at hl 4 rfl) ?_
        refine lv_imul hx hb dX12_copyRow_12 ?_
        refine cv_topi (b := 0) (by decide) ?_
        refine lv_iload hx hb dX12_copyRow_13 (lv_at hl 0 rfl) ?_
        refine lv_iadd hx hb dX12_copyRow_15 ?_
        refine lv_topi (fun x_5 ex_5 => ?_)
        have fx_5 : x_5.toInt = 0 + u_1.toInt := by rw [ex_5]; exact cv_addI (by have : (0 : Int32).toInt = 0 := rfl; omega) (by have : (0 : Int32).toInt = 0 := rfl; omega)
        refine lv_aload_n hx hb dX12_copyRow_16 rfl (lv_at hl 1 rfl) ?_
        refine lv_iload_n hx hb dX12_copyRow_17 rfl (lv_at hl 2 rfl) ?_
        refine lv_iload_n hx hb dX12_copyRow_18 rfl (lv_at hl 3 rfl) ?_
        refine lv_imul hx hb dX12_copyRow_19 ?_
        refine cv_topi (b := 1) (by decide) ?_
        refine lv_iload hx hb dX12_copyRow_20 (lv_at hl 0 rfl) ?_
        refine lv_iadd hx hb dX12_copyRow_22 ?_
        refine lv_topi (fun x_6 ex_6 => ?_)
        have fx_6 : x_6.toInt = 1 + u_1.toInt := by rw [ex_6]; exact cv_addI (by have : (1 : Int32).toInt = 1 := rfl; omega) (by have : (1 : Int32).toInt = 1 := rfl; omega)
        refine va_iald hx hb hK hP 0 0 rfl rfl (vp_in_iff.mpr (by omega)) dX12_copyRow_23 ?_
        refine lv_topi (fun x_7 ex_7 => ?_)
        refine va_iast hx hb hK hP hD hS 0 0 rfl rfl (vp_in_iff.mpr (by omega)) dX12_copyRow_24 (fun H locs hP hD hS => ?_)
        obtain ⟨f_8, ef_8⟩ : ∃ z9 : Nat → Int32, z9 = upd f_2 x_5.toNatClampNeg x_7 := ⟨_, rfl⟩
        rw [← ef_8] at hP hD
        have hP : va_P (dC, dI) vwCl [(r0, .inl (cyI, 5, .inl f_8))] H := hP
        have hD : va_D A [(r0, .inl (cyI, 5, .inl f_8))] := hD
        obtain ⟨x_9, ex_9⟩ : ∃ y : Int32, y = u_1 + 1 := ⟨_, rfl⟩
        refine lv_iinc (v := x_9) (lv' := [(4, .int x_9), (0, .ref r0), (1, .int 1), (2, .int 1), (3, .int 0)]) hx hb dX12_copyRow_25 hl (k := 0) rfl (by rw [ex_9]; rfl) (by decide) rfl (fun ls hl => ?_)
        have fx_9 : x_9.toInt = u_1.toInt + 1 := by rw [ex_9]; exact cv_addI (by have : (1 : Int32).toInt = 1 := rfl; omega) (by have : (1 : Int32).toInt = 1 := rfl; omega)
        refine lv_goto (tgt := 3) hx hb dX12_copyRow_28 (by decide) ?_
        exact ihkey_3 x_9 f_8 _ _ _ (by omega) (cpr_step (n := 0) hcp9 (by assumption) (by assumption) (by omega) (by omega) (by omega) (by omega) (by decide) (by omega)) hP hD hS (lv_sub hl [0, 1, 2, 3, 4] rfl) (by omega)
  exact key_3 _ 0 f0 _ _ _ (by decide) cpr_zero hP hD hS (lv_sub hl [0, 1, 2, 3, 4] rfl) (Nat.lt_succ_self _)

/- X12_copyRow -/
set_option maxHeartbeats 4000000 in
set_option maxRecDepth 100000 in
theorem m_cp_lines_20 (l : Launch) (dC : Nat → ClassId) (dI : Nat → Nat → Nat) (cyI cyB cyJ cyZ cyH cyN : ClassId) (sz : Nat) (r0 : Nat) (f0 : Nat → Int32) : Met l yX12_copyRow (wk yX12_copyRow cX12_copyRow 5 none) ({ frames := 1, cells := 0, slots := 0, locals := 60 }) (va_Pc [.ref r0, .int 1, .int 2, .int 0] (fun U => U.heap.size = sz ∧ va_P (dC, dI) vwCl [(r0, .inl (cyI, 5, .inl f0))] U.heap ∧ va_K (dC, dI) vwCl [(cyI, .int), (cyB, .byte), (cyJ, .long), (cyZ, .boolean), (cyH, .object RX2), (cyN, .array .long)] U ∧ va_D (fun _ => True) [(r0, .inl (cyI, 5, .inl f0))])) (va_Qv (fun _ : Unit => True) (fun (_ : Unit) (t : State) => ∃ y0 : Nat → Int32, (cpr 1 2 0 1 f0 y0) ∧ va_P (dC, dI) vwCl [(r0, .inl (cyI, 5, .inl y0))] t.heap ∧ va_D (va_A [(r0, .inl (cyI, 5, .inl f0))] sz) [(r0, .inl (cyI, 5, .inl y0))]) (va_A [(r0, .inl (cyI, 5, .inl f0))] sz)) 0 0 (va_A [(r0, .inl (cyI, 5, .inl f0))] sz) := by
  refine Met.ofW (cc := cX12_copyRow) (maxL := 5) (ret := none) (by decide) rfl ?_
  intro p e s m args below meth c s₁ B hml hv
  obtain ⟨rfl, hsz, hP, hK, hD0⟩ := hv
  have hx := B.exec
  have hb := B.bytes
  have hr := B.returns
  have hts : ∀ w ∈ uU, w.before ([.ref r0, .int 1, .int 2, .int 0] : List Value).toArray s = true := fun w h => atoms_spec (ws := wk yX12_copyRow cX12_copyRow 5 none) B.pre w (List.mem_cons_of_mem _ h)
  have hown : s.vm.findClass RX12 = some m.cls := findClass_of_methodNamed B.named
  have hlocks := B.notSynchronized
  subst hsz
  have hD := hD0.self (sz := s.heap.size)
  generalize hAe : va_A [(r0, .inl (cyI, 5, .inl f0))] s.heap.size = A at hD ⊢
  have hA : ∀ q : Nat, s.heap.size ≤ q → A q := fun q h => by rw [← hAe]; exact Or.inr h
  have hS : va_S A s.heap s.heap [] := va_S.rf
  have hP : va_P (dC, dI) vwCl [(r0, .inl (cyI, 5, .inl f0))] s.heap := hP
  have hl := lv_entry ([.ref r0, .int 1, .int 2, .int 0]) (n := 5) (Nat.le_of_ble_eq_true rfl)
  rw [lg_entry_eq]
  generalize (lg_sl ([.ref r0, .int 1, .int 2, .int 0]) ++ List.replicate (5 - (lg_sl ([.ref r0, .int 1, .int 2, .int 0])).length) Slot.unset).toArray = ls at hl ⊢
  have hl : lv_has ls 5 [(0, .ref r0), (1, .int 1), (2, .int 2), (3, .int 0)] := hl
  obtain ⟨H, hHe⟩ : ∃ H, H = s.heap := ⟨_, rfl⟩
  have hP : va_P (dC, dI) vwCl [(r0, .inl (cyI, 5, .inl f0))] H := by rw [hHe]; exact hP
  have hS : va_S A s.heap H [] := by rw [hHe]; exact hS
  refine cv_heap hHe ?_
  obtain ⟨Q9, hQ9⟩ : ∃ Q9 : State → Prop, Q9 = MQ below (va_Qv (fun _ : Unit => True) (fun (_ : Unit) (t : State) => ∃ y0 : Nat → Int32, (cpr 1 2 0 1 f0 y0) ∧ va_P (dC, dI) vwCl [(r0, .inl (cyI, 5, .inl y0))] t.heap ∧ va_D A [(r0, .inl (cyI, 5, .inl y0))]) A) ([.ref r0, .int 1, .int 2, .int 0] : List Value).toArray s 0 0 A := ⟨_, rfl⟩
  rw [← hQ9]
  refine lv_iconst (v := 0) hx hb dX12_copyRow_0 (by decide) ?_
  refine lv_istore (lv' := [(4, .int 0), (0, .ref r0), (1, .int 1), (2, .int 2), (3, .int 0)]) hx hb dX12_copyRow_1 hl (by decide) rfl (fun ls hl => ?_)
  have key_3 : ∀ (nkey_3 : Nat) (u_1 : Int32) (f_2 : Nat → Int32) (H : Heap) (locs : List Loc) (ls : Array Slot), (0 ≤ u_1.toInt ∧ u_1.toInt ≤ 1) → (cpr 1 2 0 u_1.toInt.toNat f0 f_2) → va_P (dC, dI) vwCl [(r0, .inl (cyI, 5, .inl f_2))] H → va_D A [(r0, .inl (cyI, 5, .inl f_2))] → va_S A s.heap H locs → lv_has ls 5 [(4, .int u_1), (0, .ref r0), (1, .int 1), (2, .int 2), (3, .int 0)] → (1 - u_1.toInt).toNat < nkey_3 → W p l e ({ frames := 1, cells := 0, slots := 0, locals := 60 }) s m ([.ref r0, .int 1, .int 2, .int 0] : List Value).toArray below meth c H locs 0 0 Q9 (F0 m 3 ls []) := by
    intro nkey_3
    induction nkey_3 with
    | zero => intro u_1 f_2 H locs ls hu_1 hcp9 hP hD hS hl hnkey_3; exact absurd hnkey_3 (Nat.not_lt_zero _)
    | succ nkey_3 ihkey_3 =>
      intro u_1 f_2 H locs ls hu_1 hcp9 hP hD hS hl hnkey_3
      refine lv_iload hx hb dX12_copyRow_3 (lv_at hl 0 rfl) ?_
      refine lv_iload_n hx hb dX12_copyRow_5 rfl (lv_at hl 2 rfl) ?_
      refine lv_icmp_ge (tgt := 31) hx hb dX12_copyRow_6 (by decide) (fun c_4 => ?_) (fun c_4 => ?_)
      · have c_4 : 1 ≤ u_1.toInt := cv_le c_4
        rw [hQ9]
        have hP9 := hP.sub (ws' := [(r0, .inl (cyI, 5, .inl f_2))]) [0] rfl
        have hD9 := hD.sub (ws' := [(r0, .inl (cyI, 5, .inl f_2))]) [0] (by decide) rfl
        exact W.vret hx hb hr (fun t ht hW => ⟨⟨(), rfl, trivial, ⟨f_2, (cpr_end hcp9 (by omega)), by rw [ht]; exact hP9, hD9⟩⟩, hS.F ht⟩) hS.2.2 dX12_copyRow_31
      · have c_4 : u_1.toInt < 1 := cv_nle c_4
        refine lv_aload_n hx hb dX12_copyRow_9 rfl (lv_at hl 1 rfl) ?_
        refine lv_iload_n hx hb dX12_copyRow_10 rfl (lv_at hl 2 rfl) ?_
        refine lv_iload_n hx hb dX12_copyRow_11 rfl (lv_at hl 4 rfl) ?_
        refine lv_imul hx hb dX12_copyRow_12 ?_
        refine cv_topi (b := 0) (by decide) ?_
        refine lv_iload hx hb dX12_copyRow_13 (lv_at hl 0 rfl) ?_
        refine lv_iadd hx hb dX12_copyRow_15 ?_
        refine lv_topi (fun x_5 ex_5 => ?_)
        have fx_5 : x_5.toInt = 0 + u_1.toInt := by rw [ex_5]; exact cv_addI (by have : (0 : Int32).toInt = 0 := rfl; omega) (by have : (0 : Int32).toInt = 0 := rfl; omega)
        refine lv_aload_n hx hb dX12_copyRow_16 rfl (lv_at hl 1 rfl) ?_
        refine lv_iload_n hx hb dX12_copyRow_17 rfl (lv_at hl 2 rfl) ?_
        refine lv_iload_n hx hb dX12_copyRow_18 rfl (lv_at hl 3 rfl) ?_
        refine lv_imul hx hb dX12_copyRow_19 ?_
        refine cv_topi (b := 2) (by decide) ?_
        refine lv_iload hx hb dX12_copyRow_20 (lv_at hl 0 rfl) ?_
        refine lv_iadd hx hb dX12_copyRow_22 ?_
        refine lv_topi (fun x_6 ex_6 => ?_)
        have fx_6 : x_6.toInt = 2 + u_1.toInt := by rw [ex_6]; exact cv_addI (by have : (2 : Int32).toInt = 2 := rfl; omega) (by have : (2 : Int32).toInt = 2 := rfl; omega)
        refine va_iald hx hb hK hP 0 0 rfl rfl (vp_in_iff.mpr (by omega)) dX12_copyRow_23 ?_
        refine lv_topi (fun x_7 ex_7 => ?_)
        refine va_iast hx hb hK hP hD hS 0 0 rfl rfl (vp_in_iff.mpr (by omega)) dX12_copyRow_24 (fun H locs hP hD hS => ?_)
        obtain ⟨f_8, ef_8⟩ : ∃ z9 : Nat → Int32, z9 = upd f_2 x_5.toNatClampNeg x_7 := ⟨_, rfl⟩
        rw [← ef_8] at hP hD
        have hP : va_P (dC, dI) vwCl [(r0, .inl (cyI, 5, .inl f_8))] H := hP
        have hD : va_D A [(r0, .inl (cyI, 5, .inl f_8))] := hD
        obtain ⟨x_9, ex_9⟩ : ∃ y : Int32, y = u_1 + 1 := ⟨_, rfl⟩
        refine lv_iinc (v := x_9) (lv' := [(4, .int x_9), (0, .ref r0), (1, .int 1), (2, .int 2), (3, .int 0)]) hx hb dX12_copyRow_25 hl (k := 0) rfl (by rw [ex_9]; rfl) (by decide) rfl (fun ls hl => ?_)
        have fx_9 : x_9.toInt = u_1.toInt + 1 := by rw [ex_9]; exact cv_addI (by have : (1 : Int32).toInt = 1 := rfl; omega) (by have : (1 : Int32).toInt = 1 := rfl; omega)
        refine lv_goto (tgt := 3) hx hb dX12_copyRow_28 (by decide) ?_
        exact ihkey_3 x_9 f_8 _ _ _ (by omega) (cpr_step (n := 0) hcp9 (by assumption) (by assumption) (by omega) (by omega) (by omega) (by omega) (by decide) (by omega)) hP hD hS (lv_sub hl [0, 1, 2, 3, 4] rfl) (by omega)
  exact key_3 _ 0 f0 _ _ _ (by decide) cpr_zero hP hD hS (lv_sub hl [0, 1, 2, 3, 4] rfl) (Nat.lt_succ_self _)

/- X12_copyRow -/
set_option maxHeartbeats 4000000 in
set_option maxRecDepth 100000 in
theorem m_cp_lines_30 (l : Launch) (dC : Nat → ClassId) (dI : Nat → Nat → Nat) (cyI cyB cyJ cyZ cyH cyN : ClassId) (sz : Nat) (r0 : Nat) (f0 : Nat → Int32) : Met l yX12_copyRow (wk yX12_copyRow cX12_copyRow 5 none) ({ frames := 1, cells := 0, slots := 0, locals := 60 }) (va_Pc [.ref r0, .int 1, .int 3, .int 0] (fun U => U.heap.size = sz ∧ va_P (dC, dI) vwCl [(r0, .inl (cyI, 5, .inl f0))] U.heap ∧ va_K (dC, dI) vwCl [(cyI, .int), (cyB, .byte), (cyJ, .long), (cyZ, .boolean), (cyH, .object RX2), (cyN, .array .long)] U ∧ va_D (fun _ => True) [(r0, .inl (cyI, 5, .inl f0))])) (va_Qv (fun _ : Unit => True) (fun (_ : Unit) (t : State) => ∃ y0 : Nat → Int32, (cpr 1 3 0 1 f0 y0) ∧ va_P (dC, dI) vwCl [(r0, .inl (cyI, 5, .inl y0))] t.heap ∧ va_D (va_A [(r0, .inl (cyI, 5, .inl f0))] sz) [(r0, .inl (cyI, 5, .inl y0))]) (va_A [(r0, .inl (cyI, 5, .inl f0))] sz)) 0 0 (va_A [(r0, .inl (cyI, 5, .inl f0))] sz) := by
  refine Met.ofW (cc := cX12_copyRow) (maxL := 5) (ret := none) (by decide) rfl ?_
  intro p e s m args below meth c s₁ B hml hv
  obtain ⟨rfl, hsz, hP, hK, hD0⟩ := hv
  have hx := B.exec
  have hb := B.bytes
  have hr := B.returns
  have hts : ∀ w ∈ uU, w.before ([.ref r0, .int 1, .int 3, .int 0] : List Value).toArray s = true := fun w h => atoms_spec (ws := wk yX12_copyRow cX12_copyRow 5 none) B.pre w (List.mem_cons_of_mem _ h)
  have hown : s.vm.findClass RX12 = some m.cls := findClass_of_methodNamed B.named
  have hlocks := B.notSynchronized
  subst hsz
  have hD := hD0.self (sz := s.heap.size)
  generalize hAe : va_A [(r0, .inl (cyI, 5, .inl f0))] s.heap.size = A at hD ⊢
  have hA : ∀ q : Nat, s.heap.size ≤ q → A q := fun q h => by rw [← hAe]; exact Or.inr h
  have hS : va_S A s.heap s.heap [] := va_S.rf
  have hP : va_P (dC, dI) vwCl [(r0, .inl (cyI, 5, .inl f0))] s.heap := hP
  have hl := lv_entry ([.ref r0, .int 1, .int 3, .int 0]) (n := 5) (Nat.le_of_ble_eq_true rfl)
  rw [lg_entry_eq]
  generalize (lg_sl ([.ref r0, .int 1, .int 3, .int 0]) ++ List.replicate (5 - (lg_sl ([.ref r0, .int 1, .int 3, .int 0])).length) Slot.unset).toArray = ls at hl ⊢
  have hl : lv_has ls 5 [(0, .ref r0), (1, .int 1), (2, .int 3), (3, .int 0)] := hl
  obtain ⟨H, hHe⟩ : ∃ H, H = s.heap := ⟨_, rfl⟩
  have hP : va_P (dC, dI) vwCl [(r0, .inl (cyI, 5, .inl f0))] H := by rw [hHe]; exact hP
  have hS : va_S A s.heap H [] := by rw [hHe]; exact hS
  refine cv_heap hHe ?_
  obtain ⟨Q9, hQ9⟩ : ∃ Q9 : State → Prop, Q9 = MQ below (va_Qv (fun _ : Unit => True) (fun (_ : Unit) (t : State) => ∃ y0 : Nat → Int32, (cpr 1 3 0 1 f0 y0) ∧ va_P (dC, dI) vwCl [(r0, .inl (cyI, 5, .inl y0))] t.heap ∧ va_D A [(r0, .inl (cyI, 5, .inl y0))]) A) ([.ref r0, .int 1, .int 3, .int 0] : List Value).toArray s 0 0 A := ⟨_, rfl⟩
  rw [← hQ9]
  refine lv_iconst (v := 0) hx hb dX12_copyRow_0 (by decide) ?_
  refine lv_istore (lv' := [(4, .int 0), (0, .ref r0), (1, .int 1), (2, .int 3), (3, .int 0)]) hx hb dX12_copyRow_1 hl (by decide) rfl (fun ls hl => ?_)
  have key_3 : ∀ (nkey_3 : Nat) (u_1 : Int32) (f_2 : Nat → Int32) (H : Heap) (locs : List Loc) (ls : Array Slot), (0 ≤ u_1.toInt ∧ u_1.toInt ≤ 1) → (cpr 1 3 0 u_1.toInt.toNat f0 f_2) → va_P (dC, dI) vwCl [(r0, .inl (cyI, 5, .inl f_2))] H → va_D A [(r0, .inl (cyI, 5, .inl f_2))] → va_S A s.heap H locs → lv_has ls 5 [(4, .int u_1), (0, .ref r0), (1, .int 1), (2, .int 3), (3, .int 0)] → (1 - u_1.toInt).toNat < nkey_3 → W p l e ({ frames := 1, cells := 0, slots := 0, locals := 60 }) s m ([.ref r0, .int 1, .int 3, .int 0] : List Value).toArray below meth c H locs 0 0 Q9 (F0 m 3 ls []) := by
    intro nkey_3
    induction nkey_3 with
    | zero => intro u_1 f_2 H locs ls hu_1 hcp9 hP hD hS hl hnkey_3; exact absurd hnkey_3 (Nat.not_lt_zero _)
    | succ nkey_3 ihkey_3 =>
      intro u_1 f_2 H locs ls hu_1 hcp9 hP hD hS hl hnkey_3
      refine lv_iload hx hb dX12_copyRow_3 (lv_at hl 0 rfl) ?_
      refine lv_iload_n hx hb dX12_copyRow_5 rfl (lv_at hl 2 rfl) ?_
      refine lv_icmp_ge (tgt := 31) hx hb dX12_copyRow_6 (by decide) (fun c_4 => ?_) (fun c_4 => ?_)
      · have c_4 : 1 ≤ u_1.toInt := cv_le c_4
        rw [hQ9]
        have hP9 := hP.sub (ws' := [(r0, .inl (cyI, 5, .inl f_2))]) [0] rfl
        have hD9 := hD.sub (ws' := [(r0, .inl (cyI, 5, .inl f_2))]) [0] (by decide) rfl
        exact W.vret hx hb hr (fun t ht hW => ⟨⟨(), rfl, trivial, ⟨f_2, (cpr_end hcp9 (by omega)), by rw [ht]; exact hP9, hD9⟩⟩, hS.F ht⟩) hS.2.2 dX12_copyRow_31
      · have c_4 : u_1.toInt < 1 := cv_nle c_4
        refine lv_aload_n hx hb dX12_copyRow_9 rfl (lv_at hl 1 rfl) ?_
        refine lv_iload_n hx hb dX12_copyRow_10 rfl (lv_at hl 2 rfl) ?_
        refine lv_iload_n hx hb dX12_copyRow_11 rfl (lv_at hl 4 rfl) ?_
        refine lv_imul hx hb dX12_copyRow_12 ?_
        refine cv_topi (b := 0) (by decide) ?_
        refine lv_iload hx hb dX12_copyRow_13 (lv_at hl 0 rfl) ?_
        refine lv_iadd hx hb dX12_copyRow_15 ?_
        refine lv_topi (fun x_5 ex_5 => ?_)
        have fx_5 : x_5.toInt = 0 + u_1.toInt := by rw [ex_5]; exact cv_addI (by have : (0 : Int32).toInt = 0 := rfl; omega) (by have : (0 : Int32).toInt = 0 := rfl; omega)
        refine lv_aload_n hx hb dX12_copyRow_16 rfl (lv_at hl 1 rfl) ?_
        refine lv_iload_n hx hb dX12_copyRow_17 rfl (lv_at hl 2 rfl) ?_
        refine lv_iload_n hx hb dX12_copyRow_18 rfl (lv_at hl 3 rfl) ?_
        refine lv_imul hx hb dX12_copyRow_19 ?_
        refine cv_topi (b := 3) (by decide) ?_
        refine lv_iload hx hb dX12_copyRow_20 (lv_at hl 0 rfl) ?_
        refine lv_iadd hx hb dX12_copyRow_22 ?_
        refine lv_topi (fun x_6 ex_6 => ?_)
        have fx_6 : x_6.toInt = 3 + u_1.toInt := by rw [ex_6]; exact cv_addI (by have : (3 : Int32).toInt = 3 := rfl; omega) (by have : (3 : Int32).toInt = 3 := rfl; omega)
        refine va_iald hx hb hK hP 0 0 rfl rfl (vp_in_iff.mpr (by omega)) dX12_copyRow_23 ?_
        refine lv_topi (fun x_7 ex_7 => ?_)
        refine va_iast hx hb hK hP hD hS 0 0 rfl rfl (vp_in_iff.mpr (by omega)) dX12_copyRow_24 (fun H locs hP hD hS => ?_)
        obtain ⟨f_8, ef_8⟩ : ∃ z9 : Nat → Int32, z9 = upd f_2 x_5.toNatClampNeg x_7 := ⟨_, rfl⟩
        rw [← ef_8] at hP hD
        have hP : va_P (dC, dI) vwCl [(r0, .inl (cyI, 5, .inl f_8))] H := hP
        have hD : va_D A [(r0, .inl (cyI, 5, .inl f_8))] := hD
        obtain ⟨x_9, ex_9⟩ : ∃ y : Int32, y = u_1 + 1 := ⟨_, rfl⟩
        refine lv_iinc (v := x_9) (lv' := [(4, .int x_9), (0, .ref r0), (1, .int 1), (2, .int 3), (3, .int 0)]) hx hb dX12_copyRow_25 hl (k := 0) rfl (by rw [ex_9]; rfl) (by decide) rfl (fun ls hl => ?_)
        have fx_9 : x_9.toInt = u_1.toInt + 1 := by rw [ex_9]; exact cv_addI (by have : (1 : Int32).toInt = 1 := rfl; omega) (by have : (1 : Int32).toInt = 1 := rfl; omega)
        refine lv_goto (tgt := 3) hx hb dX12_copyRow_28 (by decide) ?_
        exact ihkey_3 x_9 f_8 _ _ _ (by omega) (cpr_step (n := 0) hcp9 (by assumption) (by assumption) (by omega) (by omega) (by omega) (by omega) (by decide) (by omega)) hP hD hS (lv_sub hl [0, 1, 2, 3, 4] rfl) (by omega)
  exact key_3 _ 0 f0 _ _ _ (by decide) cpr_zero hP hD hS (lv_sub hl [0, 1, 2, 3, 4] rfl) (Nat.lt_succ_self _)

/- X12_copyRow -/
set_option maxHeartbeats 4000000 in
set_option maxRecDepth 100000 in
theorem m_cp_has_40 (l : Launch) (dC : Nat → ClassId) (dI : Nat → Nat → Nat) (cyI cyB cyJ cyZ cyH cyN : ClassId) (sz : Nat) (r0 : Nat) (f0 : Nat → Int32) : Met l yX12_copyRow (wk yX12_copyRow cX12_copyRow 5 none) ({ frames := 1, cells := 0, slots := 0, locals := 60 }) (va_Pc [.ref r0, .int 4, .int 4, .int 0] (fun U => U.heap.size = sz ∧ va_P (dC, dI) vwCl [(r0, .inl (cyI, 20, .inl f0))] U.heap ∧ va_K (dC, dI) vwCl [(cyI, .int), (cyB, .byte), (cyJ, .long), (cyZ, .boolean), (cyH, .object RX2), (cyN, .array .long)] U ∧ va_D (fun _ => True) [(r0, .inl (cyI, 20, .inl f0))])) (va_Qv (fun _ : Unit => True) (fun (_ : Unit) (t : State) => ∃ y0 : Nat → Int32, (cpr 4 4 0 4 f0 y0) ∧ va_P (dC, dI) vwCl [(r0, .inl (cyI, 20, .inl y0))] t.heap ∧ va_D (va_A [(r0, .inl (cyI, 20, .inl f0))] sz) [(r0, .inl (cyI, 20, .inl y0))]) (va_A [(r0, .inl (cyI, 20, .inl f0))] sz)) 0 0 (va_A [(r0, .inl (cyI, 20, .inl f0))] sz) := by
  refine Met.ofW (cc := cX12_copyRow) (maxL := 5) (ret := none) (by decide) rfl ?_
  intro p e s m args below meth c s₁ B hml hv
  obtain ⟨rfl, hsz, hP, hK, hD0⟩ := hv
  have hx := B.exec
  have hb := B.bytes
  have hr := B.returns
  have hts : ∀ w ∈ uU, w.before ([.ref r0, .int 4, .int 4, .int 0] : List Value).toArray s = true := fun w h => atoms_spec (ws := wk yX12_copyRow cX12_copyRow 5 none) B.pre w (List.mem_cons_of_mem _ h)
  have hown : s.vm.findClass RX12 = some m.cls := findClass_of_methodNamed B.named
  have hlocks := B.notSynchronized
  subst hsz
  have hD := hD0.self (sz := s.heap.size)
  generalize hAe : va_A [(r0, .inl (cyI, 20, .inl f0))] s.heap.size = A at hD ⊢
  have hA : ∀ q : Nat, s.heap.size ≤ q → A q := fun q h => by rw [← hAe]; exact Or.inr h
  have hS : va_S A s.heap s.heap [] := va_S.rf
  have hP : va_P (dC, dI) vwCl [(r0, .inl (cyI, 20, .inl f0))] s.heap := hP
  have hl := lv_entry ([.ref r0, .int 4, .int 4, .int 0]) (n := 5) (Nat.le_of_ble_eq_true rfl)
  rw [lg_entry_eq]
  generalize (lg_sl ([.ref r0, .int 4, .int 4, .int 0]) ++ List.replicate (5 - (lg_sl ([.ref r0, .int 4, .int 4, .int 0])).length) Slot.unset).toArray = ls at hl ⊢
  have hl : lv_has ls 5 [(0, .ref r0), (1, .int 4), (2, .int 4), (3, .int 0)] := hl
  obtain ⟨H, hHe⟩ : ∃ H, H = s.heap := ⟨_, rfl⟩
  have hP : va_P (dC, dI) vwCl [(r0, .inl (cyI, 20, .inl f0))] H := by rw [hHe]; exact hP
  have hS : va_S A s.heap H [] := by rw [hHe]; exact hS
  refine cv_heap hHe ?_
  obtain ⟨Q9, hQ9⟩ : ∃ Q9 : State → Prop, Q9 = MQ below (va_Qv (fun _ : Unit => True) (fun (_ : Unit) (t : State) => ∃ y0 : Nat → Int32, (cpr 4 4 0 4 f0 y0) ∧ va_P (dC, dI) vwCl [(r0, .inl (cyI, 20, .inl y0))] t.heap ∧ va_D A [(r0, .inl (cyI, 20, .inl y0))]) A) ([.ref r0, .int 4, .int 4, .int 0] : List Value).toArray s 0 0 A := ⟨_, rfl⟩
  rw [← hQ9]
  refine lv_iconst (v := 0) hx hb dX12_copyRow_0 (by decide) ?_
  refine lv_istore (lv' := [(4, .int 0), (0, .ref r0), (1, .int 4), (2, .int 4), (3, .int 0)]) hx hb dX12_copyRow_1 hl (by decide) rfl (fun ls hl => ?_)
  have key_3 : ∀ (nkey_3 : Nat) (u_1 : Int32) (f_2 : Nat → Int32) (H : Heap) (locs : List Loc) (ls : Array Slot), (0 ≤ u_1.toInt ∧ u_1.toInt ≤ 4) → (cpr 4 4 0 u_1.toInt.toNat f0 f_2) → va_P (dC, dI) vwCl [(r0, .inl (cyI, 20, .inl f_2))] H → va_D A [(r0, .inl (cyI, 20, .inl f_2))] → va_S A s.heap H locs → lv_has ls 5 [(4, .int u_1), (0, .ref r0), (1, .int 4), (2, .int 4), (3, .int 0)] → (4 - u_1.toInt).toNat < nkey_3 → W p l e ({ frames := 1, cells := 0, slots := 0, locals := 60 }) s m ([.ref r0, .int 4, .int 4, .int 0] : List Value).toArray below meth c H locs 0 0 Q9 (F0 m 3 ls []) := by
    intro nkey_3
    induction nkey_3 with
    | zero => intro u_1 f_2 H locs ls hu_1 hcp9 hP hD hS hl hnkey_3; exact absurd hnkey_3 (Nat.not_lt_zero _)
    | succ nkey_3 ihkey_3 =>
      intro u_1 f_2 H locs ls hu_1 hcp9 hP hD hS hl hnkey_3
      refine lv_iload hx hb dX12_copyRow_3 (lv_at hl 0 rfl) ?_
      refine lv_iload_n hx hb dX12_copyRow_5 rfl (lv_at hl 2 rfl) ?_
      refine lv_icmp_ge (tgt := 31) hx hb dX12_copyRow_6 (by decide) (fun c_4 => ?_) (fun c_4 => ?_)
      · have c_4 : 4 ≤ u_1.toInt := cv_le c_4
        rw [hQ9]
        have hP9 := hP.sub (ws' := [(r0, .inl (cyI, 20, .inl f_2))]) [0] rfl
        have hD9 := hD.sub (ws' := [(r0, .inl (cyI, 20, .inl f_2))]) [0] (by decide) rfl
        exact W.vret hx hb hr (fun t ht hW => ⟨⟨(), rfl, trivial, ⟨f_2, (cpr_end hcp9 (by omega)), by rw [ht]; exact hP9, hD9⟩⟩, hS.F ht⟩) hS.2.2 dX12_copyRow_31
      · have c_4 : u_1.toInt < 4 := cv_nle c_4
        refine lv_aload_n hx hb dX12_copyRow_9 rfl (lv_at hl 1 rfl) ?_
        refine lv_iload_n hx hb dX12_copyRow_10 rfl (lv_at hl 2 rfl) ?_
        refine lv_iload_n hx hb dX12_copyRow_11 rfl (lv_at hl 4 rfl) ?_
        refine lv_imul hx hb dX12_copyRow_12 ?_
        refine cv_topi (b := 0) (by decide) ?_
        refine lv_iload hx hb dX12_copyRow_13 (lv_at hl 0 rfl) ?_
        refine lv_iadd hx hb dX12_copyRow_15 ?_
        refine lv_topi (fun x_5 ex_5 => ?_)
        have fx_5 : x_5.toInt = 0 + u_1.toInt := by rw [ex_5]; exact cv_addI (by have : (0 : Int32).toInt = 0 := rfl; omega) (by have : (0 : Int32).toInt = 0 := rfl; omega)
        refine lv_aload_n hx hb dX12_copyRow_16 rfl (lv_at hl 1 rfl) ?_
        refine lv_iload_n hx hb dX12_copyRow_17 rfl (lv_at hl 2 rfl) ?_
        refine lv_iload_n hx hb dX12_copyRow_18 rfl (lv_at hl 3 rfl) ?_
        refine lv_imul hx hb dX12_copyRow_19 ?_
        refine cv_topi (b := 16) (by decide) ?_
        refine lv_iload hx hb dX12_copyRow_20 (lv_at hl 0 rfl) ?_
        refine lv_iadd hx hb dX12_copyRow_22 ?_
        refine lv_topi (fun x_6 ex_6 => ?_)
        have fx_6 : x_6.toInt = 16 + u_1.toInt := by rw [ex_6]; exact cv_addI (by have : (16 : Int32).toInt = 16 := rfl; omega) (by have : (16 : Int32).toInt = 16 := rfl; omega)
        refine va_iald hx hb hK hP 0 0 rfl rfl (vp_in_iff.mpr (by omega)) dX12_copyRow_23 ?_
        refine lv_topi (fun x_7 ex_7 => ?_)
        refine va_iast hx hb hK hP hD hS 0 0 rfl rfl (vp_in_iff.mpr (by omega)) dX12_copyRow_24 (fun H locs hP hD hS => ?_)
        obtain ⟨f_8, ef_8⟩ : ∃ z9 : Nat → Int32, z9 = upd f_2 x_5.toNatClampNeg x_7 := ⟨_, rfl⟩
        rw [← ef_8] at hP hD
        have hP : va_P (dC, dI) vwCl [(r0, .inl (cyI, 20, .inl f_8))] H := hP
        have hD : va_D A [(r0, .inl (cyI, 20, .inl f_8))] := hD
        obtain ⟨x_9, ex_9⟩ : ∃ y : Int32, y = u_1 + 1 := ⟨_, rfl⟩
        refine lv_iinc (v := x_9) (lv' := [(4, .int x_9), (0, .ref r0), (1, .int 4), (2, .int 4), (3, .int 0)]) hx hb dX12_copyRow_25 hl (k := 0) rfl (by rw [ex_9]; rfl) (by decide) rfl (fun ls hl => ?_)
        have fx_9 : x_9.toInt = u_1.toInt + 1 := by rw [ex_9]; exact cv_addI (by have : (1 : Int32).toInt = 1 := rfl; omega) (by have : (1 : Int32).toInt = 1 := rfl; omega)
        refine lv_goto (tgt := 3) hx hb dX12_copyRow_28 (by decide) ?_
        exact ihkey_3 x_9 f_8 _ _ _ (by omega) (cpr_step (n := 0) hcp9 (by assumption) (by assumption) (by omega) (by omega) (by omega) (by omega) (by decide) (by omega)) hP hD hS (lv_sub hl [0, 1, 2, 3, 4] rfl) (by omega)
  exact key_3 _ 0 f0 _ _ _ (by decide) cpr_zero hP hD hS (lv_sub hl [0, 1, 2, 3, 4] rfl) (Nat.lt_succ_self _)

/- X12_copyRow -/
set_option maxHeartbeats 4000000 in
set_option maxRecDepth 100000 in
theorem m_cp_has_01 (l : Launch) (dC : Nat → ClassId) (dI : Nat → Nat → Nat) (cyI cyB cyJ cyZ cyH cyN : ClassId) (sz : Nat) (r0 : Nat) (f0 : Nat → Int32) : Met l yX12_copyRow (wk yX12_copyRow cX12_copyRow 5 none) ({ frames := 1, cells := 0, slots := 0, locals := 60 }) (va_Pc [.ref r0, .int 4, .int 0, .int 1] (fun U => U.heap.size = sz ∧ va_P (dC, dI) vwCl [(r0, .inl (cyI, 20, .inl f0))] U.heap ∧ va_K (dC, dI) vwCl [(cyI, .int), (cyB, .byte), (cyJ, .long), (cyZ, .boolean), (cyH, .object RX2), (cyN, .array .long)] U ∧ va_D (fun _ => True) [(r0, .inl (cyI, 20, .inl f0))])) (va_Qv (fun _ : Unit => True) (fun (_ : Unit) (t : State) => ∃ y0 : Nat → Int32, (cpr 4 0 1 4 f0 y0) ∧ va_P (dC, dI) vwCl [(r0, .inl (cyI, 20, .inl y0))] t.heap ∧ va_D (va_A [(r0, .inl (cyI, 20, .inl f0))] sz) [(r0, .inl (cyI, 20, .inl y0))]) (va_A [(r0, .inl (cyI, 20, .inl f0))] sz)) 0 0 (va_A [(r0, .inl (cyI, 20, .inl f0))] sz) := by
  refine Met.ofW (cc := cX12_copyRow) (maxL := 5) (ret := none) (by decide) rfl ?_
  intro p e s m args below meth c s₁ B hml hv
  obtain ⟨rfl, hsz, hP, hK, hD0⟩ := hv
  have hx := B.exec
  have hb := B.bytes
  have hr := B.returns
  have hts : ∀ w ∈ uU, w.before ([.ref r0, .int 4, .int 0, .int 1] : List Value).toArray s = true := fun w h => atoms_spec (ws := wk yX12_copyRow cX12_copyRow 5 none) B.pre w (List.mem_cons_of_mem _ h)
  have hown : s.vm.findClass RX12 = some m.cls := findClass_of_methodNamed B.named
  have hlocks := B.notSynchronized
  subst hsz
  have hD := hD0.self (sz := s.heap.size)
  generalize hAe : va_A [(r0, .inl (cyI, 20, .inl f0))] s.heap.size = A at hD ⊢
  have hA : ∀ q : Nat, s.heap.size ≤ q → A q := fun q h => by rw [← hAe]; exact Or.inr h
  have hS : va_S A s.heap s.heap [] := va_S.rf
  have hP : va_P (dC, dI) vwCl [(r0, .inl (cyI, 20, .inl f0))] s.heap := hP
  have hl := lv_entry ([.ref r0, .int 4, .int 0, .int 1]) (n := 5) (Nat.le_of_ble_eq_true rfl)
  rw [lg_entry_eq]
  generalize (lg_sl ([.ref r0, .int 4, .int 0, .int 1]) ++ List.replicate (5 - (lg_sl ([.ref r0, .int 4, .int 0, .int 1])).length) Slot.unset).toArray = ls at hl ⊢
  have hl : lv_has ls 5 [(0, .ref r0), (1, .int 4), (2, .int 0), (3, .int 1)] := hl
  obtain ⟨H, hHe⟩ : ∃ H, H = s.heap := ⟨_, rfl⟩
  have hP : va_P (dC, dI) vwCl [(r0, .inl (cyI, 20, .inl f0))] H := by rw [hHe]; exact hP
  have hS : va_S A s.heap H [] := by rw [hHe]; exact hS
  refine cv_heap hHe ?_
  obtain ⟨Q9, hQ9⟩ : ∃ Q9 : State → Prop, Q9 = MQ below (va_Qv (fun _ : Unit => True) (fun (_ : Unit) (t : State) => ∃ y0 : Nat → Int32, (cpr 4 0 1 4 f0 y0) ∧ va_P (dC, dI) vwCl [(r0, .inl (cyI, 20, .inl y0))] t.heap ∧ va_D A [(r0, .inl (cyI, 20, .inl y0))]) A) ([.ref r0, .int 4, .int 0, .int 1] : List Value).toArray s 0 0 A := ⟨_, rfl⟩
  rw [← hQ9]
  refine lv_iconst (v := 0) hx hb dX12_copyRow_0 (by decide) ?_
  refine lv_istore (lv' := [(4, .int 0), (0, .ref r0), (1, .int 4), (2, .int 0), (3, .int 1)]) hx hb dX12_copyRow_1 hl (by decide) rfl (fun ls hl => ?_)
  have key_3 : ∀ (nkey_3 : Nat) (u_1 : Int32) (f_2 : Nat → Int32) (H : Heap) (locs : List Loc) (ls : Array Slot), (0 ≤ u_1.toInt ∧ u_1.toInt ≤ 4) → (cpr 4 0 1 u_1.toInt.toNat f0 f_2) → va_P (dC, dI) vwCl [(r0, .inl (cyI, 20, .inl f_2))] H → va_D A [(r0, .inl (cyI, 20, .inl f_2))] → va_S A s.heap H locs → lv_has ls 5 [(4, .int u_1), (0, .ref r0), (1, .int 4), (2, .int 0), (3, .int 1)] → (4 - u_1.toInt).toNat < nkey_3 → W p l e ({ frames := 1, cells := 0, slots := 0, locals := 60 }) s m ([.ref r0, .int 4, .int 0, .int 1] : List Value).toArray below meth c H locs 0 0 Q9 (F0 m 3 ls []) := by
    intro nkey_3
    induction nkey_3 with
    | zero => intro u_1 f_2 H locs ls hu_1 hcp9 hP hD hS hl hnkey_3; exact absurd hnkey_3 (Nat.not_lt_zero _)
    | succ nkey_3 ihkey_3 =>
      intro u_1 f_2 H locs ls hu_1 hcp9 hP hD hS hl hnkey_3
      refine lv_iload hx hb dX12_copyRow_3 (lv_at hl 0 rfl) ?_
      refine lv_iload_n hx hb dX12_copyRow_5 rfl (lv_at hl 2 rfl) ?_
      refine lv_icmp_ge (tgt := 31) hx hb dX12_copyRow_6 (by decide) (fun c_4 => ?_) (fun c_4 => ?_)
      · have c_4 : 4 ≤ u_1.toInt := cv_le c_4
        rw [hQ9]
        have hP9 := hP.sub (ws' := [(r0, .inl (cyI, 20, .inl f_2))]) [0] rfl
        have hD9 := hD.sub (ws' := [(r0, .inl (cyI, 20, .inl f_2))]) [0] (by decide) rfl
        exact W.vret hx hb hr (fun t ht hW => ⟨⟨(), rfl, trivial, ⟨f_2, (cpr_end hcp9 (by omega)), by rw [ht]; exact hP9, hD9⟩⟩, hS.F ht⟩) hS.2.2 dX12_copyRow_31
      · have c_4 : u_1.toInt < 4 := cv_nle c_4
        refine lv_aload_n hx hb dX12_copyRow_9 rfl (lv_at hl 1 rfl) ?_
        refine lv_iload_n hx hb dX12_copyRow_10 rfl (lv_at hl 2 rfl) ?_
        refine lv_iload_n hx hb dX12_copyRow_11 rfl (lv_at hl 4 rfl) ?_
        refine lv_imul hx hb dX12_copyRow_12 ?_
        refine cv_topi (b := 4) (by decide) ?_
        refine lv_iload hx hb dX12_copyRow_13 (lv_at hl 0 rfl) ?_
        refine lv_iadd hx hb dX12_copyRow_15 ?_
        refine lv_topi (fun x_5 ex_5 => ?_)
        have fx_5 : x_5.toInt = 4 + u_1.toInt := by rw [ex_5]; exact cv_addI (by have : (4 : Int32).toInt = 4 := rfl; omega) (by have : (4 : Int32).toInt = 4 := rfl; omega)
        refine lv_aload_n hx hb dX12_copyRow_16 rfl (lv_at hl 1 rfl) ?_
        refine lv_iload_n hx hb dX12_copyRow_17 rfl (lv_at hl 2 rfl) ?_
        refine lv_iload_n hx hb dX12_copyRow_18 rfl (lv_at hl 3 rfl) ?_
        refine lv_imul hx hb dX12_copyRow_19 ?_
        refine cv_topi (b := 0) (by decide) ?_
        refine lv_iload hx hb dX12_copyRow_20 (lv_at hl 0 rfl) ?_
        refine lv_iadd hx hb dX12_copyRow_22 ?_
        refine lv_topi (fun x_6 ex_6 => ?_)
        have fx_6 : x_6.toInt = 0 + u_1.toInt := by rw [ex_6]; exact cv_addI (by have : (0 : Int32).toInt = 0 := rfl; omega) (by have : (0 : Int32).toInt = 0 := rfl; omega)
        refine va_iald hx hb hK hP 0 0 rfl rfl (vp_in_iff.mpr (by omega)) dX12_copyRow_23 ?_
        refine lv_topi (fun x_7 ex_7 => ?_)
        refine va_iast hx hb hK hP hD hS 0 0 rfl rfl (vp_in_iff.mpr (by omega)) dX12_copyRow_24 (fun H locs hP hD hS => ?_)
        obtain ⟨f_8, ef_8⟩ : ∃ z9 : Nat → Int32, z9 = upd f_2 x_5.toNatClampNeg x_7 := ⟨_, rfl⟩
        rw [← ef_8] at hP hD
        have hP : va_P (dC, dI) vwCl [(r0, .inl (cyI, 20, .inl f_8))] H := hP
        have hD : va_D A [(r0, .inl (cyI, 20, .inl f_8))] := hD
        obtain ⟨x_9, ex_9⟩ : ∃ y : Int32, y = u_1 + 1 := ⟨_, rfl⟩
        refine lv_iinc (v := x_9) (lv' := [(4, .int x_9), (0, .ref r0), (1, .int 4), (2, .int 0), (3, .int 1)]) hx hb dX12_copyRow_25 hl (k := 0) rfl (by rw [ex_9]; rfl) (by decide) rfl (fun ls hl => ?_)
        have fx_9 : x_9.toInt = u_1.toInt + 1 := by rw [ex_9]; exact cv_addI (by have : (1 : Int32).toInt = 1 := rfl; omega) (by have : (1 : Int32).toInt = 1 := rfl; omega)
        refine lv_goto (tgt := 3) hx hb dX12_copyRow_28 (by decide) ?_
        exact ihkey_3 x_9 f_8 _ _ _ (by omega) (cpr_step (n := 0) hcp9 (by assumption) (by assumption) (by omega) (by omega) (by omega) (by omega) (by decide) (by omega)) hP hD hS (lv_sub hl [0, 1, 2, 3, 4] rfl) (by omega)
  exact key_3 _ 0 f0 _ _ _ (by decide) cpr_zero hP hD hS (lv_sub hl [0, 1, 2, 3, 4] rfl) (Nat.lt_succ_self _)

/- X12_copyRow -/
set_option maxHeartbeats 4000000 in
set_option maxRecDepth 100000 in
theorem m_cp_has_02 (l : Launch) (dC : Nat → ClassId) (dI : Nat → Nat → Nat) (cyI cyB cyJ cyZ cyH cyN : ClassId) (sz : Nat) (r0 : Nat) (f0 : Nat → Int32) : Met l yX12_copyRow (wk yX12_copyRow cX12_copyRow 5 none) ({ frames := 1, cells := 0, slots := 0, locals := 60 }) (va_Pc [.ref r0, .int 4, .int 0, .int 2] (fun U => U.heap.size = sz ∧ va_P (dC, dI) vwCl [(r0, .inl (cyI, 20, .inl f0))] U.heap ∧ va_K (dC, dI) vwCl [(cyI, .int), (cyB, .byte), (cyJ, .long), (cyZ, .boolean), (cyH, .object RX2), (cyN, .array .long)] U ∧ va_D (fun _ => True) [(r0, .inl (cyI, 20, .inl f0))])) (va_Qv (fun _ : Unit => True) (fun (_ : Unit) (t : State) => ∃ y0 : Nat → Int32, (cpr 4 0 2 4 f0 y0) ∧ va_P (dC, dI) vwCl [(r0, .inl (cyI, 20, .inl y0))] t.heap ∧ va_D (va_A [(r0, .inl (cyI, 20, .inl f0))] sz) [(r0, .inl (cyI, 20, .inl y0))]) (va_A [(r0, .inl (cyI, 20, .inl f0))] sz)) 0 0 (va_A [(r0, .inl (cyI, 20, .inl f0))] sz) := by
  refine Met.ofW (cc := cX12_copyRow) (maxL := 5) (ret := none) (by decide) rfl ?_
  intro p e s m args below meth c s₁ B hml hv
  obtain ⟨rfl, hsz, hP, hK, hD0⟩ := hv
  have hx := B.exec
  have hb := B.bytes
  have hr := B.returns
  have hts : ∀ w ∈ uU, w.before ([.ref r0, .int 4, .int 0, .int 2] : List Value).toArray s = true := fun w h => atoms_spec (ws := wk yX12_copyRow cX12_copyRow 5 none) B.pre w (List.mem_cons_of_mem _ h)
  have hown : s.vm.findClass RX12 = some m.cls := findClass_of_methodNamed B.named
  have hlocks := B.notSynchronized
  subst hsz
  have hD := hD0.self (sz := s.heap.size)
  generalize hAe : va_A [(r0, .inl (cyI, 20, .inl f0))] s.heap.size = A at hD ⊢
  have hA : ∀ q : Nat, s.heap.size ≤ q → A q := fun q h => by rw [← hAe]; exact Or.inr h
  have hS : va_S A s.heap s.heap [] := va_S.rf
  have hP : va_P (dC, dI) vwCl [(r0, .inl (cyI, 20, .inl f0))] s.heap := hP
  have hl := lv_entry ([.ref r0, .int 4, .int 0, .int 2]) (n := 5) (Nat.le_of_ble_eq_true rfl)
  rw [lg_entry_eq]
  generalize (lg_sl ([.ref r0, .int 4, .int 0, .int 2]) ++ List.replicate (5 - (lg_sl ([.ref r0, .int 4, .int 0, .int 2])).length) Slot.unset).toArray = ls at hl ⊢
  have hl : lv_has ls 5 [(0, .ref r0), (1, .int 4), (2, .int 0), (3, .int 2)] := hl
  obtain ⟨H, hHe⟩ : ∃ H, H = s.heap := ⟨_, rfl⟩
  have hP : va_P (dC, dI) vwCl [(r0, .inl (cyI, 20, .inl f0))] H := by rw [hHe]; exact hP
  have hS : va_S A s.heap H [] := by rw [hHe]; exact hS
  refine cv_heap hHe ?_
  obtain ⟨Q9, hQ9⟩ : ∃ Q9 : State → Prop, Q9 = MQ below (va_Qv (fun _ : Unit => True) (fun (_ : Unit) (t : State) => ∃ y0 : Nat → Int32, (cpr 4 0 2 4 f0 y0) ∧ va_P (dC, dI) vwCl [(r0, .inl (cyI, 20, .inl y0))] t.heap ∧ va_D A [(r0, .inl (cyI, 20, .inl y0))]) A) ([.ref r0, .int 4, .int 0, .int 2] : List Value).toArray s 0 0 A := ⟨_, rfl⟩
  rw [← hQ9]
  refine lv_iconst (v := 0) hx hb dX12_copyRow_0 (by decide) ?_
  refine lv_istore (lv' := [(4, .int 0), (0, .ref r0), (1, .int 4), (2, .int 0), (3, .int 2)]) hx hb dX12_copyRow_1 hl (by decide) rfl (fun ls hl => ?_)
  have key_3 : ∀ (nkey_3 : Nat) (u_1 : Int32) (f_2 : Nat → Int32) (H : Heap) (locs : List Loc) (ls : Array Slot), (0 ≤ u_1.toInt ∧ u_1.toInt ≤ 4) → (cpr 4 0 2 u_1.toInt.toNat f0 f_2) → va_P (dC, dI) vwCl [(r0, .inl (cyI, 20, .inl f_2))] H → va_D A [(r0, .inl (cyI, 20, .inl f_2))] → va_S A s.heap H locs → lv_has ls 5 [(4, .int u_1), (0, .ref r0), (1, .int 4), (2, .int 0), (3, .int 2)] → (4 - u_1.toInt).toNat < nkey_3 → W p l e ({ frames := 1, cells := 0, slots := 0, locals := 60 }) s m ([.ref r0, .int 4, .int 0, .int 2] : List Value).toArray below meth c H locs 0 0 Q9 (F0 m 3 ls []) := by
    intro nkey_3
    induction nkey_3 with
    | zero => intro u_1 f_2 H locs ls hu_1 hcp9 hP hD hS hl hnkey_3; exact absurd hnkey_3 (Nat.not_lt_zero _)
    | succ nkey_3 ihkey_3 =>
      intro u_1 f_2 H locs ls hu_1 hcp9 hP hD hS hl hnkey_3
      refine lv_iload hx hb dX12_copyRow_3 (lv_at hl 0 rfl) ?_
      refine lv_iload_n hx hb dX12_copyRow_5 rfl (lv_at hl 2 rfl) ?_
      refine lv_icmp_ge (tgt := 31) hx hb dX12_copyRow_6 (by decide) (fun c_4 => ?_) (fun c_4 => ?_)
      · have c_4 : 4 ≤ u_1.toInt := cv_le c_4
        rw [hQ9]
        have hP9 := hP.sub (ws' := [(r0, .inl (cyI, 20, .inl f_2))]) [0] rfl
        have hD9 := hD.sub (ws' := [(r0, .inl (cyI, 20, .inl f_2))]) [0] (by decide) rfl
        exact W.vret hx hb hr (fun t ht hW => ⟨⟨(), rfl, trivial, ⟨f_2, (cpr_end hcp9 (by omega)), by rw [ht]; exact hP9, hD9⟩⟩, hS.F ht⟩) hS.2.2 dX12_copyRow_31
      · have c_4 : u_1.toInt < 4 := cv_nle c_4
        refine lv_aload_n hx hb dX12_copyRow_9 rfl (lv_at hl 1 rfl) ?_
        refine lv_iload_n hx hb dX12_copyRow_10 rfl (lv_at hl 2 rfl) ?_
        refine lv_iload_n hx hb dX12_copyRow_11 rfl (lv_at hl 4 rfl) ?_
        refine lv_imul hx hb dX12_copyRow_12 ?_
        refine cv_topi (b := 8) (by decide) ?_
        refine lv_iload hx hb dX12_copyRow_13 (lv_at hl 0 rfl) ?_
        refine lv_iadd hx hb dX12_copyRow_15 ?_
        refine lv_topi (fun x_5 ex_5 => ?_)
        have fx_5 : x_5.toInt = 8 + u_1.toInt := by rw [ex_5]; exact cv_addI (by have : (8 : Int32).toInt = 8 := rfl; omega) (by have : (8 : Int32).toInt = 8 := rfl; omega)
        refine lv_aload_n hx hb dX12_copyRow_16 rfl (lv_at hl 1 rfl) ?_
        refine lv_iload_n hx hb dX12_copyRow_17 rfl (lv_at hl 2 rfl) ?_
        refine lv_iload_n hx hb dX12_copyRow_18 rfl (lv_at hl 3 rfl) ?_
        refine lv_imul hx hb dX12_copyRow_19 ?_
        refine cv_topi (b := 0) (by decide) ?_
        refine lv_iload hx hb dX12_copyRow_20 (lv_at hl 0 rfl) ?_
        refine lv_iadd hx hb dX12_copyRow_22 ?_
        refine lv_topi (fun x_6 ex_6 => ?_)
        have fx_6 : x_6.toInt = 0 + u_1.toInt := by rw [ex_6]; exact cv_addI (by have : (0 : Int32).toInt = 0 := rfl; omega) (by have : (0 : Int32).toInt = 0 := rfl; omega)
        refine va_iald hx hb hK hP 0 0 rfl rfl (vp_in_iff.mpr (by omega)) dX12_copyRow_23 ?_
        refine lv_topi (fun x_7 ex_7 => ?_)
        refine va_iast hx hb hK hP hD hS 0 0 rfl rfl (vp_in_iff.mpr (by omega)) dX12_copyRow_24 (fun H locs hP hD hS => ?_)
        obtain ⟨f_8, ef_8⟩ : ∃ z9 : Nat → Int32, z9 = upd f_2 x_5.toNatClampNeg x_7 := ⟨_, rfl⟩
        rw [← ef_8] at hP hD
        have hP : va_P (dC, dI) vwCl [(r0, .inl (cyI, 20, .inl f_8))] H := hP
        have hD : va_D A [(r0, .inl (cyI, 20, .inl f_8))] := hD
        obtain ⟨x_9, ex_9⟩ : ∃ y : Int32, y = u_1 + 1 := ⟨_, rfl⟩
        refine lv_iinc (v := x_9) (lv' := [(4, .int x_9), (0, .ref r0), (1, .int 4), (2, .int 0), (3, .int 2)]) hx hb dX12_copyRow_25 hl (k := 0) rfl (by rw [ex_9]; rfl) (by decide) rfl (fun ls hl => ?_)
        have fx_9 : x_9.toInt = u_1.toInt + 1 := by rw [ex_9]; exact cv_addI (by have : (1 : Int32).toInt = 1 := rfl; omega) (by have : (1 : Int32).toInt = 1 := rfl; omega)
        refine lv_goto (tgt := 3) hx hb dX12_copyRow_28 (by decide) ?_
        exact ihkey_3 x_9 f_8 _ _ _ (by omega) (cpr_step (n := 0) hcp9 (by assumption) (by assumption) (by omega) (by omega) (by omega) (by omega) (by decide) (by omega)) hP hD hS (lv_sub hl [0, 1, 2, 3, 4] rfl) (by omega)
  exact key_3 _ 0 f0 _ _ _ (by decide) cpr_zero hP hD hS (lv_sub hl [0, 1, 2, 3, 4] rfl) (Nat.lt_succ_self _)

/- X12_copyRow -/
set_option maxHeartbeats 4000000 in
set_option maxRecDepth 100000 in
theorem m_cp_has_03 (l : Launch) (dC : Nat → ClassId) (dI : Nat → Nat → Nat) (cyI cyB cyJ cyZ cyH cyN : ClassId) (sz : Nat) (r0 : Nat) (f0 : Nat → Int32) : Met l yX12_copyRow (wk yX12_copyRow cX12_copyRow 5 none) ({ frames := 1, cells := 0, slots := 0, locals := 60 }) (va_Pc [.ref r0, .int 4, .int 0, .int 3] (fun U => U.heap.size = sz ∧ va_P (dC, dI) vwCl [(r0, .inl (cyI, 20, .inl f0))] U.heap ∧ va_K (dC, dI) vwCl [(cyI, .int), (cyB, .byte), (cyJ, .long), (cyZ, .boolean), (cyH, .object RX2), (cyN, .array .long)] U ∧ va_D (fun _ => True) [(r0, .inl (cyI, 20, .inl f0))])) (va_Qv (fun _ : Unit => True) (fun (_ : Unit) (t : State) => ∃ y0 : Nat → Int32, (cpr 4 0 3 4 f0 y0) ∧ va_P (dC, dI) vwCl [(r0, .inl (cyI, 20, .inl y0))] t.heap ∧ va_D (va_A [(r0, .inl (cyI, 20, .inl f0))] sz) [(r0, .inl (cyI, 20, .inl y0))]) (va_A [(r0, .inl (cyI, 20, .inl f0))] sz)) 0 0 (va_A [(r0, .inl (cyI, 20, .inl f0))] sz) := by
  refine Met.ofW (cc := cX12_copyRow) (maxL := 5) (ret := none) (by decide) rfl ?_
  intro p e s m args below meth c s₁ B hml hv
  obtain ⟨rfl, hsz, hP, hK, hD0⟩ := hv
  have hx := B.exec
  have hb := B.bytes
  have hr := B.returns
  have hts : ∀ w ∈ uU, w.before ([.ref r0, .int 4, .int 0, .int 3] : List Value).toArray s = true := fun w h => atoms_spec (ws := wk yX12_copyRow cX12_copyRow 5 none) B.pre w (List.mem_cons_of_mem _ h)
  have hown : s.vm.findClass RX12 = some m.cls := findClass_of_methodNamed B.named
  have hlocks := B.notSynchronized
  subst hsz
  have hD := hD0.self (sz := s.heap.size)
  generalize hAe : va_A [(r0, .inl (cyI, 20, .inl f0))] s.heap.size = A at hD ⊢
  have hA : ∀ q : Nat, s.heap.size ≤ q → A q := fun q h => by rw [← hAe]; exact Or.inr h
  have hS : va_S A s.heap s.heap [] := va_S.rf
  have hP : va_P (dC, dI) vwCl [(r0, .inl (cyI, 20, .inl f0))] s.heap := hP
  have hl := lv_entry ([.ref r0, .int 4, .int 0, .int 3]) (n := 5) (Nat.le_of_ble_eq_true rfl)
  rw [lg_entry_eq]
  generalize (lg_sl ([.ref r0, .int 4, .int 0, .int 3]) ++ List.replicate (5 - (lg_sl ([.ref r0, .int 4, .int 0, .int 3])).length) Slot.unset).toArray = ls at hl ⊢
  have hl : lv_has ls 5 [(0, .ref r0), (1, .int 4), (2, .int 0), (3, .int 3)] := hl
  obtain ⟨H, hHe⟩ : ∃ H, H = s.heap := ⟨_, rfl⟩
  have hP : va_P (dC, dI) vwCl [(r0, .inl (cyI, 20, .inl f0))] H := by rw [hHe]; exact hP
  have hS : va_S A s.heap H [] := by rw [hHe]; exact hS
  refine cv_heap hHe ?_
  obtain ⟨Q9, hQ9⟩ : ∃ Q9 : State → Prop, Q9 = MQ below (va_Qv (fun _ : Unit => True) (fun (_ : Unit) (t : State) => ∃ y0 : Nat → Int32, (cpr 4 0 3 4 f0 y0) ∧ va_P (dC, dI) vwCl [(r0, .inl (cyI, 20, .inl y0))] t.heap ∧ va_D A [(r0, .inl (cyI, 20, .inl y0))]) A) ([.ref r0, .int 4, .int 0, .int 3] : List Value).toArray s 0 0 A := ⟨_, rfl⟩
  rw [← hQ9]
  refine lv_iconst (v := 0) hx hb dX12_copyRow_0 (by decide) ?_
  refine lv_istore (lv' := [(4, .int 0), (0, .ref r0), (1, .int 4), (2, .int 0), (3, .int 3)]) hx hb dX12_copyRow_1 hl (by decide) rfl (fun ls hl => ?_)
  have key_3 : ∀ (nkey_3 : Nat) (u_1 : Int32) (f_2 : Nat → Int32) (H : Heap) (locs : List Loc) (ls : Array Slot), (0 ≤ u_1.toInt ∧ u_1.toInt ≤ 4) → (cpr 4 0 3 u_1.toInt.toNat f0 f_2) → va_P (dC, dI) vwCl [(r0, .inl (cyI, 20, .inl f_2))] H → va_D A [(r0, .inl (cyI, 20, .inl f_2))] → va_S A s.heap H locs → lv_has ls 5 [(4, .int u_1), (0, .ref r0), (1, .int 4), (2, .int 0), (3, .int 3)] → (4 - u_1.toInt).toNat < nkey_3 → W p l e ({ frames := 1, cells := 0, slots := 0, locals := 60 }) s m ([.ref r0, .int 4, .int 0, .int 3] : List Value).toArray below meth c H locs 0 0 Q9 (F0 m 3 ls []) := by
    intro nkey_3
    induction nkey_3 with
    | zero => intro u_1 f_2 H locs ls hu_1 hcp9 hP hD hS hl hnkey_3; exact absurd hnkey_3 (Nat.not_lt_zero _)
    | succ nkey_3 ihkey_3 =>
      intro u_1 f_2 H locs ls hu_1 hcp9 hP hD hS hl hnkey_3
      refine lv_iload hx hb dX12_copyRow_3 (lv_at hl 0 rfl) ?_
      refine lv_iload_n hx hb dX12_copyRow_5 rfl (lv_at hl 2 rfl) ?_
      refine lv_icmp_ge (tgt := 31) hx hb dX12_copyRow_6 (by decide) (fun c_4 => ?_) (fun c_4 => ?_)
      · have c_4 : 4 ≤ u_1.toInt := cv_le c_4
        rw [hQ9]
        have hP9 := hP.sub (ws' := [(r0, .inl (cyI, 20, .inl f_2))]) [0] rfl
        have hD9 := hD.sub (ws' := [(r0, .inl (cyI, 20, .inl f_2))]) [0] (by decide) rfl
        exact W.vret hx hb hr (fun t ht hW => ⟨⟨(), rfl, trivial, ⟨f_2, (cpr_end hcp9 (by omega)), by rw [ht]; exact hP9, hD9⟩⟩, hS.F ht⟩) hS.2.2 dX12_copyRow_31
      · have c_4 : u_1.toInt < 4 := cv_nle c_4
        refine lv_aload_n hx hb dX12_copyRow_9 rfl (lv_at hl 1 rfl) ?_
        refine lv_iload_n hx hb dX12_copyRow_10 rfl (lv_at hl 2 rfl) ?_
        refine lv_iload_n hx hb dX12_copyRow_11 rfl (lv_at hl 4 rfl) ?_
        refine lv_imul hx hb dX12_copyRow_12 ?_
        refine cv_topi (b := 12) (by decide) ?_
        refine lv_iload hx hb dX12_copyRow_13 (lv_at hl 0 rfl) ?_
        refine lv_iadd hx hb dX12_copyRow_15 ?_
        refine lv_topi (fun x_5 ex_5 => ?_)
        have fx_5 : x_5.toInt = 12 + u_1.toInt := by rw [ex_5]; exact cv_addI (by have : (12 : Int32).toInt = 12 := rfl; omega) (by have : (12 : Int32).toInt = 12 := rfl; omega)
        refine lv_aload_n hx hb dX12_copyRow_16 rfl (lv_at hl 1 rfl) ?_
        refine lv_iload_n hx hb dX12_copyRow_17 rfl (lv_at hl 2 rfl) ?_
        refine lv_iload_n hx hb dX12_copyRow_18 rfl (lv_at hl 3 rfl) ?_
        refine lv_imul hx hb dX12_copyRow_19 ?_
        refine cv_topi (b := 0) (by decide) ?_
        refine lv_iload hx hb dX12_copyRow_20 (lv_at hl 0 rfl) ?_
        refine lv_iadd hx hb dX12_copyRow_22 ?_
        refine lv_topi (fun x_6 ex_6 => ?_)
        have fx_6 : x_6.toInt = 0 + u_1.toInt := by rw [ex_6]; exact cv_addI (by have : (0 : Int32).toInt = 0 := rfl; omega) (by have : (0 : Int32).toInt = 0 := rfl; omega)
        refine va_iald hx hb hK hP 0 0 rfl rfl (vp_in_iff.mpr (by omega)) dX12_copyRow_23 ?_
        refine lv_topi (fun x_7 ex_7 => ?_)
        refine va_iast hx hb hK hP hD hS 0 0 rfl rfl (vp_in_iff.mpr (by omega)) dX12_copyRow_24 (fun H locs hP hD hS => ?_)
        obtain ⟨f_8, ef_8⟩ : ∃ z9 : Nat → Int32, z9 = upd f_2 x_5.toNatClampNeg x_7 := ⟨_, rfl⟩
        rw [← ef_8] at hP hD
        have hP : va_P (dC, dI) vwCl [(r0, .inl (cyI, 20, .inl f_8))] H := hP
        have hD : va_D A [(r0, .inl (cyI, 20, .inl f_8))] := hD
        obtain ⟨x_9, ex_9⟩ : ∃ y : Int32, y = u_1 + 1 := ⟨_, rfl⟩
        refine lv_iinc (v := x_9) (lv' := [(4, .int x_9), (0, .ref r0), (1, .int 4), (2, .int 0), (3, .int 3)]) hx hb dX12_copyRow_25 hl (k := 0) rfl (by rw [ex_9]; rfl) (by decide) rfl (fun ls hl => ?_)
        have fx_9 : x_9.toInt = u_1.toInt + 1 := by rw [ex_9]; exact cv_addI (by have : (1 : Int32).toInt = 1 := rfl; omega) (by have : (1 : Int32).toInt = 1 := rfl; omega)
        refine lv_goto (tgt := 3) hx hb dX12_copyRow_28 (by decide) ?_
        exact ihkey_3 x_9 f_8 _ _ _ (by omega) (cpr_step (n := 0) hcp9 (by assumption) (by assumption) (by omega) (by omega) (by omega) (by omega) (by decide) (by omega)) hP hD hS (lv_sub hl [0, 1, 2, 3, 4] rfl) (by omega)
  exact key_3 _ 0 f0 _ _ _ (by decide) cpr_zero hP hD hS (lv_sub hl [0, 1, 2, 3, 4] rfl) (Nat.lt_succ_self _)

/- X12_copyRow -/
set_option maxHeartbeats 4000000 in
set_option maxRecDepth 100000 in
theorem m_cp_has_10 (l : Launch) (dC : Nat → ClassId) (dI : Nat → Nat → Nat) (cyI cyB cyJ cyZ cyH cyN : ClassId) (sz : Nat) (r0 : Nat) (f0 : Nat → Int32) : Met l yX12_copyRow (wk yX12_copyRow cX12_copyRow 5 none) ({ frames := 1, cells := 0, slots := 0, locals := 60 }) (va_Pc [.ref r0, .int 4, .int 1, .int 0] (fun U => U.heap.size = sz ∧ va_P (dC, dI) vwCl [(r0, .inl (cyI, 20, .inl f0))] U.heap ∧ va_K (dC, dI) vwCl [(cyI, .int), (cyB, .byte), (cyJ, .long), (cyZ, .boolean), (cyH, .object RX2), (cyN, .array .long)] U ∧ va_D (fun _ => True) [(r0, .inl (cyI, 20, .inl f0))])) (va_Qv (fun _ : Unit => True) (fun (_ : Unit) (t : State) => ∃ y0 : Nat → Int32, (cpr 4 1 0 4 f0 y0) ∧ va_P (dC, dI) vwCl [(r0, .inl (cyI, 20, .inl y0))] t.heap ∧ va_D (va_A [(r0, .inl (cyI, 20, .inl f0))] sz) [(r0, .inl (cyI, 20, .inl y0))]) (va_A [(r0, .inl (cyI, 20, .inl f0))] sz)) 0 0 (va_A [(r0, .inl (cyI, 20, .inl f0))] sz) := by
  refine Met.ofW (cc := cX12_copyRow) (maxL := 5) (ret := none) (by decide) rfl ?_
  intro p e s m args below meth c s₁ B hml hv
  obtain ⟨rfl, hsz, hP, hK, hD0⟩ := hv
  have hx := B.exec
  have hb := B.bytes
  have hr := B.returns
  have hts : ∀ w ∈ uU, w.before ([.ref r0, .int 4, .int 1, .int 0] : List Value).toArray s = true := fun w h => atoms_spec (ws := wk yX12_copyRow cX12_copyRow 5 none) B.pre w (List.mem_cons_of_mem _ h)
  have hown : s.vm.findClass RX12 = some m.cls := findClass_of_methodNamed B.named
  have hlocks := B.notSynchronized
  subst hsz
  have hD := hD0.self (sz := s.heap.size)
  generalize hAe : va_A [(r0, .inl (cyI, 20, .inl f0))] s.heap.size = A at hD ⊢
  have hA : ∀ q : Nat, s.heap.size ≤ q → A q := fun q h => by rw [← hAe]; exact Or.inr h
  have hS : va_S A s.heap s.heap [] := va_S.rf
  have hP : va_P (dC, dI) vwCl [(r0, .inl (cyI, 20, .inl f0))] s.heap := hP
  have hl := lv_entry ([.ref r0, .int 4, .int 1, .int 0]) (n := 5) (Nat.le_of_ble_eq_true rfl)
  rw [lg_entry_eq]
  generalize (lg_sl ([.ref r0, .int 4, .int 1, .int 0]) ++ List.replicate (5 - (lg_sl ([.ref r0, .int 4, .int 1, .int 0])).length) Slot.unset).toArray = ls at hl ⊢
  have hl : lv_has ls 5 [(0, .ref r0), (1, .int 4), (2, .int 1), (3, .int 0)] := hl
  obtain ⟨H, hHe⟩ : ∃ H, H = s.heap := ⟨_, rfl⟩
  have hP : va_P (dC, dI) vwCl [(r0, .inl (cyI, 20, .inl f0))] H := by rw [hHe]; exact hP
  have hS : va_S A s.heap H [] := by rw [hHe]; exact hS
  refine cv_heap hHe ?_
  obtain ⟨Q9, hQ9⟩ : ∃ Q9 : State → Prop, Q9 = MQ below (va_Qv (fun _ : Unit => True) (fun (_ : Unit) (t : State) => ∃ y0 : Nat → Int32, (cpr 4 1 0 4 f0 y0) ∧ va_P (dC, dI) vwCl [(r0, .inl (cyI, 20, .inl y0))] t.heap ∧ va_D A [(r0, .inl (cyI, 20, .inl y0))]) A) ([.ref r0, .int 4, .int 1, .int 0] : List Value).toArray s 0 0 A := ⟨_, rfl⟩
  rw [← hQ9]
  refine lv_iconst (v := 0) hx hb dX12_copyRow_0 (by decide) ?_
  refine lv_istore (lv' := [(4, .int 0), (0, .ref r0), (1, .int 4), (2, .int 1), (3, .int 0)]) hx hb dX12_copyRow_1 hl (by decide) rfl (fun ls hl => ?_)
  have key_3 : ∀ (nkey_3 : Nat) (u_1 : Int32) (f_2 : Nat → Int32) (H : Heap) (locs : List Loc) (ls : Array Slot), (0 ≤ u_1.toInt ∧ u_1.toInt ≤ 4) → (cpr 4 1 0 u_1.toInt.toNat f0 f_2) → va_P (dC, dI) vwCl [(r0, .inl (cyI, 20, .inl f_2))] H → va_D A [(r0, .inl (cyI, 20, .inl f_2))] → va_S A s.heap H locs → lv_has ls 5 [(4, .int u_1), (0, .ref r0), (1, .int 4), (2, .int 1), (3, .int 0)] → (4 - u_1.toInt).toNat < nkey_3 → W p l e ({ frames := 1, cells := 0, slots := 0, locals := 60 }) s m ([.ref r0, .int 4, .int 1, .int 0] : List Value).toArray below meth c H locs 0 0 Q9 (F0 m 3 ls []) := by
    intro nkey_3
    induction nkey_3 with
    | zero => intro u_1 f_2 H locs ls hu_1 hcp9 hP hD hS hl hnkey_3; exact absurd hnkey_3 (Nat.not_lt_zero _)
    | succ nkey_3 ihkey_3 =>
      intro u_1 f_2 H locs ls hu_1 hcp9 hP hD hS hl hnkey_3
      refine lv_iload hx hb dX12_copyRow_3 (lv_at hl 0 rfl) ?_
      refine lv_iload_n hx hb dX12_copyRow_5 rfl (lv_at hl 2 rfl) ?_
      refine lv_icmp_ge (tgt := 31) hx hb dX12_copyRow_6 (by decide) (fun c_4 => ?_) (fun c_4 => ?_)
      · have c_4 : 4 ≤ u_1.toInt := cv_le c_4
        rw [hQ9]
        have hP9 := hP.sub (ws' := [(r0, .inl (cyI, 20, .inl f_2))]) [0] rfl
        have hD9 := hD.sub (ws' := [(r0, .inl (cyI, 20, .inl f_2))]) [0] (by decide) rfl
        exact W.vret hx hb hr (fun t ht hW => ⟨⟨(), rfl, trivial, ⟨f_2, (cpr_end hcp9 (by omega)), by rw [ht]; exact hP9, hD9⟩⟩, hS.F ht⟩) hS.2.2 dX12_copyRow_31
      · have c_4 : u_1.toInt < 4 := cv_nle c_4
        refine lv_aload_n hx hb dX12_copyRow_9 rfl (lv_at hl 1 rfl) ?_
        refine lv_iload_n hx hb dX12_copyRow_10 rfl (lv_at hl 2 rfl) ?_
        refine lv_iload_n hx hb dX12_copyRow_11 rfl (lv_at hl 4 rfl) ?_
        refine lv_imul hx hb dX12_copyRow_12 ?_
        refine cv_topi (b := 0) (by decide) ?_
        refine lv_iload hx hb dX12_copyRow_13 (lv_at hl 0 rfl) ?_
        refine lv_iadd hx hb dX12_copyRow_15 ?_
        refine lv_topi (fun x_5 ex_5 => ?_)
        have fx_5 : x_5.toInt = 0 + u_1.toInt := by rw [ex_5]; exact cv_addI (by have : (0 : Int32).toInt = 0 := rfl; omega) (by have : (0 : Int32).toInt = 0 := rfl; omega)
        refine lv_aload_n hx hb dX12_copyRow_16 rfl (lv_at hl 1 rfl) ?_
        refine lv_iload_n hx hb dX12_copyRow_17 rfl (lv_at hl 2 rfl) ?_
        refine lv_iload_n hx hb dX12_copyRow_18 rfl (lv_at hl 3 rfl) ?_
        refine lv_imul hx hb dX12_copyRow_19 ?_
        refine cv_topi (b := 4) (by decide) ?_
        refine lv_iload hx hb dX12_copyRow_20 (lv_at hl 0 rfl) ?_
        refine lv_iadd hx hb dX12_copyRow_22 ?_
        refine lv_topi (fun x_6 ex_6 => ?_)
        have fx_6 : x_6.toInt = 4 + u_1.toInt := by rw [ex_6]; exact cv_addI (by have : (4 : Int32).toInt = 4 := rfl; omega) (by have : (4 : Int32).toInt = 4 := rfl; omega)
        refine va_iald hx hb hK hP 0 0 rfl rfl (vp_in_iff.mpr (by omega)) dX12_copyRow_23 ?_
        refine lv_topi (fun x_7 ex_7 => ?_)
        refine va_iast hx hb hK hP hD hS 0 0 rfl rfl (vp_in_iff.mpr (by omega)) dX12_copyRow_24 (fun H locs hP hD hS => ?_)
        obtain ⟨f_8, ef_8⟩ : ∃ z9 : Nat → Int32, z9 = upd f_2 x_5.toNatClampNeg x_7 := ⟨_, rfl⟩
        rw [← ef_8] at hP hD
        have hP : va_P (dC, dI) vwCl [(r0, .inl (cyI, 20, .inl f_8))] H := hP
        have hD : va_D A [(r0, .inl (cyI, 20, .inl f_8))] := hD
        obtain ⟨x_9, ex_9⟩ : ∃ y : Int32, y = u_1 + 1 := ⟨_, rfl⟩
        refine lv_iinc (v := x_9) (lv' := [(4, .int x_9), (0, .ref r0), (1, .int 4), (2, .int 1), (3, .int 0)]) hx hb dX12_copyRow_25 hl (k := 0) rfl (by rw [ex_9]; rfl) (by decide) rfl (fun ls hl => ?_)
        have fx_9 : x_9.toInt = u_1.toInt + 1 := by rw [ex_9]; exact cv_addI (by have : (1 : Int32).toInt = 1 := rfl; omega) (by have : (1 : Int32).toInt = 1 := rfl; omega)
        refine lv_goto (tgt := 3) hx hb dX12_copyRow_28 (by decide) ?_
        exact ihkey_3 x_9 f_8 _ _ _ (by omega) (cpr_step (n := 0) hcp9 (by assumption) (by assumption) (by omega) (by omega) (by omega) (by omega) (by decide) (by omega)) hP hD hS (lv_sub hl [0, 1, 2, 3, 4] rfl) (by omega)
  exact key_3 _ 0 f0 _ _ _ (by decide) cpr_zero hP hD hS (lv_sub hl [0, 1, 2, 3, 4] rfl) (Nat.lt_succ_self _)

/- X12_copyRow -/
set_option maxHeartbeats 4000000 in
set_option maxRecDepth 100000 in
theorem m_cp_has_20 (l : Launch) (dC : Nat → ClassId) (dI : Nat → Nat → Nat) (cyI cyB cyJ cyZ cyH cyN : ClassId) (sz : Nat) (r0 : Nat) (f0 : Nat → Int32) : Met l yX12_copyRow (wk yX12_copyRow cX12_copyRow 5 none) ({ frames := 1, cells := 0, slots := 0, locals := 60 }) (va_Pc [.ref r0, .int 4, .int 2, .int 0] (fun U => U.heap.size = sz ∧ va_P (dC, dI) vwCl [(r0, .inl (cyI, 20, .inl f0))] U.heap ∧ va_K (dC, dI) vwCl [(cyI, .int), (cyB, .byte), (cyJ, .long), (cyZ, .boolean), (cyH, .object RX2), (cyN, .array .long)] U ∧ va_D (fun _ => True) [(r0, .inl (cyI, 20, .inl f0))])) (va_Qv (fun _ : Unit => True) (fun (_ : Unit) (t : State) => ∃ y0 : Nat → Int32, (cpr 4 2 0 4 f0 y0) ∧ va_P (dC, dI) vwCl [(r0, .inl (cyI, 20, .inl y0))] t.heap ∧ va_D (va_A [(r0, .inl (cyI, 20, .inl f0))] sz) [(r0, .inl (cyI, 20, .inl y0))]) (va_A [(r0, .inl (cyI, 20, .inl f0))] sz)) 0 0 (va_A [(r0, .inl (cyI, 20, .inl f0))] sz) := by
  refine Met.ofW (cc := cX12_copyRow) (maxL := 5) (ret := none) (by decide) rfl ?_
  intro p e s m args below meth c s₁ B hml hv
  obtain ⟨rfl, hsz, hP, hK, hD0⟩ := hv
  have hx := B.exec
  have hb := B.bytes
  have hr := B.returns
  have hts : ∀ w ∈ uU, w.before ([.ref r0, .int 4, .int 2, .int 0] : List Value).toArray s = true := fun w h => atoms_spec (ws := wk yX12_copyRow cX12_copyRow 5 none) B.pre w (List.mem_cons_of_mem _ h)
  have hown : s.vm.findClass RX12 = some m.cls := findClass_of_methodNamed B.named
  have hlocks := B.notSynchronized
  subst hsz
  have hD := hD0.self (sz := s.heap.size)
  generalize hAe : va_A [(r0, .inl (cyI, 20, .inl f0))] s.heap.size = A at hD ⊢
  have hA : ∀ q : Nat, s.heap.size ≤ q → A q := fun q h => by rw [← hAe]; exact Or.inr h
  have hS : va_S A s.heap s.heap [] := va_S.rf
  have hP : va_P (dC, dI) vwCl [(r0, .inl (cyI, 20, .inl f0))] s.heap := hP
  have hl := lv_entry ([.ref r0, .int 4, .int 2, .int 0]) (n := 5) (Nat.le_of_ble_eq_true rfl)
  rw [lg_entry_eq]
  generalize (lg_sl ([.ref r0, .int 4, .int 2, .int 0]) ++ List.replicate (5 - (lg_sl ([.ref r0, .int 4, .int 2, .int 0])).length) Slot.unset).toArray = ls at hl ⊢
  have hl : lv_has ls 5 [(0, .ref r0), (1, .int 4), (2, .int 2), (3, .int 0)] := hl
  obtain ⟨H, hHe⟩ : ∃ H, H = s.heap := ⟨_, rfl⟩
  have hP : va_P (dC, dI) vwCl [(r0, .inl (cyI, 20, .inl f0))] H := by rw [hHe]; exact hP
  have hS : va_S A s.heap H [] := by rw [hHe]; exact hS
  refine cv_heap hHe ?_
  obtain ⟨Q9, hQ9⟩ : ∃ Q9 : State → Prop, Q9 = MQ below (va_Qv (fun _ : Unit => True) (fun (_ : Unit) (t : State) => ∃ y0 : Nat → Int32, (cpr 4 2 0 4 f0 y0) ∧ va_P (dC, dI) vwCl [(r0, .inl (cyI, 20, .inl y0))] t.heap ∧ va_D A [(r0, .inl (cyI, 20, .inl y0))]) A) ([.ref r0, .int 4, .int 2, .int 0] : List Value).toArray s 0 0 A := ⟨_, rfl⟩
  rw [← hQ9]
  refine lv_iconst (v := 0) hx hb dX12_copyRow_0 (by decide) ?_
  refine lv_istore (lv' := [(4, .int 0), (0, .ref r0), (1, .int 4), (2, .int 2), (3, .int 0)]) hx hb dX12_copyRow_1 hl (by decide) rfl (fun ls hl => ?_)
  have key_3 : ∀ (nkey_3 : Nat) (u_1 : Int32) (f_2 : Nat → Int32) (H : Heap) (locs : List Loc) (ls : Array Slot), (0 ≤ u_1.toInt ∧ u_1.toInt ≤ 4) → (cpr 4 2 0 u_1.toInt.toNat f0 f_2) → va_P (dC, dI) vwCl [(r0, .inl (cyI, 20, .inl f_2))] H → va_D A [(r0, .inl (cyI, 20, .inl f_2))] → va_S A s.heap H locs → lv_has ls 5 [(4, .int u_1), (0, .ref r0), (1, .int 4), (2, .int 2), (3, .int 0)] → (4 - u_1.toInt).toNat < nkey_3 → W p l e ({ frames := 1, cells := 0, slots := 0, locals := 60 }) s m ([.ref r0, .int 4, .int 2, .int 0] : List Value).toArray below meth c H locs 0 0 Q9 (F0 m 3 ls []) := by
    intro nkey_3
    induction nkey_3 with
    | zero => intro u_1 f_2 H locs ls hu_1 hcp9 hP hD hS hl hnkey_3; exact absurd hnkey_3 (Nat.not_lt_zero _)
    | succ nkey_3 ihkey_3 =>
      intro u_1 f_2 H locs ls hu_1 hcp9 hP hD hS hl hnkey_3
      refine lv_iload hx hb dX12_copyRow_3 (lv_at hl 0 rfl) ?_
      refine lv_iload_n hx hb dX12_copyRow_5 rfl (lv_at hl 2 rfl) ?_
      refine lv_icmp_ge (tgt := 31) hx hb dX12_copyRow_6 (by decide) (fun c_4 => ?_) (fun c_4 => ?_)
      · have c_4 : 4 ≤ u_1.toInt := cv_le c_4
        rw [hQ9]
        have hP9 := hP.sub (ws' := [(r0, .inl (cyI, 20, .inl f_2))]) [0] rfl
        have hD9 := hD.sub (ws' := [(r0, .inl (cyI, 20, .inl f_2))]) [0] (by decide) rfl
        exact W.vret hx hb hr (fun t ht hW => ⟨⟨(), rfl, trivial, ⟨f_2, (cpr_end hcp9 (by omega)), by rw [ht]; exact hP9, hD9⟩⟩, hS.F ht⟩) hS.2.2 dX12_copyRow_31
      · have c_4 : u_1.toInt < 4 := cv_nle c_4
        refine lv_aload_n hx hb dX12_copyRow_9 rfl (lv_at hl 1 rfl) ?_
        refine lv_iload_n hx hb dX12_copyRow_10 rfl (lv_at hl 2 rfl) ?_
        refine lv_iload_n hx hb dX12_copyRow_11 rfl (lv_at hl 4 rfl) ?_
        refine lv_imul hx hb dX12_copyRow_12 ?_
        refine cv_topi (b := 0) (by decide) ?_
        refine lv_iload hx hb dX12_copyRow_13 (lv_at hl 0 rfl) ?_
        refine lv_iadd hx hb dX12_copyRow_15 ?_
        refine lv_topi (fun x_5 ex_5 => ?_)
        have fx_5 : x_5.toInt = 0 + u_1.toInt := by rw [ex_5]; exact cv_addI (by have : (0 : Int32).toInt = 0 := rfl; omega) (by have : (0 : Int32).toInt = 0 := rfl; omega)
        refine lv_aload_n hx hb dX12_copyRow_16 rfl (lv_at hl 1 rfl) ?_
        refine lv_iload_n hx hb dX12_copyRow_17 rfl (lv_at hl 2 rfl) ?_
        refine lv_iload_n hx hb dX12_copyRow_18 rfl (lv_at hl 3 rfl) ?_
        refine lv_imul hx hb dX12_copyRow_19 ?_
        refine cv_topi (b := 8) (by decide) ?_
        refine lv_iload hx hb dX12_copyRow_20 (lv_at hl 0 rfl) ?_
        refine lv_iadd hx hb dX12_copyRow_22 ?_
        refine lv_topi (fun x_6 ex_6 => ?_)
        have fx_6 : x_6.toInt = 8 + u_1.toInt := by rw [ex_6]; exact cv_addI (by have : (8 : Int32).toInt = 8 := rfl; omega) (by have : (8 : Int32).toInt = 8 := rfl; omega)
        refine va_iald hx hb hK hP 0 0 rfl rfl (vp_in_iff.mpr (by omega)) dX12_copyRow_23 ?_
        refine lv_topi (fun x_7 ex_7 => ?_)
        refine va_iast hx hb hK hP hD hS 0 0 rfl rfl (vp_in_iff.mpr (by omega)) dX12_copyRow_24 (fun H locs hP hD hS => ?_)
        obtain ⟨f_8, ef_8⟩ : ∃ z9 : Nat → Int32, z9 = upd f_2 x_5.toNatClampNeg x_7 := ⟨_, rfl⟩
        rw [← ef_8] at hP hD
        have hP : va_P (dC, dI) vwCl [(r0, .inl (cyI, 20, .inl f_8))] H := hP
        have hD : va_D A [(r0, .inl (cyI, 20, .inl f_8))] := hD
        obtain ⟨x_9, ex_9⟩ : ∃ y : Int32, y = u_1 + 1 := ⟨_, rfl⟩
        refine lv_iinc (v := x_9) (lv' := [(4, .int x_9), (0, .ref r0), (1, .int 4), (2, .int 2), (3, .int 0)]) hx hb dX12_copyRow_25 hl (k := 0) rfl (by rw [ex_9]; rfl) (by decide) rfl (fun ls hl => ?_)
        have fx_9 : x_9.toInt = u_1.toInt + 1 := by rw [ex_9]; exact cv_addI (by have : (1 : Int32).toInt = 1 := rfl; omega) (by have : (1 : Int32).toInt = 1 := rfl; omega)
        refine lv_goto (tgt := 3) hx hb dX12_copyRow_28 (by decide) ?_
        exact ihkey_3 x_9 f_8 _ _ _ (by omega) (cpr_step (n := 0) hcp9 (by assumption) (by assumption) (by omega) (by omega) (by omega) (by omega) (by decide) (by omega)) hP hD hS (lv_sub hl [0, 1, 2, 3, 4] rfl) (by omega)
  exact key_3 _ 0 f0 _ _ _ (by decide) cpr_zero hP hD hS (lv_sub hl [0, 1, 2, 3, 4] rfl) (Nat.lt_succ_self _)

/- X12_copyRow -/
set_option maxHeartbeats 4000000 in
set_option maxRecDepth 100000 in
theorem m_cp_has_30 (l : Launch) (dC : Nat → ClassId) (dI : Nat → Nat → Nat) (cyI cyB cyJ cyZ cyH cyN : ClassId) (sz : Nat) (r0 : Nat) (f0 : Nat → Int32) : Met l yX12_copyRow (wk yX12_copyRow cX12_copyRow 5 none) ({ frames := 1, cells := 0, slots := 0, locals := 60 }) (va_Pc [.ref r0, .int 4, .int 3, .int 0] (fun U => U.heap.size = sz ∧ va_P (dC, dI) vwCl [(r0, .inl (cyI, 20, .inl f0))] U.heap ∧ va_K (dC, dI) vwCl [(cyI, .int), (cyB, .byte), (cyJ, .long), (cyZ, .boolean), (cyH, .object RX2), (cyN, .array .long)] U ∧ va_D (fun _ => True) [(r0, .inl (cyI, 20, .inl f0))])) (va_Qv (fun _ : Unit => True) (fun (_ : Unit) (t : State) => ∃ y0 : Nat → Int32, (cpr 4 3 0 4 f0 y0) ∧ va_P (dC, dI) vwCl [(r0, .inl (cyI, 20, .inl y0))] t.heap ∧ va_D (va_A [(r0, .inl (cyI, 20, .inl f0))] sz) [(r0, .inl (cyI, 20, .inl y0))]) (va_A [(r0, .inl (cyI, 20, .inl f0))] sz)) 0 0 (va_A [(r0, .inl (cyI, 20, .inl f0))] sz) := by
  refine Met.ofW (cc := cX12_copyRow) (maxL := 5) (ret := none) (by decide) rfl ?_
  intro p e s m args below meth c s₁ B hml hv
  obtain ⟨rfl, hsz, hP, hK, hD0⟩ := hv
  have hx := B.exec
  have hb := B.bytes
  have hr := B.returns
  have hts : ∀ w ∈ uU, w.before ([.ref r0, .int 4, .int 3, .int 0] : List Value).toArray s = true := fun w h => atoms_spec (ws := wk yX12_copyRow cX12_copyRow 5 none) B.pre w (List.mem_cons_of_mem _ h)
  have hown : s.vm.findClass RX12 = some m.cls := findClass_of_methodNamed B.named
  have hlocks := B.notSynchronized
  subst hsz
  have hD := hD0.self (sz := s.heap.size)
  generalize hAe : va_A [(r0, .inl (cyI, 20, .inl f0))] s.heap.size = A at hD ⊢
  have hA : ∀ q : Nat, s.heap.size ≤ q → A q := fun q h => by rw [← hAe]; exact Or.inr h
  have hS : va_S A s.heap s.heap [] := va_S.rf
  have hP : va_P (dC, dI) vwCl [(r0, .inl (cyI, 20, .inl f0))] s.heap := hP
  have hl := lv_entry ([.ref r0, .int 4, .int 3, .int 0]) (n := 5) (Nat.le_of_ble_eq_true rfl)
  rw [lg_entry_eq]
  generalize (lg_sl ([.ref r0, .int 4, .int 3, .int 0]) ++ List.replicate (5 - (lg_sl ([.ref r0, .int 4, .int 3, .int 0])).length) Slot.unset).toArray = ls at hl ⊢
  have hl : lv_has ls 5 [(0, .ref r0), (1, .int 4), (2, .int 3), (3, .int 0)] := hl
  obtain ⟨H, hHe⟩ : ∃ H, H = s.heap := ⟨_, rfl⟩
  have hP : va_P (dC, dI) vwCl [(r0, .inl (cyI, 20, .inl f0))] H := by rw [hHe]; exact hP
  have hS : va_S A s.heap H [] := by rw [hHe]; exact hS
  refine cv_heap hHe ?_
  obtain ⟨Q9, hQ9⟩ : ∃ Q9 : State → Prop, Q9 = MQ below (va_Qv (fun _ : Unit => True) (fun (_ : Unit) (t : State) => ∃ y0 : Nat → Int32, (cpr 4 3 0 4 f0 y0) ∧ va_P (dC, dI) vwCl [(r0, .inl (cyI, 20, .inl y0))] t.heap ∧ va_D A [(r0, .inl (cyI, 20, .inl y0))]) A) ([.ref r0, .int 4, .int 3, .int 0] : List Value).toArray s 0 0 A := ⟨_, rfl⟩
  rw [← hQ9]
  refine lv_iconst (v := 0) hx hb dX12_copyRow_0 (by decide) ?_
  refine lv_istore (lv' := [(4, .int 0), (0, .ref r0), (1, .int 4), (2, .int 3), (3, .int 0)]) hx hb dX12_copyRow_1 hl (by decide) rfl (fun ls hl => ?_)
  have key_3 : ∀ (nkey_3 : Nat) (u_1 : Int32) (f_2 : Nat → Int32) (H : Heap) (locs : List Loc) (ls : Array Slot), (0 ≤ u_1.toInt ∧ u_1.toInt ≤ 4) → (cpr 4 3 0 u_1.toInt.toNat f0 f_2) → va_P (dC, dI) vwCl [(r0, .inl (cyI, 20, .inl f_2))] H → va_D A [(r0, .inl (cyI, 20, .inl f_2))] → va_S A s.heap H locs → lv_has ls 5 [(4, .int u_1), (0, .ref r0), (1, .int 4), (2, .int 3), (3, .int 0)] → (4 - u_1.toInt).toNat < nkey_3 → W p l e ({ frames := 1, cells := 0, slots := 0, locals := 60 }) s m ([.ref r0, .int 4, .int 3, .int 0] : List Value).toArray below meth c H locs 0 0 Q9 (F0 m 3 ls []) := by
    intro nkey_3
    induction nkey_3 with
    | zero => intro u_1 f_2 H locs ls hu_1 hcp9 hP hD hS hl hnkey_3; exact absurd hnkey_3 (Nat.not_lt_zero _)
    | succ nkey_3 ihkey_3 =>
      intro u_1 f_2 H locs ls hu_1 hcp9 hP hD hS hl hnkey_3
      refine lv_iload hx hb dX12_copyRow_3 (lv_at hl 0 rfl) ?_
      refine lv_iload_n hx hb dX12_copyRow_5 rfl (lv_at hl 2 rfl) ?_
      refine lv_icmp_ge (tgt := 31) hx hb dX12_copyRow_6 (by decide) (fun c_4 => ?_) (fun c_4 => ?_)
      · have c_4 : 4 ≤ u_1.toInt := cv_le c_4
        rw [hQ9]
        have hP9 := hP.sub (ws' := [(r0, .inl (cyI, 20, .inl f_2))]) [0] rfl
        have hD9 := hD.sub (ws' := [(r0, .inl (cyI, 20, .inl f_2))]) [0] (by decide) rfl
        exact W.vret hx hb hr (fun t ht hW => ⟨⟨(), rfl, trivial, ⟨f_2, (cpr_end hcp9 (by omega)), by rw [ht]; exact hP9, hD9⟩⟩, hS.F ht⟩) hS.2.2 dX12_copyRow_31
      · have c_4 : u_1.toInt < 4 := cv_nle c_4
        refine lv_aload_n hx hb dX12_copyRow_9 rfl (lv_at hl 1 rfl) ?_
        refine lv_iload_n hx hb dX12_copyRow_10 rfl (lv_at hl 2 rfl) ?_
        refine lv_iload_n hx hb dX12_copyRow_11 rfl (lv_at hl 4 rfl) ?_
        refine lv_imul hx hb dX12_copyRow_12 ?_
        refine cv_topi (b := 0) (by decide) ?_
        refine lv_iload hx hb dX12_copyRow_13 (lv_at hl 0 rfl) ?_
        refine lv_iadd hx hb dX12_copyRow_15 ?_
        refine lv_topi (fun x_5 ex_5 => ?_)
        have fx_5 : x_5.toInt = 0 + u_1.toInt := by rw [ex_5]; exact cv_addI (by have : (0 : Int32).toInt = 0 := rfl; omega) (by have : (0 : Int32).toInt = 0 := rfl; omega)
        refine lv_aload_n hx hb dX12_copyRow_16 rfl (lv_at hl 1 rfl) ?_
        refine lv_iload_n hx hb dX12_copyRow_17 rfl (lv_at hl 2 rfl) ?_
        refine lv_iload_n hx hb dX12_copyRow_18 rfl (lv_at hl 3 rfl) ?_
        refine lv_imul hx hb dX12_copyRow_19 ?_
        refine cv_topi (b := 12) (by decide) ?_
        refine lv_iload hx hb dX12_copyRow_20 (lv_at hl 0 rfl) ?_
        refine lv_iadd hx hb dX12_copyRow_22 ?_
        refine lv_topi (fun x_6 ex_6 => ?_)
        have fx_6 : x_6.toInt = 12 + u_1.toInt := by rw [ex_6]; exact cv_addI (by have : (12 : Int32).toInt = 12 := rfl; omega) (by have : (12 : Int32).toInt = 12 := rfl; omega)
        refine va_iald hx hb hK hP 0 0 rfl rfl (vp_in_iff.mpr (by omega)) dX12_copyRow_23 ?_
        refine lv_topi (fun x_7 ex_7 => ?_)
        refine va_iast hx hb hK hP hD hS 0 0 rfl rfl (vp_in_iff.mpr (by omega)) dX12_copyRow_24 (fun H locs hP hD hS => ?_)
        obtain ⟨f_8, ef_8⟩ : ∃ z9 : Nat → Int32, z9 = upd f_2 x_5.toNatClampNeg x_7 := ⟨_, rfl⟩
        rw [← ef_8] at hP hD
        have hP : va_P (dC, dI) vwCl [(r0, .inl (cyI, 20, .inl f_8))] H := hP
        have hD : va_D A [(r0, .inl (cyI, 20, .inl f_8))] := hD
        obtain ⟨x_9, ex_9⟩ : ∃ y : Int32, y = u_1 + 1 := ⟨_, rfl⟩
        refine lv_iinc (v := x_9) (lv' := [(4, .int x_9), (0, .ref r0), (1, .int 4), (2, .int 3), (3, .int 0)]) hx hb dX12_copyRow_25 hl (k := 0) rfl (by rw [ex_9]; rfl) (by decide) rfl (fun ls hl => ?_)
        have fx_9 : x_9.toInt = u_1.toInt + 1 := by rw [ex_9]; exact cv_addI (by have : (1 : Int32).toInt = 1 := rfl; omega) (by have : (1 : Int32).toInt = 1 := rfl; omega)
        refine lv_goto (tgt := 3) hx hb dX12_copyRow_28 (by decide) ?_
        exact ihkey_3 x_9 f_8 _ _ _ (by omega) (cpr_step (n := 0) hcp9 (by assumption) (by assumption) (by omega) (by omega) (by omega) (by omega) (by decide) (by omega)) hP hD hS (lv_sub hl [0, 1, 2, 3, 4] rfl) (by omega)
  exact key_3 _ 0 f0 _ _ _ (by decide) cpr_zero hP hD hS (lv_sub hl [0, 1, 2, 3, 4] rfl) (Nat.lt_succ_self _)

/- X12_copyRow -/
set_option maxHeartbeats 4000000 in
set_option maxRecDepth 100000 in
theorem m_cp_told_40 (l : Launch) (dC : Nat → ClassId) (dI : Nat → Nat → Nat) (cyI cyB cyJ cyZ cyH cyN : ClassId) (sz : Nat) (r0 : Nat) (f0 : Nat → Int32) (g0 : rg 0 6 35 f0) : Met l yX12_copyRow (wk yX12_copyRow cX12_copyRow 5 none) ({ frames := 1, cells := 0, slots := 0, locals := 60 }) (va_Pc [.ref r0, .int 7, .int 4, .int 0] (fun U => U.heap.size = sz ∧ va_P (dC, dI) vwCl [(r0, .inl (cyI, 35, .inl f0))] U.heap ∧ va_K (dC, dI) vwCl [(cyI, .int), (cyB, .byte), (cyJ, .long), (cyZ, .boolean), (cyH, .object RX2), (cyN, .array .long)] U ∧ va_D (fun _ => True) [(r0, .inl (cyI, 35, .inl f0))])) (va_Qv (fun _ : Unit => True) (fun (_ : Unit) (t : State) => ∃ y0 : Nat → Int32, (rg 0 6 35 y0) ∧ (cpr 7 4 0 7 f0 y0) ∧ va_P (dC, dI) vwCl [(r0, .inl (cyI, 35, .inl y0))] t.heap ∧ va_D (va_A [(r0, .inl (cyI, 35, .inl f0))] sz) [(r0, .inl (cyI, 35, .inl y0))]) (va_A [(r0, .inl (cyI, 35, .inl f0))] sz)) 0 0 (va_A [(r0, .inl (cyI, 35, .inl f0))] sz) := by
  refine Met.ofW (cc := cX12_copyRow) (maxL := 5) (ret := none) (by decide) rfl ?_
  intro p e s m args below meth c s₁ B hml hv
  obtain ⟨rfl, hsz, hP, hK, hD0⟩ := hv
  have hx := B.exec
  have hb := B.bytes
  have hr := B.returns
  have hts : ∀ w ∈ uU, w.before ([.ref r0, .int 7, .int 4, .int 0] : List Value).toArray s = true := fun w h => atoms_spec (ws := wk yX12_copyRow cX12_copyRow 5 none) B.pre w (List.mem_cons_of_mem _ h)
  have hown : s.vm.findClass RX12 = some m.cls := findClass_of_methodNamed B.named
  have hlocks := B.notSynchronized
  subst hsz
  have hD := hD0.self (sz := s.heap.size)
  generalize hAe : va_A [(r0, .inl (cyI, 35, .inl f0))] s.heap.size = A at hD ⊢
  have hA : ∀ q : Nat, s.heap.size ≤ q → A q := fun q h => by rw [← hAe]; exact Or.inr h
  have hS : va_S A s.heap s.heap [] := va_S.rf
  have hP : va_P (dC, dI) vwCl [(r0, .inl (cyI, 35, .inl f0))] s.heap := hP
  have hl := lv_entry ([.ref r0, .int 7, .int 4, .int 0]) (n := 5) (Nat.le_of_ble_eq_true rfl)
  rw [lg_entry_eq]
  generalize (lg_sl ([.ref r0, .int 7, .int 4, .int 0]) ++ List.replicate (5 - (lg_sl ([.ref r0, .int 7, .int 4, .int 0])).length) Slot.unset).toArray = ls at hl ⊢
  have hl : lv_has ls 5 [(0, .ref r0), (1, .int 7), (2, .int 4), (3, .int 0)] := hl
  obtain ⟨H, hHe⟩ : ∃ H, H = s.heap := ⟨_, rfl⟩
  have hP : va_P (dC, dI) vwCl [(r0, .inl (cyI, 35, .inl f0))] H := by rw [hHe]; exact hP
  have hS : va_S A s.heap H [] := by rw [hHe]; exact hS
  refine cv_heap hHe ?_
  obtain ⟨Q9, hQ9⟩ : ∃ Q9 : State → Prop, Q9 = MQ below (va_Qv (fun _ : Unit => True) (fun (_ : Unit) (t : State) => ∃ y0 : Nat → Int32, (rg 0 6 35 y0) ∧ (cpr 7 4 0 7 f0 y0) ∧ va_P (dC, dI) vwCl [(r0, .inl (cyI, 35, .inl y0))] t.heap ∧ va_D A [(r0, .inl (cyI, 35, .inl y0))]) A) ([.ref r0, .int 7, .int 4, .int 0] : List Value).toArray s 0 0 A := ⟨_, rfl⟩
  rw [← hQ9]
  refine lv_iconst (v := 0) hx hb dX12_copyRow_0 (by decide) ?_
  refine lv_istore (lv' := [(4, .int 0), (0, .ref r0), (1, .int 7), (2, .int 4), (3, .int 0)]) hx hb dX12_copyRow_1 hl (by decide) rfl (fun ls hl => ?_)
  have key_3 : ∀ (nkey_3 : Nat) (u_1 : Int32) (f_2 : Nat → Int32) (H : Heap) (locs : List Loc) (ls : Array Slot), (0 ≤ u_1.toInt ∧ u_1.toInt ≤ 7) → rg 0 6 35 f_2 → (cpr 7 4 0 u_1.toInt.toNat f0 f_2) → va_P (dC, dI) vwCl [(r0, .inl (cyI, 35, .inl f_2))] H → va_D A [(r0, .inl (cyI, 35, .inl f_2))] → va_S A s.heap H locs → lv_has ls 5 [(4, .int u_1), (0, .ref r0), (1, .int 7), (2, .int 4), (3, .int 0)] → (7 - u_1.toInt).toNat < nkey_3 → W p l e ({ frames := 1, cells := 0, slots := 0, locals := 60 }) s m ([.ref r0, .int 7, .int 4, .int 0] : List Value).toArray below meth c H locs 0 0 Q9 (F0 m 3 ls []) := by
    intro nkey_3
    induction nkey_3 with
    | zero => intro u_1 f_2 H locs ls hu_1 hf_2 hcp9 hP hD hS hl hnkey_3; exact absurd hnkey_3 (Nat.not_lt_zero _)
    | succ nkey_3 ihkey_3 =>
      intro u_1 f_2 H locs ls hu_1 hf_2 hcp9 hP hD hS hl hnkey_3
      refine lv_iload hx hb dX12_copyRow_3 (lv_at hl 0 rfl) ?_
      refine lv_iload_n hx hb dX12_copyRow_5 rfl (lv_at hl 2 rfl) ?_
      refine lv_icmp_ge (tgt := 31) hx hb dX12_copyRow_6 (by decide) (fun c_4 => ?_) (fun c_4 => ?_)
      · have c_4 : 7 ≤ u_1.toInt := cv_le c_4
        rw [hQ9]
        have hP9 := hP.sub (ws' := [(r0, .inl (cyI, 35, .inl f_2))]) [0] rfl
        have hD9 := hD.sub (ws' := [(r0, .inl (cyI, 35, .inl f_2))]) [0] (by decide) rfl
        exact W.vret hx hb hr (fun t ht hW => ⟨⟨(), rfl, trivial, ⟨f_2, hf_2, (cpr_end hcp9 (by omega)), by rw [ht]; exact hP9, hD9⟩⟩, hS.F ht⟩) hS.2.2 dX12_copyRow_31
      · have c_4 : u_1.toInt < 7 := cv_nle c_4
        refine lv_aload_n hx hb dX12_copyRow_9 rfl (lv_at hl 1 rfl) ?_
        refine lv_iload_n hx hb dX12_copyRow_10 rfl (lv_at hl 2 rfl) ?_
        refine lv_iload_n hx hb dX12_copyRow_11 rfl (lv_at hl 4 rfl) ?_
        refine lv_imul hx hb dX12_copyRow_12 ?_
        refine cv_topi (b := 0) (by decide) ?_
        refine lv_iload hx hb dX12_copyRow_13 (lv_at hl 0 rfl) ?_
        refine lv_iadd hx hb dX12_copyRow_15 ?_
        refine lv_topi (fun x_5 ex_5 => ?_)
        have fx_5 : x_5.toInt = 0 + u_1.toInt := by rw [ex_5]; exact cv_addI (by have : (0 : Int32).toInt = 0 := rfl; omega) (by have : (0 : Int32).toInt = 0 := rfl; omega)
        refine lv_aload_n hx hb dX12_copyRow_16 rfl (lv_at hl 1 rfl) ?_
        refine lv_iload_n hx hb dX12_copyRow_17 rfl (lv_at hl 2 rfl) ?_
        refine lv_iload_n hx hb dX12_copyRow_18 rfl (lv_at hl 3 rfl) ?_
        refine lv_imul hx hb dX12_copyRow_19 ?_
        refine cv_topi (b := 28) (by decide) ?_
        refine lv_iload hx hb dX12_copyRow_20 (lv_at hl 0 rfl) ?_
        refine lv_iadd hx hb dX12_copyRow_22 ?_
        refine lv_topi (fun x_6 ex_6 => ?_)
        have fx_6 : x_6.toInt = 28 + u_1.toInt := by rw [ex_6]; exact cv_addI (by have : (28 : Int32).toInt = 28 := rfl; omega) (by have : (28 : Int32).toInt = 28 := rfl; omega)
        refine va_iald hx hb hK hP 0 0 rfl rfl (vp_in_iff.mpr (by omega)) dX12_copyRow_23 ?_
        refine lv_topi (fun x_7 ex_7 => ?_)
        have fx_7 : 0 ≤ x_7.toInt ∧ x_7.toInt ≤ 6 := by rw [ex_7]; exact hf_2 _ (cv_ix (by omega) (by omega))
        refine va_iast hx hb hK hP hD hS 0 0 rfl rfl (vp_in_iff.mpr (by omega)) dX12_copyRow_24 (fun H locs hP hD hS => ?_)
        obtain ⟨f_8, ef_8⟩ : ∃ z9 : Nat → Int32, z9 = upd f_2 x_5.toNatClampNeg x_7 := ⟨_, rfl⟩
        rw [← ef_8] at hP hD
        have hP : va_P (dC, dI) vwCl [(r0, .inl (cyI, 35, .inl f_8))] H := hP
        have hD : va_D A [(r0, .inl (cyI, 35, .inl f_8))] := hD
        have hf_8 : rg 0 6 35 f_8 := by rw [ef_8]; exact rg_upd (hf_2) ⟨by omega, by omega⟩
        obtain ⟨x_9, ex_9⟩ : ∃ y : Int32, y = u_1 + 1 := ⟨_, rfl⟩
        refine lv_iinc (v := x_9) (lv' := [(4, .int x_9), (0, .ref r0), (1, .int 7), (2, .int 4), (3, .int 0)]) hx hb dX12_copyRow_25 hl (k := 0) rfl (by rw [ex_9]; rfl) (by decide) rfl (fun ls hl => ?_)
        have fx_9 : x_9.toInt = u_1.toInt + 1 := by rw [ex_9]; exact cv_addI (by have : (1 : Int32).toInt = 1 := rfl; omega) (by have : (1 : Int32).toInt = 1 := rfl; omega)
        refine lv_goto (tgt := 3) hx hb dX12_copyRow_28 (by decide) ?_
        exact ihkey_3 x_9 f_8 _ _ _ (by omega) hf_8 (cpr_step (n := 0) hcp9 (by assumption) (by assumption) (by omega) (by omega) (by omega) (by omega) (by decide) (by omega)) hP hD hS (lv_sub hl [0, 1, 2, 3, 4] rfl) (by omega)
  exact key_3 _ 0 f0 _ _ _ (by decide) g0 cpr_zero hP hD hS (lv_sub hl [0, 1, 2, 3, 4] rfl) (Nat.lt_succ_self _)

/- X12_copyRow -/
set_option maxHeartbeats 4000000 in
set_option maxRecDepth 100000 in
theorem m_cp_told_01 (l : Launch) (dC : Nat → ClassId) (dI : Nat → Nat → Nat) (cyI cyB cyJ cyZ cyH cyN : ClassId) (sz : Nat) (r0 : Nat) (f0 : Nat → Int32) (g0 : rg 0 6 35 f0) : Met l yX12_copyRow (wk yX12_copyRow cX12_copyRow 5 none) ({ frames := 1, cells := 0, slots := 0, locals := 60 }) (va_Pc [.ref r0, .int 7, .int 0, .int 1] (fun U => U.heap.size = sz ∧ va_P (dC, dI) vwCl [(r0, .inl (cyI, 35, .inl f0))] U.heap ∧ va_K (dC, dI) vwCl [(cyI, .int), (cyB, .byte), (cyJ, .long), (cyZ, .boolean), (cyH, .object RX2), (cyN, .array .long)] U ∧ va_D (fun _ => True) [(r0, .inl (cyI, 35, .inl f0))])) (va_Qv (fun _ : Unit => True) (fun (_ : Unit) (t : State) => ∃ y0 : Nat → Int32, (rg 0 6 35 y0) ∧ (cpr 7 0 1 7 f0 y0) ∧ va_P (dC, dI) vwCl [(r0, .inl (cyI, 35, .inl y0))] t.heap ∧ va_D (va_A [(r0, .inl (cyI, 35, .inl f0))] sz) [(r0, .inl (cyI, 35, .inl y0))]) (va_A [(r0, .inl (cyI, 35, .inl f0))] sz)) 0 0 (va_A [(r0, .inl (cyI, 35, .inl f0))] sz) := by
  refine Met.ofW (cc := cX12_copyRow) (maxL := 5) (ret := none) (by decide) rfl ?_
  intro p e s m args below meth c s₁ B hml hv
  obtain ⟨rfl, hsz, hP, hK, hD0⟩ := hv
  have hx := B.exec
  have hb := B.bytes
  have hr := B.returns
  have hts : ∀ w ∈ uU, w.before ([.ref r0, .int 7, .int 0, .int 1] : List Value).toArray s = true := fun w h => atoms_spec (ws := wk yX12_copyRow cX12_copyRow 5 none) B.pre w (List.mem_cons_of_mem _ h)
  have hown : s.vm.findClass RX12 = some m.cls := findClass_of_methodNamed B.named
  have hlocks := B.notSynchronized
  subst hsz
  have hD := hD0.self (sz := s.heap.size)
  generalize hAe : va_A [(r0, .inl (cyI, 35, .inl f0))] s.heap.size = A at hD ⊢
  have hA : ∀ q : Nat, s.heap.size ≤ q → A q := fun q h => by rw [← hAe]; exact Or.inr h
  have hS : va_S A s.heap s.heap [] := va_S.rf
  have hP : va_P (dC, dI) vwCl [(r0, .inl (cyI, 35, .inl f0))] s.heap := hP
  have hl := lv_entry ([.ref r0, .int 7, .int 0, .int 1]) (n := 5) (Nat.le_of_ble_eq_true rfl)
  rw [lg_entry_eq]
  generalize (lg_sl ([.ref r0, .int 7, .int 0, .int 1]) ++ List.replicate (5 - (lg_sl ([.ref r0, .int 7, .int 0, .int 1])).length) Slot.unset).toArray = ls at hl ⊢
  have hl : lv_has ls 5 [(0, .ref r0), (1, .int 7), (2, .int 0), (3, .int 1)] := hl
  obtain ⟨H, hHe⟩ : ∃ H, H = s.heap := ⟨_, rfl⟩
  have hP : va_P (dC, dI) vwCl [(r0, .inl (cyI, 35, .inl f0))] H := by rw [hHe]; exact hP
  have hS : va_S A s.heap H [] := by rw [hHe]; exact hS
  refine cv_heap hHe ?_
  obtain ⟨Q9, hQ9⟩ : ∃ Q9 : State → Prop, Q9 = MQ below (va_Qv (fun _ : Unit => True) (fun (_ : Unit) (t : State) => ∃ y0 : Nat → Int32, (rg 0 6 35 y0) ∧ (cpr 7 0 1 7 f0 y0) ∧ va_P (dC, dI) vwCl [(r0, .inl (cyI, 35, .inl y0))] t.heap ∧ va_D A [(r0, .inl (cyI, 35, .inl y0))]) A) ([.ref r0, .int 7, .int 0, .int 1] : List Value).toArray s 0 0 A := ⟨_, rfl⟩
  rw [← hQ9]
  refine lv_iconst (v := 0) hx hb dX12_copyRow_0 (by decide) ?_
  refine lv_istore (lv' := [(4, .int 0), (0, .ref r0), (1, .int 7), (2, .int 0), (3, .int 1)]) hx hb dX12_copyRow_1 hl (by decide) rfl (fun ls hl => ?_)
  have key_3 : ∀ (nkey_3 : Nat) (u_1 : Int32) (f_2 : Nat → Int32) (H : Heap) (locs : List Loc) (ls : Array Slot), (0 ≤ u_1.toInt ∧ u_1.toInt ≤ 7) → rg 0 6 35 f_2 → (cpr 7 0 1 u_1.toInt.toNat f0 f_2) → va_P (dC, dI) vwCl [(r0, .inl (cyI, 35, .inl f_2))] H → va_D A [(r0, .inl (cyI, 35, .inl f_2))] → va_S A s.heap H locs → lv_has ls 5 [(4, .int u_1), (0, .ref r0), (1, .int 7), (2, .int 0), (3, .int 1)] → (7 - u_1.toInt).toNat < nkey_3 → W p l e ({ frames := 1, cells := 0, slots := 0, locals := 60 }) s m ([.ref r0, .int 7, .int 0, .int 1] : List Value).toArray below meth c H locs 0 0 Q9 (F0 m 3 ls []) := by
    intro nkey_3
    induction nkey_3 with
    | zero => intro u_1 f_2 H locs ls hu_1 hf_2 hcp9 hP hD hS hl hnkey_3; exact absurd hnkey_3 (Nat.not_lt_zero _)
    | succ nkey_3 ihkey_3 =>
      intro u_1 f_2 H locs ls hu_1 hf_2 hcp9 hP hD hS hl hnkey_3
      refine lv_iload hx hb dX12_copyRow_3 (lv_at hl 0 rfl) ?_
      refine lv_iload_n hx hb dX12_copyRow_5 rfl (lv_at hl 2 rfl) ?_
      refine lv_icmp_ge (tgt := 31) hx hb dX12_copyRow_6 (by decide) (fun c_4 => ?_) (fun c_4 => ?_)
      · have c_4 : 7 ≤ u_1.toInt := cv_le c_4
        rw [hQ9]
        have hP9 := hP.sub (ws' := [(r0, .inl (cyI, 35, .inl f_2))]) [0] rfl
        have hD9 := hD.sub (ws' := [(r0, .inl (cyI, 35, .inl f_2))]) [0] (by decide) rfl
        exact W.vret hx hb hr (fun t ht hW => ⟨⟨(), rfl, trivial, ⟨f_2, hf_2, (cpr_end hcp9 (by omega)), by rw [ht]; exact hP9, hD9⟩⟩, hS.F ht⟩) hS.2.2 dX12_copyRow_31
      · have c_4 : u_1.toInt < 7 := cv_nle c_4
        refine lv_aload_n hx hb dX12_copyRow_9 rfl (lv_at hl 1 rfl) ?_
        refine lv_iload_n hx hb dX12_copyRow_10 rfl (lv_at hl 2 rfl) ?_
        refine lv_iload_n hx hb dX12_copyRow_11 rfl (lv_at hl 4 rfl) ?_
        refine lv_imul hx hb dX12_copyRow_12 ?_
        refine cv_topi (b := 7) (by decide) ?_
        refine lv_iload hx hb dX12_copyRow_13 (lv_at hl 0 rfl) ?_
        refine lv_iadd hx hb dX12_copyRow_15 ?_
        refine lv_topi (fun x_5 ex_5 => ?_)
        have fx_5 : x_5.toInt = 7 + u_1.toInt := by rw [ex_5]; exact cv_addI (by have : (7 : Int32).toInt = 7 := rfl; omega) (by have : (7 : Int32).toInt = 7 := rfl; omega)
        refine lv_aload_n hx hb dX12_copyRow_16 rfl (lv_at hl 1 rfl) ?_
        refine lv_iload_n hx hb dX12_copyRow_17 rfl (lv_at hl 2 rfl) ?_
        refine lv_iload_n hx hb dX12_copyRow_18 rfl (lv_at hl 3 rfl) ?_
        refine lv_imul hx hb dX12_copyRow_19 ?_
        refine cv_topi (b := 0) (by decide) ?_
        refine lv_iload hx hb dX12_copyRow_20 (lv_at hl 0 rfl) ?_
        refine lv_iadd hx hb dX12_copyRow_22 ?_
        refine lv_topi (fun x_6 ex_6 => ?_)
        have fx_6 : x_6.toInt = 0 + u_1.toInt := by rw [ex_6]; exact cv_addI (by have : (0 : Int32).toInt = 0 := rfl; omega) (by have : (0 : Int32).toInt = 0 := rfl; omega)
        refine va_iald hx hb hK hP 0 0 rfl rfl (vp_in_iff.mpr (by omega)) dX12_copyRow_23 ?_
        refine lv_topi (fun x_7 ex_7 => ?_)
        have fx_7 : 0 ≤ x_7.toInt ∧ x_7.toInt ≤ 6 := by rw [ex_7]; exact hf_2 _ (cv_ix (by omega) (by omega))
        refine va_iast hx hb hK hP hD hS 0 0 rfl rfl (vp_in_iff.mpr (by omega)) dX12_copyRow_24 (fun H locs hP hD hS => ?_)
        obtain ⟨f_8, ef_8⟩ : ∃ z9 : Nat → Int32, z9 = upd f_2 x_5.toNatClampNeg x_7 := ⟨_, rfl⟩
        rw [← ef_8] at hP hD
        have hP : va_P (dC, dI) vwCl [(r0, .inl (cyI, 35, .inl f_8))] H := hP
        have hD : va_D A [(r0, .inl (cyI, 35, .inl f_8))] := hD
        have hf_8 : rg 0 6 35 f_8 := by rw [ef_8]; exact rg_upd (hf_2) ⟨by omega, by omega⟩
        obtain ⟨x_9, ex_9⟩ : ∃ y : Int32, y = u_1 + 1 := ⟨_, rfl⟩
        refine lv_iinc (v := x_9) (lv' := [(4, .int x_9), (0, .ref r0), (1, .int 7), (2, .int 0), (3, .int 1)]) hx hb dX12_copyRow_25 hl (k := 0) rfl (by rw [ex_9]; rfl) (by decide) rfl (fun ls hl => ?_)
        have fx_9 : x_9.toInt = u_1.toInt + 1 := by rw [ex_9]; exact cv_addI (by have : (1 : Int32).toInt = 1 := rfl; omega) (by have : (1 : Int32).toInt = 1 := rfl; omega)
        refine lv_goto (tgt := 3) hx hb dX12_copyRow_28 (by decide) ?_
        exact ihkey_3 x_9 f_8 _ _ _ (by omega) hf_8 (cpr_step (n := 0) hcp9 (by assumption) (by assumption) (by omega) (by omega) (by omega) (by omega) (by decide) (by omega)) hP hD hS (lv_sub hl [0, 1, 2, 3, 4] rfl) (by omega)
  exact key_3 _ 0 f0 _ _ _ (by decide) g0 cpr_zero hP hD hS (lv_sub hl [0, 1, 2, 3, 4] rfl) (Nat.lt_succ_self _)

/- X12_copyRow -/
set_option maxHeartbeats 4000000 in
set_option maxRecDepth 100000 in
theorem m_cp_told_02 (l : Launch) (dC : Nat → ClassId) (dI : Nat → Nat → Nat) (cyI cyB cyJ cyZ cyH cyN : ClassId) (sz : Nat) (r0 : Nat) (f0 : Nat → Int32) (g0 : rg 0 6 35 f0) : Met l yX12_copyRow (wk yX12_copyRow cX12_copyRow 5 none) ({ frames := 1, cells := 0, slots := 0, locals := 60 }) (va_Pc [.ref r0, .int 7, .int 0, .int 2] (fun U => U.heap.size = sz ∧ va_P (dC, dI) vwCl [(r0, .inl (cyI, 35, .inl f0))] U.heap ∧ va_K (dC, dI) vwCl [(cyI, .int), (cyB, .byte), (cyJ, .long), (cyZ, .boolean), (cyH, .object RX2), (cyN, .array .long)] U ∧ va_D (fun _ => True) [(r0, .inl (cyI, 35, .inl f0))])) (va_Qv (fun _ : Unit => True) (fun (_ : Unit) (t : State) => ∃ y0 : Nat → Int32, (rg 0 6 35 y0) ∧ (cpr 7 0 2 7 f0 y0) ∧ va_P (dC, dI) vwCl [(r0, .inl (cyI, 35, .inl y0))] t.heap ∧ va_D (va_A [(r0, .inl (cyI, 35, .inl f0))] sz) [(r0, .inl (cyI, 35, .inl y0))]) (va_A [(r0, .inl (cyI, 35, .inl f0))] sz)) 0 0 (va_A [(r0, .inl (cyI, 35, .inl f0))] sz) := by
  refine Met.ofW (cc := cX12_copyRow) (maxL := 5) (ret := none) (by decide) rfl ?_
  intro p e s m args below meth c s₁ B hml hv
  obtain ⟨rfl, hsz, hP, hK, hD0⟩ := hv
  have hx := B.exec
  have hb := B.bytes
  have hr := B.returns
  have hts : ∀ w ∈ uU, w.before ([.ref r0, .int 7, .int 0, .int 2] : List Value).toArray s = true := fun w h => atoms_spec (ws := wk yX12_copyRow cX12_copyRow 5 none) B.pre w (List.mem_cons_of_mem _ h)
  have hown : s.vm.findClass RX12 = some m.cls := findClass_of_methodNamed B.named
  have hlocks := B.notSynchronized
  subst hsz
  have hD := hD0.self (sz := s.heap.size)
  generalize hAe : va_A [(r0, .inl (cyI, 35, .inl f0))] s.heap.size = A at hD ⊢
  have hA : ∀ q : Nat, s.heap.size ≤ q → A q := fun q h => by rw [← hAe]; exact Or.inr h
  have hS : va_S A s.heap s.heap [] := va_S.rf
  have hP : va_P (dC, dI) vwCl [(r0, .inl (cyI, 35, .inl f0))] s.heap := hP
  have hl := lv_entry ([.ref r0, .int 7, .int 0, .int 2]) (n := 5) (Nat.le_of_ble_eq_true rfl)
  rw [lg_entry_eq]
  generalize (lg_sl ([.ref r0, .int 7, .int 0, .int 2]) ++ List.replicate (5 - (lg_sl ([.ref r0, .int 7, .int 0, .int 2])).length) Slot.unset).toArray = ls at hl ⊢
  have hl : lv_has ls 5 [(0, .ref r0), (1, .int 7), (2, .int 0), (3, .int 2)] := hl
  obtain ⟨H, hHe⟩ : ∃ H, H = s.heap := ⟨_, rfl⟩
  have hP : va_P (dC, dI) vwCl [(r0, .inl (cyI, 35, .inl f0))] H := by rw [hHe]; exact hP
  have hS : va_S A s.heap H [] := by rw [hHe]; exact hS
  refine cv_heap hHe ?_
  obtain ⟨Q9, hQ9⟩ : ∃ Q9 : State → Prop, Q9 = MQ below (va_Qv (fun _ : Unit => True) (fun (_ : Unit) (t : State) => ∃ y0 : Nat → Int32, (rg 0 6 35 y0) ∧ (cpr 7 0 2 7 f0 y0) ∧ va_P (dC, dI) vwCl [(r0, .inl (cyI, 35, .inl y0))] t.heap ∧ va_D A [(r0, .inl (cyI, 35, .inl y0))]) A) ([.ref r0, .int 7, .int 0, .int 2] : List Value).toArray s 0 0 A := ⟨_, rfl⟩
  rw [← hQ9]
  refine lv_iconst (v := 0) hx hb dX12_copyRow_0 (by decide) ?_
  refine lv_istore (lv' := [(4, .int 0), (0, .ref r0), (1, .int 7), (2, .int 0), (3, .int 2)]) hx hb dX12_copyRow_1 hl (by decide) rfl (fun ls hl => ?_)
  have key_3 : ∀ (nkey_3 : Nat) (u_1 : Int32) (f_2 : Nat → Int32) (H : Heap) (locs : List Loc) (ls : Array Slot), (0 ≤ u_1.toInt ∧ u_1.toInt ≤ 7) → rg 0 6 35 f_2 → (cpr 7 0 2 u_1.toInt.toNat f0 f_2) → va_P (dC, dI) vwCl [(r0, .inl (cyI, 35, .inl f_2))] H → va_D A [(r0, .inl (cyI, 35, .inl f_2))] → va_S A s.heap H locs → lv_has ls 5 [(4, .int u_1), (0, .ref r0), (1, .int 7), (2, .int 0), (3, .int 2)] → (7 - u_1.toInt).toNat < nkey_3 → W p l e ({ frames := 1, cells := 0, slots := 0, locals := 60 }) s m ([.ref r0, .int 7, .int 0, .int 2] : List Value).toArray below meth c H locs 0 0 Q9 (F0 m 3 ls []) := by
    intro nkey_3
    induction nkey_3 with
    | zero => intro u_1 f_2 H locs ls hu_1 hf_2 hcp9 hP hD hS hl hnkey_3; exact absurd hnkey_3 (Nat.not_lt_zero _)
    | succ nkey_3 ihkey_3 =>
      intro u_1 f_2 H locs ls hu_1 hf_2 hcp9 hP hD hS hl hnkey_3
      refine lv_iload hx hb dX12_copyRow_3 (lv_at hl 0 rfl) ?_
      refine lv_iload_n hx hb dX12_copyRow_5 rfl (lv_at hl 2 rfl) ?_
      refine lv_icmp_ge (tgt := 31) hx hb dX12_copyRow_6 (by decide) (fun c_4 => ?_) (fun c_4 => ?_)
      · have c_4 : 7 ≤ u_1.toInt := cv_le c_4
        rw [hQ9]
        have hP9 := hP.sub (ws' := [(r0, .inl (cyI, 35, .inl f_2))]) [0] rfl
        have hD9 := hD.sub (ws' := [(r0, .inl (cyI, 35, .inl f_2))]) [0] (by decide) rfl
        exact W.vret hx hb hr (fun t ht hW => ⟨⟨(), rfl, trivial, ⟨f_2, hf_2, (cpr_end hcp9 (by omega)), by rw [ht]; exact hP9, hD9⟩⟩, hS.F ht⟩) hS.2.2 dX12_copyRow_31
      · have c_4 : u_1.toInt < 7 := cv_nle c_4
        refine lv_aload_n hx hb dX12_copyRow_9 rfl (lv_at hl 1 rfl) ?_
        refine lv_iload_n hx hb dX12_copyRow_10 rfl (lv_at hl 2 rfl) ?_
        refine lv_iload_n hx hb dX12_copyRow_11 rfl (lv_at hl 4 rfl) ?_
        refine lv_imul hx hb dX12_copyRow_12 ?_
        refine cv_topi (b := 14) (by decide) ?_
        refine lv_iload hx hb dX12_copyRow_13 (lv_at hl 0 rfl) ?_
        refine lv_iadd hx hb dX12_copyRow_15 ?_
        refine lv_topi (fun x_5 ex_5 => ?_)
        have fx_5 : x_5.toInt = 14 + u_1.toInt := by rw [ex_5]; exact cv_addI (by have : (14 : Int32).toInt = 14 := rfl; omega) (by have : (14 : Int32).toInt = 14 := rfl; omega)
        refine lv_aload_n hx hb dX12_copyRow_16 rfl (lv_at hl 1 rfl) ?_
        refine lv_iload_n hx hb dX12_copyRow_17 rfl (lv_at hl 2 rfl) ?_
        refine lv_iload_n hx hb dX12_copyRow_18 rfl (lv_at hl 3 rfl) ?_
        refine lv_imul hx hb dX12_copyRow_19 ?_
        refine cv_topi (b := 0) (by decide) ?_
        refine lv_iload hx hb dX12_copyRow_20 (lv_at hl 0 rfl) ?_
        refine lv_iadd hx hb dX12_copyRow_22 ?_
        refine lv_topi (fun x_6 ex_6 => ?_)
        have fx_6 : x_6.toInt = 0 + u_1.toInt := by rw [ex_6]; exact cv_addI (by have : (0 : Int32).toInt = 0 := rfl; omega) (by have : (0 : Int32).toInt = 0 := rfl; omega)
        refine va_iald hx hb hK hP 0 0 rfl rfl (vp_in_iff.mpr (by omega)) dX12_copyRow_23 ?_
        refine lv_topi (fun x_7 ex_7 => ?_)
        have fx_7 : 0 ≤ x_7.toInt ∧ x_7.toInt ≤ 6 := by rw [ex_7]; exact hf_2 _ (cv_ix (by omega) (by omega))
        refine va_iast hx hb hK hP hD hS 0 0 rfl rfl (vp_in_iff.mpr (by omega)) dX12_copyRow_24 (fun H locs hP hD hS => ?_)
        obtain ⟨f_8, ef_8⟩ : ∃ z9 : Nat → Int32, z9 = upd f_2 x_5.toNatClampNeg x_7 := ⟨_, rfl⟩
        rw [← ef_8] at hP hD
        have hP : va_P (dC, dI) vwCl [(r0, .inl (cyI, 35, .inl f_8))] H := hP
        have hD : va_D A [(r0, .inl (cyI, 35, .inl f_8))] := hD
        have hf_8 : rg 0 6 35 f_8 := by rw [ef_8]; exact rg_upd (hf_2) ⟨by omega, by omega⟩
        obtain ⟨x_9, ex_9⟩ : ∃ y : Int32, y = u_1 + 1 := ⟨_, rfl⟩
        refine lv_iinc (v := x_9) (lv' := [(4, .int x_9), (0, .ref r0), (1, .int 7), (2, .int 0), (3, .int 2)]) hx hb dX12_copyRow_25 hl (k := 0) rfl (by rw [ex_9]; rfl) (by decide) rfl (fun ls hl => ?_)
        have fx_9 : x_9.toInt = u_1.toInt + 1 := by rw [ex_9]; exact cv_addI (by have : (1 : Int32).toInt = 1 := rfl; omega) (by have : (1 : Int32).toInt = 1 := rfl; omega)
        refine lv_goto (tgt := 3) hx hb dX12_copyRow_28 (by decide) ?_
        exact ihkey_3 x_9 f_8 _ _ _ (by omega) hf_8 (cpr_step (n := 0) hcp9 (by assumption) (by assumption) (by omega) (by omega) (by omega) (by omega) (by decide) (by omega)) hP hD hS (lv_sub hl [0, 1, 2, 3, 4] rfl) (by omega)
  exact key_3 _ 0 f0 _ _ _ (by decide) g0 cpr_zero hP hD hS (lv_sub hl [0, 1, 2, 3, 4] rfl) (Nat.lt_succ_self _)

/- X12_copyRow -/
set_option maxHeartbeats 4000000 in
set_option maxRecDepth 100000 in
theorem m_cp_told_03 (l : Launch) (dC : Nat → ClassId) (dI : Nat → Nat → Nat) (cyI cyB cyJ cyZ cyH cyN : ClassId) (sz : Nat) (r0 : Nat) (f0 : Nat → Int32) (g0 : rg 0 6 35 f0) : Met l yX12_copyRow (wk yX12_copyRow cX12_copyRow 5 none) ({ frames := 1, cells := 0, slots := 0, locals := 60 }) (va_Pc [.ref r0, .int 7, .int 0, .int 3] (fun U => U.heap.size = sz ∧ va_P (dC, dI) vwCl [(r0, .inl (cyI, 35, .inl f0))] U.heap ∧ va_K (dC, dI) vwCl [(cyI, .int), (cyB, .byte), (cyJ, .long), (cyZ, .boolean), (cyH, .object RX2), (cyN, .array .long)] U ∧ va_D (fun _ => True) [(r0, .inl (cyI, 35, .inl f0))])) (va_Qv (fun _ : Unit => True) (fun (_ : Unit) (t : State) => ∃ y0 : Nat → Int32, (rg 0 6 35 y0) ∧ (cpr 7 0 3 7 f0 y0) ∧ va_P (dC, dI) vwCl [(r0, .inl (cyI, 35, .inl y0))] t.heap ∧ va_D (va_A [(r0, .inl (cyI, 35, .inl f0))] sz) [(r0, .inl (cyI, 35, .inl y0))]) (va_A [(r0, .inl (cyI, 35, .inl f0))] sz)) 0 0 (va_A [(r0, .inl (cyI, 35, .inl f0))] sz) := by
  refine Met.ofW (cc := cX12_copyRow) (maxL := 5) (ret := none) (by decide) rfl ?_
  intro p e s m args below meth c s₁ B hml hv
  obtain ⟨rfl, hsz, hP, hK, hD0⟩ := hv
  have hx := B.exec
  have hb := B.bytes
  have hr := B.returns
  have hts : ∀ w ∈ uU, w.before ([.ref r0, .int 7, .int 0, .int 3] : List Value).toArray s = true := fun w h => atoms_spec (ws := wk yX12_copyRow cX12_copyRow 5 none) B.pre w (List.mem_cons_of_mem _ h)
  have hown : s.vm.findClass RX12 = some m.cls := findClass_of_methodNamed B.named
  have hlocks := B.notSynchronized
  subst hsz
  have hD := hD0.self (sz := s.heap.size)
  generalize hAe : va_A [(r0, .inl (cyI, 35, .inl f0))] s.heap.size = A at hD ⊢
  have hA : ∀ q : Nat, s.heap.size ≤ q → A q := fun q h => by rw [← hAe]; exact Or.inr h
  have hS : va_S A s.heap s.heap [] := va_S.rf
  have hP : va_P (dC, dI) vwCl [(r0, .inl (cyI, 35, .inl f0))] s.heap := hP
  have hl := lv_entry ([.ref r0, .int 7, .int 0, .int 3]) (n := 5) (Nat.le_of_ble_eq_true rfl)
  rw [lg_entry_eq]
  generalize (lg_sl ([.ref r0, .int 7, .int 0, .int 3]) ++ List.replicate (5 - (lg_sl ([.ref r0, .int 7, .int 0, .int 3])).length) Slot.unset).toArray = ls at hl ⊢
  have hl : lv_has ls 5 [(0, .ref r0), (1, .int 7), (2, .int 0), (3, .int 3)] := hl
  obtain ⟨H, hHe⟩ : ∃ H, H = s.heap := ⟨_, rfl⟩
  have hP : va_P (dC, dI) vwCl [(r0, .inl (cyI, 35, .inl f0))] H := by rw [hHe]; exact hP
  have hS : va_S A s.heap H [] := by rw [hHe]; exact hS
  refine cv_heap hHe ?_
  obtain ⟨Q9, hQ9⟩ : ∃ Q9 : State → Prop, Q9 = MQ below (va_Qv (fun _ : Unit => True) (fun (_ : Unit) (t : State) => ∃ y0 : Nat → Int32, (rg 0 6 35 y0) ∧ (cpr 7 0 3 7 f0 y0) ∧ va_P (dC, dI) vwCl [(r0, .inl (cyI, 35, .inl y0))] t.heap ∧ va_D A [(r0, .inl (cyI, 35, .inl y0))]) A) ([.ref r0, .int 7, .int 0, .int 3] : List Value).toArray s 0 0 A := ⟨_, rfl⟩
  rw [← hQ9]
  refine lv_iconst (v := 0) hx hb dX12_copyRow_0 (by decide) ?_
  refine lv_istore (lv' := [(4, .int 0), (0, .ref r0), (1, .int 7), (2, .int 0), (3, .int 3)]) hx hb dX12_copyRow_1 hl (by decide) rfl (fun ls hl => ?_)
  have key_3 : ∀ (nkey_3 : Nat) (u_1 : Int32) (f_2 : Nat → Int32) (H : Heap) (locs : List Loc) (ls : Array Slot), (0 ≤ u_1.toInt ∧ u_1.toInt ≤ 7) → rg 0 6 35 f_2 → (cpr 7 0 3 u_1.toInt.toNat f0 f_2) → va_P (dC, dI) vwCl [(r0, .inl (cyI, 35, .inl f_2))] H → va_D A [(r0, .inl (cyI, 35, .inl f_2))] → va_S A s.heap H locs → lv_has ls 5 [(4, .int u_1), (0, .ref r0), (1, .int 7), (2, .int 0), (3, .int 3)] → (7 - u_1.toInt).toNat < nkey_3 → W p l e ({ frames := 1, cells := 0, slots := 0, locals := 60 }) s m ([.ref r0, .int 7, .int 0, .int 3] : List Value).toArray below meth c H locs 0 0 Q9 (F0 m 3 ls []) := by
    intro nkey_3
    induction nkey_3 with
    | zero => intro u_1 f_2 H locs ls hu_1 hf_2 hcp9 hP hD hS hl hnkey_3; exact absurd hnkey_3 (Nat.not_lt_zero _)
    | succ nkey_3 ihkey_3 =>
      intro u_1 f_2 H locs ls hu_1 hf_2 hcp9 hP hD hS hl hnkey_3
      refine lv_iload hx hb dX12_copyRow_3 (lv_at hl 0 rfl) ?_
      refine lv_iload_n hx hb dX12_copyRow_5 rfl (lv_at hl 2 rfl) ?_
      refine lv_icmp_ge (tgt := 31) hx hb dX12_copyRow_6 (by decide) (fun c_4 => ?_) (fun c_4 => ?_)
      · have c_4 : 7 ≤ u_1.toInt := cv_le c_4
        rw [hQ9]
        have hP9 := hP.sub (ws' := [(r0, .inl (cyI, 35, .inl f_2))]) [0] rfl
        have hD9 := hD.sub (ws' := [(r0, .inl (cyI, 35, .inl f_2))]) [0] (by decide) rfl
        exact W.vret hx hb hr (fun t ht hW => ⟨⟨(), rfl, trivial, ⟨f_2, hf_2, (cpr_end hcp9 (by omega)), by rw [ht]; exact hP9, hD9⟩⟩, hS.F ht⟩) hS.2.2 dX12_copyRow_31
      · have c_4 : u_1.toInt < 7 := cv_nle c_4
        refine lv_aload_n hx hb dX12_copyRow_9 rfl (lv_at hl 1 rfl) ?_
        refine lv_iload_n hx hb dX12_copyRow_10 rfl (lv_at hl 2 rfl) ?_
        refine lv_iload_n hx hb dX12_copyRow_11 rfl (lv_at hl 4 rfl) ?_
        refine lv_imul hx hb dX12_copyRow_12 ?_
        refine cv_topi (b := 21) (by decide) ?_
        refine lv_iload hx hb dX12_copyRow_13 (lv_at hl 0 rfl) ?_
        refine lv_iadd hx hb dX12_copyRow_15 ?_
        refine lv_topi (fun x_5 ex_5 => ?_)
        have fx_5 : x_5.toInt = 21 + u_1.toInt := by rw [ex_5]; exact cv_addI (by have : (21 : Int32).toInt = 21 := rfl; omega) (by have : (21 : Int32).toInt = 21 := rfl; omega)
        refine lv_aload_n hx hb dX12_copyRow_16 rfl (lv_at hl 1 rfl) ?_
        refine lv_iload_n hx hb dX12_copyRow_17 rfl (lv_at hl 2 rfl) ?_
        refine lv_iload_n hx hb dX12_copyRow_18 rfl (lv_at hl 3 rfl) ?_
        refine lv_imul hx hb dX12_copyRow_19 ?_
        refine cv_topi (b := 0) (by decide) ?_
        refine lv_iload hx hb dX12_copyRow_20 (lv_at hl 0 rfl) ?_
        refine lv_iadd hx hb dX12_copyRow_22 ?_
        refine lv_topi (fun x_6 ex_6 => ?_)
        have fx_6 : x_6.toInt = 0 + u_1.toInt := by rw [ex_6]; exact cv_addI (by have : (0 : Int32).toInt = 0 := rfl; omega) (by have : (0 : Int32).toInt = 0 := rfl; omega)
        refine va_iald hx hb hK hP 0 0 rfl rfl (vp_in_iff.mpr (by omega)) dX12_copyRow_23 ?_
        refine lv_topi (fun x_7 ex_7 => ?_)
        have fx_7 : 0 ≤ x_7.toInt ∧ x_7.toInt ≤ 6 := by rw [ex_7]; exact hf_2 _ (cv_ix (by omega) (by omega))
        refine va_iast hx hb hK hP hD hS 0 0 rfl rfl (vp_in_iff.mpr (by omega)) dX12_copyRow_24 (fun H locs hP hD hS => ?_)
        obtain ⟨f_8, ef_8⟩ : ∃ z9 : Nat → Int32, z9 = upd f_2 x_5.toNatClampNeg x_7 := ⟨_, rfl⟩
        rw [← ef_8] at hP hD
        have hP : va_P (dC, dI) vwCl [(r0, .inl (cyI, 35, .inl f_8))] H := hP
        have hD : va_D A [(r0, .inl (cyI, 35, .inl f_8))] := hD
        have hf_8 : rg 0 6 35 f_8 := by rw [ef_8]; exact rg_upd (hf_2) ⟨by omega, by omega⟩
        obtain ⟨x_9, ex_9⟩ : ∃ y : Int32, y = u_1 + 1 := ⟨_, rfl⟩
        refine lv_iinc (v := x_9) (lv' := [(4, .int x_9), (0, .ref r0), (1, .int 7), (2, .int 0), (3, .int 3)]) hx hb dX12_copyRow_25 hl (k := 0) rfl (by rw [ex_9]; rfl) (by decide) rfl (fun ls hl => ?_)
        have fx_9 : x_9.toInt = u_1.toInt + 1 := by rw [ex_9]; exact cv_addI (by have : (1 : Int32).toInt = 1 := rfl; omega) (by have : (1 : Int32).toInt = 1 := rfl; omega)
        refine lv_goto (tgt := 3) hx hb dX12_copyRow_28 (by decide) ?_
        exact ihkey_3 x_9 f_8 _ _ _ (by omega) hf_8 (cpr_step (n := 0) hcp9 (by assumption) (by assumption) (by omega) (by omega) (by omega) (by omega) (by decide) (by omega)) hP hD hS (lv_sub hl [0, 1, 2, 3, 4] rfl) (by omega)
  exact key_3 _ 0 f0 _ _ _ (by decide) g0 cpr_zero hP hD hS (lv_sub hl [0, 1, 2, 3, 4] rfl) (Nat.lt_succ_self _)

/- X12_copyRow -/
set_option maxHeartbeats 4000000 in
set_option maxRecDepth 100000 in
theorem m_cp_told_10 (l : Launch) (dC : Nat → ClassId) (dI : Nat → Nat → Nat) (cyI cyB cyJ cyZ cyH cyN : ClassId) (sz : Nat) (r0 : Nat) (f0 : Nat → Int32) (g0 : rg 0 6 35 f0) : Met l yX12_copyRow (wk yX12_copyRow cX12_copyRow 5 none) ({ frames := 1, cells := 0, slots := 0, locals := 60 }) (va_Pc [.ref r0, .int 7, .int 1, .int 0] (fun U => U.heap.size = sz ∧ va_P (dC, dI) vwCl [(r0, .inl (cyI, 35, .inl f0))] U.heap ∧ va_K (dC, dI) vwCl [(cyI, .int), (cyB, .byte), (cyJ, .long), (cyZ, .boolean), (cyH, .object RX2), (cyN, .array .long)] U ∧ va_D (fun _ => True) [(r0, .inl (cyI, 35, .inl f0))])) (va_Qv (fun _ : Unit => True) (fun (_ : Unit) (t : State) => ∃ y0 : Nat → Int32, (rg 0 6 35 y0) ∧ (cpr 7 1 0 7 f0 y0) ∧ va_P (dC, dI) vwCl [(r0, .inl (cyI, 35, .inl y0))] t.heap ∧ va_D (va_A [(r0, .inl (cyI, 35, .inl f0))] sz) [(r0, .inl (cyI, 35, .inl y0))]) (va_A [(r0, .inl (cyI, 35, .inl f0))] sz)) 0 0 (va_A [(r0, .inl (cyI, 35, .inl f0))] sz) := by
  refine Met.ofW (cc := cX12_copyRow) (maxL := 5) (ret := none) (by decide) rfl ?_
  intro p e s m args below meth c s₁ B hml hv
  obtain ⟨rfl, hsz, hP, hK, hD0⟩ := hv
  have hx := B.exec
  have hb := B.bytes
  have hr := B.returns
  have hts : ∀ w ∈ uU, w.before ([.ref r0, .int 7, .int 1, .int 0] : List Value).toArray s = true := fun w h => atoms_spec (ws := wk yX12_copyRow cX12_copyRow 5 none) B.pre w (List.mem_cons_of_mem _ h)
  have hown : s.vm.findClass RX12 = some m.cls := findClass_of_methodNamed B.named
  have hlocks := B.notSynchronized
  subst hsz
  have hD := hD0.self (sz := s.heap.size)
  generalize hAe : va_A [(r0, .inl (cyI, 35, .inl f0))] s.heap.size = A at hD ⊢
  have hA : ∀ q : Nat, s.heap.size ≤ q → A q := fun q h => by rw [← hAe]; exact Or.inr h
  have hS : va_S A s.heap s.heap [] := va_S.rf
  have hP : va_P (dC, dI) vwCl [(r0, .inl (cyI, 35, .inl f0))] s.heap := hP
  have hl := lv_entry ([.ref r0, .int 7, .int 1, .int 0]) (n := 5) (Nat.le_of_ble_eq_true rfl)
  rw [lg_entry_eq]
  generalize (lg_sl ([.ref r0, .int 7, .int 1, .int 0]) ++ List.replicate (5 - (lg_sl ([.ref r0, .int 7, .int 1, .int 0])).length) Slot.unset).toArray = ls at hl ⊢
  have hl : lv_has ls 5 [(0, .ref r0), (1, .int 7), (2, .int 1), (3, .int 0)] := hl
  obtain ⟨H, hHe⟩ : ∃ H, H = s.heap := ⟨_, rfl⟩
  have hP : va_P (dC, dI) vwCl [(r0, .inl (cyI, 35, .inl f0))] H := by rw [hHe]; exact hP
  have hS : va_S A s.heap H [] := by rw [hHe]; exact hS
  refine cv_heap hHe ?_
  obtain ⟨Q9, hQ9⟩ : ∃ Q9 : State → Prop, Q9 = MQ below (va_Qv (fun _ : Unit => True) (fun (_ : Unit) (t : State) => ∃ y0 : Nat → Int32, (rg 0 6 35 y0) ∧ (cpr 7 1 0 7 f0 y0) ∧ va_P (dC, dI) vwCl [(r0, .inl (cyI, 35, .inl y0))] t.heap ∧ va_D A [(r0, .inl (cyI, 35, .inl y0))]) A) ([.ref r0, .int 7, .int 1, .int 0] : List Value).toArray s 0 0 A := ⟨_, rfl⟩
  rw [← hQ9]
  refine lv_iconst (v := 0) hx hb dX12_copyRow_0 (by decide) ?_
  refine lv_istore (lv' := [(4, .int 0), (0, .ref r0), (1, .int 7), (2, .int 1), (3, .int 0)]) hx hb dX12_copyRow_1 hl (by decide) rfl (fun ls hl => ?_)
  have key_3 : ∀ (nkey_3 : Nat) (u_1 : Int32) (f_2 : Nat → Int32) (H : Heap) (locs : List Loc) (ls : Array Slot), (0 ≤ u_1.toInt ∧ u_1.toInt ≤ 7) → rg 0 6 35 f_2 → (cpr 7 1 0 u_1.toInt.toNat f0 f_2) → va_P (dC, dI) vwCl [(r0, .inl (cyI, 35, .inl f_2))] H → va_D A [(r0, .inl (cyI, 35, .inl f_2))] → va_S A s.heap H locs → lv_has ls 5 [(4, .int u_1), (0, .ref r0), (1, .int 7), (2, .int 1), (3, .int 0)] → (7 - u_1.toInt).toNat < nkey_3 → W p l e ({ frames := 1, cells := 0, slots := 0, locals := 60 }) s m ([.ref r0, .int 7, .int 1, .int 0] : List Value).toArray below meth c H locs 0 0 Q9 (F0 m 3 ls []) := by
    intro nkey_3
    induction nkey_3 with
    | zero => intro u_1 f_2 H locs ls hu_1 hf_2 hcp9 hP hD hS hl hnkey_3; exact absurd hnkey_3 (Nat.not_lt_zero _)
    | succ nkey_3 ihkey_3 =>
      intro u_1 f_2 H locs ls hu_1 hf_2 hcp9 hP hD hS hl hnkey_3
      refine lv_iload hx hb dX12_copyRow_3 (lv_at hl 0 rfl) ?_
      refine lv_iload_n hx hb dX12_copyRow_5 rfl (lv_at hl 2 rfl) ?_
      refine lv_icmp_ge (tgt := 31) hx hb dX12_copyRow_6 (by decide) (fun c_4 => ?_) (fun c_4 => ?_)
      · have c_4 : 7 ≤ u_1.toInt := cv_le c_4
        rw [hQ9]
        have hP9 := hP.sub (ws' := [(r0, .inl (cyI, 35, .inl f_2))]) [0] rfl
        have hD9 := hD.sub (ws' := [(r0, .inl (cyI, 35, .inl f_2))]) [0] (by decide) rfl
        exact W.vret hx hb hr (fun t ht hW => ⟨⟨(), rfl, trivial, ⟨f_2, hf_2, (cpr_end hcp9 (by omega)), by rw [ht]; exact hP9, hD9⟩⟩, hS.F ht⟩) hS.2.2 dX12_copyRow_31
      · have c_4 : u_1.toInt < 7 := cv_nle c_4
        refine lv_aload_n hx hb dX12_copyRow_9 rfl (lv_at hl 1 rfl) ?_
        refine lv_iload_n hx hb dX12_copyRow_10 rfl (lv_at hl 2 rfl) ?_
        refine lv_iload_n hx hb dX12_copyRow_11 rfl (lv_at hl 4 rfl) ?_
        refine lv_imul hx hb dX12_copyRow_12 ?_
        refine cv_topi (b := 0) (by decide) ?_
        refine lv_iload hx hb dX12_copyRow_13 (lv_at hl 0 rfl) ?_
        refine lv_iadd hx hb dX12_copyRow_15 ?_
        refine lv_topi (fun x_5 ex_5 => ?_)
        have fx_5 : x_5.toInt = 0 + u_1.toInt := by rw [ex_5]; exact cv_addI (by have : (0 : Int32).toInt = 0 := rfl; omega) (by have : (0 : Int32).toInt = 0 := rfl; omega)
        refine lv_aload_n hx hb dX12_copyRow_16 rfl (lv_at hl 1 rfl) ?_
        refine lv_iload_n hx hb dX12_copyRow_17 rfl (lv_at hl 2 rfl) ?_
        refine lv_iload_n hx hb dX12_copyRow_18 rfl (lv_at hl 3 rfl) ?_
        refine lv_imul hx hb dX12_copyRow_19 ?_
        refine cv_topi (b := 7) (by decide) ?_
        refine lv_iload hx hb dX12_copyRow_20 (lv_at hl 0 rfl) ?_
        refine lv_iadd hx hb dX12_copyRow_22 ?_
        refine lv_topi (fun x_6 ex_6 => ?_)
        have fx_6 : x_6.toInt = 7 + u_1.toInt := by rw [ex_6]; exact cv_addI (by have : (7 : Int32).toInt = 7 := rfl; omega) (by have : (7 : Int32).toInt = 7 := rfl; omega)
        refine va_iald hx hb hK hP 0 0 rfl rfl (vp_in_iff.mpr (by omega)) dX12_copyRow_23 ?_
        refine lv_topi (fun x_7 ex_7 => ?_)
        have fx_7 : 0 ≤ x_7.toInt ∧ x_7.toInt ≤ 6 := by rw [ex_7]; exact hf_2 _ (cv_ix (by omega) (by omega))
        refine va_iast hx hb hK hP hD hS 0 0 rfl rfl (vp_in_iff.mpr (by omega)) dX12_copyRow_24 (fun H locs hP hD hS => ?_)
        obtain ⟨f_8, ef_8⟩ : ∃ z9 : Nat → Int32, z9 = upd f_2 x_5.toNatClampNeg x_7 := ⟨_, rfl⟩
        rw [← ef_8] at hP hD
        have hP : va_P (dC, dI) vwCl [(r0, .inl (cyI, 35, .inl f_8))] H := hP
        have hD : va_D A [(r0, .inl (cyI, 35, .inl f_8))] := hD
        have hf_8 : rg 0 6 35 f_8 := by rw [ef_8]; exact rg_upd (hf_2) ⟨by omega, by omega⟩
        obtain ⟨x_9, ex_9⟩ : ∃ y : Int32, y = u_1 + 1 := ⟨_, rfl⟩
        refine lv_iinc (v := x_9) (lv' := [(4, .int x_9), (0, .ref r0), (1, .int 7), (2, .int 1), (3, .int 0)]) hx hb dX12_copyRow_25 hl (k := 0) rfl (by rw [ex_9]; rfl) (by decide) rfl (fun ls hl => ?_)
        have fx_9 : x_9.toInt = u_1.toInt + 1 := by rw [ex_9]; exact cv_addI (by have : (1 : Int32).toInt = 1 := rfl; omega) (by have : (1 : Int32).toInt = 1 := rfl; omega)
        refine lv_goto (tgt := 3) hx hb dX12_copyRow_28 (by decide) ?_
        exact ihkey_3 x_9 f_8 _ _ _ (by omega) hf_8 (cpr_step (n := 0) hcp9 (by assumption) (by assumption) (by omega) (by omega) (by omega) (by omega) (by decide) (by omega)) hP hD hS (lv_sub hl [0, 1, 2, 3, 4] rfl) (by omega)
  exact key_3 _ 0 f0 _ _ _ (by decide) g0 cpr_zero hP hD hS (lv_sub hl [0, 1, 2, 3, 4] rfl) (Nat.lt_succ_self _)

/- X12_copyRow -/
set_option maxHeartbeats 4000000 in
set_option maxRecDepth 100000 in
theorem m_cp_told_20 (l : Launch) (dC : Nat → ClassId) (dI : Nat → Nat → Nat) (cyI cyB cyJ cyZ cyH cyN : ClassId) (sz : Nat) (r0 : Nat) (f0 : Nat → Int32) (g0 : rg 0 6 35 f0) : Met l yX12_copyRow (wk yX12_copyRow cX12_copyRow 5 none) ({ frames := 1, cells := 0, slots := 0, locals := 60 }) (va_Pc [.ref r0, .int 7, .int 2, .int 0] (fun U => U.heap.size = sz ∧ va_P (dC, dI) vwCl [(r0, .inl (cyI, 35, .inl f0))] U.heap ∧ va_K (dC, dI) vwCl [(cyI, .int), (cyB, .byte), (cyJ, .long), (cyZ, .boolean), (cyH, .object RX2), (cyN, .array .long)] U ∧ va_D (fun _ => True) [(r0, .inl (cyI, 35, .inl f0))])) (va_Qv (fun _ : Unit => True) (fun (_ : Unit) (t : State) => ∃ y0 : Nat → Int32, (rg 0 6 35 y0) ∧ (cpr 7 2 0 7 f0 y0) ∧ va_P (dC, dI) vwCl [(r0, .inl (cyI, 35, .inl y0))] t.heap ∧ va_D (va_A [(r0, .inl (cyI, 35, .inl f0))] sz) [(r0, .inl (cyI, 35, .inl y0))]) (va_A [(r0, .inl (cyI, 35, .inl f0))] sz)) 0 0 (va_A [(r0, .inl (cyI, 35, .inl f0))] sz) := by
  refine Met.ofW (cc := cX12_copyRow) (maxL := 5) (ret := none) (by decide) rfl ?_
  intro p e s m args below meth c s₁ B hml hv
  obtain ⟨rfl, hsz, hP, hK, hD0⟩ := hv
  have hx := B.exec
  have hb := B.bytes
  have hr := B.returns
  have hts : ∀ w ∈ uU, w.before ([.ref r0, .int 7, .int 2, .int 0] : List Value).toArray s = true := fun w h => atoms_spec (ws := wk yX12_copyRow cX12_copyRow 5 none) B.pre w (List.mem_cons_of_mem _ h)
  have hown : s.vm.findClass RX12 = some m.cls := findClass_of_methodNamed B.named
  have hlocks := B.notSynchronized
  subst hsz
  have hD := hD0.self (sz := s.heap.size)
  generalize hAe : va_A [(r0, .inl (cyI, 35, .inl f0))] s.heap.size = A at hD ⊢
  have hA : ∀ q : Nat, s.heap.size ≤ q → A q := fun q h => by rw [← hAe]; exact Or.inr h
  have hS : va_S A s.heap s.heap [] := va_S.rf
  have hP : va_P (dC, dI) vwCl [(r0, .inl (cyI, 35, .inl f0))] s.heap := hP
  have hl := lv_entry ([.ref r0, .int 7, .int 2, .int 0]) (n := 5) (Nat.le_of_ble_eq_true rfl)
  rw [lg_entry_eq]
  generalize (lg_sl ([.ref r0, .int 7, .int 2, .int 0]) ++ List.replicate (5 - (lg_sl ([.ref r0, .int 7, .int 2, .int 0])).length) Slot.unset).toArray = ls at hl ⊢
  have hl : lv_has ls 5 [(0, .ref r0), (1, .int 7), (2, .int 2), (3, .int 0)] := hl
  obtain ⟨H, hHe⟩ : ∃ H, H = s.heap := ⟨_, rfl⟩
  have hP : va_P (dC, dI) vwCl [(r0, .inl (cyI, 35, .inl f0))] H := by rw [hHe]; exact hP
  have hS : va_S A s.heap H [] := by rw [hHe]; exact hS
  refine cv_heap hHe ?_
  obtain ⟨Q9, hQ9⟩ : ∃ Q9 : State → Prop, Q9 = MQ below (va_Qv (fun _ : Unit => True) (fun (_ : Unit) (t : State) => ∃ y0 : Nat → Int32, (rg 0 6 35 y0) ∧ (cpr 7 2 0 7 f0 y0) ∧ va_P (dC, dI) vwCl [(r0, .inl (cyI, 35, .inl y0))] t.heap ∧ va_D A [(r0, .inl (cyI, 35, .inl y0))]) A) ([.ref r0, .int 7, .int 2, .int 0] : List Value).toArray s 0 0 A := ⟨_, rfl⟩
  rw [← hQ9]
  refine lv_iconst (v := 0) hx hb dX12_copyRow_0 (by decide) ?_
  refine lv_istore (lv' := [(4, .int 0), (0, .ref r0), (1, .int 7), (2, .int 2), (3, .int 0)]) hx hb dX12_copyRow_1 hl (by decide) rfl (fun ls hl => ?_)
  have key_3 : ∀ (nkey_3 : Nat) (u_1 : Int32) (f_2 : Nat → Int32) (H : Heap) (locs : List Loc) (ls : Array Slot), (0 ≤ u_1.toInt ∧ u_1.toInt ≤ 7) → rg 0 6 35 f_2 → (cpr 7 2 0 u_1.toInt.toNat f0 f_2) → va_P (dC, dI) vwCl [(r0, .inl (cyI, 35, .inl f_2))] H → va_D A [(r0, .inl (cyI, 35, .inl f_2))] → va_S A s.heap H locs → lv_has ls 5 [(4, .int u_1), (0, .ref r0), (1, .int 7), (2, .int 2), (3, .int 0)] → (7 - u_1.toInt).toNat < nkey_3 → W p l e ({ frames := 1, cells := 0, slots := 0, locals := 60 }) s m ([.ref r0, .int 7, .int 2, .int 0] : List Value).toArray below meth c H locs 0 0 Q9 (F0 m 3 ls []) := by
    intro nkey_3
    induction nkey_3 with
    | zero => intro u_1 f_2 H locs ls hu_1 hf_2 hcp9 hP hD hS hl hnkey_3; exact absurd hnkey_3 (Nat.not_lt_zero _)
    | succ nkey_3 ihkey_3 =>
      intro u_1 f_2 H locs ls hu_1 hf_2 hcp9 hP hD hS hl hnkey_3
      refine lv_iload hx hb dX12_copyRow_3 (lv_at hl 0 rfl) ?_
      refine lv_iload_n hx hb dX12_copyRow_5 rfl (lv_at hl 2 rfl) ?_
      refine lv_icmp_ge (tgt := 31) hx hb dX12_copyRow_6 (by decide) (fun c_4 => ?_) (fun c_4 => ?_)
      · have c_4 : 7 ≤ u_1.toInt := cv_le c_4
        rw [hQ9]
        have hP9 := hP.sub (ws' := [(r0, .inl (cyI, 35, .inl f_2))]) [0] rfl
        have hD9 := hD.sub (ws' := [(r0, .inl (cyI, 35, .inl f_2))]) [0] (by decide) rfl
        exact W.vret hx hb hr (fun t ht hW => ⟨⟨(), rfl, trivial, ⟨f_2, hf_2, (cpr_end hcp9 (by omega)), by rw [ht]; exact hP9, hD9⟩⟩, hS.F ht⟩) hS.2.2 dX12_copyRow_31
      · have c_4 : u_1.toInt < 7 := cv_nle c_4
        refine lv_aload_n hx hb dX12_copyRow_9 rfl (lv_at hl 1 rfl) ?_
        refine lv_iload_n hx hb dX12_copyRow_10 rfl (lv_at hl 2 rfl) ?_
        refine lv_iload_n hx hb dX12_copyRow_11 rfl (lv_at hl 4 rfl) ?_
        refine lv_imul hx hb dX12_copyRow_12 ?_
        refine cv_topi (b := 0) (by decide) ?_
        refine lv_iload hx hb dX12_copyRow_13 (lv_at hl 0 rfl) ?_
        refine lv_iadd hx hb dX12_copyRow_15 ?_
        refine lv_topi (fun x_5 ex_5 => ?_)
        have fx_5 : x_5.toInt = 0 + u_1.toInt := by rw [ex_5]; exact cv_addI (by have : (0 : Int32).toInt = 0 := rfl; omega) (by have : (0 : Int32).toInt = 0 := rfl; omega)
        refine lv_aload_n hx hb dX12_copyRow_16 rfl (lv_at hl 1 rfl) ?_
        refine lv_iload_n hx hb dX12_copyRow_17 rfl (lv_at hl 2 rfl) ?_
        refine lv_iload_n hx hb dX12_copyRow_18 rfl (lv_at hl 3 rfl) ?_
        refine lv_imul hx hb dX12_copyRow_19 ?_
        refine cv_topi (b := 14) (by decide) ?_
        refine lv_iload hx hb dX12_copyRow_20 (lv_at hl 0 rfl) ?_
        refine lv_iadd hx hb dX12_copyRow_22 ?_
        refine lv_topi (fun x_6 ex_6 => ?_)
        have fx_6 : x_6.toInt = 14 + u_1.toInt := by rw [ex_6]; exact cv_addI (by have : (14 : Int32).toInt = 14 := rfl; omega) (by have : (14 : Int32).toInt = 14 := rfl; omega)
        refine va_iald hx hb hK hP 0 0 rfl rfl (vp_in_iff.mpr (by omega)) dX12_copyRow_23 ?_
        refine lv_topi (fun x_7 ex_7 => ?_)
        have fx_7 : 0 ≤ x_7.toInt ∧ x_7.toInt ≤ 6 := by rw [ex_7]; exact hf_2 _ (cv_ix (by omega) (by omega))
        refine va_iast hx hb hK hP hD hS 0 0 rfl rfl (vp_in_iff.mpr (by omega)) dX12_copyRow_24 (fun H locs hP hD hS => ?_)
        obtain ⟨f_8, ef_8⟩ : ∃ z9 : Nat → Int32, z9 = upd f_2 x_5.toNatClampNeg x_7 := ⟨_, rfl⟩
        rw [← ef_8] at hP hD
        have hP : va_P (dC, dI) vwCl [(r0, .inl (cyI, 35, .inl f_8))] H := hP
        have hD : va_D A [(r0, .inl (cyI, 35, .inl f_8))] := hD
        have hf_8 : rg 0 6 35 f_8 := by rw [ef_8]; exact rg_upd (hf_2) ⟨by omega, by omega⟩
        obtain ⟨x_9, ex_9⟩ : ∃ y : Int32, y = u_1 + 1 := ⟨_, rfl⟩
        refine lv_iinc (v := x_9) (lv' := [(4, .int x_9), (0, .ref r0), (1, .int 7), (2, .int 2), (3, .int 0)]) hx hb dX12_copyRow_25 hl (k := 0) rfl (by rw [ex_9]; rfl) (by decide) rfl (fun ls hl => ?_)
        have fx_9 : x_9.toInt = u_1.toInt + 1 := by rw [ex_9]; exact cv_addI (by have : (1 : Int32).toInt = 1 := rfl; omega) (by have : (1 : Int32).toInt = 1 := rfl; omega)
        refine lv_goto (tgt := 3) hx hb dX12_copyRow_28 (by decide) ?_
        exact ihkey_3 x_9 f_8 _ _ _ (by omega) hf_8 (cpr_step (n := 0) hcp9 (by assumption) (by assumption) (by omega) (by omega) (by omega) (by omega) (by decide) (by omega)) hP hD hS (lv_sub hl [0, 1, 2, 3, 4] rfl) (by omega)
  exact key_3 _ 0 f0 _ _ _ (by decide) g0 cpr_zero hP hD hS (lv_sub hl [0, 1, 2, 3, 4] rfl) (Nat.lt_succ_self _)

/- X12_copyRow -/
set_option maxHeartbeats 4000000 in
set_option maxRecDepth 100000 in
theorem m_cp_told_30 (l : Launch) (dC : Nat → ClassId) (dI : Nat → Nat → Nat) (cyI cyB cyJ cyZ cyH cyN : ClassId) (sz : Nat) (r0 : Nat) (f0 : Nat → Int32) (g0 : rg 0 6 35 f0) : Met l yX12_copyRow (wk yX12_copyRow cX12_copyRow 5 none) ({ frames := 1, cells := 0, slots := 0, locals := 60 }) (va_Pc [.ref r0, .int 7, .int 3, .int 0] (fun U => U.heap.size = sz ∧ va_P (dC, dI) vwCl [(r0, .inl (cyI, 35, .inl f0))] U.heap ∧ va_K (dC, dI) vwCl [(cyI, .int), (cyB, .byte), (cyJ, .long), (cyZ, .boolean), (cyH, .object RX2), (cyN, .array .long)] U ∧ va_D (fun _ => True) [(r0, .inl (cyI, 35, .inl f0))])) (va_Qv (fun _ : Unit => True) (fun (_ : Unit) (t : State) => ∃ y0 : Nat → Int32, (rg 0 6 35 y0) ∧ (cpr 7 3 0 7 f0 y0) ∧ va_P (dC, dI) vwCl [(r0, .inl (cyI, 35, .inl y0))] t.heap ∧ va_D (va_A [(r0, .inl (cyI, 35, .inl f0))] sz) [(r0, .inl (cyI, 35, .inl y0))]) (va_A [(r0, .inl (cyI, 35, .inl f0))] sz)) 0 0 (va_A [(r0, .inl (cyI, 35, .inl f0))] sz) := by
  refine Met.ofW (cc := cX12_copyRow) (maxL := 5) (ret := none) (by decide) rfl ?_
  intro p e s m args below meth c s₁ B hml hv
  obtain ⟨rfl, hsz, hP, hK, hD0⟩ := hv
  have hx := B.exec
  have hb := B.bytes
  have hr := B.returns
  have hts : ∀ w ∈ uU, w.before ([.ref r0, .int 7, .int 3, .int 0] : List Value).toArray s = true := fun w h => atoms_spec (ws := wk yX12_copyRow cX12_copyRow 5 none) B.pre w (List.mem_cons_of_mem _ h)
  have hown : s.vm.findClass RX12 = some m.cls := findClass_of_methodNamed B.named
  have hlocks := B.notSynchronized
  subst hsz
  have hD := hD0.self (sz := s.heap.size)
  generalize hAe : va_A [(r0, .inl (cyI, 35, .inl f0))] s.heap.size = A at hD ⊢
  have hA : ∀ q : Nat, s.heap.size ≤ q → A q := fun q h => by rw [← hAe]; exact Or.inr h
  have hS : va_S A s.heap s.heap [] := va_S.rf
  have hP : va_P (dC, dI) vwCl [(r0, .inl (cyI, 35, .inl f0))] s.heap := hP
  have hl := lv_entry ([.ref r0, .int 7, .int 3, .int 0]) (n := 5) (Nat.le_of_ble_eq_true rfl)
  rw [lg_entry_eq]
  generalize (lg_sl ([.ref r0, .int 7, .int 3, .int 0]) ++ List.replicate (5 - (lg_sl ([.ref r0, .int 7, .int 3, .int 0])).length) Slot.unset).toArray = ls at hl ⊢
  have hl : lv_has ls 5 [(0, .ref r0), (1, .int 7), (2, .int 3), (3, .int 0)] := hl
  obtain ⟨H, hHe⟩ : ∃ H, H = s.heap := ⟨_, rfl⟩
  have hP : va_P (dC, dI) vwCl [(r0, .inl (cyI, 35, .inl f0))] H := by rw [hHe]; exact hP
  have hS : va_S A s.heap H [] := by rw [hHe]; exact hS
  refine cv_heap hHe ?_
  obtain ⟨Q9, hQ9⟩ : ∃ Q9 : State → Prop, Q9 = MQ below (va_Qv (fun _ : Unit => True) (fun (_ : Unit) (t : State) => ∃ y0 : Nat → Int32, (rg 0 6 35 y0) ∧ (cpr 7 3 0 7 f0 y0) ∧ va_P (dC, dI) vwCl [(r0, .inl (cyI, 35, .inl y0))] t.heap ∧ va_D A [(r0, .inl (cyI, 35, .inl y0))]) A) ([.ref r0, .int 7, .int 3, .int 0] : List Value).toArray s 0 0 A := ⟨_, rfl⟩
  rw [← hQ9]
  refine lv_iconst (v := 0) hx hb dX12_copyRow_0 (by decide) ?_
  refine lv_istore (lv' := [(4, .int 0), (0, .ref r0), (1, .int 7), (2, .int 3), (3, .int 0)]) hx hb dX12_copyRow_1 hl (by decide) rfl (fun ls hl => ?_)
  have key_3 : ∀ (nkey_3 : Nat) (u_1 : Int32) (f_2 : Nat → Int32) (H : Heap) (locs : List Loc) (ls : Array Slot), (0 ≤ u_1.toInt ∧ u_1.toInt ≤ 7) → rg 0 6 35 f_2 → (cpr 7 3 0 u_1.toInt.toNat f0 f_2) → va_P (dC, dI) vwCl [(r0, .inl (cyI, 35, .inl f_2))] H → va_D A [(r0, .inl (cyI, 35, .inl f_2))] → va_S A s.heap H locs → lv_has ls 5 [(4, .int u_1), (0, .ref r0), (1, .int 7), (2, .int 3), (3, .int 0)] → (7 - u_1.toInt).toNat < nkey_3 → W p l e ({ frames := 1, cells := 0, slots := 0, locals := 60 }) s m ([.ref r0, .int 7, .int 3, .int 0] : List Value).toArray below meth c H locs 0 0 Q9 (F0 m 3 ls []) := by
    intro nkey_3
    induction nkey_3 with
    | zero => intro u_1 f_2 H locs ls hu_1 hf_2 hcp9 hP hD hS hl hnkey_3; exact absurd hnkey_3 (Nat.not_lt_zero _)
    | succ nkey_3 ihkey_3 =>
      intro u_1 f_2 H locs ls hu_1 hf_2 hcp9 hP hD hS hl hnkey_3
      refine lv_iload hx hb dX12_copyRow_3 (lv_at hl 0 rfl) ?_
      refine lv_iload_n hx hb dX12_copyRow_5 rfl (lv_at hl 2 rfl) ?_
      refine lv_icmp_ge (tgt := 31) hx hb dX12_copyRow_6 (by decide) (fun c_4 => ?_) (fun c_4 => ?_)
      · have c_4 : 7 ≤ u_1.toInt := cv_le c_4
        rw [hQ9]
        have hP9 := hP.sub (ws' := [(r0, .inl (cyI, 35, .inl f_2))]) [0] rfl
        have hD9 := hD.sub (ws' := [(r0, .inl (cyI, 35, .inl f_2))]) [0] (by decide) rfl
        exact W.vret hx hb hr (fun t ht hW => ⟨⟨(), rfl, trivial, ⟨f_2, hf_2, (cpr_end hcp9 (by omega)), by rw [ht]; exact hP9, hD9⟩⟩, hS.F ht⟩) hS.2.2 dX12_copyRow_31
      · have c_4 : u_1.toInt < 7 := cv_nle c_4
        refine lv_aload_n hx hb dX12_copyRow_9 rfl (lv_at hl 1 rfl) ?_
        refine lv_iload_n hx hb dX12_copyRow_10 rfl (lv_at hl 2 rfl) ?_
        refine lv_iload_n hx hb dX12_copyRow_11 rfl (lv_at hl 4 rfl) ?_
        refine lv_imul hx hb dX12_copyRow_12 ?_
        refine cv_topi (b := 0) (by decide) ?_
        refine lv_iload hx hb dX12_copyRow_13 (lv_at hl 0 rfl) ?_
        refine lv_iadd hx hb dX12_copyRow_15 ?_
        refine lv_topi (fun x_5 ex_5 => ?_)
        have fx_5 : x_5.toInt = 0 + u_1.toInt := by rw [ex_5]; exact cv_addI (by have : (0 : Int32).toInt = 0 := rfl; omega) (by have : (0 : Int32).toInt = 0 := rfl; omega)
        refine lv_aload_n hx hb dX12_copyRow_16 rfl (lv_at hl 1 rfl) ?_
        refine lv_iload_n hx hb dX12_copyRow_17 rfl (lv_at hl 2 rfl) ?_
        refine lv_iload_n hx hb dX12_copyRow_18 rfl (lv_at hl 3 rfl) ?_
        refine lv_imul hx hb dX12_copyRow_19 ?_
        refine cv_topi (b := 21) (by decide) ?_
        refine lv_iload hx hb dX12_copyRow_20 (lv_at hl 0 rfl) ?_
        refine lv_iadd hx hb dX12_copyRow_22 ?_
        refine lv_topi (fun x_6 ex_6 => ?_)
        have fx_6 : x_6.toInt = 21 + u_1.toInt := by rw [ex_6]; exact cv_addI (by have : (21 : Int32).toInt = 21 := rfl; omega) (by have : (21 : Int32).toInt = 21 := rfl; omega)
        refine va_iald hx hb hK hP 0 0 rfl rfl (vp_in_iff.mpr (by omega)) dX12_copyRow_23 ?_
        refine lv_topi (fun x_7 ex_7 => ?_)
        have fx_7 : 0 ≤ x_7.toInt ∧ x_7.toInt ≤ 6 := by rw [ex_7]; exact hf_2 _ (cv_ix (by omega) (by omega))
        refine va_iast hx hb hK hP hD hS 0 0 rfl rfl (vp_in_iff.mpr (by omega)) dX12_copyRow_24 (fun H locs hP hD hS => ?_)
        obtain ⟨f_8, ef_8⟩ : ∃ z9 : Nat → Int32, z9 = upd f_2 x_5.toNatClampNeg x_7 := ⟨_, rfl⟩
        rw [← ef_8] at hP hD
        have hP : va_P (dC, dI) vwCl [(r0, .inl (cyI, 35, .inl f_8))] H := hP
        have hD : va_D A [(r0, .inl (cyI, 35, .inl f_8))] := hD
        have hf_8 : rg 0 6 35 f_8 := by rw [ef_8]; exact rg_upd (hf_2) ⟨by omega, by omega⟩
        obtain ⟨x_9, ex_9⟩ : ∃ y : Int32, y = u_1 + 1 := ⟨_, rfl⟩
        refine lv_iinc (v := x_9) (lv' := [(4, .int x_9), (0, .ref r0), (1, .int 7), (2, .int 3), (3, .int 0)]) hx hb dX12_copyRow_25 hl (k := 0) rfl (by rw [ex_9]; rfl) (by decide) rfl (fun ls hl => ?_)
        have fx_9 : x_9.toInt = u_1.toInt + 1 := by rw [ex_9]; exact cv_addI (by have : (1 : Int32).toInt = 1 := rfl; omega) (by have : (1 : Int32).toInt = 1 := rfl; omega)
        refine lv_goto (tgt := 3) hx hb dX12_copyRow_28 (by decide) ?_
        exact ihkey_3 x_9 f_8 _ _ _ (by omega) hf_8 (cpr_step (n := 0) hcp9 (by assumption) (by assumption) (by omega) (by omega) (by omega) (by omega) (by decide) (by omega)) hP hD hS (lv_sub hl [0, 1, 2, 3, 4] rfl) (by omega)
  exact key_3 _ 0 f0 _ _ _ (by decide) g0 cpr_zero hP hD hS (lv_sub hl [0, 1, 2, 3, 4] rfl) (Nat.lt_succ_self _)

/- X12_copyRow -/
set_option maxHeartbeats 4000000 in
set_option maxRecDepth 100000 in
theorem m_cp_law_40 (l : Launch) (dC : Nat → ClassId) (dI : Nat → Nat → Nat) (cyI cyB cyJ cyZ cyH cyN : ClassId) (sz : Nat) (r0 : Nat) (f0 : Nat → Int32) : Met l yX12_copyRow (wk yX12_copyRow cX12_copyRow 5 none) ({ frames := 1, cells := 0, slots := 0, locals := 60 }) (va_Pc [.ref r0, .int 24, .int 4, .int 0] (fun U => U.heap.size = sz ∧ va_P (dC, dI) vwCl [(r0, .inl (cyI, 120, .inl f0))] U.heap ∧ va_K (dC, dI) vwCl [(cyI, .int), (cyB, .byte), (cyJ, .long), (cyZ, .boolean), (cyH, .object RX2), (cyN, .array .long)] U ∧ va_D (fun _ => True) [(r0, .inl (cyI, 120, .inl f0))])) (va_Qv (fun _ : Unit => True) (fun (_ : Unit) (t : State) => ∃ y0 : Nat → Int32, (cpr 24 4 0 24 f0 y0) ∧ va_P (dC, dI) vwCl [(r0, .inl (cyI, 120, .inl y0))] t.heap ∧ va_D (va_A [(r0, .inl (cyI, 120, .inl f0))] sz) [(r0, .inl (cyI, 120, .inl y0))]) (va_A [(r0, .inl (cyI, 120, .inl f0))] sz)) 0 0 (va_A [(r0, .inl (cyI, 120, .inl f0))] sz) := by
  refine Met.ofW (cc := cX12_copyRow) (maxL := 5) (ret := none) (by decide) rfl ?_
  intro p e s m args below meth c s₁ B hml hv
  obtain ⟨rfl, hsz, hP, hK, hD0⟩ := hv
  have hx := B.exec
  have hb := B.bytes
  have hr := B.returns
  have hts : ∀ w ∈ uU, w.before ([.ref r0, .int 24, .int 4, .int 0] : List Value).toArray s = true := fun w h => atoms_spec (ws := wk yX12_copyRow cX12_copyRow 5 none) B.pre w (List.mem_cons_of_mem _ h)
  have hown : s.vm.findClass RX12 = some m.cls := findClass_of_methodNamed B.named
  have hlocks := B.notSynchronized
  subst hsz
  have hD := hD0.self (sz := s.heap.size)
  generalize hAe : va_A [(r0, .inl (cyI, 120, .inl f0))] s.heap.size = A at hD ⊢
  have hA : ∀ q : Nat, s.heap.size ≤ q → A q := fun q h => by rw [← hAe]; exact Or.inr h
  have hS : va_S A s.heap s.heap [] := va_S.rf
  have hP : va_P (dC, dI) vwCl [(r0, .inl (cyI, 120, .inl f0))] s.heap := hP
  have hl := lv_entry ([.ref r0, .int 24, .int 4, .int 0]) (n := 5) (Nat.le_of_ble_eq_true rfl)
  rw [lg_entry_eq]
  generalize (lg_sl ([.ref r0, .int 24, .int 4, .int 0]) ++ List.replicate (5 - (lg_sl ([.ref r0, .int 24, .int 4, .int 0])).length) Slot.unset).toArray = ls at hl ⊢
  have hl : lv_has ls 5 [(0, .ref r0), (1, .int 24), (2, .int 4), (3, .int 0)] := hl
  obtain ⟨H, hHe⟩ : ∃ H, H = s.heap := ⟨_, rfl⟩
  have hP : va_P (dC, dI) vwCl [(r0, .inl (cyI, 120, .inl f0))] H := by rw [hHe]; exact hP
  have hS : va_S A s.heap H [] := by rw [hHe]; exact hS
  refine cv_heap hHe ?_
  obtain ⟨Q9, hQ9⟩ : ∃ Q9 : State → Prop, Q9 = MQ below (va_Qv (fun _ : Unit => True) (fun (_ : Unit) (t : State) => ∃ y0 : Nat → Int32, (cpr 24 4 0 24 f0 y0) ∧ va_P (dC, dI) vwCl [(r0, .inl (cyI, 120, .inl y0))] t.heap ∧ va_D A [(r0, .inl (cyI, 120, .inl y0))]) A) ([.ref r0, .int 24, .int 4, .int 0] : List Value).toArray s 0 0 A := ⟨_, rfl⟩
  rw [← hQ9]
  refine lv_iconst (v := 0) hx hb dX12_copyRow_0 (by decide) ?_
  refine lv_istore (lv' := [(4, .int 0), (0, .ref r0), (1, .int 24), (2, .int 4), (3, .int 0)]) hx hb dX12_copyRow_1 hl (by decide) rfl (fun ls hl => ?_)
  have key_3 : ∀ (nkey_3 : Nat) (u_1 : Int32) (f_2 : Nat → Int32) (H : Heap) (locs : List Loc) (ls : Array Slot), (0 ≤ u_1.toInt ∧ u_1.toInt ≤ 24) → (cpr 24 4 0 u_1.toInt.toNat f0 f_2) → va_P (dC, dI) vwCl [(r0, .inl (cyI, 120, .inl f_2))] H → va_D A [(r0, .inl (cyI, 120, .inl f_2))] → va_S A s.heap H locs → lv_has ls 5 [(4, .int u_1), (0, .ref r0), (1, .int 24), (2, .int 4), (3, .int 0)] → (24 - u_1.toInt).toNat < nkey_3 → W p l e ({ frames := 1, cells := 0, slots := 0, locals := 60 }) s m ([.ref r0, .int 24, .int 4, .int 0] : List Value).toArray below meth c H locs 0 0 Q9 (F0 m 3 ls []) := by
    intro nkey_3
    induction nkey_3 with
    | zero => intro u_1 f_2 H locs ls hu_1 hcp9 hP hD hS hl hnkey_3; exact absurd hnkey_3 (Nat.not_lt_zero _)
    | succ nkey_3 ihkey_3 =>
      intro u_1 f_2 H locs ls hu_1 hcp9 hP hD hS hl hnkey_3
      refine lv_iload hx hb dX12_copyRow_3 (lv_at hl 0 rfl) ?_
      refine lv_iload_n hx hb dX12_copyRow_5 rfl (lv_at hl 2 rfl) ?_
      refine lv_icmp_ge (tgt := 31) hx hb dX12_copyRow_6 (by decide) (fun c_4 => ?_) (fun c_4 => ?_)
      · have c_4 : 24 ≤ u_1.toInt := cv_le c_4
        rw [hQ9]
        have hP9 := hP.sub (ws' := [(r0, .inl (cyI, 120, .inl f_2))]) [0] rfl
        have hD9 := hD.sub (ws' := [(r0, .inl (cyI, 120, .inl f_2))]) [0] (by decide) rfl
        exact W.vret hx hb hr (fun t ht hW => ⟨⟨(), rfl, trivial, ⟨f_2, (cpr_end hcp9 (by omega)), by rw [ht]; exact hP9, hD9⟩⟩, hS.F ht⟩) hS.2.2 dX12_copyRow_31
      · have c_4 : u_1.toInt < 24 := cv_nle c_4
        refine lv_aload_n hx hb dX12_copyRow_9 rfl (lv_at hl 1 rfl) ?_
        refine lv_iload_n hx hb dX12_copyRow_10 rfl (lv_at hl 2 rfl) ?_
        refine lv_iload_n hx hb dX12_copyRow_11 rfl (lv_at hl 4 rfl) ?_
        refine lv_imul hx hb dX12_copyRow_12 ?_
        refine cv_topi (b := 0) (by decide) ?_
        refine lv_iload hx hb dX12_copyRow_13 (lv_at hl 0 rfl) ?_
        refine lv_iadd hx hb dX12_copyRow_15 ?_
        refine lv_topi (fun x_5 ex_5 => ?_)
        have fx_5 : x_5.toInt = 0 + u_1.toInt := by rw [ex_5]; exact cv_addI (by have : (0 : Int32).toInt = 0 := rfl; omega) (by have : (0 : Int32).toInt = 0 := rfl; omega)
        refine lv_aload_n hx hb dX12_copyRow_16 rfl (lv_at hl 1 rfl) ?_
        refine lv_iload_n hx hb dX12_copyRow_17 rfl (lv_at hl 2 rfl) ?_
        refine lv_iload_n hx hb dX12_copyRow_18 rfl (lv_at hl 3 rfl) ?_
        refine lv_imul hx hb dX12_copyRow_19 ?_
        refine cv_topi (b := 96) (by decide) ?_
        refine lv_iload hx hb dX12_copyRow_20 (lv_at hl 0 rfl) ?_
        refine lv_iadd hx hb dX12_copyRow_22 ?_
        refine lv_topi (fun x_6 ex_6 => ?_)
        have fx_6 : x_6.toInt = 96 + u_1.toInt := by rw [ex_6]; exact cv_addI (by have : (96 : Int32).toInt = 96 := rfl; omega) (by have : (96 : Int32).toInt = 96 := rfl; omega)
        refine va_iald hx hb hK hP 0 0 rfl rfl (vp_in_iff.mpr (by omega)) dX12_copyRow_23 ?_
        refine lv_topi (fun x_7 ex_7 => ?_)
        refine va_iast hx hb hK hP hD hS 0 0 rfl rfl (vp_in_iff.mpr (by omega)) dX12_copyRow_24 (fun H locs hP hD hS => ?_)
        obtain ⟨f_8, ef_8⟩ : ∃ z9 : Nat → Int32, z9 = upd f_2 x_5.toNatClampNeg x_7 := ⟨_, rfl⟩
        rw [← ef_8] at hP hD
        have hP : va_P (dC, dI) vwCl [(r0, .inl (cyI, 120, .inl f_8))] H := hP
        have hD : va_D A [(r0, .inl (cyI, 120, .inl f_8))] := hD
        obtain ⟨x_9, ex_9⟩ : ∃ y : Int32, y = u_1 + 1 := ⟨_, rfl⟩
        refine lv_iinc (v := x_9) (lv' := [(4, .int x_9), (0, .ref r0), (1, .int 24), (2, .int 4), (3, .int 0)]) hx hb dX12_copyRow_25 hl (k := 0) rfl (by rw [ex_9]; rfl) (by decide) rfl (fun ls hl => ?_)
        have fx_9 : x_9.toInt = u_1.toInt + 1 := by rw [ex_9]; exact cv_addI (by have : (1 : Int32).toInt = 1 := rfl; omega) (by have : (1 : Int32).toInt = 1 := rfl; omega)
        refine lv_goto (tgt := 3) hx hb dX12_copyRow_28 (by decide) ?_
        exact ihkey_3 x_9 f_8 _ _ _ (by omega) (cpr_step (n := 0) hcp9 (by assumption) (by assumption) (by omega) (by omega) (by omega) (by omega) (by decide) (by omega)) hP hD hS (lv_sub hl [0, 1, 2, 3, 4] rfl) (by omega)
  exact key_3 _ 0 f0 _ _ _ (by decide) cpr_zero hP hD hS (lv_sub hl [0, 1, 2, 3, 4] rfl) (Nat.lt_succ_self _)

/- X12_copyRow -/
set_option maxHeartbeats 4000000 in
set_option maxRecDepth 100000 in
theorem m_cp_law_01 (l : Launch) (dC : Nat → ClassId) (dI : Nat → Nat → Nat) (cyI cyB cyJ cyZ cyH cyN : ClassId) (sz : Nat) (r0 : Nat) (f0 : Nat → Int32) : Met l yX12_copyRow (wk yX12_copyRow cX12_copyRow 5 none) ({ frames := 1, cells := 0, slots := 0, locals := 60 }) (va_Pc [.ref r0, .int 24, .int 0, .int 1] (fun U => U.heap.size = sz ∧ va_P (dC, dI) vwCl [(r0, .inl (cyI, 120, .inl f0))] U.heap ∧ va_K (dC, dI) vwCl [(cyI, .int), (cyB, .byte), (cyJ, .long), (cyZ, .boolean), (cyH, .object RX2), (cyN, .array .long)] U ∧ va_D (fun _ => True) [(r0, .inl (cyI, 120, .inl f0))])) (va_Qv (fun _ : Unit => True) (fun (_ : Unit) (t : State) => ∃ y0 : Nat → Int32, (cpr 24 0 1 24 f0 y0) ∧ va_P (dC, dI) vwCl [(r0, .inl (cyI, 120, .inl y0))] t.heap ∧ va_D (va_A [(r0, .inl (cyI, 120, .inl f0))] sz) [(r0, .inl (cyI, 120, .inl y0))]) (va_A [(r0, .inl (cyI, 120, .inl f0))] sz)) 0 0 (va_A [(r0, .inl (cyI, 120, .inl f0))] sz) := by
  refine Met.ofW (cc := cX12_copyRow) (maxL := 5) (ret := none) (by decide) rfl ?_
  intro p e s m args below meth c s₁ B hml hv
  obtain ⟨rfl, hsz, hP, hK, hD0⟩ := hv
  have hx := B.exec
  have hb := B.bytes
  have hr := B.returns
  have hts : ∀ w ∈ uU, w.before ([.ref r0, .int 24, .int 0, .int 1] : List Value).toArray s = true := fun w h => atoms_spec (ws := wk yX12_copyRow cX12_copyRow 5 none) B.pre w (List.mem_cons_of_mem _ h)
  have hown : s.vm.findClass RX12 = some m.cls := findClass_of_methodNamed B.named
  have hlocks := B.notSynchronized
  subst hsz
  have hD := hD0.self (sz := s.heap.size)
  generalize hAe : va_A [(r0, .inl (cyI, 120, .inl f0))] s.heap.size = A at hD ⊢
  have hA : ∀ q : Nat, s.heap.size ≤ q → A q := fun q h => by rw [← hAe]; exact Or.inr h
  have hS : va_S A s.heap s.heap [] := va_S.rf
  have hP : va_P (dC, dI) vwCl [(r0, .inl (cyI, 120, .inl f0))] s.heap := hP
  have hl := lv_entry ([.ref r0, .int 24, .int 0, .int 1]) (n := 5) (Nat.le_of_ble_eq_true rfl)
  rw [lg_entry_eq]
  generalize (lg_sl ([.ref r0, .int 24, .int 0, .int 1]) ++ List.replicate (5 - (lg_sl ([.ref r0, .int 24, .int 0, .int 1])).length) Slot.unset).toArray = ls at hl ⊢
  have hl : lv_has ls 5 [(0, .ref r0), (1, .int 24), (2, .int 0), (3, .int 1)] := hl
  obtain ⟨H, hHe⟩ : ∃ H, H = s.heap := ⟨_, rfl⟩
  have hP : va_P (dC, dI) vwCl [(r0, .inl (cyI, 120, .inl f0))] H := by rw [hHe]; exact hP
  have hS : va_S A s.heap H [] := by rw [hHe]; exact hS
  refine cv_heap hHe ?_
  obtain ⟨Q9, hQ9⟩ : ∃ Q9 : State → Prop, Q9 = MQ below (va_Qv (fun _ : Unit => True) (fun (_ : Unit) (t : State) => ∃ y0 : Nat → Int32, (cpr 24 0 1 24 f0 y0) ∧ va_P (dC, dI) vwCl [(r0, .inl (cyI, 120, .inl y0))] t.heap ∧ va_D A [(r0, .inl (cyI, 120, .inl y0))]) A) ([.ref r0, .int 24, .int 0, .int 1] : List Value).toArray s 0 0 A := ⟨_, rfl⟩
  rw [← hQ9]
  refine lv_iconst (v := 0) hx hb dX12_copyRow_0 (by decide) ?_
  refine lv_istore (lv' := [(4, .int 0), (0, .ref r0), (1, .int 24), (2, .int 0), (3, .int 1)]) hx hb dX12_copyRow_1 hl (by decide) rfl (fun ls hl => ?_)
  have key_3 : ∀ (nkey_3 : Nat) (u_1 : Int32) (f_2 : Nat → Int32) (H : Heap) (locs : List Loc) (ls : Array Slot), (0 ≤ u_1.toInt ∧ u_1.toInt ≤ 24) → (cpr 24 0 1 u_1.toInt.toNat f0 f_2) → va_P (dC, dI) vwCl [(r0, .inl (cyI, 120, .inl f_2))] H → va_D A [(r0, .inl (cyI, 120, .inl f_2))] → va_S A s.heap H locs → lv_has ls 5 [(4, .int u_1), (0, .ref r0), (1, .int 24), (2, .int 0), (3, .int 1)] → (24 - u_1.toInt).toNat < nkey_3 → W p l e ({ frames := 1, cells := 0, slots := 0, locals := 60 }) s m ([.ref r0, .int 24, .int 0, .int 1] : List Value).toArray below meth c H locs 0 0 Q9 (F0 m 3 ls []) := by
    intro nkey_3
    induction nkey_3 with
    | zero => intro u_1 f_2 H locs ls hu_1 hcp9 hP hD hS hl hnkey_3; exact absurd hnkey_3 (Nat.not_lt_zero _)
    | succ nkey_3 ihkey_3 =>
      intro u_1 f_2 H locs ls hu_1 hcp9 hP hD hS hl hnkey_3
      refine lv_iload hx hb dX12_copyRow_3 (lv_at hl 0 rfl) ?_
      refine lv_iload_n hx hb dX12_copyRow_5 rfl (lv_at hl 2 rfl) ?_
      refine lv_icmp_ge (tgt := 31) hx hb dX12_copyRow_6 (by decide) (fun c_4 => ?_) (fun c_4 => ?_)
      · have c_4 : 24 ≤ u_1.toInt := cv_le c_4
        rw [hQ9]
        have hP9 := hP.sub (ws' := [(r0, .inl (cyI, 120, .inl f_2))]) [0] rfl
        have hD9 := hD.sub (ws' := [(r0, .inl (cyI, 120, .inl f_2))]) [0] (by decide) rfl
        exact W.vret hx hb hr (fun t ht hW => ⟨⟨(), rfl, trivial, ⟨f_2, (cpr_end hcp9 (by omega)), by rw [ht]; exact hP9, hD9⟩⟩, hS.F ht⟩) hS.2.2 dX12_copyRow_31
      · have c_4 : u_1.toInt < 24 := cv_nle c_4
        refine lv_aload_n hx hb dX12_copyRow_9 rfl (lv_at hl 1 rfl) ?_
        refine lv_iload_n hx hb dX12_copyRow_10 rfl (lv_at hl 2 rfl) ?_
        refine lv_iload_n hx hb dX12_copyRow_11 rfl (lv_at hl 4 rfl) ?_
        refine lv_imul hx hb dX12_copyRow_12 ?_
        refine cv_topi (b := 24) (by decide) ?_
        refine lv_iload hx hb dX12_copyRow_13 (lv_at hl 0 rfl) ?_
        refine lv_iadd hx hb dX12_copyRow_15 ?_
        refine lv_topi (fun x_5 ex_5 => ?_)
        have fx_5 : x_5.toInt = 24 + u_1.toInt := by rw [ex_5]; exact cv_addI (by have : (24 : Int32).toInt = 24 := rfl; omega) (by have : (24 : Int32).toInt = 24 := rfl; omega)
        refine lv_aload_n hx hb dX12_copyRow_16 rfl (lv_at hl 1 rfl) ?_
        refine lv_iload_n hx hb dX12_copyRow_17 rfl (lv_at hl 2 rfl) ?_
        refine lv_iload_n hx hb dX12_copyRow_18 rfl (lv_at hl 3 rfl) ?_
        refine lv_imul hx hb dX12_copyRow_19 ?_
        refine cv_topi (b := 0) (by decide) ?_
        refine lv_iload hx hb dX12_copyRow_20 (lv_at hl 0 rfl) ?_
        refine lv_iadd hx hb dX12_copyRow_22 ?_
        refine lv_topi (fun x_6 ex_6 => ?_)
        have fx_6 : x_6.toInt = 0 + u_1.toInt := by rw [ex_6]; exact cv_addI (by have : (0 : Int32).toInt = 0 := rfl; omega) (by have : (0 : Int32).toInt = 0 := rfl; omega)
        refine va_iald hx hb hK hP 0 0 rfl rfl (vp_in_iff.mpr (by omega)) dX12_copyRow_23 ?_
        refine lv_topi (fun x_7 ex_7 => ?_)
        refine va_iast hx hb hK hP hD hS 0 0 rfl rfl (vp_in_iff.mpr (by omega)) dX12_copyRow_24 (fun H locs hP hD hS => ?_)
        obtain ⟨f_8, ef_8⟩ : ∃ z9 : Nat → Int32, z9 = upd f_2 x_5.toNatClampNeg x_7 := ⟨_, rfl⟩
        rw [← ef_8] at hP hD
        have hP : va_P (dC, dI) vwCl [(r0, .inl (cyI, 120, .inl f_8))] H := hP
        have hD : va_D A [(r0, .inl (cyI, 120, .inl f_8))] := hD
        obtain ⟨x_9, ex_9⟩ : ∃ y : Int32, y = u_1 + 1 := ⟨_, rfl⟩
        refine lv_iinc (v := x_9) (lv' := [(4, .int x_9), (0, .ref r0), (1, .int 24), (2, .int 0), (3, .int 1)]) hx hb dX12_copyRow_25 hl (k := 0) rfl (by rw [ex_9]; rfl) (by decide) rfl (fun ls hl => ?_)
        have fx_9 : x_9.toInt = u_1.toInt + 1 := by rw [ex_9]; exact cv_addI (by have : (1 : Int32).toInt = 1 := rfl; omega) (by have : (1 : Int32).toInt = 1 := rfl; omega)
        refine lv_goto (tgt := 3) hx hb dX12_copyRow_28 (by decide) ?_
        exact ihkey_3 x_9 f_8 _ _ _ (by omega) (cpr_step (n := 0) hcp9 (by assumption) (by assumption) (by omega) (by omega) (by omega) (by omega) (by decide) (by omega)) hP hD hS (lv_sub hl [0, 1, 2, 3, 4] rfl) (by omega)
  exact key_3 _ 0 f0 _ _ _ (by decide) cpr_zero hP hD hS (lv_sub hl [0, 1, 2, 3, 4] rfl) (Nat.lt_succ_self _)

/- X12_copyRow -/
set_option maxHeartbeats 4000000 in
set_option maxRecDepth 100000 in
theorem m_cp_law_02 (l : Launch) (dC : Nat → ClassId) (dI : Nat → Nat → Nat) (cyI cyB cyJ cyZ cyH cyN : ClassId) (sz : Nat) (r0 : Nat) (f0 : Nat → Int32) : Met l yX12_copyRow (wk yX12_copyRow cX12_copyRow 5 none) ({ frames := 1, cells := 0, slots := 0, locals := 60 }) (va_Pc [.ref r0, .int 24, .int 0, .int 2] (fun U => U.heap.size = sz ∧ va_P (dC, dI) vwCl [(r0, .inl (cyI, 120, .inl f0))] U.heap ∧ va_K (dC, dI) vwCl [(cyI, .int), (cyB, .byte), (cyJ, .long), (cyZ, .boolean), (cyH, .object RX2), (cyN, .array .long)] U ∧ va_D (fun _ => True) [(r0, .inl (cyI, 120, .inl f0))])) (va_Qv (fun _ : Unit => True) (fun (_ : Unit) (t : State) => ∃ y0 : Nat → Int32, (cpr 24 0 2 24 f0 y0) ∧ va_P (dC, dI) vwCl [(r0, .inl (cyI, 120, .inl y0))] t.heap ∧ va_D (va_A [(r0, .inl (cyI, 120, .inl f0))] sz) [(r0, .inl (cyI, 120, .inl y0))]) (va_A [(r0, .inl (cyI, 120, .inl f0))] sz)) 0 0 (va_A [(r0, .inl (cyI, 120, .inl f0))] sz) := by
  refine Met.ofW (cc := cX12_copyRow) (maxL := 5) (ret := none) (by decide) rfl ?_
  intro p e s m args below meth c s₁ B hml hv
  obtain ⟨rfl, hsz, hP, hK, hD0⟩ := hv
  have hx := B.exec
  have hb := B.bytes
  have hr := B.returns
  have hts : ∀ w ∈ uU, w.before ([.ref r0, .int 24, .int 0, .int 2] : List Value).toArray s = true := fun w h => atoms_spec (ws := wk yX12_copyRow cX12_copyRow 5 none) B.pre w (List.mem_cons_of_mem _ h)
  have hown : s.vm.findClass RX12 = some m.cls := findClass_of_methodNamed B.named
  have hlocks := B.notSynchronized
  subst hsz
  have hD := hD0.self (sz := s.heap.size)
  generalize hAe : va_A [(r0, .inl (cyI, 120, .inl f0))] s.heap.size = A at hD ⊢
  have hA : ∀ q : Nat, s.heap.size ≤ q → A q := fun q h => by rw [← hAe]; exact Or.inr h
  have hS : va_S A s.heap s.heap [] := va_S.rf
  have hP : va_P (dC, dI) vwCl [(r0, .inl (cyI, 120, .inl f0))] s.heap := hP
  have hl := lv_entry ([.ref r0, .int 24, .int 0, .int 2]) (n := 5) (Nat.le_of_ble_eq_true rfl)
  rw [lg_entry_eq]
  generalize (lg_sl ([.ref r0, .int 24, .int 0, .int 2]) ++ List.replicate (5 - (lg_sl ([.ref r0, .int 24, .int 0, .int 2])).length) Slot.unset).toArray = ls at hl ⊢
  have hl : lv_has ls 5 [(0, .ref r0), (1, .int 24), (2, .int 0), (3, .int 2)] := hl
  obtain ⟨H, hHe⟩ : ∃ H, H = s.heap := ⟨_, rfl⟩
  have hP : va_P (dC, dI) vwCl [(r0, .inl (cyI, 120, .inl f0))] H := by rw [hHe]; exact hP
  have hS : va_S A s.heap H [] := by rw [hHe]; exact hS
  refine cv_heap hHe ?_
  obtain ⟨Q9, hQ9⟩ : ∃ Q9 : State → Prop, Q9 = MQ below (va_Qv (fun _ : Unit => True) (fun (_ : Unit) (t : State) => ∃ y0 : Nat → Int32, (cpr 24 0 2 24 f0 y0) ∧ va_P (dC, dI) vwCl [(r0, .inl (cyI, 120, .inl y0))] t.heap ∧ va_D A [(r0, .inl (cyI, 120, .inl y0))]) A) ([.ref r0, .int 24, .int 0, .int 2] : List Value).toArray s 0 0 A := ⟨_, rfl⟩
  rw [← hQ9]
  refine lv_iconst (v := 0) hx hb dX12_copyRow_0 (by decide) ?_
  refine lv_istore (lv' := [(4, .int 0), (0, .ref r0), (1, .int 24), (2, .int 0), (3, .int 2)]) hx hb dX12_copyRow_1 hl (by decide) rfl (fun ls hl => ?_)
  have key_3 : ∀ (nkey_3 : Nat) (u_1 : Int32) (f_2 : Nat → Int32) (H : Heap) (locs : List Loc) (ls : Array Slot), (0 ≤ u_1.toInt ∧ u_1.toInt ≤ 24) → (cpr 24 0 2 u_1.toInt.toNat f0 f_2) → va_P (dC, dI) vwCl [(r0, .inl (cyI, 120, .inl f_2))] H → va_D A [(r0, .inl (cyI, 120, .inl f_2))] → va_S A s.heap H locs → lv_has ls 5 [(4, .int u_1), (0, .ref r0), (1, .int 24), (2, .int 0), (3, .int 2)] → (24 - u_1.toInt).toNat < nkey_3 → W p l e ({ frames := 1, cells := 0, slots := 0, locals := 60 }) s m ([.ref r0, .int 24, .int 0, .int 2] : List Value).toArray below meth c H locs 0 0 Q9 (F0 m 3 ls []) := by
    intro nkey_3
    induction nkey_3 with
    | zero => intro u_1 f_2 H locs ls hu_1 hcp9 hP hD hS hl hnkey_3; exact absurd hnkey_3 (Nat.not_lt_zero _)
    | succ nkey_3 ihkey_3 =>
      intro u_1 f_2 H locs ls hu_1 hcp9 hP hD hS hl hnkey_3
      refine lv_iload hx hb dX12_copyRow_3 (lv_at hl 0 rfl) ?_
      refine lv_iload_n hx hb dX12_copyRow_5 rfl (lv_at hl 2 rfl) ?_
      refine lv_icmp_ge (tgt := 31) hx hb dX12_copyRow_6 (by decide) (fun c_4 => ?_) (fun c_4 => ?_)
      · have c_4 : 24 ≤ u_1.toInt := cv_le c_4
        rw [hQ9]
        have hP9 := hP.sub (ws' := [(r0, .inl (cyI, 120, .inl f_2))]) [0] rfl
        have hD9 := hD.sub (ws' := [(r0, .inl (cyI, 120, .inl f_2))]) [0] (by decide) rfl
        exact W.vret hx hb hr (fun t ht hW => ⟨⟨(), rfl, trivial, ⟨f_2, (cpr_end hcp9 (by omega)), by rw [ht]; exact hP9, hD9⟩⟩, hS.F ht⟩) hS.2.2 dX12_copyRow_31
      · have c_4 : u_1.toInt < 24 := cv_nle c_4
        refine lv_aload_n hx hb dX12_copyRow_9 rfl (lv_at hl 1 rfl) ?_
        refine lv_iload_n hx hb dX12_copyRow_10 rfl (lv_at hl 2 rfl) ?_
        refine lv_iload_n hx hb dX12_copyRow_11 rfl (lv_at hl 4 rfl) ?_
        refine lv_imul hx hb dX12_copyRow_12 ?_
        refine cv_topi (b := 48) (by decide) ?_
        refine lv_iload hx hb dX12_copyRow_13 (lv_at hl 0 rfl) ?_
        refine lv_iadd hx hb dX12_copyRow_15 ?_
        refine lv_topi (fun x_5 ex_5 => ?_)
        have fx_5 : x_5.toInt = 48 + u_1.toInt := by rw [ex_5]; exact cv_addI (by have : (48 : Int32).toInt = 48 := rfl; omega) (by have : (48 : Int32).toInt = 48 := rfl; omega)
        refine lv_aload_n hx hb dX12_copyRow_16 rfl (lv_at hl 1 rfl) ?_
        refine lv_iload_n hx hb dX12_copyRow_17 rfl (lv_at hl 2 rfl) ?_
        refine lv_iload_n hx hb dX12_copyRow_18 rfl (lv_at hl 3 rfl) ?_
        refine lv_imul hx hb dX12_copyRow_19 ?_
        refine cv_topi (b := 0) (by decide) ?_
        refine lv_iload hx hb dX12_copyRow_20 (lv_at hl 0 rfl) ?_
        refine lv_iadd hx hb dX12_copyRow_22 ?_
        refine lv_topi (fun x_6 ex_6 => ?_)
        have fx_6 : x_6.toInt = 0 + u_1.toInt := by rw [ex_6]; exact cv_addI (by have : (0 : Int32).toInt = 0 := rfl; omega) (by have : (0 : Int32).toInt = 0 := rfl; omega)
        refine va_iald hx hb hK hP 0 0 rfl rfl (vp_in_iff.mpr (by omega)) dX12_copyRow_23 ?_
        refine lv_topi (fun x_7 ex_7 => ?_)
        refine va_iast hx hb hK hP hD hS 0 0 rfl rfl (vp_in_iff.mpr (by omega)) dX12_copyRow_24 (fun H locs hP hD hS => ?_)
        obtain ⟨f_8, ef_8⟩ : ∃ z9 : Nat → Int32, z9 = upd f_2 x_5.toNatClampNeg x_7 := ⟨_, rfl⟩
        rw [← ef_8] at hP hD
        have hP : va_P (dC, dI) vwCl [(r0, .inl (cyI, 120, .inl f_8))] H := hP
        have hD : va_D A [(r0, .inl (cyI, 120, .inl f_8))] := hD
        obtain ⟨x_9, ex_9⟩ : ∃ y : Int32, y = u_1 + 1 := ⟨_, rfl⟩
        refine lv_iinc (v := x_9) (lv' := [(4, .int x_9), (0, .ref r0), (1, .int 24), (2, .int 0), (3, .int 2)]) hx hb dX12_copyRow_25 hl (k := 0) rfl (by rw [ex_9]; rfl) (by decide) rfl (fun ls hl => ?_)
        have fx_9 : x_9.toInt = u_1.toInt + 1 := by rw [ex_9]; exact cv_addI (by have : (1 : Int32).toInt = 1 := rfl; omega) (by have : (1 : Int32).toInt = 1 := rfl; omega)
        refine lv_goto (tgt := 3) hx hb dX12_copyRow_28 (by decide) ?_
        exact ihkey_3 x_9 f_8 _ _ _ (by omega) (cpr_step (n := 0) hcp9 (by assumption) (by assumption) (by omega) (by omega) (by omega) (by omega) (by decide) (by omega)) hP hD hS (lv_sub hl [0, 1, 2, 3, 4] rfl) (by omega)
  exact key_3 _ 0 f0 _ _ _ (by decide) cpr_zero hP hD hS (lv_sub hl [0, 1, 2, 3, 4] rfl) (Nat.lt_succ_self _)

/- X12_copyRow -/
set_option maxHeartbeats 4000000 in
set_option maxRecDepth 100000 in
theorem m_cp_law_03 (l : Launch) (dC : Nat → ClassId) (dI : Nat → Nat → Nat) (cyI cyB cyJ cyZ cyH cyN : ClassId) (sz : Nat) (r0 : Nat) (f0 : Nat → Int32) : Met l yX12_copyRow (wk yX12_copyRow cX12_copyRow 5 none) ({ frames := 1, cells := 0, slots := 0, locals := 60 }) (va_Pc [.ref r0, .int 24, .int 0, .int 3] (fun U => U.heap.size = sz ∧ va_P (dC, dI) vwCl [(r0, .inl (cyI, 120, .inl f0))] U.heap ∧ va_K (dC, dI) vwCl [(cyI, .int), (cyB, .byte), (cyJ, .long), (cyZ, .boolean), (cyH, .object RX2), (cyN, .array .long)] U ∧ va_D (fun _ => True) [(r0, .inl (cyI, 120, .inl f0))])) (va_Qv (fun _ : Unit => True) (fun (_ : Unit) (t : State) => ∃ y0 : Nat → Int32, (cpr 24 0 3 24 f0 y0) ∧ va_P (dC, dI) vwCl [(r0, .inl (cyI, 120, .inl y0))] t.heap ∧ va_D (va_A [(r0, .inl (cyI, 120, .inl f0))] sz) [(r0, .inl (cyI, 120, .inl y0))]) (va_A [(r0, .inl (cyI, 120, .inl f0))] sz)) 0 0 (va_A [(r0, .inl (cyI, 120, .inl f0))] sz) := by
  refine Met.ofW (cc := cX12_copyRow) (maxL := 5) (ret := none) (by decide) rfl ?_
  intro p e s m args below meth c s₁ B hml hv
  obtain ⟨rfl, hsz, hP, hK, hD0⟩ := hv
  have hx := B.exec
  have hb := B.bytes
  have hr := B.returns
  have hts : ∀ w ∈ uU, w.before ([.ref r0, .int 24, .int 0, .int 3] : List Value).toArray s = true := fun w h => atoms_spec (ws := wk yX12_copyRow cX12_copyRow 5 none) B.pre w (List.mem_cons_of_mem _ h)
  have hown : s.vm.findClass RX12 = some m.cls := findClass_of_methodNamed B.named
  have hlocks := B.notSynchronized
  subst hsz
  have hD := hD0.self (sz := s.heap.size)
  generalize hAe : va_A [(r0, .inl (cyI, 120, .inl f0))] s.heap.size = A at hD ⊢
  have hA : ∀ q : Nat, s.heap.size ≤ q → A q := fun q h => by rw [← hAe]; exact Or.inr h
  have hS : va_S A s.heap s.heap [] := va_S.rf
  have hP : va_P (dC, dI) vwCl [(r0, .inl (cyI, 120, .inl f0))] s.heap := hP
  have hl := lv_entry ([.ref r0, .int 24, .int 0, .int 3]) (n := 5) (Nat.le_of_ble_eq_true rfl)
  rw [lg_entry_eq]
  generalize (lg_sl ([.ref r0, .int 24, .int 0, .int 3]) ++ List.replicate (5 - (lg_sl ([.ref r0, .int 24, .int 0, .int 3])).length) Slot.unset).toArray = ls at hl ⊢
  have hl : lv_has ls 5 [(0, .ref r0), (1, .int 24), (2, .int 0), (3, .int 3)] := hl
  obtain ⟨H, hHe⟩ : ∃ H, H = s.heap := ⟨_, rfl⟩
  have hP : va_P (dC, dI) vwCl [(r0, .inl (cyI, 120, .inl f0))] H := by rw [hHe]; exact hP
  have hS : va_S A s.heap H [] := by rw [hHe]; exact hS
  refine cv_heap hHe ?_
  obtain ⟨Q9, hQ9⟩ : ∃ Q9 : State → Prop, Q9 = MQ below (va_Qv (fun _ : Unit => True) (fun (_ : Unit) (t : State) => ∃ y0 : Nat → Int32, (cpr 24 0 3 24 f0 y0) ∧ va_P (dC, dI) vwCl [(r0, .inl (cyI, 120, .inl y0))] t.heap ∧ va_D A [(r0, .inl (cyI, 120, .inl y0))]) A) ([.ref r0, .int 24, .int 0, .int 3] : List Value).toArray s 0 0 A := ⟨_, rfl⟩
  rw [← hQ9]
  refine lv_iconst (v := 0) hx hb dX12_copyRow_0 (by decide) ?_
  refine lv_istore (lv' := [(4, .int 0), (0, .ref r0), (1, .int 24), (2, .int 0), (3, .int 3)]) hx hb dX12_copyRow_1 hl (by decide) rfl (fun ls hl => ?_)
  have key_3 : ∀ (nkey_3 : Nat) (u_1 : Int32) (f_2 : Nat → Int32) (H : Heap) (locs : List Loc) (ls : Array Slot), (0 ≤ u_1.toInt ∧ u_1.toInt ≤ 24) → (cpr 24 0 3 u_1.toInt.toNat f0 f_2) → va_P (dC, dI) vwCl [(r0, .inl (cyI, 120, .inl f_2))] H → va_D A [(r0, .inl (cyI, 120, .inl f_2))] → va_S A s.heap H locs → lv_has ls 5 [(4, .int u_1), (0, .ref r0), (1, .int 24), (2, .int 0), (3, .int 3)] → (24 - u_1.toInt).toNat < nkey_3 → W p l e ({ frames := 1, cells := 0, slots := 0, locals := 60 }) s m ([.ref r0, .int 24, .int 0, .int 3] : List Value).toArray below meth c H locs 0 0 Q9 (F0 m 3 ls []) := by
    intro nkey_3
    induction nkey_3 with
    | zero => intro u_1 f_2 H locs ls hu_1 hcp9 hP hD hS hl hnkey_3; exact absurd hnkey_3 (Nat.not_lt_zero _)
    | succ nkey_3 ihkey_3 =>
      intro u_1 f_2 H locs ls hu_1 hcp9 hP hD hS hl hnkey_3
      refine lv_iload hx hb dX12_copyRow_3 (lv_at hl 0 rfl) ?_
      refine lv_iload_n hx hb dX12_copyRow_5 rfl (lv_at hl 2 rfl) ?_
      refine lv_icmp_ge (tgt := 31) hx hb dX12_copyRow_6 (by decide) (fun c_4 => ?_) (fun c_4 => ?_)
      · have c_4 : 24 ≤ u_1.toInt := cv_le c_4
        rw [hQ9]
        have hP9 := hP.sub (ws' := [(r0, .inl (cyI, 120, .inl f_2))]) [0] rfl
        have hD9 := hD.sub (ws' := [(r0, .inl (cyI, 120, .inl f_2))]) [0] (by decide) rfl
        exact W.vret hx hb hr (fun t ht hW => ⟨⟨(), rfl, trivial, ⟨f_2, (cpr_end hcp9 (by omega)), by rw [ht]; exact hP9, hD9⟩⟩, hS.F ht⟩) hS.2.2 dX12_copyRow_31
      · have c_4 : u_1.toInt < 24 := cv_nle c_4
        refine lv_aload_n hx hb dX12_copyRow_9 rfl (lv_at hl 1 rfl) ?_
        refine lv_iload_n hx hb dX12_copyRow_10 rfl (lv_at hl 2 rfl) ?_
        refine lv_iload_n hx hb dX12_copyRow_11 rfl (lv_at hl 4 rfl) ?_
        refine lv_imul hx hb dX12_copyRow_12 ?_
        refine cv_topi (b := 72) (by decide) ?_
        refine lv_iload hx hb dX12_copyRow_13 (lv_at hl 0 rfl) ?_
        refine lv_iadd hx hb dX12_copyRow_15 ?_
        refine lv_topi (fun x_5 ex_5 => ?_)
        have fx_5 : x_5.toInt = 72 + u_1.toInt := by rw [ex_5]; exact cv_addI (by have : (72 : Int32).toInt = 72 := rfl; omega) (by have : (72 : Int32).toInt = 72 := rfl; omega)
        refine lv_aload_n hx hb dX12_copyRow_16 rfl (lv_at hl 1 rfl) ?_
        refine lv_iload_n hx hb dX12_copyRow_17 rfl (lv_at hl 2 rfl) ?_
        refine lv_iload_n hx hb dX12_copyRow_18 rfl (lv_at hl 3 rfl) ?_
        refine lv_imul hx hb dX12_copyRow_19 ?_
        refine cv_topi (b := 0) (by decide) ?_
        refine lv_iload hx hb dX12_copyRow_20 (lv_at hl 0 rfl) ?_
        refine lv_iadd hx hb dX12_copyRow_22 ?_
        refine lv_topi (fun x_6 ex_6 => ?_)
        have fx_6 : x_6.toInt = 0 + u_1.toInt := by rw [ex_6]; exact cv_addI (by have : (0 : Int32).toInt = 0 := rfl; omega) (by have : (0 : Int32).toInt = 0 := rfl; omega)
        refine va_iald hx hb hK hP 0 0 rfl rfl (vp_in_iff.mpr (by omega)) dX12_copyRow_23 ?_
        refine lv_topi (fun x_7 ex_7 => ?_)
        refine va_iast hx hb hK hP hD hS 0 0 rfl rfl (vp_in_iff.mpr (by omega)) dX12_copyRow_24 (fun H locs hP hD hS => ?_)
        obtain ⟨f_8, ef_8⟩ : ∃ z9 : Nat → Int32, z9 = upd f_2 x_5.toNatClampNeg x_7 := ⟨_, rfl⟩
        rw [← ef_8] at hP hD
        have hP : va_P (dC, dI) vwCl [(r0, .inl (cyI, 120, .inl f_8))] H := hP
        have hD : va_D A [(r0, .inl (cyI, 120, .inl f_8))] := hD
        obtain ⟨x_9, ex_9⟩ : ∃ y : Int32, y = u_1 + 1 := ⟨_, rfl⟩
        refine lv_iinc (v := x_9) (lv' := [(4, .int x_9), (0, .ref r0), (1, .int 24), (2, .int 0), (3, .int 3)]) hx hb dX12_copyRow_25 hl (k := 0) rfl (by rw [ex_9]; rfl) (by decide) rfl (fun ls hl => ?_)
        have fx_9 : x_9.toInt = u_1.toInt + 1 := by rw [ex_9]; exact cv_addI (by have : (1 : Int32).toInt = 1 := rfl; omega) (by have : (1 : Int32).toInt = 1 := rfl; omega)
        refine lv_goto (tgt := 3) hx hb dX12_copyRow_28 (by decide) ?_
        exact ihkey_3 x_9 f_8 _ _ _ (by omega) (cpr_step (n := 0) hcp9 (by assumption) (by assumption) (by omega) (by omega) (by omega) (by omega) (by decide) (by omega)) hP hD hS (lv_sub hl [0, 1, 2, 3, 4] rfl) (by omega)
  exact key_3 _ 0 f0 _ _ _ (by decide) cpr_zero hP hD hS (lv_sub hl [0, 1, 2, 3, 4] rfl) (Nat.lt_succ_self _)

/- X12_copyRow -/
set_option maxHeartbeats 4000000 in
set_option maxRecDepth 100000 in
theorem m_cp_law_10 (l : Launch) (dC : Nat → ClassId) (dI : Nat → Nat → Nat) (cyI cyB cyJ cyZ cyH cyN : ClassId) (sz : Nat) (r0 : Nat) (f0 : Nat → Int32) : Met l yX12_copyRow (wk yX12_copyRow cX12_copyRow 5 none) ({ frames := 1, cells := 0, slots := 0, locals := 60 }) (va_Pc [.ref r0, .int 24, .int 1, .int 0] (fun U => U.heap.size = sz ∧ va_P (dC, dI) vwCl [(r0, .inl (cyI, 120, .inl f0))] U.heap ∧ va_K (dC, dI) vwCl [(cyI, .int), (cyB, .byte), (cyJ, .long), (cyZ, .boolean), (cyH, .object RX2), (cyN, .array .long)] U ∧ va_D (fun _ => True) [(r0, .inl (cyI, 120, .inl f0))])) (va_Qv (fun _ : Unit => True) (fun (_ : Unit) (t : State) => ∃ y0 : Nat → Int32, (cpr 24 1 0 24 f0 y0) ∧ va_P (dC, dI) vwCl [(r0, .inl (cyI, 120, .inl y0))] t.heap ∧ va_D (va_A [(r0, .inl (cyI, 120, .inl f0))] sz) [(r0, .inl (cyI, 120, .inl y0))]) (va_A [(r0, .inl (cyI, 120, .inl f0))] sz)) 0 0 (va_A [(r0, .inl (cyI, 120, .inl f0))] sz) := by
  refine Met.ofW (cc := cX12_copyRow) (maxL := 5) (ret := none) (by decide) rfl ?_
  intro p e s m args below meth c s₁ B hml hv
  obtain ⟨rfl, hsz, hP, hK, hD0⟩ := hv
  have hx := B.exec
  have hb := B.bytes
  have hr := B.returns
  have hts : ∀ w ∈ uU, w.before ([.ref r0, .int 24, .int 1, .int 0] : List Value).toArray s = true := fun w h => atoms_spec (ws := wk yX12_copyRow cX12_copyRow 5 none) B.pre w (List.mem_cons_of_mem _ h)
  have hown : s.vm.findClass RX12 = some m.cls := findClass_of_methodNamed B.named
  have hlocks := B.notSynchronized
  subst hsz
  have hD := hD0.self (sz := s.heap.size)
  generalize hAe : va_A [(r0, .inl (cyI, 120, .inl f0))] s.heap.size = A at hD ⊢
  have hA : ∀ q : Nat, s.heap.size ≤ q → A q := fun q h => by rw [← hAe]; exact Or.inr h
  have hS : va_S A s.heap s.heap [] := va_S.rf
  have hP : va_P (dC, dI) vwCl [(r0, .inl (cyI, 120, .inl f0))] s.heap := hP
  have hl := lv_entry ([.ref r0, .int 24, .int 1, .int 0]) (n := 5) (Nat.le_of_ble_eq_true rfl)
  rw [lg_entry_eq]
  generalize (lg_sl ([.ref r0, .int 24, .int 1, .int 0]) ++ List.replicate (5 - (lg_sl ([.ref r0, .int 24, .int 1, .int 0])).length) Slot.unset).toArray = ls at hl ⊢
  have hl : lv_has ls 5 [(0, .ref r0), (1, .int 24), (2, .int 1), (3, .int 0)] := hl
  obtain ⟨H, hHe⟩ : ∃ H, H = s.heap := ⟨_, rfl⟩
  have hP : va_P (dC, dI) vwCl [(r0, .inl (cyI, 120, .inl f0))] H := by rw [hHe]; exact hP
  have hS : va_S A s.heap H [] := by rw [hHe]; exact hS
  refine cv_heap hHe ?_
  obtain ⟨Q9, hQ9⟩ : ∃ Q9 : State → Prop, Q9 = MQ below (va_Qv (fun _ : Unit => True) (fun (_ : Unit) (t : State) => ∃ y0 : Nat → Int32, (cpr 24 1 0 24 f0 y0) ∧ va_P (dC, dI) vwCl [(r0, .inl (cyI, 120, .inl y0))] t.heap ∧ va_D A [(r0, .inl (cyI, 120, .inl y0))]) A) ([.ref r0, .int 24, .int 1, .int 0] : List Value).toArray s 0 0 A := ⟨_, rfl⟩
  rw [← hQ9]
  refine lv_iconst (v := 0) hx hb dX12_copyRow_0 (by decide) ?_
  refine lv_istore (lv' := [(4, .int 0), (0, .ref r0), (1, .int 24), (2, .int 1), (3, .int 0)]) hx hb dX12_copyRow_1 hl (by decide) rfl (fun ls hl => ?_)
  have key_3 : ∀ (nkey_3 : Nat) (u_1 : Int32) (f_2 : Nat → Int32) (H : Heap) (locs : List Loc) (ls : Array Slot), (0 ≤ u_1.toInt ∧ u_1.toInt ≤ 24) → (cpr 24 1 0 u_1.toInt.toNat f0 f_2) → va_P (dC, dI) vwCl [(r0, .inl (cyI, 120, .inl f_2))] H → va_D A [(r0, .inl (cyI, 120, .inl f_2))] → va_S A s.heap H locs → lv_has ls 5 [(4, .int u_1), (0, .ref r0), (1, .int 24), (2, .int 1), (3, .int 0)] → (24 - u_1.toInt).toNat < nkey_3 → W p l e ({ frames := 1, cells := 0, slots := 0, locals := 60 }) s m ([.ref r0, .int 24, .int 1, .int 0] : List Value).toArray below meth c H locs 0 0 Q9 (F0 m 3 ls []) := by
    intro nkey_3
    induction nkey_3 with
    | zero => intro u_1 f_2 H locs ls hu_1 hcp9 hP hD hS hl hnkey_3; exact absurd hnkey_3 (Nat.not_lt_zero _)
    | succ nkey_3 ihkey_3 =>
      intro u_1 f_2 H locs ls hu_1 hcp9 hP hD hS hl hnkey_3
      refine lv_iload hx hb dX12_copyRow_3 (lv_at hl 0 rfl) ?_
      refine lv_iload_n hx hb dX12_copyRow_5 rfl (lv_at hl 2 rfl) ?_
      refine lv_icmp_ge (tgt := 31) hx hb dX12_copyRow_6 (by decide) (fun c_4 => ?_) (fun c_4 => ?_)
      · have c_4 : 24 ≤ u_1.toInt := cv_le c_4
        rw [hQ9]
        have hP9 := hP.sub (ws' := [(r0, .inl (cyI, 120, .inl f_2))]) [0] rfl
        have hD9 := hD.sub (ws' := [(r0, .inl (cyI, 120, .inl f_2))]) [0] (by decide) rfl
        exact W.vret hx hb hr (fun t ht hW => ⟨⟨(), rfl, trivial, ⟨f_2, (cpr_end hcp9 (by omega)), by rw [ht]; exact hP9, hD9⟩⟩, hS.F ht⟩) hS.2.2 dX12_copyRow_31
      · have c_4 : u_1.toInt < 24 := cv_nle c_4
        refine lv_aload_n hx hb dX12_copyRow_9 rfl (lv_at hl 1 rfl) ?_
        refine lv_iload_n hx hb dX12_copyRow_10 rfl (lv_at hl 2 rfl) ?_
        refine lv_iload_n hx hb dX12_copyRow_11 rfl (lv_at hl 4 rfl) ?_
        refine lv_imul hx hb dX12_copyRow_12 ?_
        refine cv_topi (b := 0) (by decide) ?_
        refine lv_iload hx hb dX12_copyRow_13 (lv_at hl 0 rfl) ?_
        refine lv_iadd hx hb dX12_copyRow_15 ?_
        refine lv_topi (fun x_5 ex_5 => ?_)
        have fx_5 : x_5.toInt = 0 + u_1.toInt := by rw [ex_5]; exact cv_addI (by have : (0 : Int32).toInt = 0 := rfl; omega) (by have : (0 : Int32).toInt = 0 := rfl; omega)
        refine lv_aload_n hx hb dX12_copyRow_16 rfl (lv_at hl 1 rfl) ?_
        refine lv_iload_n hx hb dX12_copyRow_17 rfl (lv_at hl 2 rfl) ?_
        refine lv_iload_n hx hb dX12_copyRow_18 rfl (lv_at hl 3 rfl) ?_
        refine lv_imul hx hb dX12_copyRow_19 ?_
        refine cv_topi (b := 24) (by decide) ?_
        refine lv_iload hx hb dX12_copyRow_20 (lv_at hl 0 rfl) ?_
        refine lv_iadd hx hb dX12_copyRow_22 ?_
        refine lv_topi (fun x_6 ex_6 => ?_)
        have fx_6 : x_6.toInt = 24 + u_1.toInt := by rw [ex_6]; exact cv_addI (by have : (24 : Int32).toInt = 24 := rfl; omega) (by have : (24 : Int32).toInt = 24 := rfl; omega)
        refine va_iald hx hb hK hP 0 0 rfl rfl (vp_in_iff.mpr (by omega)) dX12_copyRow_23 ?_
        refine lv_topi (fun x_7 ex_7 => ?_)
        refine va_iast hx hb hK hP hD hS 0 0 rfl rfl (vp_in_iff.mpr (by omega)) dX12_copyRow_24 (fun H locs hP hD hS => ?_)
        obtain ⟨f_8, ef_8⟩ : ∃ z9 : Nat → Int32, z9 = upd f_2 x_5.toNatClampNeg x_7 := ⟨_, rfl⟩
        rw [← ef_8] at hP hD
        have hP : va_P (dC, dI) vwCl [(r0, .inl (cyI, 120, .inl f_8))] H := hP
        have hD : va_D A [(r0, .inl (cyI, 120, .inl f_8))] := hD
        obtain ⟨x_9, ex_9⟩ : ∃ y : Int32, y = u_1 + 1 := ⟨_, rfl⟩
        refine lv_iinc (v := x_9) (lv' := [(4, .int x_9), (0, .ref r0), (1, .int 24), (2, .int 1), (3, .int 0)]) hx hb dX12_copyRow_25 hl (k := 0) rfl (by rw [ex_9]; rfl) (by decide) rfl (fun ls hl => ?_)
        have fx_9 : x_9.toInt = u_1.toInt + 1 := by rw [ex_9]; exact cv_addI (by have : (1 : Int32).toInt = 1 := rfl; omega) (by have : (1 : Int32).toInt = 1 := rfl; omega)
        refine lv_goto (tgt := 3) hx hb dX12_copyRow_28 (by decide) ?_
        exact ihkey_3 x_9 f_8 _ _ _ (by omega) (cpr_step (n := 0) hcp9 (by assumption) (by assumption) (by omega) (by omega) (by omega) (by omega) (by decide) (by omega)) hP hD hS (lv_sub hl [0, 1, 2, 3, 4] rfl) (by omega)
  exact key_3 _ 0 f0 _ _ _ (by decide) cpr_zero hP hD hS (lv_sub hl [0, 1, 2, 3, 4] rfl) (Nat.lt_succ_self _)

/- X12_copyRow -/
set_option maxHeartbeats 4000000 in
set_option maxRecDepth 100000 in
theorem m_cp_law_20 (l : Launch) (dC : Nat → ClassId) (dI : Nat → Nat → Nat) (cyI cyB cyJ cyZ cyH cyN : ClassId) (sz : Nat) (r0 : Nat) (f0 : Nat → Int32) : Met l yX12_copyRow (wk yX12_copyRow cX12_copyRow 5 none) ({ frames := 1, cells := 0, slots := 0, locals := 60 }) (va_Pc [.ref r0, .int 24, .int 2, .int 0] (fun U => U.heap.size = sz ∧ va_P (dC, dI) vwCl [(r0, .inl (cyI, 120, .inl f0))] U.heap ∧ va_K (dC, dI) vwCl [(cyI, .int), (cyB, .byte), (cyJ, .long), (cyZ, .boolean), (cyH, .object RX2), (cyN, .array .long)] U ∧ va_D (fun _ => True) [(r0, .inl (cyI, 120, .inl f0))])) (va_Qv (fun _ : Unit => True) (fun (_ : Unit) (t : State) => ∃ y0 : Nat → Int32, (cpr 24 2 0 24 f0 y0) ∧ va_P (dC, dI) vwCl [(r0, .inl (cyI, 120, .inl y0))] t.heap ∧ va_D (va_A [(r0, .inl (cyI, 120, .inl f0))] sz) [(r0, .inl (cyI, 120, .inl y0))]) (va_A [(r0, .inl (cyI, 120, .inl f0))] sz)) 0 0 (va_A [(r0, .inl (cyI, 120, .inl f0))] sz) := by
  refine Met.ofW (cc := cX12_copyRow) (maxL := 5) (ret := none) (by decide) rfl ?_
  intro p e s m args below meth c s₁ B hml hv
  obtain ⟨rfl, hsz, hP, hK, hD0⟩ := hv
  have hx := B.exec
  have hb := B.bytes
  have hr := B.returns
  have hts : ∀ w ∈ uU, w.before ([.ref r0, .int 24, .int 2, .int 0] : List Value).toArray s = true := fun w h => atoms_spec (ws := wk yX12_copyRow cX12_copyRow 5 none) B.pre w (List.mem_cons_of_mem _ h)
  have hown : s.vm.findClass RX12 = some m.cls := findClass_of_methodNamed B.named
  have hlocks := B.notSynchronized
  subst hsz
  have hD := hD0.self (sz := s.heap.size)
  generalize hAe : va_A [(r0, .inl (cyI, 120, .inl f0))] s.heap.size = A at hD ⊢
  have hA : ∀ q : Nat, s.heap.size ≤ q → A q := fun q h => by rw [← hAe]; exact Or.inr h
  have hS : va_S A s.heap s.heap [] := va_S.rf
  have hP : va_P (dC, dI) vwCl [(r0, .inl (cyI, 120, .inl f0))] s.heap := hP
  have hl := lv_entry ([.ref r0, .int 24, .int 2, .int 0]) (n := 5) (Nat.le_of_ble_eq_true rfl)
  rw [lg_entry_eq]
  generalize (lg_sl ([.ref r0, .int 24, .int 2, .int 0]) ++ List.replicate (5 - (lg_sl ([.ref r0, .int 24, .int 2, .int 0])).length) Slot.unset).toArray = ls at hl ⊢
  have hl : lv_has ls 5 [(0, .ref r0), (1, .int 24), (2, .int 2), (3, .int 0)] := hl
  obtain ⟨H, hHe⟩ : ∃ H, H = s.heap := ⟨_, rfl⟩
  have hP : va_P (dC, dI) vwCl [(r0, .inl (cyI, 120, .inl f0))] H := by rw [hHe]; exact hP
  have hS : va_S A s.heap H [] := by rw [hHe]; exact hS
  refine cv_heap hHe ?_
  obtain ⟨Q9, hQ9⟩ : ∃ Q9 : State → Prop, Q9 = MQ below (va_Qv (fun _ : Unit => True) (fun (_ : Unit) (t : State) => ∃ y0 : Nat → Int32, (cpr 24 2 0 24 f0 y0) ∧ va_P (dC, dI) vwCl [(r0, .inl (cyI, 120, .inl y0))] t.heap ∧ va_D A [(r0, .inl (cyI, 120, .inl y0))]) A) ([.ref r0, .int 24, .int 2, .int 0] : List Value).toArray s 0 0 A := ⟨_, rfl⟩
  rw [← hQ9]
  refine lv_iconst (v := 0) hx hb dX12_copyRow_0 (by decide) ?_
  refine lv_istore (lv' := [(4, .int 0), (0, .ref r0), (1, .int 24), (2, .int 2), (3, .int 0)]) hx hb dX12_copyRow_1 hl (by decide) rfl (fun ls hl => ?_)
  have key_3 : ∀ (nkey_3 : Nat) (u_1 : Int32) (f_2 : Nat → Int32) (H : Heap) (locs : List Loc) (ls : Array Slot), (0 ≤ u_1.toInt ∧ u_1.toInt ≤ 24) → (cpr 24 2 0 u_1.toInt.toNat f0 f_2) → va_P (dC, dI) vwCl [(r0, .inl (cyI, 120, .inl f_2))] H → va_D A [(r0, .inl (cyI, 120, .inl f_2))] → va_S A s.heap H locs → lv_has ls 5 [(4, .int u_1), (0, .ref r0), (1, .int 24), (2, .int 2), (3, .int 0)] → (24 - u_1.toInt).toNat < nkey_3 → W p l e ({ frames := 1, cells := 0, slots := 0, locals := 60 }) s m ([.ref r0, .int 24, .int 2, .int 0] : List Value).toArray below meth c H locs 0 0 Q9 (F0 m 3 ls []) := by
    intro nkey_3
    induction nkey_3 with
    | zero => intro u_1 f_2 H locs ls hu_1 hcp9 hP hD hS hl hnkey_3; exact absurd hnkey_3 (Nat.not_lt_zero _)
    | succ nkey_3 ihkey_3 =>
      intro u_1 f_2 H locs ls hu_1 hcp9 hP hD hS hl hnkey_3
      refine lv_iload hx hb dX12_copyRow_3 (lv_at hl 0 rfl) ?_
      refine lv_iload_n hx hb dX12_copyRow_5 rfl (lv_at hl 2 rfl) ?_
      refine lv_icmp_ge (tgt := 31) hx hb dX12_copyRow_6 (by decide) (fun c_4 => ?_) (fun c_4 => ?_)
      · have c_4 : 24 ≤ u_1.toInt := cv_le c_4
        rw [hQ9]
        have hP9 := hP.sub (ws' := [(r0, .inl (cyI, 120, .inl f_2))]) [0] rfl
        have hD9 := hD.sub (ws' := [(r0, .inl (cyI, 120, .inl f_2))]) [0] (by decide) rfl
        exact W.vret hx hb hr (fun t ht hW => ⟨⟨(), rfl, trivial, ⟨f_2, (cpr_end hcp9 (by omega)), by rw [ht]; exact hP9, hD9⟩⟩, hS.F ht⟩) hS.2.2 dX12_copyRow_31
      · have c_4 : u_1.toInt < 24 := cv_nle c_4
        refine lv_aload_n hx hb dX12_copyRow_9 rfl (lv_at hl 1 rfl) ?_
        refine lv_iload_n hx hb dX12_copyRow_10 rfl (lv_at hl 2 rfl) ?_
        refine lv_iload_n hx hb dX12_copyRow_11 rfl (lv_at hl 4 rfl) ?_
        refine lv_imul hx hb dX12_copyRow_12 ?_
        refine cv_topi (b := 0) (by decide) ?_
        refine lv_iload hx hb dX12_copyRow_13 (lv_at hl 0 rfl) ?_
        refine lv_iadd hx hb dX12_copyRow_15 ?_
        refine lv_topi (fun x_5 ex_5 => ?_)
        have fx_5 : x_5.toInt = 0 + u_1.toInt := by rw [ex_5]; exact cv_addI (by have : (0 : Int32).toInt = 0 := rfl; omega) (by have : (0 : Int32).toInt = 0 := rfl; omega)
        refine lv_aload_n hx hb dX12_copyRow_16 rfl (lv_at hl 1 rfl) ?_
        refine lv_iload_n hx hb dX12_copyRow_17 rfl (lv_at hl 2 rfl) ?_
        refine lv_iload_n hx hb dX12_copyRow_18 rfl (lv_at hl 3 rfl) ?_
        refine lv_imul hx hb dX12_copyRow_19 ?_
        refine cv_topi (b := 48) (by decide) ?_
        refine lv_iload hx hb dX12_copyRow_20 (lv_at hl 0 rfl) ?_
        refine lv_iadd hx hb dX12_copyRow_22 ?_
        refine lv_topi (fun x_6 ex_6 => ?_)
        have fx_6 : x_6.toInt = 48 + u_1.toInt := by rw [ex_6]; exact cv_addI (by have : (48 : Int32).toInt = 48 := rfl; omega) (by have : (48 : Int32).toInt = 48 := rfl; omega)
        refine va_iald hx hb hK hP 0 0 rfl rfl (vp_in_iff.mpr (by omega)) dX12_copyRow_23 ?_
        refine lv_topi (fun x_7 ex_7 => ?_)
        refine va_iast hx hb hK hP hD hS 0 0 rfl rfl (vp_in_iff.mpr (by omega)) dX12_copyRow_24 (fun H locs hP hD hS => ?_)
        obtain ⟨f_8, ef_8⟩ : ∃ z9 : Nat → Int32, z9 = upd f_2 x_5.toNatClampNeg x_7 := ⟨_, rfl⟩
        rw [← ef_8] at hP hD
        have hP : va_P (dC, dI) vwCl [(r0, .inl (cyI, 120, .inl f_8))] H := hP
        have hD : va_D A [(r0, .inl (cyI, 120, .inl f_8))] := hD
        obtain ⟨x_9, ex_9⟩ : ∃ y : Int32, y = u_1 + 1 := ⟨_, rfl⟩
        refine lv_iinc (v := x_9) (lv' := [(4, .int x_9), (0, .ref r0), (1, .int 24), (2, .int 2), (3, .int 0)]) hx hb dX12_copyRow_25 hl (k := 0) rfl (by rw [ex_9]; rfl) (by decide) rfl (fun ls hl => ?_)
        have fx_9 : x_9.toInt = u_1.toInt + 1 := by rw [ex_9]; exact cv_addI (by have : (1 : Int32).toInt = 1 := rfl; omega) (by have : (1 : Int32).toInt = 1 := rfl; omega)
        refine lv_goto (tgt := 3) hx hb dX12_copyRow_28 (by decide) ?_
        exact ihkey_3 x_9 f_8 _ _ _ (by omega) (cpr_step (n := 0) hcp9 (by assumption) (by assumption) (by omega) (by omega) (by omega) (by omega) (by decide) (by omega)) hP hD hS (lv_sub hl [0, 1, 2, 3, 4] rfl) (by omega)
  exact key_3 _ 0 f0 _ _ _ (by decide) cpr_zero hP hD hS (lv_sub hl [0, 1, 2, 3, 4] rfl) (Nat.lt_succ_self _)

/- X12_copyRow -/
set_option maxHeartbeats 4000000 in
set_option maxRecDepth 100000 in
theorem m_cp_law_30 (l : Launch) (dC : Nat → ClassId) (dI : Nat → Nat → Nat) (cyI cyB cyJ cyZ cyH cyN : ClassId) (sz : Nat) (r0 : Nat) (f0 : Nat → Int32) : Met l yX12_copyRow (wk yX12_copyRow cX12_copyRow 5 none) ({ frames := 1, cells := 0, slots := 0, locals := 60 }) (va_Pc [.ref r0, .int 24, .int 3, .int 0] (fun U => U.heap.size = sz ∧ va_P (dC, dI) vwCl [(r0, .inl (cyI, 120, .inl f0))] U.heap ∧ va_K (dC, dI) vwCl [(cyI, .int), (cyB, .byte), (cyJ, .long), (cyZ, .boolean), (cyH, .object RX2), (cyN, .array .long)] U ∧ va_D (fun _ => True) [(r0, .inl (cyI, 120, .inl f0))])) (va_Qv (fun _ : Unit => True) (fun (_ : Unit) (t : State) => ∃ y0 : Nat → Int32, (cpr 24 3 0 24 f0 y0) ∧ va_P (dC, dI) vwCl [(r0, .inl (cyI, 120, .inl y0))] t.heap ∧ va_D (va_A [(r0, .inl (cyI, 120, .inl f0))] sz) [(r0, .inl (cyI, 120, .inl y0))]) (va_A [(r0, .inl (cyI, 120, .inl f0))] sz)) 0 0 (va_A [(r0, .inl (cyI, 120, .inl f0))] sz) := by
  refine Met.ofW (cc := cX12_copyRow) (maxL := 5) (ret := none) (by decide) rfl ?_
  intro p e s m args below meth c s₁ B hml hv
  obtain ⟨rfl, hsz, hP, hK, hD0⟩ := hv
  have hx := B.exec
  have hb := B.bytes
  have hr := B.returns
  have hts : ∀ w ∈ uU, w.before ([.ref r0, .int 24, .int 3, .int 0] : List Value).toArray s = true := fun w h => atoms_spec (ws := wk yX12_copyRow cX12_copyRow 5 none) B.pre w (List.mem_cons_of_mem _ h)
  have hown : s.vm.findClass RX12 = some m.cls := findClass_of_methodNamed B.named
  have hlocks := B.notSynchronized
  subst hsz
  have hD := hD0.self (sz := s.heap.size)
  generalize hAe : va_A [(r0, .inl (cyI, 120, .inl f0))] s.heap.size = A at hD ⊢
  have hA : ∀ q : Nat, s.heap.size ≤ q → A q := fun q h => by rw [← hAe]; exact Or.inr h
  have hS : va_S A s.heap s.heap [] := va_S.rf
  have hP : va_P (dC, dI) vwCl [(r0, .inl (cyI, 120, .inl f0))] s.heap := hP
  have hl := lv_entry ([.ref r0, .int 24, .int 3, .int 0]) (n := 5) (Nat.le_of_ble_eq_true rfl)
  rw [lg_entry_eq]
  generalize (lg_sl ([.ref r0, .int 24, .int 3, .int 0]) ++ List.replicate (5 - (lg_sl ([.ref r0, .int 24, .int 3, .int 0])).length) Slot.unset).toArray = ls at hl ⊢
  have hl : lv_has ls 5 [(0, .ref r0), (1, .int 24), (2, .int 3), (3, .int 0)] := hl
  obtain ⟨H, hHe⟩ : ∃ H, H = s.heap := ⟨_, rfl⟩
  have hP : va_P (dC, dI) vwCl [(r0, .inl (cyI, 120, .inl f0))] H := by rw [hHe]; exact hP
  have hS : va_S A s.heap H [] := by rw [hHe]; exact hS
  refine cv_heap hHe ?_
  obtain ⟨Q9, hQ9⟩ : ∃ Q9 : State → Prop, Q9 = MQ below (va_Qv (fun _ : Unit => True) (fun (_ : Unit) (t : State) => ∃ y0 : Nat → Int32, (cpr 24 3 0 24 f0 y0) ∧ va_P (dC, dI) vwCl [(r0, .inl (cyI, 120, .inl y0))] t.heap ∧ va_D A [(r0, .inl (cyI, 120, .inl y0))]) A) ([.ref r0, .int 24, .int 3, .int 0] : List Value).toArray s 0 0 A := ⟨_, rfl⟩
  rw [← hQ9]
  refine lv_iconst (v := 0) hx hb dX12_copyRow_0 (by decide) ?_
  refine lv_istore (lv' := [(4, .int 0), (0, .ref r0), (1, .int 24), (2, .int 3), (3, .int 0)]) hx hb dX12_copyRow_1 hl (by decide) rfl (fun ls hl => ?_)
  have key_3 : ∀ (nkey_3 : Nat) (u_1 : Int32) (f_2 : Nat → Int32) (H : Heap) (locs : List Loc) (ls : Array Slot), (0 ≤ u_1.toInt ∧ u_1.toInt ≤ 24) → (cpr 24 3 0 u_1.toInt.toNat f0 f_2) → va_P (dC, dI) vwCl [(r0, .inl (cyI, 120, .inl f_2))] H → va_D A [(r0, .inl (cyI, 120, .inl f_2))] → va_S A s.heap H locs → lv_has ls 5 [(4, .int u_1), (0, .ref r0), (1, .int 24), (2, .int 3), (3, .int 0)] → (24 - u_1.toInt).toNat < nkey_3 → W p l e ({ frames := 1, cells := 0, slots := 0, locals := 60 }) s m ([.ref r0, .int 24, .int 3, .int 0] : List Value).toArray below meth c H locs 0 0 Q9 (F0 m 3 ls []) := by
    intro nkey_3
    induction nkey_3 with
    | zero => intro u_1 f_2 H locs ls hu_1 hcp9 hP hD hS hl hnkey_3; exact absurd hnkey_3 (Nat.not_lt_zero _)
    | succ nkey_3 ihkey_3 =>
      intro u_1 f_2 H locs ls hu_1 hcp9 hP hD hS hl hnkey_3
      refine lv_iload hx hb dX12_copyRow_3 (lv_at hl 0 rfl) ?_
      refine lv_iload_n hx hb dX12_copyRow_5 rfl (lv_at hl 2 rfl) ?_
      refine lv_icmp_ge (tgt := 31) hx hb dX12_copyRow_6 (by decide) (fun c_4 => ?_) (fun c_4 => ?_)
      · have c_4 : 24 ≤ u_1.toInt := cv_le c_4
        rw [hQ9]
        have hP9 := hP.sub (ws' := [(r0, .inl (cyI, 120, .inl f_2))]) [0] rfl
        have hD9 := hD.sub (ws' := [(r0, .inl (cyI, 120, .inl f_2))]) [0] (by decide) rfl
        exact W.vret hx hb hr (fun t ht hW => ⟨⟨(), rfl, trivial, ⟨f_2, (cpr_end hcp9 (by omega)), by rw [ht]; exact hP9, hD9⟩⟩, hS.F ht⟩) hS.2.2 dX12_copyRow_31
      · have c_4 : u_1.toInt < 24 := cv_nle c_4
        refine lv_aload_n hx hb dX12_copyRow_9 rfl (lv_at hl 1 rfl) ?_
        refine lv_iload_n hx hb dX12_copyRow_10 rfl (lv_at hl 2 rfl) ?_
        refine lv_iload_n hx hb dX12_copyRow_11 rfl (lv_at hl 4 rfl) ?_
        refine lv_imul hx hb dX12_copyRow_12 ?_
        refine cv_topi (b := 0) (by decide) ?_
        refine lv_iload hx hb dX12_copyRow_13 (lv_at hl 0 rfl) ?_
        refine lv_iadd hx hb dX12_copyRow_15 ?_
        refine lv_topi (fun x_5 ex_5 => ?_)
        have fx_5 : x_5.toInt = 0 + u_1.toInt := by rw [ex_5]; exact cv_addI (by have : (0 : Int32).toInt = 0 := rfl; omega) (by have : (0 : Int32).toInt = 0 := rfl; omega)
        refine lv_aload_n hx hb dX12_copyRow_16 rfl (lv_at hl 1 rfl) ?_
        refine lv_iload_n hx hb dX12_copyRow_17 rfl (lv_at hl 2 rfl) ?_
        refine lv_iload_n hx hb dX12_copyRow_18 rfl (lv_at hl 3 rfl) ?_
        refine lv_imul hx hb dX12_copyRow_19 ?_
        refine cv_topi (b := 72) (by decide) ?_
        refine lv_iload hx hb dX12_copyRow_20 (lv_at hl 0 rfl) ?_
        refine lv_iadd hx hb dX12_copyRow_22 ?_
        refine lv_topi (fun x_6 ex_6 => ?_)
        have fx_6 : x_6.toInt = 72 + u_1.toInt := by rw [ex_6]; exact cv_addI (by have : (72 : Int32).toInt = 72 := rfl; omega) (by have : (72 : Int32).toInt = 72 := rfl; omega)
        refine va_iald hx hb hK hP 0 0 rfl rfl (vp_in_iff.mpr (by omega)) dX12_copyRow_23 ?_
        refine lv_topi (fun x_7 ex_7 => ?_)
        refine va_iast hx hb hK hP hD hS 0 0 rfl rfl (vp_in_iff.mpr (by omega)) dX12_copyRow_24 (fun H locs hP hD hS => ?_)
        obtain ⟨f_8, ef_8⟩ : ∃ z9 : Nat → Int32, z9 = upd f_2 x_5.toNatClampNeg x_7 := ⟨_, rfl⟩
        rw [← ef_8] at hP hD
        have hP : va_P (dC, dI) vwCl [(r0, .inl (cyI, 120, .inl f_8))] H := hP
        have hD : va_D A [(r0, .inl (cyI, 120, .inl f_8))] := hD
        obtain ⟨x_9, ex_9⟩ : ∃ y : Int32, y = u_1 + 1 := ⟨_, rfl⟩
        refine lv_iinc (v := x_9) (lv' := [(4, .int x_9), (0, .ref r0), (1, .int 24), (2, .int 3), (3, .int 0)]) hx hb dX12_copyRow_25 hl (k := 0) rfl (by rw [ex_9]; rfl) (by decide) rfl (fun ls hl => ?_)
        have fx_9 : x_9.toInt = u_1.toInt + 1 := by rw [ex_9]; exact cv_addI (by have : (1 : Int32).toInt = 1 := rfl; omega) (by have : (1 : Int32).toInt = 1 := rfl; omega)
        refine lv_goto (tgt := 3) hx hb dX12_copyRow_28 (by decide) ?_
        exact ihkey_3 x_9 f_8 _ _ _ (by omega) (cpr_step (n := 0) hcp9 (by assumption) (by assumption) (by omega) (by omega) (by omega) (by omega) (by decide) (by omega)) hP hD hS (lv_sub hl [0, 1, 2, 3, 4] rfl) (by omega)
  exact key_3 _ 0 f0 _ _ _ (by decide) cpr_zero hP hD hS (lv_sub hl [0, 1, 2, 3, 4] rfl) (Nat.lt_succ_self _)

/- X12_copyRow -/
set_option maxHeartbeats 4000000 in
set_option maxRecDepth 100000 in
theorem m_cp_suit_40 (l : Launch) (dC : Nat → ClassId) (dI : Nat → Nat → Nat) (cyI cyB cyJ cyZ cyH cyN : ClassId) (sz : Nat) (r0 : Nat) (f0 : Nat → Int32) (g0 : rg 0 99 245 f0) : Met l yX12_copyRow (wk yX12_copyRow cX12_copyRow 5 none) ({ frames := 1, cells := 0, slots := 0, locals := 60 }) (va_Pc [.ref r0, .int 49, .int 4, .int 0] (fun U => U.heap.size = sz ∧ va_P (dC, dI) vwCl [(r0, .inl (cyI, 245, .inl f0))] U.heap ∧ va_K (dC, dI) vwCl [(cyI, .int), (cyB, .byte), (cyJ, .long), (cyZ, .boolean), (cyH, .object RX2), (cyN, .array .long)] U ∧ va_D (fun _ => True) [(r0, .inl (cyI, 245, .inl f0))])) (va_Qv (fun _ : Unit => True) (fun (_ : Unit) (t : State) => ∃ y0 : Nat → Int32, (rg 0 99 245 y0) ∧ (cpr 49 4 0 49 f0 y0) ∧ va_P (dC, dI) vwCl [(r0, .inl (cyI, 245, .inl y0))] t.heap ∧ va_D (va_A [(r0, .inl (cyI, 245, .inl f0))] sz) [(r0, .inl (cyI, 245, .inl y0))]) (va_A [(r0, .inl (cyI, 245, .inl f0))] sz)) 0 0 (va_A [(r0, .inl (cyI, 245, .inl f0))] sz) := by
  refine Met.ofW (cc := cX12_copyRow) (maxL := 5) (ret := none) (by decide) rfl ?_
  intro p e s m args below meth c s₁ B hml hv
  obtain ⟨rfl, hsz, hP, hK, hD0⟩ := hv
  have hx := B.exec
  have hb := B.bytes
  have hr := B.returns
  have hts : ∀ w ∈ uU, w.before ([.ref r0, .int 49, .int 4, .int 0] : List Value).toArray s = true := fun w h => atoms_spec (ws := wk yX12_copyRow cX12_copyRow 5 none) B.pre w (List.mem_cons_of_mem _ h)
  have hown : s.vm.findClass RX12 = some m.cls := findClass_of_methodNamed B.named
  have hlocks := B.notSynchronized
  subst hsz
  have hD := hD0.self (sz := s.heap.size)
  generalize hAe : va_A [(r0, .inl (cyI, 245, .inl f0))] s.heap.size = A at hD ⊢
  have hA : ∀ q : Nat, s.heap.size ≤ q → A q := fun q h => by rw [← hAe]; exact Or.inr h
  have hS : va_S A s.heap s.heap [] := va_S.rf
  have hP : va_P (dC, dI) vwCl [(r0, .inl (cyI, 245, .inl f0))] s.heap := hP
  have hl := lv_entry ([.ref r0, .int 49, .int 4, .int 0]) (n := 5) (Nat.le_of_ble_eq_true rfl)
  rw [lg_entry_eq]
  generalize (lg_sl ([.ref r0, .int 49, .int 4, .int 0]) ++ List.replicate (5 - (lg_sl ([.ref r0, .int 49, .int 4, .int 0])).length) Slot.unset).toArray = ls at hl ⊢
  have hl : lv_has ls 5 [(0, .ref r0), (1, .int 49), (2, .int 4), (3, .int 0)] := hl
  obtain ⟨H, hHe⟩ : ∃ H, H = s.heap := ⟨_, rfl⟩
  have hP : va_P (dC, dI) vwCl [(r0, .inl (cyI, 245, .inl f0))] H := by rw [hHe]; exact hP
  have hS : va_S A s.heap H [] := by rw [hHe]; exact hS
  refine cv_heap hHe ?_
  obtain ⟨Q9, hQ9⟩ : ∃ Q9 : State → Prop, Q9 = MQ below (va_Qv (fun _ : Unit => True) (fun (_ : Unit) (t : State) => ∃ y0 : Nat → Int32, (rg 0 99 245 y0) ∧ (cpr 49 4 0 49 f0 y0) ∧ va_P (dC, dI) vwCl [(r0, .inl (cyI, 245, .inl y0))] t.heap ∧ va_D A [(r0, .inl (cyI, 245, .inl y0))]) A) ([.ref r0, .int 49, .int 4, .int 0] : List Value).toArray s 0 0 A := ⟨_, rfl⟩
  rw [← hQ9]
  refine lv_iconst (v := 0) hx hb dX12_copyRow_0 (by decide) ?_
  refine lv_istore (lv' := [(4, .int 0), (0, .ref r0), (1, .int 49), (2, .int 4), (3, .int 0)]) hx hb dX12_copyRow_1 hl (by decide) rfl (fun ls hl => ?_)
  have key_3 : ∀ (nkey_3 : Nat) (u_1 : Int32) (f_2 : Nat → Int32) (H : Heap) (locs : List Loc) (ls : Array Slot), (0 ≤ u_1.toInt ∧ u_1.toInt ≤ 49) → rg 0 99 245 f_2 → (cpr 49 4 0 u_1.toInt.toNat f0 f_2) → va_P (dC, dI) vwCl [(r0, .inl (cyI, 245, .inl f_2))] H → va_D A [(r0, .inl (cyI, 245, .inl f_2))] → va_S A s.heap H locs → lv_has ls 5 [(4, .int u_1), (0, .ref r0), (1, .int 49), (2, .int 4), (3, .int 0)] → (49 - u_1.toInt).toNat < nkey_3 → W p l e ({ frames := 1, cells := 0, slots := 0, locals := 60 }) s m ([.ref r0, .int 49, .int 4, .int 0] : List Value).toArray below meth c H locs 0 0 Q9 (F0 m 3 ls []) := by
    intro nkey_3
    induction nkey_3 with
    | zero => intro u_1 f_2 H locs ls hu_1 hf_2 hcp9 hP hD hS hl hnkey_3; exact absurd hnkey_3 (Nat.not_lt_zero _)
    | succ nkey_3 ihkey_3 =>
      intro u_1 f_2 H locs ls hu_1 hf_2 hcp9 hP hD hS hl hnkey_3
      refine lv_iload hx hb dX12_copyRow_3 (lv_at hl 0 rfl) ?_
      refine lv_iload_n hx hb dX12_copyRow_5 rfl (lv_at hl 2 rfl) ?_
      refine lv_icmp_ge (tgt := 31) hx hb dX12_copyRow_6 (by decide) (fun c_4 => ?_) (fun c_4 => ?_)
      · have c_4 : 49 ≤ u_1.toInt := cv_le c_4
        rw [hQ9]
        have hP9 := hP.sub (ws' := [(r0, .inl (cyI, 245, .inl f_2))]) [0] rfl
        have hD9 := hD.sub (ws' := [(r0, .inl (cyI, 245, .inl f_2))]) [0] (by decide) rfl
        exact W.vret hx hb hr (fun t ht hW => ⟨⟨(), rfl, trivial, ⟨f_2, hf_2, (cpr_end hcp9 (by omega)), by rw [ht]; exact hP9, hD9⟩⟩, hS.F ht⟩) hS.2.2 dX12_copyRow_31
      · have c_4 : u_1.toInt < 49 := cv_nle c_4
        refine lv_aload_n hx hb dX12_copyRow_9 rfl (lv_at hl 1 rfl) ?_
        refine lv_iload_n hx hb dX12_copyRow_10 rfl (lv_at hl 2 rfl) ?_
        refine lv_iload_n hx hb dX12_copyRow_11 rfl (lv_at hl 4 rfl) ?_
        refine lv_imul hx hb dX12_copyRow_12 ?_
        refine cv_topi (b := 0) (by decide) ?_
        refine lv_iload hx hb dX12_copyRow_13 (lv_at hl 0 rfl) ?_
        refine lv_iadd hx hb dX12_copyRow_15 ?_
        refine lv_topi (fun x_5 ex_5 => ?_)
        have fx_5 : x_5.toInt = 0 + u_1.toInt := by rw [ex_5]; exact cv_addI (by have : (0 : Int32).toInt = 0 := rfl; omega) (by have : (0 : Int32).toInt = 0 := rfl; omega)
        refine lv_aload_n hx hb dX12_copyRow_16 rfl (lv_at hl 1 rfl) ?_
        refine lv_iload_n hx hb dX12_copyRow_17 rfl (lv_at hl 2 rfl) ?_
        refine lv_iload_n hx hb dX12_copyRow_18 rfl (lv_at hl 3 rfl) ?_
        refine lv_imul hx hb dX12_copyRow_19 ?_
        refine cv_topi (b := 196) (by decide) ?_
        refine lv_iload hx hb dX12_copyRow_20 (lv_at hl 0 rfl) ?_
        refine lv_iadd hx hb dX12_copyRow_22 ?_
        refine lv_topi (fun x_6 ex_6 => ?_)
        have fx_6 : x_6.toInt = 196 + u_1.toInt := by rw [ex_6]; exact cv_addI (by have : (196 : Int32).toInt = 196 := rfl; omega) (by have : (196 : Int32).toInt = 196 := rfl; omega)
        refine va_iald hx hb hK hP 0 0 rfl rfl (vp_in_iff.mpr (by omega)) dX12_copyRow_23 ?_
        refine lv_topi (fun x_7 ex_7 => ?_)
        have fx_7 : 0 ≤ x_7.toInt ∧ x_7.toInt ≤ 99 := by rw [ex_7]; exact hf_2 _ (cv_ix (by omega) (by omega))
        refine va_iast hx hb hK hP hD hS 0 0 rfl rfl (vp_in_iff.mpr (by omega)) dX12_copyRow_24 (fun H locs hP hD hS => ?_)
        obtain ⟨f_8, ef_8⟩ : ∃ z9 : Nat → Int32, z9 = upd f_2 x_5.toNatClampNeg x_7 := ⟨_, rfl⟩
        rw [← ef_8] at hP hD
        have hP : va_P (dC, dI) vwCl [(r0, .inl (cyI, 245, .inl f_8))] H := hP
        have hD : va_D A [(r0, .inl (cyI, 245, .inl f_8))] := hD
        have hf_8 : rg 0 99 245 f_8 := by rw [ef_8]; exact rg_upd (hf_2) ⟨by omega, by omega⟩
        obtain ⟨x_9, ex_9⟩ : ∃ y : Int32, y = u_1 + 1 := ⟨_, rfl⟩
        refine lv_iinc (v := x_9) (lv' := [(4, .int x_9), (0, .ref r0), (1, .int 49), (2, .int 4), (3, .int 0)]) hx hb dX12_copyRow_25 hl (k := 0) rfl (by rw [ex_9]; rfl) (by decide) rfl (fun ls hl => ?_)
        have fx_9 : x_9.toInt = u_1.toInt + 1 := by rw [ex_9]; exact cv_addI (by have : (1 : Int32).toInt = 1 := rfl; omega) (by have : (1 : Int32).toInt = 1 := rfl; omega)
        refine lv_goto (tgt := 3) hx hb dX12_copyRow_28 (by decide) ?_
        exact ihkey_3 x_9 f_8 _ _ _ (by omega) hf_8 (cpr_step (n := 0) hcp9 (by assumption) (by assumption) (by omega) (by omega) (by omega) (by omega) (by decide) (by omega)) hP hD hS (lv_sub hl [0, 1, 2, 3, 4] rfl) (by omega)
  exact key_3 _ 0 f0 _ _ _ (by decide) g0 cpr_zero hP hD hS (lv_sub hl [0, 1, 2, 3, 4] rfl) (Nat.lt_succ_self _)

/- X12_copyRow -/
set_option maxHeartbeats 4000000 in
set_option maxRecDepth 100000 in
theorem m_cp_suit_01 (l : Launch) (dC : Nat → ClassId) (dI : Nat → Nat → Nat) (cyI cyB cyJ cyZ cyH cyN : ClassId) (sz : Nat) (r0 : Nat) (f0 : Nat → Int32) (g0 : rg 0 99 245 f0) : Met l yX12_copyRow (wk yX12_copyRow cX12_copyRow 5 none) ({ frames := 1, cells := 0, slots := 0, locals := 60 }) (va_Pc [.ref r0, .int 49, .int 0, .int 1] (fun U => U.heap.size = sz ∧ va_P (dC, dI) vwCl [(r0, .inl (cyI, 245, .inl f0))] U.heap ∧ va_K (dC, dI) vwCl [(cyI, .int), (cyB, .byte), (cyJ, .long), (cyZ, .boolean), (cyH, .object RX2), (cyN, .array .long)] U ∧ va_D (fun _ => True) [(r0, .inl (cyI, 245, .inl f0))])) (va_Qv (fun _ : Unit => True) (fun (_ : Unit) (t : State) => ∃ y0 : Nat → Int32, (rg 0 99 245 y0) ∧ (cpr 49 0 1 49 f0 y0) ∧ va_P (dC, dI) vwCl [(r0, .inl (cyI, 245, .inl y0))] t.heap ∧ va_D (va_A [(r0, .inl (cyI, 245, .inl f0))] sz) [(r0, .inl (cyI, 245, .inl y0))]) (va_A [(r0, .inl (cyI, 245, .inl f0))] sz)) 0 0 (va_A [(r0, .inl (cyI, 245, .inl f0))] sz) := by
  refine Met.ofW (cc := cX12_copyRow) (maxL := 5) (ret := none) (by decide) rfl ?_
  intro p e s m args below meth c s₁ B hml hv
  obtain ⟨rfl, hsz, hP, hK, hD0⟩ := hv
  have hx := B.exec
  have hb := B.bytes
  have hr := B.returns
  have hts : ∀ w ∈ uU, w.before ([.ref r0, .int 49, .int 0, .int 1] : List Value).toArray s = true := fun w h => atoms_spec (ws := wk yX12_copyRow cX12_copyRow 5 none) B.pre w (List.mem_cons_of_mem _ h)
  have hown : s.vm.findClass RX12 = some m.cls := findClass_of_methodNamed B.named
  have hlocks := B.notSynchronized
  subst hsz
  have hD := hD0.self (sz := s.heap.size)
  generalize hAe : va_A [(r0, .inl (cyI, 245, .inl f0))] s.heap.size = A at hD ⊢
  have hA : ∀ q : Nat, s.heap.size ≤ q → A q := fun q h => by rw [← hAe]; exact Or.inr h
  have hS : va_S A s.heap s.heap [] := va_S.rf
  have hP : va_P (dC, dI) vwCl [(r0, .inl (cyI, 245, .inl f0))] s.heap := hP
  have hl := lv_entry ([.ref r0, .int 49, .int 0, .int 1]) (n := 5) (Nat.le_of_ble_eq_true rfl)
  rw [lg_entry_eq]
  generalize (lg_sl ([.ref r0, .int 49, .int 0, .int 1]) ++ List.replicate (5 - (lg_sl ([.ref r0, .int 49, .int 0, .int 1])).length) Slot.unset).toArray = ls at hl ⊢
  have hl : lv_has ls 5 [(0, .ref r0), (1, .int 49), (2, .int 0), (3, .int 1)] := hl
  obtain ⟨H, hHe⟩ : ∃ H, H = s.heap := ⟨_, rfl⟩
  have hP : va_P (dC, dI) vwCl [(r0, .inl (cyI, 245, .inl f0))] H := by rw [hHe]; exact hP
  have hS : va_S A s.heap H [] := by rw [hHe]; exact hS
  refine cv_heap hHe ?_
  obtain ⟨Q9, hQ9⟩ : ∃ Q9 : State → Prop, Q9 = MQ below (va_Qv (fun _ : Unit => True) (fun (_ : Unit) (t : State) => ∃ y0 : Nat → Int32, (rg 0 99 245 y0) ∧ (cpr 49 0 1 49 f0 y0) ∧ va_P (dC, dI) vwCl [(r0, .inl (cyI, 245, .inl y0))] t.heap ∧ va_D A [(r0, .inl (cyI, 245, .inl y0))]) A) ([.ref r0, .int 49, .int 0, .int 1] : List Value).toArray s 0 0 A := ⟨_, rfl⟩
  rw [← hQ9]
  refine lv_iconst (v := 0) hx hb dX12_copyRow_0 (by decide) ?_
  refine lv_istore (lv' := [(4, .int 0), (0, .ref r0), (1, .int 49), (2, .int 0), (3, .int 1)]) hx hb dX12_copyRow_1 hl (by decide) rfl (fun ls hl => ?_)
  have key_3 : ∀ (nkey_3 : Nat) (u_1 : Int32) (f_2 : Nat → Int32) (H : Heap) (locs : List Loc) (ls : Array Slot), (0 ≤ u_1.toInt ∧ u_1.toInt ≤ 49) → rg 0 99 245 f_2 → (cpr 49 0 1 u_1.toInt.toNat f0 f_2) → va_P (dC, dI) vwCl [(r0, .inl (cyI, 245, .inl f_2))] H → va_D A [(r0, .inl (cyI, 245, .inl f_2))] → va_S A s.heap H locs → lv_has ls 5 [(4, .int u_1), (0, .ref r0), (1, .int 49), (2, .int 0), (3, .int 1)] → (49 - u_1.toInt).toNat < nkey_3 → W p l e ({ frames := 1, cells := 0, slots := 0, locals := 60 }) s m ([.ref r0, .int 49, .int 0, .int 1] : List Value).toArray below meth c H locs 0 0 Q9 (F0 m 3 ls []) := by
    intro nkey_3
    induction nkey_3 with
    | zero => intro u_1 f_2 H locs ls hu_1 hf_2 hcp9 hP hD hS hl hnkey_3; exact absurd hnkey_3 (Nat.not_lt_zero _)
    | succ nkey_3 ihkey_3 =>
      intro u_1 f_2 H locs ls hu_1 hf_2 hcp9 hP hD hS hl hnkey_3
      refine lv_iload hx hb dX12_copyRow_3 (lv_at hl 0 rfl) ?_
      refine lv_iload_n hx hb dX12_copyRow_5 rfl (lv_at hl 2 rfl) ?_
      refine lv_icmp_ge (tgt := 31) hx hb dX12_copyRow_6 (by decide) (fun c_4 => ?_) (fun c_4 => ?_)
      · have c_4 : 49 ≤ u_1.toInt := cv_le c_4
        rw [hQ9]
        have hP9 := hP.sub (ws' := [(r0, .inl (cyI, 245, .inl f_2))]) [0] rfl
        have hD9 := hD.sub (ws' := [(r0, .inl (cyI, 245, .inl f_2))]) [0] (by decide) rfl
        exact W.vret hx hb hr (fun t ht hW => ⟨⟨(), rfl, trivial, ⟨f_2, hf_2, (cpr_end hcp9 (by omega)), by rw [ht]; exact hP9, hD9⟩⟩, hS.F ht⟩) hS.2.2 dX12_copyRow_31
      · have c_4 : u_1.toInt < 49 := cv_nle c_4
        refine lv_aload_n hx hb dX12_copyRow_9 rfl (lv_at hl 1 rfl) ?_
        refine lv_iload_n hx hb dX12_copyRow_10 rfl (lv_at hl 2 rfl) ?_
        refine lv_iload_n hx hb dX12_copyRow_11 rfl (lv_at hl 4 rfl) ?_
        refine lv_imul hx hb dX12_copyRow_12 ?_
        refine cv_topi (b := 49) (by decide) ?_
        refine lv_iload hx hb dX12_copyRow_13 (lv_at hl 0 rfl) ?_
        refine lv_iadd hx hb dX12_copyRow_15 ?_
        refine lv_topi (fun x_5 ex_5 => ?_)
        have fx_5 : x_5.toInt = 49 + u_1.toInt := by rw [ex_5]; exact cv_addI (by have : (49 : Int32).toInt = 49 := rfl; omega) (by have : (49 : Int32).toInt = 49 := rfl; omega)
        refine lv_aload_n hx hb dX12_copyRow_16 rfl (lv_at hl 1 rfl) ?_
        refine lv_iload_n hx hb dX12_copyRow_17 rfl (lv_at hl 2 rfl) ?_
        refine lv_iload_n hx hb dX12_copyRow_18 rfl (lv_at hl 3 rfl) ?_
        refine lv_imul hx hb dX12_copyRow_19 ?_
        refine cv_topi (b := 0) (by decide) ?_
        refine lv_iload hx hb dX12_copyRow_20 (lv_at hl 0 rfl) ?_
        refine lv_iadd hx hb dX12_copyRow_22 ?_
        refine lv_topi (fun x_6 ex_6 => ?_)
        have fx_6 : x_6.toInt = 0 + u_1.toInt := by rw [ex_6]; exact cv_addI (by have : (0 : Int32).toInt = 0 := rfl; omega) (by have : (0 : Int32).toInt = 0 := rfl; omega)
        refine va_iald hx hb hK hP 0 0 rfl rfl (vp_in_iff.mpr (by omega)) dX12_copyRow_23 ?_
        refine lv_topi (fun x_7 ex_7 => ?_)
        have fx_7 : 0 ≤ x_7.toInt ∧ x_7.toInt ≤ 99 := by rw [ex_7]; exact hf_2 _ (cv_ix (by omega) (by omega))
        refine va_iast hx hb hK hP hD hS 0 0 rfl rfl (vp_in_iff.mpr (by omega)) dX12_copyRow_24 (fun H locs hP hD hS => ?_)
        obtain ⟨f_8, ef_8⟩ : ∃ z9 : Nat → Int32, z9 = upd f_2 x_5.toNatClampNeg x_7 := ⟨_, rfl⟩
        rw [← ef_8] at hP hD
        have hP : va_P (dC, dI) vwCl [(r0, .inl (cyI, 245, .inl f_8))] H := hP
        have hD : va_D A [(r0, .inl (cyI, 245, .inl f_8))] := hD
        have hf_8 : rg 0 99 245 f_8 := by rw [ef_8]; exact rg_upd (hf_2) ⟨by omega, by omega⟩
        obtain ⟨x_9, ex_9⟩ : ∃ y : Int32, y = u_1 + 1 := ⟨_, rfl⟩
        refine lv_iinc (v := x_9) (lv' := [(4, .int x_9), (0, .ref r0), (1, .int 49), (2, .int 0), (3, .int 1)]) hx hb dX12_copyRow_25 hl (k := 0) rfl (by rw [ex_9]; rfl) (by decide) rfl (fun ls hl => ?_)
        have fx_9 : x_9.toInt = u_1.toInt + 1 := by rw [ex_9]; exact cv_addI (by have : (1 : Int32).toInt = 1 := rfl; omega) (by have : (1 : Int32).toInt = 1 := rfl; omega)
        refine lv_goto (tgt := 3) hx hb dX12_copyRow_28 (by decide) ?_
        exact ihkey_3 x_9 f_8 _ _ _ (by omega) hf_8 (cpr_step (n := 0) hcp9 (by assumption) (by assumption) (by omega) (by omega) (by omega) (by omega) (by decide) (by omega)) hP hD hS (lv_sub hl [0, 1, 2, 3, 4] rfl) (by omega)
  exact key_3 _ 0 f0 _ _ _ (by decide) g0 cpr_zero hP hD hS (lv_sub hl [0, 1, 2, 3, 4] rfl) (Nat.lt_succ_self _)

/- X12_copyRow -/
set_option maxHeartbeats 4000000 in
set_option maxRecDepth 100000 in
theorem m_cp_suit_02 (l : Launch) (dC : Nat → ClassId) (dI : Nat → Nat → Nat) (cyI cyB cyJ cyZ cyH cyN : ClassId) (sz : Nat) (r0 : Nat) (f0 : Nat → Int32) (g0 : rg 0 99 245 f0) : Met l yX12_copyRow (wk yX12_copyRow cX12_copyRow 5 none) ({ frames := 1, cells := 0, slots := 0, locals := 60 }) (va_Pc [.ref r0, .int 49, .int 0, .int 2] (fun U => U.heap.size = sz ∧ va_P (dC, dI) vwCl [(r0, .inl (cyI, 245, .inl f0))] U.heap ∧ va_K (dC, dI) vwCl [(cyI, .int), (cyB, .byte), (cyJ, .long), (cyZ, .boolean), (cyH, .object RX2), (cyN, .array .long)] U ∧ va_D (fun _ => True) [(r0, .inl (cyI, 245, .inl f0))])) (va_Qv (fun _ : Unit => True) (fun (_ : Unit) (t : State) => ∃ y0 : Nat → Int32, (rg 0 99 245 y0) ∧ (cpr 49 0 2 49 f0 y0) ∧ va_P (dC, dI) vwCl [(r0, .inl (cyI, 245, .inl y0))] t.heap ∧ va_D (va_A [(r0, .inl (cyI, 245, .inl f0))] sz) [(r0, .inl (cyI, 245, .inl y0))]) (va_A [(r0, .inl (cyI, 245, .inl f0))] sz)) 0 0 (va_A [(r0, .inl (cyI, 245, .inl f0))] sz) := by
  refine Met.ofW (cc := cX12_copyRow) (maxL := 5) (ret := none) (by decide) rfl ?_
  intro p e s m args below meth c s₁ B hml hv
  obtain ⟨rfl, hsz, hP, hK, hD0⟩ := hv
  have hx := B.exec
  have hb := B.bytes
  have hr := B.returns
  have hts : ∀ w ∈ uU, w.before ([.ref r0, .int 49, .int 0, .int 2] : List Value).toArray s = true := fun w h => atoms_spec (ws := wk yX12_copyRow cX12_copyRow 5 none) B.pre w (List.mem_cons_of_mem _ h)
  have hown : s.vm.findClass RX12 = some m.cls := findClass_of_methodNamed B.named
  have hlocks := B.notSynchronized
  subst hsz
  have hD := hD0.self (sz := s.heap.size)
  generalize hAe : va_A [(r0, .inl (cyI, 245, .inl f0))] s.heap.size = A at hD ⊢
  have hA : ∀ q : Nat, s.heap.size ≤ q → A q := fun q h => by rw [← hAe]; exact Or.inr h
  have hS : va_S A s.heap s.heap [] := va_S.rf
  have hP : va_P (dC, dI) vwCl [(r0, .inl (cyI, 245, .inl f0))] s.heap := hP
  have hl := lv_entry ([.ref r0, .int 49, .int 0, .int 2]) (n := 5) (Nat.le_of_ble_eq_true rfl)
  rw [lg_entry_eq]
  generalize (lg_sl ([.ref r0, .int 49, .int 0, .int 2]) ++ List.replicate (5 - (lg_sl ([.ref r0, .int 49, .int 0, .int 2])).length) Slot.unset).toArray = ls at hl ⊢
  have hl : lv_has ls 5 [(0, .ref r0), (1, .int 49), (2, .int 0), (3, .int 2)] := hl
  obtain ⟨H, hHe⟩ : ∃ H, H = s.heap := ⟨_, rfl⟩
  have hP : va_P (dC, dI) vwCl [(r0, .inl (cyI, 245, .inl f0))] H := by rw [hHe]; exact hP
  have hS : va_S A s.heap H [] := by rw [hHe]; exact hS
  refine cv_heap hHe ?_
  obtain ⟨Q9, hQ9⟩ : ∃ Q9 : State → Prop, Q9 = MQ below (va_Qv (fun _ : Unit => True) (fun (_ : Unit) (t : State) => ∃ y0 : Nat → Int32, (rg 0 99 245 y0) ∧ (cpr 49 0 2 49 f0 y0) ∧ va_P (dC, dI) vwCl [(r0, .inl (cyI, 245, .inl y0))] t.heap ∧ va_D A [(r0, .inl (cyI, 245, .inl y0))]) A) ([.ref r0, .int 49, .int 0, .int 2] : List Value).toArray s 0 0 A := ⟨_, rfl⟩
  rw [← hQ9]
  refine lv_iconst (v := 0) hx hb dX12_copyRow_0 (by decide) ?_
  refine lv_istore (lv' := [(4, .int 0), (0, .ref r0), (1, .int 49), (2, .int 0), (3, .int 2)]) hx hb dX12_copyRow_1 hl (by decide) rfl (fun ls hl => ?_)
  have key_3 : ∀ (nkey_3 : Nat) (u_1 : Int32) (f_2 : Nat → Int32) (H : Heap) (locs : List Loc) (ls : Array Slot), (0 ≤ u_1.toInt ∧ u_1.toInt ≤ 49) → rg 0 99 245 f_2 → (cpr 49 0 2 u_1.toInt.toNat f0 f_2) → va_P (dC, dI) vwCl [(r0, .inl (cyI, 245, .inl f_2))] H → va_D A [(r0, .inl (cyI, 245, .inl f_2))] → va_S A s.heap H locs → lv_has ls 5 [(4, .int u_1), (0, .ref r0), (1, .int 49), (2, .int 0), (3, .int 2)] → (49 - u_1.toInt).toNat < nkey_3 → W p l e ({ frames := 1, cells := 0, slots := 0, locals := 60 }) s m ([.ref r0, .int 49, .int 0, .int 2] : List Value).toArray below meth c H locs 0 0 Q9 (F0 m 3 ls []) := by
    intro nkey_3
    induction nkey_3 with
    | zero => intro u_1 f_2 H locs ls hu_1 hf_2 hcp9 hP hD hS hl hnkey_3; exact absurd hnkey_3 (Nat.not_lt_zero _)
    | succ nkey_3 ihkey_3 =>
      intro u_1 f_2 H locs ls hu_1 hf_2 hcp9 hP hD hS hl hnkey_3
      refine lv_iload hx hb dX12_copyRow_3 (lv_at hl 0 rfl) ?_
      refine lv_iload_n hx hb dX12_copyRow_5 rfl (lv_at hl 2 rfl) ?_
      refine lv_icmp_ge (tgt := 31) hx hb dX12_copyRow_6 (by decide) (fun c_4 => ?_) (fun c_4 => ?_)
      · have c_4 : 49 ≤ u_1.toInt := cv_le c_4
        rw [hQ9]
        have hP9 := hP.sub (ws' := [(r0, .inl (cyI, 245, .inl f_2))]) [0] rfl
        have hD9 := hD.sub (ws' := [(r0, .inl (cyI, 245, .inl f_2))]) [0] (by decide) rfl
        exact W.vret hx hb hr (fun t ht hW => ⟨⟨(), rfl, trivial, ⟨f_2, hf_2, (cpr_end hcp9 (by omega)), by rw [ht]; exact hP9, hD9⟩⟩, hS.F ht⟩) hS.2.2 dX12_copyRow_31
      · have c_4 : u_1.toInt < 49 := cv_nle c_4
        refine lv_aload_n hx hb dX12_copyRow_9 rfl (lv_at hl 1 rfl) ?_
        refine lv_iload_n hx hb dX12_copyRow_10 rfl (lv_at hl 2 rfl) ?_
        refine lv_iload_n hx hb dX12_copyRow_11 rfl (lv_at hl 4 rfl) ?_
        refine lv_imul hx hb dX12_copyRow_12 ?_
        refine cv_topi (b := 98) (by decide) ?_
        refine lv_iload hx hb dX12_copyRow_13 (lv_at hl 0 rfl) ?_
        refine lv_iadd hx hb dX12_copyRow_15 ?_
        refine lv_topi (fun x_5 ex_5 => ?_)
        have fx_5 : x_5.toInt = 98 + u_1.toInt := by rw [ex_5]; exact cv_addI (by have : (98 : Int32).toInt = 98 := rfl; omega) (by have : (98 : Int32).toInt = 98 := rfl; omega)
        refine lv_aload_n hx hb dX12_copyRow_16 rfl (lv_at hl 1 rfl) ?_
        refine lv_iload_n hx hb dX12_copyRow_17 rfl (lv_at hl 2 rfl) ?_
        refine lv_iload_n hx hb dX12_copyRow_18 rfl (lv_at hl 3 rfl) ?_
        refine lv_imul hx hb dX12_copyRow_19 ?_
        refine cv_topi (b := 0) (by decide) ?_
        refine lv_iload hx hb dX12_copyRow_20 (lv_at hl 0 rfl) ?_
        refine lv_iadd hx hb dX12_copyRow_22 ?_
        refine lv_topi (fun x_6 ex_6 => ?_)
        have fx_6 : x_6.toInt = 0 + u_1.toInt := by rw [ex_6]; exact cv_addI (by have : (0 : Int32).toInt = 0 := rfl; omega) (by have : (0 : Int32).toInt = 0 := rfl; omega)
        refine va_iald hx hb hK hP 0 0 rfl rfl (vp_in_iff.mpr (by omega)) dX12_copyRow_23 ?_
        refine lv_topi (fun x_7 ex_7 => ?_)
        have fx_7 : 0 ≤ x_7.toInt ∧ x_7.toInt ≤ 99 := by rw [ex_7]; exact hf_2 _ (cv_ix (by omega) (by omega))
        refine va_iast hx hb hK hP hD hS 0 0 rfl rfl (vp_in_iff.mpr (by omega)) dX12_copyRow_24 (fun H locs hP hD hS => ?_)
        obtain ⟨f_8, ef_8⟩ : ∃ z9 : Nat → Int32, z9 = upd f_2 x_5.toNatClampNeg x_7 := ⟨_, rfl⟩
        rw [← ef_8] at hP hD
        have hP : va_P (dC, dI) vwCl [(r0, .inl (cyI, 245, .inl f_8))] H := hP
        have hD : va_D A [(r0, .inl (cyI, 245, .inl f_8))] := hD
        have hf_8 : rg 0 99 245 f_8 := by rw [ef_8]; exact rg_upd (hf_2) ⟨by omega, by omega⟩
        obtain ⟨x_9, ex_9⟩ : ∃ y : Int32, y = u_1 + 1 := ⟨_, rfl⟩
        refine lv_iinc (v := x_9) (lv' := [(4, .int x_9), (0, .ref r0), (1, .int 49), (2, .int 0), (3, .int 2)]) hx hb dX12_copyRow_25 hl (k := 0) rfl (by rw [ex_9]; rfl) (by decide) rfl (fun ls hl => ?_)
        have fx_9 : x_9.toInt = u_1.toInt + 1 := by rw [ex_9]; exact cv_addI (by have : (1 : Int32).toInt = 1 := rfl; omega) (by have : (1 : Int32).toInt = 1 := rfl; omega)
        refine lv_goto (tgt := 3) hx hb dX12_copyRow_28 (by decide) ?_
        exact ihkey_3 x_9 f_8 _ _ _ (by omega) hf_8 (cpr_step (n := 0) hcp9 (by assumption) (by assumption) (by omega) (by omega) (by omega) (by omega) (by decide) (by omega)) hP hD hS (lv_sub hl [0, 1, 2, 3, 4] rfl) (by omega)
  exact key_3 _ 0 f0 _ _ _ (by decide) g0 cpr_zero hP hD hS (lv_sub hl [0, 1, 2, 3, 4] rfl) (Nat.lt_succ_self _)

/- X12_copyRow -/
set_option maxHeartbeats 4000000 in
set_option maxRecDepth 100000 in
theorem m_cp_suit_03 (l : Launch) (dC : Nat → ClassId) (dI : Nat → Nat → Nat) (cyI cyB cyJ cyZ cyH cyN : ClassId) (sz : Nat) (r0 : Nat) (f0 : Nat → Int32) (g0 : rg 0 99 245 f0) : Met l yX12_copyRow (wk yX12_copyRow cX12_copyRow 5 none) ({ frames := 1, cells := 0, slots := 0, locals := 60 }) (va_Pc [.ref r0, .int 49, .int 0, .int 3] (fun U => U.heap.size = sz ∧ va_P (dC, dI) vwCl [(r0, .inl (cyI, 245, .inl f0))] U.heap ∧ va_K (dC, dI) vwCl [(cyI, .int), (cyB, .byte), (cyJ, .long), (cyZ, .boolean), (cyH, .object RX2), (cyN, .array .long)] U ∧ va_D (fun _ => True) [(r0, .inl (cyI, 245, .inl f0))])) (va_Qv (fun _ : Unit => True) (fun (_ : Unit) (t : State) => ∃ y0 : Nat → Int32, (rg 0 99 245 y0) ∧ (cpr 49 0 3 49 f0 y0) ∧ va_P (dC, dI) vwCl [(r0, .inl (cyI, 245, .inl y0))] t.heap ∧ va_D (va_A [(r0, .inl (cyI, 245, .inl f0))] sz) [(r0, .inl (cyI, 245, .inl y0))]) (va_A [(r0, .inl (cyI, 245, .inl f0))] sz)) 0 0 (va_A [(r0, .inl (cyI, 245, .inl f0))] sz) := by
  refine Met.ofW (cc := cX12_copyRow) (maxL := 5) (ret := none) (by decide) rfl ?_
  intro p e s m args below meth c s₁ B hml hv
  obtain ⟨rfl, hsz, hP, hK, hD0⟩ := hv
  have hx := B.exec
  have hb := B.bytes
  have hr := B.returns
  have hts : ∀ w ∈ uU, w.before ([.ref r0, .int 49, .int 0, .int 3] : List Value).toArray s = true := fun w h => atoms_spec (ws := wk yX12_copyRow cX12_copyRow 5 none) B.pre w (List.mem_cons_of_mem _ h)
  have hown : s.vm.findClass RX12 = some m.cls := findClass_of_methodNamed B.named
  have hlocks := B.notSynchronized
  subst hsz
  have hD := hD0.self (sz := s.heap.size)
  generalize hAe : va_A [(r0, .inl (cyI, 245, .inl f0))] s.heap.size = A at hD ⊢
  have hA : ∀ q : Nat, s.heap.size ≤ q → A q := fun q h => by rw [← hAe]; exact Or.inr h
  have hS : va_S A s.heap s.heap [] := va_S.rf
  have hP : va_P (dC, dI) vwCl [(r0, .inl (cyI, 245, .inl f0))] s.heap := hP
  have hl := lv_entry ([.ref r0, .int 49, .int 0, .int 3]) (n := 5) (Nat.le_of_ble_eq_true rfl)
  rw [lg_entry_eq]
  generalize (lg_sl ([.ref r0, .int 49, .int 0, .int 3]) ++ List.replicate (5 - (lg_sl ([.ref r0, .int 49, .int 0, .int 3])).length) Slot.unset).toArray = ls at hl ⊢
  have hl : lv_has ls 5 [(0, .ref r0), (1, .int 49), (2, .int 0), (3, .int 3)] := hl
  obtain ⟨H, hHe⟩ : ∃ H, H = s.heap := ⟨_, rfl⟩
  have hP : va_P (dC, dI) vwCl [(r0, .inl (cyI, 245, .inl f0))] H := by rw [hHe]; exact hP
  have hS : va_S A s.heap H [] := by rw [hHe]; exact hS
  refine cv_heap hHe ?_
  obtain ⟨Q9, hQ9⟩ : ∃ Q9 : State → Prop, Q9 = MQ below (va_Qv (fun _ : Unit => True) (fun (_ : Unit) (t : State) => ∃ y0 : Nat → Int32, (rg 0 99 245 y0) ∧ (cpr 49 0 3 49 f0 y0) ∧ va_P (dC, dI) vwCl [(r0, .inl (cyI, 245, .inl y0))] t.heap ∧ va_D A [(r0, .inl (cyI, 245, .inl y0))]) A) ([.ref r0, .int 49, .int 0, .int 3] : List Value).toArray s 0 0 A := ⟨_, rfl⟩
  rw [← hQ9]
  refine lv_iconst (v := 0) hx hb dX12_copyRow_0 (by decide) ?_
  refine lv_istore (lv' := [(4, .int 0), (0, .ref r0), (1, .int 49), (2, .int 0), (3, .int 3)]) hx hb dX12_copyRow_1 hl (by decide) rfl (fun ls hl => ?_)
  have key_3 : ∀ (nkey_3 : Nat) (u_1 : Int32) (f_2 : Nat → Int32) (H : Heap) (locs : List Loc) (ls : Array Slot), (0 ≤ u_1.toInt ∧ u_1.toInt ≤ 49) → rg 0 99 245 f_2 → (cpr 49 0 3 u_1.toInt.toNat f0 f_2) → va_P (dC, dI) vwCl [(r0, .inl (cyI, 245, .inl f_2))] H → va_D A [(r0, .inl (cyI, 245, .inl f_2))] → va_S A s.heap H locs → lv_has ls 5 [(4, .int u_1), (0, .ref r0), (1, .int 49), (2, .int 0), (3, .int 3)] → (49 - u_1.toInt).toNat < nkey_3 → W p l e ({ frames := 1, cells := 0, slots := 0, locals := 60 }) s m ([.ref r0, .int 49, .int 0, .int 3] : List Value).toArray below meth c H locs 0 0 Q9 (F0 m 3 ls []) := by
    intro nkey_3
    induction nkey_3 with
    | zero => intro u_1 f_2 H locs ls hu_1 hf_2 hcp9 hP hD hS hl hnkey_3; exact absurd hnkey_3 (Nat.not_lt_zero _)
    | succ nkey_3 ihkey_3 =>
      intro u_1 f_2 H locs ls hu_1 hf_2 hcp9 hP hD hS hl hnkey_3
      refine lv_iload hx hb dX12_copyRow_3 (lv_at hl 0 rfl) ?_
      refine lv_iload_n hx hb dX12_copyRow_5 rfl (lv_at hl 2 rfl) ?_
      refine lv_icmp_ge (tgt := 31) hx hb dX12_copyRow_6 (by decide) (fun c_4 => ?_) (fun c_4 => ?_)
      · have c_4 : 49 ≤ u_1.toInt := cv_le c_4
        rw [hQ9]
        have hP9 := hP.sub (ws' := [(r0, .inl (cyI, 245, .inl f_2))]) [0] rfl
        have hD9 := hD.sub (ws' := [(r0, .inl (cyI, 245, .inl f_2))]) [0] (by decide) rfl
        exact W.vret hx hb hr (fun t ht hW => ⟨⟨(), rfl, trivial, ⟨f_2, hf_2, (cpr_end hcp9 (by omega)), by rw [ht]; exact hP9, hD9⟩⟩, hS.F ht⟩) hS.2.2 dX12_copyRow_31
      · have c_4 : u_1.toInt < 49 := cv_nle c_4
        refine lv_aload_n hx hb dX12_copyRow_9 rfl (lv_at hl 1 rfl) ?_
        refine lv_iload_n hx hb dX12_copyRow_10 rfl (lv_at hl 2 rfl) ?_
        refine lv_iload_n hx hb dX12_copyRow_11 rfl (lv_at hl 4 rfl) ?_
        refine lv_imul hx hb dX12_copyRow_12 ?_
        refine cv_topi (b := 147) (by decide) ?_
        refine lv_iload hx hb dX12_copyRow_13 (lv_at hl 0 rfl) ?_
        refine lv_iadd hx hb dX12_copyRow_15 ?_
        refine lv_topi (fun x_5 ex_5 => ?_)
        have fx_5 : x_5.toInt = 147 + u_1.toInt := by rw [ex_5]; exact cv_addI (by have : (147 : Int32).toInt = 147 := rfl; omega) (by have : (147 : Int32).toInt = 147 := rfl; omega)
        refine lv_aload_n hx hb dX12_copyRow_16 rfl (lv_at hl 1 rfl) ?_
        refine lv_iload_n hx hb dX12_copyRow_17 rfl (lv_at hl 2 rfl) ?_
        refine lv_iload_n hx hb dX12_copyRow_18 rfl (lv_at hl 3 rfl) ?_
        refine lv_imul hx hb dX12_copyRow_19 ?_
        refine cv_topi (b := 0) (by decide) ?_
        refine lv_iload hx hb dX12_copyRow_20 (lv_at hl 0 rfl) ?_
        refine lv_iadd hx hb dX12_copyRow_22 ?_
        refine lv_topi (fun x_6 ex_6 => ?_)
        have fx_6 : x_6.toInt = 0 + u_1.toInt := by rw [ex_6]; exact cv_addI (by have : (0 : Int32).toInt = 0 := rfl; omega) (by have : (0 : Int32).toInt = 0 := rfl; omega)
        refine va_iald hx hb hK hP 0 0 rfl rfl (vp_in_iff.mpr (by omega)) dX12_copyRow_23 ?_
        refine lv_topi (fun x_7 ex_7 => ?_)
        have fx_7 : 0 ≤ x_7.toInt ∧ x_7.toInt ≤ 99 := by rw [ex_7]; exact hf_2 _ (cv_ix (by omega) (by omega))
        refine va_iast hx hb hK hP hD hS 0 0 rfl rfl (vp_in_iff.mpr (by omega)) dX12_copyRow_24 (fun H locs hP hD hS => ?_)
        obtain ⟨f_8, ef_8⟩ : ∃ z9 : Nat → Int32, z9 = upd f_2 x_5.toNatClampNeg x_7 := ⟨_, rfl⟩
        rw [← ef_8] at hP hD
        have hP : va_P (dC, dI) vwCl [(r0, .inl (cyI, 245, .inl f_8))] H := hP
        have hD : va_D A [(r0, .inl (cyI, 245, .inl f_8))] := hD
        have hf_8 : rg 0 99 245 f_8 := by rw [ef_8]; exact rg_upd (hf_2) ⟨by omega, by omega⟩
        obtain ⟨x_9, ex_9⟩ : ∃ y : Int32, y = u_1 + 1 := ⟨_, rfl⟩
        refine lv_iinc (v := x_9) (lv' := [(4, .int x_9), (0, .ref r0), (1, .int 49), (2, .int 0), (3, .int 3)]) hx hb dX12_copyRow_25 hl (k := 0) rfl (by rw [ex_9]; rfl) (by decide) rfl (fun ls hl => ?_)
        have fx_9 : x_9.toInt = u_1.toInt + 1 := by rw [ex_9]; exact cv_addI (by have : (1 : Int32).toInt = 1 := rfl; omega) (by have : (1 : Int32).toInt = 1 := rfl; omega)
        refine lv_goto (tgt := 3) hx hb dX12_copyRow_28 (by decide) ?_
        exact ihkey_3 x_9 f_8 _ _ _ (by omega) hf_8 (cpr_step (n := 0) hcp9 (by assumption) (by assumption) (by omega) (by omega) (by omega) (by omega) (by decide) (by omega)) hP hD hS (lv_sub hl [0, 1, 2, 3, 4] rfl) (by omega)
  exact key_3 _ 0 f0 _ _ _ (by decide) g0 cpr_zero hP hD hS (lv_sub hl [0, 1, 2, 3, 4] rfl) (Nat.lt_succ_self _)

/- X12_copyRow -/
set_option maxHeartbeats 4000000 in
set_option maxRecDepth 100000 in
theorem m_cp_suit_10 (l : Launch) (dC : Nat → ClassId) (dI : Nat → Nat → Nat) (cyI cyB cyJ cyZ cyH cyN : ClassId) (sz : Nat) (r0 : Nat) (f0 : Nat → Int32) (g0 : rg 0 99 245 f0) : Met l yX12_copyRow (wk yX12_copyRow cX12_copyRow 5 none) ({ frames := 1, cells := 0, slots := 0, locals := 60 }) (va_Pc [.ref r0, .int 49, .int 1, .int 0] (fun U => U.heap.size = sz ∧ va_P (dC, dI) vwCl [(r0, .inl (cyI, 245, .inl f0))] U.heap ∧ va_K (dC, dI) vwCl [(cyI, .int), (cyB, .byte), (cyJ, .long), (cyZ, .boolean), (cyH, .object RX2), (cyN, .array .long)] U ∧ va_D (fun _ => True) [(r0, .inl (cyI, 245, .inl f0))])) (va_Qv (fun _ : Unit => True) (fun (_ : Unit) (t : State) => ∃ y0 : Nat → Int32, (rg 0 99 245 y0) ∧ (cpr 49 1 0 49 f0 y0) ∧ va_P (dC, dI) vwCl [(r0, .inl (cyI, 245, .inl y0))] t.heap ∧ va_D (va_A [(r0, .inl (cyI, 245, .inl f0))] sz) [(r0, .inl (cyI, 245, .inl y0))]) (va_A [(r0, .inl (cyI, 245, .inl f0))] sz)) 0 0 (va_A [(r0, .inl (cyI, 245, .inl f0))] sz) := by
  refine Met.ofW (cc := cX12_copyRow) (maxL := 5) (ret := none) (by decide) rfl ?_
  intro p e s m args below meth c s₁ B hml hv
  obtain ⟨rfl, hsz, hP, hK, hD0⟩ := hv
  have hx := B.exec
  have hb := B.bytes
  have hr := B.returns
  have hts : ∀ w ∈ uU, w.before ([.ref r0, .int 49, .int 1, .int 0] : List Value).toArray s = true := fun w h => atoms_spec (ws := wk yX12_copyRow cX12_copyRow 5 none) B.pre w (List.mem_cons_of_mem _ h)
  have hown : s.vm.findClass RX12 = some m.cls := findClass_of_methodNamed B.named
  have hlocks := B.notSynchronized
  subst hsz
  have hD := hD0.self (sz := s.heap.size)
  generalize hAe : va_A [(r0, .inl (cyI, 245, .inl f0))] s.heap.size = A at hD ⊢
  have hA : ∀ q : Nat, s.heap.size ≤ q → A q := fun q h => by rw [← hAe]; exact Or.inr h
  have hS : va_S A s.heap s.heap [] := va_S.rf
  have hP : va_P (dC, dI) vwCl [(r0, .inl (cyI, 245, .inl f0))] s.heap := hP
  have hl := lv_entry ([.ref r0, .int 49, .int 1, .int 0]) (n := 5) (Nat.le_of_ble_eq_true rfl)
  rw [lg_entry_eq]
  generalize (lg_sl ([.ref r0, .int 49, .int 1, .int 0]) ++ List.replicate (5 - (lg_sl ([.ref r0, .int 49, .int 1, .int 0])).length) Slot.unset).toArray = ls at hl ⊢
  have hl : lv_has ls 5 [(0, .ref r0), (1, .int 49), (2, .int 1), (3, .int 0)] := hl
  obtain ⟨H, hHe⟩ : ∃ H, H = s.heap := ⟨_, rfl⟩
  have hP : va_P (dC, dI) vwCl [(r0, .inl (cyI, 245, .inl f0))] H := by rw [hHe]; exact hP
  have hS : va_S A s.heap H [] := by rw [hHe]; exact hS
  refine cv_heap hHe ?_
  obtain ⟨Q9, hQ9⟩ : ∃ Q9 : State → Prop, Q9 = MQ below (va_Qv (fun _ : Unit => True) (fun (_ : Unit) (t : State) => ∃ y0 : Nat → Int32, (rg 0 99 245 y0) ∧ (cpr 49 1 0 49 f0 y0) ∧ va_P (dC, dI) vwCl [(r0, .inl (cyI, 245, .inl y0))] t.heap ∧ va_D A [(r0, .inl (cyI, 245, .inl y0))]) A) ([.ref r0, .int 49, .int 1, .int 0] : List Value).toArray s 0 0 A := ⟨_, rfl⟩
  rw [← hQ9]
  refine lv_iconst (v := 0) hx hb dX12_copyRow_0 (by decide) ?_
  refine lv_istore (lv' := [(4, .int 0), (0, .ref r0), (1, .int 49), (2, .int 1), (3, .int 0)]) hx hb dX12_copyRow_1 hl (by decide) rfl (fun ls hl => ?_)
  have key_3 : ∀ (nkey_3 : Nat) (u_1 : Int32) (f_2 : Nat → Int32) (H : Heap) (locs : List Loc) (ls : Array Slot), (0 ≤ u_1.toInt ∧ u_1.toInt ≤ 49) → rg 0 99 245 f_2 → (cpr 49 1 0 u_1.toInt.toNat f0 f_2) → va_P (dC, dI) vwCl [(r0, .inl (cyI, 245, .inl f_2))] H → va_D A [(r0, .inl (cyI, 245, .inl f_2))] → va_S A s.heap H locs → lv_has ls 5 [(4, .int u_1), (0, .ref r0), (1, .int 49), (2, .int 1), (3, .int 0)] → (49 - u_1.toInt).toNat < nkey_3 → W p l e ({ frames := 1, cells := 0, slots := 0, locals := 60 }) s m ([.ref r0, .int 49, .int 1, .int 0] : List Value).toArray below meth c H locs 0 0 Q9 (F0 m 3 ls []) := by
    intro nkey_3
    induction nkey_3 with
    | zero => intro u_1 f_2 H locs ls hu_1 hf_2 hcp9 hP hD hS hl hnkey_3; exact absurd hnkey_3 (Nat.not_lt_zero _)
    | succ nkey_3 ihkey_3 =>
      intro u_1 f_2 H locs ls hu_1 hf_2 hcp9 hP hD hS hl hnkey_3
      refine lv_iload hx hb dX12_copyRow_3 (lv_at hl 0 rfl) ?_
      refine lv_iload_n hx hb dX12_copyRow_5 rfl (lv_at hl 2 rfl) ?_
      refine lv_icmp_ge (tgt := 31) hx hb dX12_copyRow_6 (by decide) (fun c_4 => ?_) (fun c_4 => ?_)
      · have c_4 : 49 ≤ u_1.toInt := cv_le c_4
        rw [hQ9]
        have hP9 := hP.sub (ws' := [(r0, .inl (cyI, 245, .inl f_2))]) [0] rfl
        have hD9 := hD.sub (ws' := [(r0, .inl (cyI, 245, .inl f_2))]) [0] (by decide) rfl
        exact W.vret hx hb hr (fun t ht hW => ⟨⟨(), rfl, trivial, ⟨f_2, hf_2, (cpr_end hcp9 (by omega)), by rw [ht]; exact hP9, hD9⟩⟩, hS.F ht⟩) hS.2.2 dX12_copyRow_31
      · have c_4 : u_1.toInt < 49 := cv_nle c_4
        refine lv_aload_n hx hb dX12_copyRow_9 rfl (lv_at hl 1 rfl) ?_
        refine lv_iload_n hx hb dX12_copyRow_10 rfl (lv_at hl 2 rfl) ?_
        refine lv_iload_n hx hb dX12_copyRow_11 rfl (lv_at hl 4 rfl) ?_
        refine lv_imul hx hb dX12_copyRow_12 ?_
        refine cv_topi (b := 0) (by decide) ?_
        refine lv_iload hx hb dX12_copyRow_13 (lv_at hl 0 rfl) ?_
        refine lv_iadd hx hb dX12_copyRow_15 ?_
        refine lv_topi (fun x_5 ex_5 => ?_)
        have fx_5 : x_5.toInt = 0 + u_1.toInt := by rw [ex_5]; exact cv_addI (by have : (0 : Int32).toInt = 0 := rfl; omega) (by have : (0 : Int32).toInt = 0 := rfl; omega)
        refine lv_aload_n hx hb dX12_copyRow_16 rfl (lv_at hl 1 rfl) ?_
        refine lv_iload_n hx hb dX12_copyRow_17 rfl (lv_at hl 2 rfl) ?_
        refine lv_iload_n hx hb dX12_copyRow_18 rfl (lv_at hl 3 rfl) ?_
        refine lv_imul hx hb dX12_copyRow_19 ?_
        refine cv_topi (b := 49) (by decide) ?_
        refine lv_iload hx hb dX12_copyRow_20 (lv_at hl 0 rfl) ?_
        refine lv_iadd hx hb dX12_copyRow_22 ?_
        refine lv_topi (fun x_6 ex_6 => ?_)
        have fx_6 : x_6.toInt = 49 + u_1.toInt := by rw [ex_6]; exact cv_addI (by have : (49 : Int32).toInt = 49 := rfl; omega) (by have : (49 : Int32).toInt = 49 := rfl; omega)
        refine va_iald hx hb hK hP 0 0 rfl rfl (vp_in_iff.mpr (by omega)) dX12_copyRow_23 ?_
        refine lv_topi (fun x_7 ex_7 => ?_)
        have fx_7 : 0 ≤ x_7.toInt ∧ x_7.toInt ≤ 99 := by rw [ex_7]; exact hf_2 _ (cv_ix (by omega) (by omega))
        refine va_iast hx hb hK hP hD hS 0 0 rfl rfl (vp_in_iff.mpr (by omega)) dX12_copyRow_24 (fun H locs hP hD hS => ?_)
        obtain ⟨f_8, ef_8⟩ : ∃ z9 : Nat → Int32, z9 = upd f_2 x_5.toNatClampNeg x_7 := ⟨_, rfl⟩
        rw [← ef_8] at hP hD
        have hP : va_P (dC, dI) vwCl [(r0, .inl (cyI, 245, .inl f_8))] H := hP
        have hD : va_D A [(r0, .inl (cyI, 245, .inl f_8))] := hD
        have hf_8 : rg 0 99 245 f_8 := by rw [ef_8]; exact rg_upd (hf_2) ⟨by omega, by omega⟩
        obtain ⟨x_9, ex_9⟩ : ∃ y : Int32, y = u_1 + 1 := ⟨_, rfl⟩
        refine lv_iinc (v := x_9) (lv' := [(4, .int x_9), (0, .ref r0), (1, .int 49), (2, .int 1), (3, .int 0)]) hx hb dX12_copyRow_25 hl (k := 0) rfl (by rw [ex_9]; rfl) (by decide) rfl (fun ls hl => ?_)
        have fx_9 : x_9.toInt = u_1.toInt + 1 := by rw [ex_9]; exact cv_addI (by have : (1 : Int32).toInt = 1 := rfl; omega) (by have : (1 : Int32).toInt = 1 := rfl; omega)
        refine lv_goto (tgt := 3) hx hb dX12_copyRow_28 (by decide) ?_
        exact ihkey_3 x_9 f_8 _ _ _ (by omega) hf_8 (cpr_step (n := 0) hcp9 (by assumption) (by assumption) (by omega) (by omega) (by omega) (by omega) (by decide) (by omega)) hP hD hS (lv_sub hl [0, 1, 2, 3, 4] rfl) (by omega)
  exact key_3 _ 0 f0 _ _ _ (by decide) g0 cpr_zero hP hD hS (lv_sub hl [0, 1, 2, 3, 4] rfl) (Nat.lt_succ_self _)

/- X12_copyRow -/
set_option maxHeartbeats 4000000 in
set_option maxRecDepth 100000 in
theorem m_cp_suit_20 (l : Launch) (dC : Nat → ClassId) (dI : Nat → Nat → Nat) (cyI cyB cyJ cyZ cyH cyN : ClassId) (sz : Nat) (r0 : Nat) (f0 : Nat → Int32) (g0 : rg 0 99 245 f0) : Met l yX12_copyRow (wk yX12_copyRow cX12_copyRow 5 none) ({ frames := 1, cells := 0, slots := 0, locals := 60 }) (va_Pc [.ref r0, .int 49, .int 2, .int 0] (fun U => U.heap.size = sz ∧ va_P (dC, dI) vwCl [(r0, .inl (cyI, 245, .inl f0))] U.heap ∧ va_K (dC, dI) vwCl [(cyI, .int), (cyB, .byte), (cyJ, .long), (cyZ, .boolean), (cyH, .object RX2), (cyN, .array .long)] U ∧ va_D (fun _ => True) [(r0, .inl (cyI, 245, .inl f0))])) (va_Qv (fun _ : Unit => True) (fun (_ : Unit) (t : State) => ∃ y0 : Nat → Int32, (rg 0 99 245 y0) ∧ (cpr 49 2 0 49 f0 y0) ∧ va_P (dC, dI) vwCl [(r0, .inl (cyI, 245, .inl y0))] t.heap ∧ va_D (va_A [(r0, .inl (cyI, 245, .inl f0))] sz) [(r0, .inl (cyI, 245, .inl y0))]) (va_A [(r0, .inl (cyI, 245, .inl f0))] sz)) 0 0 (va_A [(r0, .inl (cyI, 245, .inl f0))] sz) := by
  refine Met.ofW (cc := cX12_copyRow) (maxL := 5) (ret := none) (by decide) rfl ?_
  intro p e s m args below meth c s₁ B hml hv
  obtain ⟨rfl, hsz, hP, hK, hD0⟩ := hv
  have hx := B.exec
  have hb := B.bytes
  have hr := B.returns
  have hts : ∀ w ∈ uU, w.before ([.ref r0, .int 49, .int 2, .int 0] : List Value).toArray s = true := fun w h => atoms_spec (ws := wk yX12_copyRow cX12_copyRow 5 none) B.pre w (List.mem_cons_of_mem _ h)
  have hown : s.vm.findClass RX12 = some m.cls := findClass_of_methodNamed B.named
  have hlocks := B.notSynchronized
  subst hsz
  have hD := hD0.self (sz := s.heap.size)
  generalize hAe : va_A [(r0, .inl (cyI, 245, .inl f0))] s.heap.size = A at hD ⊢
  have hA : ∀ q : Nat, s.heap.size ≤ q → A q := fun q h => by rw [← hAe]; exact Or.inr h
  have hS : va_S A s.heap s.heap [] := va_S.rf
  have hP : va_P (dC, dI) vwCl [(r0, .inl (cyI, 245, .inl f0))] s.heap := hP
  have hl := lv_entry ([.ref r0, .int 49, .int 2, .int 0]) (n := 5) (Nat.le_of_ble_eq_true rfl)
  rw [lg_entry_eq]
  generalize (lg_sl ([.ref r0, .int 49, .int 2, .int 0]) ++ List.replicate (5 - (lg_sl ([.ref r0, .int 49, .int 2, .int 0])).length) Slot.unset).toArray = ls at hl ⊢
  have hl : lv_has ls 5 [(0, .ref r0), (1, .int 49), (2, .int 2), (3, .int 0)] := hl
  obtain ⟨H, hHe⟩ : ∃ H, H = s.heap := ⟨_, rfl⟩
  have hP : va_P (dC, dI) vwCl [(r0, .inl (cyI, 245, .inl f0))] H := by rw [hHe]; exact hP
  have hS : va_S A s.heap H [] := by rw [hHe]; exact hS
  refine cv_heap hHe ?_
  obtain ⟨Q9, hQ9⟩ : ∃ Q9 : State → Prop, Q9 = MQ below (va_Qv (fun _ : Unit => True) (fun (_ : Unit) (t : State) => ∃ y0 : Nat → Int32, (rg 0 99 245 y0) ∧ (cpr 49 2 0 49 f0 y0) ∧ va_P (dC, dI) vwCl [(r0, .inl (cyI, 245, .inl y0))] t.heap ∧ va_D A [(r0, .inl (cyI, 245, .inl y0))]) A) ([.ref r0, .int 49, .int 2, .int 0] : List Value).toArray s 0 0 A := ⟨_, rfl⟩
  rw [← hQ9]
  refine lv_iconst (v := 0) hx hb dX12_copyRow_0 (by decide) ?_
  refine lv_istore (lv' := [(4, .int 0), (0, .ref r0), (1, .int 49), (2, .int 2), (3, .int 0)]) hx hb dX12_copyRow_1 hl (by decide) rfl (fun ls hl => ?_)
  have key_3 : ∀ (nkey_3 : Nat) (u_1 : Int32) (f_2 : Nat → Int32) (H : Heap) (locs : List Loc) (ls : Array Slot), (0 ≤ u_1.toInt ∧ u_1.toInt ≤ 49) → rg 0 99 245 f_2 → (cpr 49 2 0 u_1.toInt.toNat f0 f_2) → va_P (dC, dI) vwCl [(r0, .inl (cyI, 245, .inl f_2))] H → va_D A [(r0, .inl (cyI, 245, .inl f_2))] → va_S A s.heap H locs → lv_has ls 5 [(4, .int u_1), (0, .ref r0), (1, .int 49), (2, .int 2), (3, .int 0)] → (49 - u_1.toInt).toNat < nkey_3 → W p l e ({ frames := 1, cells := 0, slots := 0, locals := 60 }) s m ([.ref r0, .int 49, .int 2, .int 0] : List Value).toArray below meth c H locs 0 0 Q9 (F0 m 3 ls []) := by
    intro nkey_3
    induction nkey_3 with
    | zero => intro u_1 f_2 H locs ls hu_1 hf_2 hcp9 hP hD hS hl hnkey_3; exact absurd hnkey_3 (Nat.not_lt_zero _)
    | succ nkey_3 ihkey_3 =>
      intro u_1 f_2 H locs ls hu_1 hf_2 hcp9 hP hD hS hl hnkey_3
      refine lv_iload hx hb dX12_copyRow_3 (lv_at hl 0 rfl) ?_
      refine lv_iload_n hx hb dX12_copyRow_5 rfl (lv_at hl 2 rfl) ?_
      refine lv_icmp_ge (tgt := 31) hx hb dX12_copyRow_6 (by decide) (fun c_4 => ?_) (fun c_4 => ?_)
      · have c_4 : 49 ≤ u_1.toInt := cv_le c_4
        rw [hQ9]
        have hP9 := hP.sub (ws' := [(r0, .inl (cyI, 245, .inl f_2))]) [0] rfl
        have hD9 := hD.sub (ws' := [(r0, .inl (cyI, 245, .inl f_2))]) [0] (by decide) rfl
        exact W.vret hx hb hr (fun t ht hW => ⟨⟨(), rfl, trivial, ⟨f_2, hf_2, (cpr_end hcp9 (by omega)), by rw [ht]; exact hP9, hD9⟩⟩, hS.F ht⟩) hS.2.2 dX12_copyRow_31
      · have c_4 : u_1.toInt < 49 := cv_nle c_4
        refine lv_aload_n hx hb dX12_copyRow_9 rfl (lv_at hl 1 rfl) ?_
        refine lv_iload_n hx hb dX12_copyRow_10 rfl (lv_at hl 2 rfl) ?_
        refine lv_iload_n hx hb dX12_copyRow_11 rfl (lv_at hl 4 rfl) ?_
        refine lv_imul hx hb dX12_copyRow_12 ?_
        refine cv_topi (b := 0) (by decide) ?_
        refine lv_iload hx hb dX12_copyRow_13 (lv_at hl 0 rfl) ?_
        refine lv_iadd hx hb dX12_copyRow_15 ?_
        refine lv_topi (fun x_5 ex_5 => ?_)
        have fx_5 : x_5.toInt = 0 + u_1.toInt := by rw [ex_5]; exact cv_addI (by have : (0 : Int32).toInt = 0 := rfl; omega) (by have : (0 : Int32).toInt = 0 := rfl; omega)
        refine lv_aload_n hx hb dX12_copyRow_16 rfl (lv_at hl 1 rfl) ?_
        refine lv_iload_n hx hb dX12_copyRow_17 rfl (lv_at hl 2 rfl) ?_
        refine lv_iload_n hx hb dX12_copyRow_18 rfl (lv_at hl 3 rfl) ?_
        refine lv_imul hx hb dX12_copyRow_19 ?_
        refine cv_topi (b := 98) (by decide) ?_
        refine lv_iload hx hb dX12_copyRow_20 (lv_at hl 0 rfl) ?_
        refine lv_iadd hx hb dX12_copyRow_22 ?_
        refine lv_topi (fun x_6 ex_6 => ?_)
        have fx_6 : x_6.toInt = 98 + u_1.toInt := by rw [ex_6]; exact cv_addI (by have : (98 : Int32).toInt = 98 := rfl; omega) (by have : (98 : Int32).toInt = 98 := rfl; omega)
        refine va_iald hx hb hK hP 0 0 rfl rfl (vp_in_iff.mpr (by omega)) dX12_copyRow_23 ?_
        refine lv_topi (fun x_7 ex_7 => ?_)
        have fx_7 : 0 ≤ x_7.toInt ∧ x_7.toInt ≤ 99 := by rw [ex_7]; exact hf_2 _ (cv_ix (by omega) (by omega))
        refine va_iast hx hb hK hP hD hS 0 0 rfl rfl (vp_in_iff.mpr (by omega)) dX12_copyRow_24 (fun H locs hP hD hS => ?_)
        obtain ⟨f_8, ef_8⟩ : ∃ z9 : Nat → Int32, z9 = upd f_2 x_5.toNatClampNeg x_7 := ⟨_, rfl⟩
        rw [← ef_8] at hP hD
        have hP : va_P (dC, dI) vwCl [(r0, .inl (cyI, 245, .inl f_8))] H := hP
        have hD : va_D A [(r0, .inl (cyI, 245, .inl f_8))] := hD
        have hf_8 : rg 0 99 245 f_8 := by rw [ef_8]; exact rg_upd (hf_2) ⟨by omega, by omega⟩
        obtain ⟨x_9, ex_9⟩ : ∃ y : Int32, y = u_1 + 1 := ⟨_, rfl⟩
        refine lv_iinc (v := x_9) (lv' := [(4, .int x_9), (0, .ref r0), (1, .int 49), (2, .int 2), (3, .int 0)]) hx hb dX12_copyRow_25 hl (k := 0) rfl (by rw [ex_9]; rfl) (by decide) rfl (fun ls hl => ?_)
        have fx_9 : x_9.toInt = u_1.toInt + 1 := by rw [ex_9]; exact cv_addI (by have : (1 : Int32).toInt = 1 := rfl; omega) (by have : (1 : Int32).toInt = 1 := rfl; omega)
        refine lv_goto (tgt := 3) hx hb dX12_copyRow_28 (by decide) ?_
        exact ihkey_3 x_9 f_8 _ _ _ (by omega) hf_8 (cpr_step (n := 0) hcp9 (by assumption) (by assumption) (by omega) (by omega) (by omega) (by omega) (by decide) (by omega)) hP hD hS (lv_sub hl [0, 1, 2, 3, 4] rfl) (by omega)
  exact key_3 _ 0 f0 _ _ _ (by decide) g0 cpr_zero hP hD hS (lv_sub hl [0, 1, 2, 3, 4] rfl) (Nat.lt_succ_self _)

/- X12_copyRow -/
set_option maxHeartbeats 4000000 in
set_option maxRecDepth 100000 in
theorem m_cp_suit_30 (l : Launch) (dC : Nat → ClassId) (dI : Nat → Nat → Nat) (cyI cyB cyJ cyZ cyH cyN : ClassId) (sz : Nat) (r0 : Nat) (f0 : Nat → Int32) (g0 : rg 0 99 245 f0) : Met l yX12_copyRow (wk yX12_copyRow cX12_copyRow 5 none) ({ frames := 1, cells := 0, slots := 0, locals := 60 }) (va_Pc [.ref r0, .int 49, .int 3, .int 0] (fun U => U.heap.size = sz ∧ va_P (dC, dI) vwCl [(r0, .inl (cyI, 245, .inl f0))] U.heap ∧ va_K (dC, dI) vwCl [(cyI, .int), (cyB, .byte), (cyJ, .long), (cyZ, .boolean), (cyH, .object RX2), (cyN, .array .long)] U ∧ va_D (fun _ => True) [(r0, .inl (cyI, 245, .inl f0))])) (va_Qv (fun _ : Unit => True) (fun (_ : Unit) (t : State) => ∃ y0 : Nat → Int32, (rg 0 99 245 y0) ∧ (cpr 49 3 0 49 f0 y0) ∧ va_P (dC, dI) vwCl [(r0, .inl (cyI, 245, .inl y0))] t.heap ∧ va_D (va_A [(r0, .inl (cyI, 245, .inl f0))] sz) [(r0, .inl (cyI, 245, .inl y0))]) (va_A [(r0, .inl (cyI, 245, .inl f0))] sz)) 0 0 (va_A [(r0, .inl (cyI, 245, .inl f0))] sz) := by
  refine Met.ofW (cc := cX12_copyRow) (maxL := 5) (ret := none) (by decide) rfl ?_
  intro p e s m args below meth c s₁ B hml hv
  obtain ⟨rfl, hsz, hP, hK, hD0⟩ := hv
  have hx := B.exec
  have hb := B.bytes
  have hr := B.returns
  have hts : ∀ w ∈ uU, w.before ([.ref r0, .int 49, .int 3, .int 0] : List Value).toArray s = true := fun w h => atoms_spec (ws := wk yX12_copyRow cX12_copyRow 5 none) B.pre w (List.mem_cons_of_mem _ h)
  have hown : s.vm.findClass RX12 = some m.cls := findClass_of_methodNamed B.named
  have hlocks := B.notSynchronized
  subst hsz
  have hD := hD0.self (sz := s.heap.size)
  generalize hAe : va_A [(r0, .inl (cyI, 245, .inl f0))] s.heap.size = A at hD ⊢
  have hA : ∀ q : Nat, s.heap.size ≤ q → A q := fun q h => by rw [← hAe]; exact Or.inr h
  have hS : va_S A s.heap s.heap [] := va_S.rf
  have hP : va_P (dC, dI) vwCl [(r0, .inl (cyI, 245, .inl f0))] s.heap := hP
  have hl := lv_entry ([.ref r0, .int 49, .int 3, .int 0]) (n := 5) (Nat.le_of_ble_eq_true rfl)
  rw [lg_entry_eq]
  generalize (lg_sl ([.ref r0, .int 49, .int 3, .int 0]) ++ List.replicate (5 - (lg_sl ([.ref r0, .int 49, .int 3, .int 0])).length) Slot.unset).toArray = ls at hl ⊢
  have hl : lv_has ls 5 [(0, .ref r0), (1, .int 49), (2, .int 3), (3, .int 0)] := hl
  obtain ⟨H, hHe⟩ : ∃ H, H = s.heap := ⟨_, rfl⟩
  have hP : va_P (dC, dI) vwCl [(r0, .inl (cyI, 245, .inl f0))] H := by rw [hHe]; exact hP
  have hS : va_S A s.heap H [] := by rw [hHe]; exact hS
  refine cv_heap hHe ?_
  obtain ⟨Q9, hQ9⟩ : ∃ Q9 : State → Prop, Q9 = MQ below (va_Qv (fun _ : Unit => True) (fun (_ : Unit) (t : State) => ∃ y0 : Nat → Int32, (rg 0 99 245 y0) ∧ (cpr 49 3 0 49 f0 y0) ∧ va_P (dC, dI) vwCl [(r0, .inl (cyI, 245, .inl y0))] t.heap ∧ va_D A [(r0, .inl (cyI, 245, .inl y0))]) A) ([.ref r0, .int 49, .int 3, .int 0] : List Value).toArray s 0 0 A := ⟨_, rfl⟩
  rw [← hQ9]
  refine lv_iconst (v := 0) hx hb dX12_copyRow_0 (by decide) ?_
  refine lv_istore (lv' := [(4, .int 0), (0, .ref r0), (1, .int 49), (2, .int 3), (3, .int 0)]) hx hb dX12_copyRow_1 hl (by decide) rfl (fun ls hl => ?_)
  have key_3 : ∀ (nkey_3 : Nat) (u_1 : Int32) (f_2 : Nat → Int32) (H : Heap) (locs : List Loc) (ls : Array Slot), (0 ≤ u_1.toInt ∧ u_1.toInt ≤ 49) → rg 0 99 245 f_2 → (cpr 49 3 0 u_1.toInt.toNat f0 f_2) → va_P (dC, dI) vwCl [(r0, .inl (cyI, 245, .inl f_2))] H → va_D A [(r0, .inl (cyI, 245, .inl f_2))] → va_S A s.heap H locs → lv_has ls 5 [(4, .int u_1), (0, .ref r0), (1, .int 49), (2, .int 3), (3, .int 0)] → (49 - u_1.toInt).toNat < nkey_3 → W p l e ({ frames := 1, cells := 0, slots := 0, locals := 60 }) s m ([.ref r0, .int 49, .int 3, .int 0] : List Value).toArray below meth c H locs 0 0 Q9 (F0 m 3 ls []) := by
    intro nkey_3
    induction nkey_3 with
    | zero => intro u_1 f_2 H locs ls hu_1 hf_2 hcp9 hP hD hS hl hnkey_3; exact absurd hnkey_3 (Nat.not_lt_zero _)
    | succ nkey_3 ihkey_3 =>
      intro u_1 f_2 H locs ls hu_1 hf_2 hcp9 hP hD hS hl hnkey_3
      refine lv_iload hx hb dX12_copyRow_3 (lv_at hl 0 rfl) ?_
      refine lv_iload_n hx hb dX12_copyRow_5 rfl (lv_at hl 2 rfl) ?_
      refine lv_icmp_ge (tgt := 31) hx hb dX12_copyRow_6 (by decide) (fun c_4 => ?_) (fun c_4 => ?_)
      · have c_4 : 49 ≤ u_1.toInt := cv_le c_4
        rw [hQ9]
        have hP9 := hP.sub (ws' := [(r0, .inl (cyI, 245, .inl f_2))]) [0] rfl
        have hD9 := hD.sub (ws' := [(r0, .inl (cyI, 245, .inl f_2))]) [0] (by decide) rfl
        exact W.vret hx hb hr (fun t ht hW => ⟨⟨(), rfl, trivial, ⟨f_2, hf_2, (cpr_end hcp9 (by omega)), by rw [ht]; exact hP9, hD9⟩⟩, hS.F ht⟩) hS.2.2 dX12_copyRow_31
      · have c_4 : u_1.toInt < 49 := cv_nle c_4
        refine lv_aload_n hx hb dX12_copyRow_9 rfl (lv_at hl 1 rfl) ?_
        refine lv_iload_n hx hb dX12_copyRow_10 rfl (lv_at hl 2 rfl) ?_
        refine lv_iload_n hx hb dX12_copyRow_11 rfl (lv_at hl 4 rfl) ?_
        refine lv_imul hx hb dX12_copyRow_12 ?_
        refine cv_topi (b := 0) (by decide) ?_
        refine lv_iload hx hb dX12_copyRow_13 (lv_at hl 0 rfl) ?_
        refine lv_iadd hx hb dX12_copyRow_15 ?_
        refine lv_topi (fun x_5 ex_5 => ?_)
        have fx_5 : x_5.toInt = 0 + u_1.toInt := by rw [ex_5]; exact cv_addI (by have : (0 : Int32).toInt = 0 := rfl; omega) (by have : (0 : Int32).toInt = 0 := rfl; omega)
        refine lv_aload_n hx hb dX12_copyRow_16 rfl (lv_at hl 1 rfl) ?_
        refine lv_iload_n hx hb dX12_copyRow_17 rfl (lv_at hl 2 rfl) ?_
        refine lv_iload_n hx hb dX12_copyRow_18 rfl (lv_at hl 3 rfl) ?_
        refine lv_imul hx hb dX12_copyRow_19 ?_
        refine cv_topi (b := 147) (by decide) ?_
        refine lv_iload hx hb dX12_copyRow_20 (lv_at hl 0 rfl) ?_
        refine lv_iadd hx hb dX12_copyRow_22 ?_
        refine lv_topi (fun x_6 ex_6 => ?_)
        have fx_6 : x_6.toInt = 147 + u_1.toInt := by rw [ex_6]; exact cv_addI (by have : (147 : Int32).toInt = 147 := rfl; omega) (by have : (147 : Int32).toInt = 147 := rfl; omega)
        refine va_iald hx hb hK hP 0 0 rfl rfl (vp_in_iff.mpr (by omega)) dX12_copyRow_23 ?_
        refine lv_topi (fun x_7 ex_7 => ?_)
        have fx_7 : 0 ≤ x_7.toInt ∧ x_7.toInt ≤ 99 := by rw [ex_7]; exact hf_2 _ (cv_ix (by omega) (by omega))
        refine va_iast hx hb hK hP hD hS 0 0 rfl rfl (vp_in_iff.mpr (by omega)) dX12_copyRow_24 (fun H locs hP hD hS => ?_)
        obtain ⟨f_8, ef_8⟩ : ∃ z9 : Nat → Int32, z9 = upd f_2 x_5.toNatClampNeg x_7 := ⟨_, rfl⟩
        rw [← ef_8] at hP hD
        have hP : va_P (dC, dI) vwCl [(r0, .inl (cyI, 245, .inl f_8))] H := hP
        have hD : va_D A [(r0, .inl (cyI, 245, .inl f_8))] := hD
        have hf_8 : rg 0 99 245 f_8 := by rw [ef_8]; exact rg_upd (hf_2) ⟨by omega, by omega⟩
        obtain ⟨x_9, ex_9⟩ : ∃ y : Int32, y = u_1 + 1 := ⟨_, rfl⟩
        refine lv_iinc (v := x_9) (lv' := [(4, .int x_9), (0, .ref r0), (1, .int 49), (2, .int 3), (3, .int 0)]) hx hb dX12_copyRow_25 hl (k := 0) rfl (by rw [ex_9]; rfl) (by decide) rfl (fun ls hl => ?_)
        have fx_9 : x_9.toInt = u_1.toInt + 1 := by rw [ex_9]; exact cv_addI (by have : (1 : Int32).toInt = 1 := rfl; omega) (by have : (1 : Int32).toInt = 1 := rfl; omega)
        refine lv_goto (tgt := 3) hx hb dX12_copyRow_28 (by decide) ?_
        exact ihkey_3 x_9 f_8 _ _ _ (by omega) hf_8 (cpr_step (n := 0) hcp9 (by assumption) (by assumption) (by omega) (by omega) (by omega) (by omega) (by decide) (by omega)) hP hD hS (lv_sub hl [0, 1, 2, 3, 4] rfl) (by omega)
  exact key_3 _ 0 f0 _ _ _ (by decide) g0 cpr_zero hP hD hS (lv_sub hl [0, 1, 2, 3, 4] rfl) (Nat.lt_succ_self _)

/- X12_copyRow -/
set_option maxHeartbeats 4000000 in
set_option maxRecDepth 100000 in
theorem m_cp_act_40 (l : Launch) (dC : Nat → ClassId) (dI : Nat → Nat → Nat) (cyI cyB cyJ cyZ cyH cyN : ClassId) (sz : Nat) (r0 : Nat) (f0 : Nat → Int32) : Met l yX12_copyRow (wk yX12_copyRow cX12_copyRow 5 none) ({ frames := 1, cells := 0, slots := 0, locals := 60 }) (va_Pc [.ref r0, .int 80, .int 4, .int 0] (fun U => U.heap.size = sz ∧ va_P (dC, dI) vwCl [(r0, .inl (cyI, 400, .inl f0))] U.heap ∧ va_K (dC, dI) vwCl [(cyI, .int), (cyB, .byte), (cyJ, .long), (cyZ, .boolean), (cyH, .object RX2), (cyN, .array .long)] U ∧ va_D (fun _ => True) [(r0, .inl (cyI, 400, .inl f0))])) (va_Qv (fun _ : Unit => True) (fun (_ : Unit) (t : State) => ∃ y0 : Nat → Int32, (cpr 80 4 0 80 f0 y0) ∧ va_P (dC, dI) vwCl [(r0, .inl (cyI, 400, .inl y0))] t.heap ∧ va_D (va_A [(r0, .inl (cyI, 400, .inl f0))] sz) [(r0, .inl (cyI, 400, .inl y0))]) (va_A [(r0, .inl (cyI, 400, .inl f0))] sz)) 0 0 (va_A [(r0, .inl (cyI, 400, .inl f0))] sz) := by
  refine Met.ofW (cc := cX12_copyRow) (maxL := 5) (ret := none) (by decide) rfl ?_
  intro p e s m args below meth c s₁ B hml hv
  obtain ⟨rfl, hsz, hP, hK, hD0⟩ := hv
  have hx := B.exec
  have hb := B.bytes
  have hr := B.returns
  have hts : ∀ w ∈ uU, w.before ([.ref r0, .int 80, .int 4, .int 0] : List Value).toArray s = true := fun w h => atoms_spec (ws := wk yX12_copyRow cX12_copyRow 5 none) B.pre w (List.mem_cons_of_mem _ h)
  have hown : s.vm.findClass RX12 = some m.cls := findClass_of_methodNamed B.named
  have hlocks := B.notSynchronized
  subst hsz
  have hD := hD0.self (sz := s.heap.size)
  generalize hAe : va_A [(r0, .inl (cyI, 400, .inl f0))] s.heap.size = A at hD ⊢
  have hA : ∀ q : Nat, s.heap.size ≤ q → A q := fun q h => by rw [← hAe]; exact Or.inr h
  have hS : va_S A s.heap s.heap [] := va_S.rf
  have hP : va_P (dC, dI) vwCl [(r0, .inl (cyI, 400, .inl f0))] s.heap := hP
  have hl := lv_entry ([.ref r0, .int 80, .int 4, .int 0]) (n := 5) (Nat.le_of_ble_eq_true rfl)
  rw [lg_entry_eq]
  generalize (lg_sl ([.ref r0, .int 80, .int 4, .int 0]) ++ List.replicate (5 - (lg_sl ([.ref r0, .int 80, .int 4, .int 0])).length) Slot.unset).toArray = ls at hl ⊢
  have hl : lv_has ls 5 [(0, .ref r0), (1, .int 80), (2, .int 4), (3, .int 0)] := hl
  obtain ⟨H, hHe⟩ : ∃ H, H = s.heap := ⟨_, rfl⟩
  have hP : va_P (dC, dI) vwCl [(r0, .inl (cyI, 400, .inl f0))] H := by rw [hHe]; exact hP
  have hS : va_S A s.heap H [] := by rw [hHe]; exact hS
  refine cv_heap hHe ?_
  obtain ⟨Q9, hQ9⟩ : ∃ Q9 : State → Prop, Q9 = MQ below (va_Qv (fun _ : Unit => True) (fun (_ : Unit) (t : State) => ∃ y0 : Nat → Int32, (cpr 80 4 0 80 f0 y0) ∧ va_P (dC, dI) vwCl [(r0, .inl (cyI, 400, .inl y0))] t.heap ∧ va_D A [(r0, .inl (cyI, 400, .inl y0))]) A) ([.ref r0, .int 80, .int 4, .int 0] : List Value).toArray s 0 0 A := ⟨_, rfl⟩
  rw [← hQ9]
  refine lv_iconst (v := 0) hx hb dX12_copyRow_0 (by decide) ?_
  refine lv_istore (lv' := [(4, .int 0), (0, .ref r0), (1, .int 80), (2, .int 4), (3, .int 0)]) hx hb dX12_copyRow_1 hl (by decide) rfl (fun ls hl => ?_)
  have key_3 : ∀ (nkey_3 : Nat) (u_1 : Int32) (f_2 : Nat → Int32) (H : Heap) (locs : List Loc) (ls : Array Slot), (0 ≤ u_1.toInt ∧ u_1.toInt ≤ 80) → (cpr 80 4 0 u_1.toInt.toNat f0 f_2) → va_P (dC, dI) vwCl [(r0, .inl (cyI, 400, .inl f_2))] H → va_D A [(r0, .inl (cyI, 400, .inl f_2))] → va_S A s.heap H locs → lv_has ls 5 [(4, .int u_1), (0, .ref r0), (1, .int 80), (2, .int 4), (3, .int 0)] → (80 - u_1.toInt).toNat < nkey_3 → W p l e ({ frames := 1, cells := 0, slots := 0, locals := 60 }) s m ([.ref r0, .int 80, .int 4, .int 0] : List Value).toArray below meth c H locs 0 0 Q9 (F0 m 3 ls []) := by
    intro nkey_3
    induction nkey_3 with
    | zero => intro u_1 f_2 H locs ls hu_1 hcp9 hP hD hS hl hnkey_3; exact absurd hnkey_3 (Nat.not_lt_zero _)
    | succ nkey_3 ihkey_3 =>
      intro u_1 f_2 H locs ls hu_1 hcp9 hP hD hS hl hnkey_3
      refine lv_iload hx hb dX12_copyRow_3 (lv_at hl 0 rfl) ?_
      refine lv_iload_n hx hb dX12_copyRow_5 rfl (lv_at hl 2 rfl) ?_
      refine lv_icmp_ge (tgt := 31) hx hb dX12_copyRow_6 (by decide) (fun c_4 => ?_) (fun c_4 => ?_)
      · have c_4 : 80 ≤ u_1.toInt := cv_le c_4
        rw [hQ9]
        have hP9 := hP.sub (ws' := [(r0, .inl (cyI, 400, .inl f_2))]) [0] rfl
        have hD9 := hD.sub (ws' := [(r0, .inl (cyI, 400, .inl f_2))]) [0] (by decide) rfl
        exact W.vret hx hb hr (fun t ht hW => ⟨⟨(), rfl, trivial, ⟨f_2, (cpr_end hcp9 (by omega)), by rw [ht]; exact hP9, hD9⟩⟩, hS.F ht⟩) hS.2.2 dX12_copyRow_31
      · have c_4 : u_1.toInt < 80 := cv_nle c_4
        refine lv_aload_n hx hb dX12_copyRow_9 rfl (lv_at hl 1 rfl) ?_
        refine lv_iload_n hx hb dX12_copyRow_10 rfl (lv_at hl 2 rfl) ?_
        refine lv_iload_n hx hb dX12_copyRow_11 rfl (lv_at hl 4 rfl) ?_
        refine lv_imul hx hb dX12_copyRow_12 ?_
        refine cv_topi (b := 0) (by decide) ?_
        refine lv_iload hx hb dX12_copyRow_13 (lv_at hl 0 rfl) ?_
        refine lv_iadd hx hb dX12_copyRow_15 ?_
        refine lv_topi (fun x_5 ex_5 => ?_)
        have fx_5 : x_5.toInt = 0 + u_1.toInt := by rw [ex_5]; exact cv_addI (by have : (0 : Int32).toInt = 0 := rfl; omega) (by have : (0 : Int32).toInt = 0 := rfl; omega)
        refine lv_aload_n hx hb dX12_copyRow_16 rfl (lv_at hl 1 rfl) ?_
        refine lv_iload_n hx hb dX12_copyRow_17 rfl (lv_at hl 2 rfl) ?_
        refine lv_iload_n hx hb dX12_copyRow_18 rfl (lv_at hl 3 rfl) ?_
        refine lv_imul hx hb dX12_copyRow_19 ?_
        refine cv_topi (b := 320) (by decide) ?_
        refine lv_iload hx hb dX12_copyRow_20 (lv_at hl 0 rfl) ?_
        refine lv_iadd hx hb dX12_copyRow_22 ?_
        refine lv_topi (fun x_6 ex_6 => ?_)
        have fx_6 : x_6.toInt = 320 + u_1.toInt := by rw [ex_6]; exact cv_addI (by have : (320 : Int32).toInt = 320 := rfl; omega) (by have : (320 : Int32).toInt = 320 := rfl; omega)
        refine va_iald hx hb hK hP 0 0 rfl rfl (vp_in_iff.mpr (by omega)) dX12_copyRow_23 ?_
        refine lv_topi (fun x_7 ex_7 => ?_)
        refine va_iast hx hb hK hP hD hS 0 0 rfl rfl (vp_in_iff.mpr (by omega)) dX12_copyRow_24 (fun H locs hP hD hS => ?_)
        obtain ⟨f_8, ef_8⟩ : ∃ z9 : Nat → Int32, z9 = upd f_2 x_5.toNatClampNeg x_7 := ⟨_, rfl⟩
        rw [← ef_8] at hP hD
        have hP : va_P (dC, dI) vwCl [(r0, .inl (cyI, 400, .inl f_8))] H := hP
        have hD : va_D A [(r0, .inl (cyI, 400, .inl f_8))] := hD
        obtain ⟨x_9, ex_9⟩ : ∃ y : Int32, y = u_1 + 1 := ⟨_, rfl⟩
        refine lv_iinc (v := x_9) (lv' := [(4, .int x_9), (0, .ref r0), (1, .int 80), (2, .int 4), (3, .int 0)]) hx hb dX12_copyRow_25 hl (k := 0) rfl (by rw [ex_9]; rfl) (by decide) rfl (fun ls hl => ?_)
        have fx_9 : x_9.toInt = u_1.toInt + 1 := by rw [ex_9]; exact cv_addI (by have : (1 : Int32).toInt = 1 := rfl; omega) (by have : (1 : Int32).toInt = 1 := rfl; omega)
        refine lv_goto (tgt := 3) hx hb dX12_copyRow_28 (by decide) ?_
        exact ihkey_3 x_9 f_8 _ _ _ (by omega) (cpr_step (n := 0) hcp9 (by assumption) (by assumption) (by omega) (by omega) (by omega) (by omega) (by decide) (by omega)) hP hD hS (lv_sub hl [0, 1, 2, 3, 4] rfl) (by omega)
  exact key_3 _ 0 f0 _ _ _ (by decide) cpr_zero hP hD hS (lv_sub hl [0, 1, 2, 3, 4] rfl) (Nat.lt_succ_self _)

/- X12_copyRow -/
set_option maxHeartbeats 4000000 in
set_option maxRecDepth 100000 in
theorem m_cp_act_01 (l : Launch) (dC : Nat → ClassId) (dI : Nat → Nat → Nat) (cyI cyB cyJ cyZ cyH cyN : ClassId) (sz : Nat) (r0 : Nat) (f0 : Nat → Int32) : Met l yX12_copyRow (wk yX12_copyRow cX12_copyRow 5 none) ({ frames := 1, cells := 0, slots := 0, locals := 60 }) (va_Pc [.ref r0, .int 80, .int 0, .int 1] (fun U => U.heap.size = sz ∧ va_P (dC, dI) vwCl [(r0, .inl (cyI, 400, .inl f0))] U.heap ∧ va_K (dC, dI) vwCl [(cyI, .int), (cyB, .byte), (cyJ, .long), (cyZ, .boolean), (cyH, .object RX2), (cyN, .array .long)] U ∧ va_D (fun _ => True) [(r0, .inl (cyI, 400, .inl f0))])) (va_Qv (fun _ : Unit => True) (fun (_ : Unit) (t : State) => ∃ y0 : Nat → Int32, (cpr 80 0 1 80 f0 y0) ∧ va_P (dC, dI) vwCl [(r0, .inl (cyI, 400, .inl y0))] t.heap ∧ va_D (va_A [(r0, .inl (cyI, 400, .inl f0))] sz) [(r0, .inl (cyI, 400, .inl y0))]) (va_A [(r0, .inl (cyI, 400, .inl f0))] sz)) 0 0 (va_A [(r0, .inl (cyI, 400, .inl f0))] sz) := by
  refine Met.ofW (cc := cX12_copyRow) (maxL := 5) (ret := none) (by decide) rfl ?_
  intro p e s m args below meth c s₁ B hml hv
  obtain ⟨rfl, hsz, hP, hK, hD0⟩ := hv
  have hx := B.exec
  have hb := B.bytes
  have hr := B.returns
  have hts : ∀ w ∈ uU, w.before ([.ref r0, .int 80, .int 0, .int 1] : List Value).toArray s = true := fun w h => atoms_spec (ws := wk yX12_copyRow cX12_copyRow 5 none) B.pre w (List.mem_cons_of_mem _ h)
  have hown : s.vm.findClass RX12 = some m.cls := findClass_of_methodNamed B.named
  have hlocks := B.notSynchronized
  subst hsz
  have hD := hD0.self (sz := s.heap.size)
  generalize hAe : va_A [(r0, .inl (cyI, 400, .inl f0))] s.heap.size = A at hD ⊢
  have hA : ∀ q : Nat, s.heap.size ≤ q → A q := fun q h => by rw [← hAe]; exact Or.inr h
  have hS : va_S A s.heap s.heap [] := va_S.rf
  have hP : va_P (dC, dI) vwCl [(r0, .inl (cyI, 400, .inl f0))] s.heap := hP
  have hl := lv_entry ([.ref r0, .int 80, .int 0, .int 1]) (n := 5) (Nat.le_of_ble_eq_true rfl)
  rw [lg_entry_eq]
  generalize (lg_sl ([.ref r0, .int 80, .int 0, .int 1]) ++ List.replicate (5 - (lg_sl ([.ref r0, .int 80, .int 0, .int 1])).length) Slot.unset).toArray = ls at hl ⊢
  have hl : lv_has ls 5 [(0, .ref r0), (1, .int 80), (2, .int 0), (3, .int 1)] := hl
  obtain ⟨H, hHe⟩ : ∃ H, H = s.heap := ⟨_, rfl⟩
  have hP : va_P (dC, dI) vwCl [(r0, .inl (cyI, 400, .inl f0))] H := by rw [hHe]; exact hP
  have hS : va_S A s.heap H [] := by rw [hHe]; exact hS
  refine cv_heap hHe ?_
  obtain ⟨Q9, hQ9⟩ : ∃ Q9 : State → Prop, Q9 = MQ below (va_Qv (fun _ : Unit => True) (fun (_ : Unit) (t : State) => ∃ y0 : Nat → Int32, (cpr 80 0 1 80 f0 y0) ∧ va_P (dC, dI) vwCl [(r0, .inl (cyI, 400, .inl y0))] t.heap ∧ va_D A [(r0, .inl (cyI, 400, .inl y0))]) A) ([.ref r0, .int 80, .int 0, .int 1] : List Value).toArray s 0 0 A := ⟨_, rfl⟩
  rw [← hQ9]
  refine lv_iconst (v := 0) hx hb dX12_copyRow_0 (by decide) ?_
  refine lv_istore (lv' := [(4, .int 0), (0, .ref r0), (1, .int 80), (2, .int 0), (3, .int 1)]) hx hb dX12_copyRow_1 hl (by decide) rfl (fun ls hl => ?_)
  have key_3 : ∀ (nkey_3 : Nat) (u_1 : Int32) (f_2 : Nat → Int32) (H : Heap) (locs : List Loc) (ls : Array Slot), (0 ≤ u_1.toInt ∧ u_1.toInt ≤ 80) → (cpr 80 0 1 u_1.toInt.toNat f0 f_2) → va_P (dC, dI) vwCl [(r0, .inl (cyI, 400, .inl f_2))] H → va_D A [(r0, .inl (cyI, 400, .inl f_2))] → va_S A s.heap H locs → lv_has ls 5 [(4, .int u_1), (0, .ref r0), (1, .int 80), (2, .int 0), (3, .int 1)] → (80 - u_1.toInt).toNat < nkey_3 → W p l e ({ frames := 1, cells := 0, slots := 0, locals := 60 }) s m ([.ref r0, .int 80, .int 0, .int 1] : List Value).toArray below meth c H locs 0 0 Q9 (F0 m 3 ls []) := by
    intro nkey_3
    induction nkey_3 with
    | zero => intro u_1 f_2 H locs ls hu_1 hcp9 hP hD hS hl hnkey_3; exact absurd hnkey_3 (Nat.not_lt_zero _)
    | succ nkey_3 ihkey_3 =>
      intro u_1 f_2 H locs ls hu_1 hcp9 hP hD hS hl hnkey_3
      refine lv_iload hx hb dX12_copyRow_3 (lv_at hl 0 rfl) ?_
      refine lv_iload_n hx hb dX12_copyRow_5 rfl (lv_at hl 2 rfl) ?_
      refine lv_icmp_ge (tgt := 31) hx hb dX12_copyRow_6 (by decide) (fun c_4 => ?_) (fun c_4 => ?_)
      · have c_4 : 80 ≤ u_1.toInt := cv_le c_4
        rw [hQ9]
        have hP9 := hP.sub (ws' := [(r0, .inl (cyI, 400, .inl f_2))]) [0] rfl
        have hD9 := hD.sub (ws' := [(r0, .inl (cyI, 400, .inl f_2))]) [0] (by decide) rfl
        exact W.vret hx hb hr (fun t ht hW => ⟨⟨(), rfl, trivial, ⟨f_2, (cpr_end hcp9 (by omega)), by rw [ht]; exact hP9, hD9⟩⟩, hS.F ht⟩) hS.2.2 dX12_copyRow_31
      · have c_4 : u_1.toInt < 80 := cv_nle c_4
        refine lv_aload_n hx hb dX12_copyRow_9 rfl (lv_at hl 1 rfl) ?_
        refine lv_iload_n hx hb dX12_copyRow_10 rfl (lv_at hl 2 rfl) ?_
        refine lv_iload_n hx hb dX12_copyRow_11 rfl (lv_at hl 4 rfl) ?_
        refine lv_imul hx hb dX12_copyRow_12 ?_
        refine cv_topi (b := 80) (by decide) ?_
        refine lv_iload hx hb dX12_copyRow_13 (lv_at hl 0 rfl) ?_
        refine lv_iadd hx hb dX12_copyRow_15 ?_
        refine lv_topi (fun x_5 ex_5 => ?_)
        have fx_5 : x_5.toInt = 80 + u_1.toInt := by rw [ex_5]; exact cv_addI (by have : (80 : Int32).toInt = 80 := rfl; omega) (by have : (80 : Int32).toInt = 80 := rfl; omega)
        refine lv_aload_n hx hb dX12_copyRow_16 rfl (lv_at hl 1 rfl) ?_
        refine lv_iload_n hx hb dX12_copyRow_17 rfl (lv_at hl 2 rfl) ?_
        refine lv_iload_n hx hb dX12_copyRow_18 rfl (lv_at hl 3 rfl) ?_
        refine lv_imul hx hb dX12_copyRow_19 ?_
        refine cv_topi (b := 0) (by decide) ?_
        refine lv_iload hx hb dX12_copyRow_20 (lv_at hl 0 rfl) ?_
        refine lv_iadd hx hb dX12_copyRow_22 ?_
        refine lv_topi (fun x_6 ex_6 => ?_)
        have fx_6 : x_6.toInt = 0 + u_1.toInt := by rw [ex_6]; exact cv_addI (by have : (0 : Int32).toInt = 0 := rfl; omega) (by have : (0 : Int32).toInt = 0 := rfl; omega)
        refine va_iald hx hb hK hP 0 0 rfl rfl (vp_in_iff.mpr (by omega)) dX12_copyRow_23 ?_
        refine lv_topi (fun x_7 ex_7 => ?_)
        refine va_iast hx hb hK hP hD hS 0 0 rfl rfl (vp_in_iff.mpr (by omega)) dX12_copyRow_24 (fun H locs hP hD hS => ?_)
        obtain ⟨f_8, ef_8⟩ : ∃ z9 : Nat → Int32, z9 = upd f_2 x_5.toNatClampNeg x_7 := ⟨_, rfl⟩
        rw [← ef_8] at hP hD
        have hP : va_P (dC, dI) vwCl [(r0, .inl (cyI, 400, .inl f_8))] H := hP
        have hD : va_D A [(r0, .inl (cyI, 400, .inl f_8))] := hD
        obtain ⟨x_9, ex_9⟩ : ∃ y : Int32, y = u_1 + 1 := ⟨_, rfl⟩
        refine lv_iinc (v := x_9) (lv' := [(4, .int x_9), (0, .ref r0), (1, .int 80), (2, .int 0), (3, .int 1)]) hx hb dX12_copyRow_25 hl (k := 0) rfl (by rw [ex_9]; rfl) (by decide) rfl (fun ls hl => ?_)
        have fx_9 : x_9.toInt = u_1.toInt + 1 := by rw [ex_9]; exact cv_addI (by have : (1 : Int32).toInt = 1 := rfl; omega) (by have : (1 : Int32).toInt = 1 := rfl; omega)
        refine lv_goto (tgt := 3) hx hb dX12_copyRow_28 (by decide) ?_
        exact ihkey_3 x_9 f_8 _ _ _ (by omega) (cpr_step (n := 0) hcp9 (by assumption) (by assumption) (by omega) (by omega) (by omega) (by omega) (by decide) (by omega)) hP hD hS (lv_sub hl [0, 1, 2, 3, 4] rfl) (by omega)
  exact key_3 _ 0 f0 _ _ _ (by decide) cpr_zero hP hD hS (lv_sub hl [0, 1, 2, 3, 4] rfl) (Nat.lt_succ_self _)

/- X12_copyRow -/
set_option maxHeartbeats 4000000 in
set_option maxRecDepth 100000 in
theorem m_cp_act_02 (l : Launch) (dC : Nat → ClassId) (dI : Nat → Nat → Nat) (cyI cyB cyJ cyZ cyH cyN : ClassId) (sz : Nat) (r0 : Nat) (f0 : Nat → Int32) : Met l yX12_copyRow (wk yX12_copyRow cX12_copyRow 5 none) ({ frames := 1, cells := 0, slots := 0, locals := 60 }) (va_Pc [.ref r0, .int 80, .int 0, .int 2] (fun U => U.heap.size = sz ∧ va_P (dC, dI) vwCl [(r0, .inl (cyI, 400, .inl f0))] U.heap ∧ va_K (dC, dI) vwCl [(cyI, .int), (cyB, .byte), (cyJ, .long), (cyZ, .boolean), (cyH, .object RX2), (cyN, .array .long)] U ∧ va_D (fun _ => True) [(r0, .inl (cyI, 400, .inl f0))])) (va_Qv (fun _ : Unit => True) (fun (_ : Unit) (t : State) => ∃ y0 : Nat → Int32, (cpr 80 0 2 80 f0 y0) ∧ va_P (dC, dI) vwCl [(r0, .inl (cyI, 400, .inl y0))] t.heap ∧ va_D (va_A [(r0, .inl (cyI, 400, .inl f0))] sz) [(r0, .inl (cyI, 400, .inl y0))]) (va_A [(r0, .inl (cyI, 400, .inl f0))] sz)) 0 0 (va_A [(r0, .inl (cyI, 400, .inl f0))] sz) := by
  refine Met.ofW (cc := cX12_copyRow) (maxL := 5) (ret := none) (by decide) rfl ?_
  intro p e s m args below meth c s₁ B hml hv
  obtain ⟨rfl, hsz, hP, hK, hD0⟩ := hv
  have hx := B.exec
  have hb := B.bytes
  have hr := B.returns
  have hts : ∀ w ∈ uU, w.before ([.ref r0, .int 80, .int 0, .int 2] : List Value).toArray s = true := fun w h => atoms_spec (ws := wk yX12_copyRow cX12_copyRow 5 none) B.pre w (List.mem_cons_of_mem _ h)
  have hown : s.vm.findClass RX12 = some m.cls := findClass_of_methodNamed B.named
  have hlocks := B.notSynchronized
  subst hsz
  have hD := hD0.self (sz := s.heap.size)
  generalize hAe : va_A [(r0, .inl (cyI, 400, .inl f0))] s.heap.size = A at hD ⊢
  have hA : ∀ q : Nat, s.heap.size ≤ q → A q := fun q h => by rw [← hAe]; exact Or.inr h
  have hS : va_S A s.heap s.heap [] := va_S.rf
  have hP : va_P (dC, dI) vwCl [(r0, .inl (cyI, 400, .inl f0))] s.heap := hP
  have hl := lv_entry ([.ref r0, .int 80, .int 0, .int 2]) (n := 5) (Nat.le_of_ble_eq_true rfl)
  rw [lg_entry_eq]
  generalize (lg_sl ([.ref r0, .int 80, .int 0, .int 2]) ++ List.replicate (5 - (lg_sl ([.ref r0, .int 80, .int 0, .int 2])).length) Slot.unset).toArray = ls at hl ⊢
  have hl : lv_has ls 5 [(0, .ref r0), (1, .int 80), (2, .int 0), (3, .int 2)] := hl
  obtain ⟨H, hHe⟩ : ∃ H, H = s.heap := ⟨_, rfl⟩
  have hP : va_P (dC, dI) vwCl [(r0, .inl (cyI, 400, .inl f0))] H := by rw [hHe]; exact hP
  have hS : va_S A s.heap H [] := by rw [hHe]; exact hS
  refine cv_heap hHe ?_
  obtain ⟨Q9, hQ9⟩ : ∃ Q9 : State → Prop, Q9 = MQ below (va_Qv (fun _ : Unit => True) (fun (_ : Unit) (t : State) => ∃ y0 : Nat → Int32, (cpr 80 0 2 80 f0 y0) ∧ va_P (dC, dI) vwCl [(r0, .inl (cyI, 400, .inl y0))] t.heap ∧ va_D A [(r0, .inl (cyI, 400, .inl y0))]) A) ([.ref r0, .int 80, .int 0, .int 2] : List Value).toArray s 0 0 A := ⟨_, rfl⟩
  rw [← hQ9]
  refine lv_iconst (v := 0) hx hb dX12_copyRow_0 (by decide) ?_
  refine lv_istore (lv' := [(4, .int 0), (0, .ref r0), (1, .int 80), (2, .int 0), (3, .int 2)]) hx hb dX12_copyRow_1 hl (by decide) rfl (fun ls hl => ?_)
  have key_3 : ∀ (nkey_3 : Nat) (u_1 : Int32) (f_2 : Nat → Int32) (H : Heap) (locs : List Loc) (ls : Array Slot), (0 ≤ u_1.toInt ∧ u_1.toInt ≤ 80) → (cpr 80 0 2 u_1.toInt.toNat f0 f_2) → va_P (dC, dI) vwCl [(r0, .inl (cyI, 400, .inl f_2))] H → va_D A [(r0, .inl (cyI, 400, .inl f_2))] → va_S A s.heap H locs → lv_has ls 5 [(4, .int u_1), (0, .ref r0), (1, .int 80), (2, .int 0), (3, .int 2)] → (80 - u_1.toInt).toNat < nkey_3 → W p l e ({ frames := 1, cells := 0, slots := 0, locals := 60 }) s m ([.ref r0, .int 80, .int 0, .int 2] : List Value).toArray below meth c H locs 0 0 Q9 (F0 m 3 ls []) := by
    intro nkey_3
    induction nkey_3 with
    | zero => intro u_1 f_2 H locs ls hu_1 hcp9 hP hD hS hl hnkey_3; exact absurd hnkey_3 (Nat.not_lt_zero _)
    | succ nkey_3 ihkey_3 =>
      intro u_1 f_2 H locs ls hu_1 hcp9 hP hD hS hl hnkey_3
      refine lv_iload hx hb dX12_copyRow_3 (lv_at hl 0 rfl) ?_
      refine lv_iload_n hx hb dX12_copyRow_5 rfl (lv_at hl 2 rfl) ?_
      refine lv_icmp_ge (tgt := 31) hx hb dX12_copyRow_6 (by decide) (fun c_4 => ?_) (fun c_4 => ?_)
      · have c_4 : 80 ≤ u_1.toInt := cv_le c_4
        rw [hQ9]
        have hP9 := hP.sub (ws' := [(r0, .inl (cyI, 400, .inl f_2))]) [0] rfl
        have hD9 := hD.sub (ws' := [(r0, .inl (cyI, 400, .inl f_2))]) [0] (by decide) rfl
        exact W.vret hx hb hr (fun t ht hW => ⟨⟨(), rfl, trivial, ⟨f_2, (cpr_end hcp9 (by omega)), by rw [ht]; exact hP9, hD9⟩⟩, hS.F ht⟩) hS.2.2 dX12_copyRow_31
      · have c_4 : u_1.toInt < 80 := cv_nle c_4
        refine lv_aload_n hx hb dX12_copyRow_9 rfl (lv_at hl 1 rfl) ?_
        refine lv_iload_n hx hb dX12_copyRow_10 rfl (lv_at hl 2 rfl) ?_
        refine lv_iload_n hx hb dX12_copyRow_11 rfl (lv_at hl 4 rfl) ?_
        refine lv_imul hx hb dX12_copyRow_12 ?_
        refine cv_topi (b := 160) (by decide) ?_
        refine lv_iload hx hb dX12_copyRow_13 (lv_at hl 0 rfl) ?_
        refine lv_iadd hx hb dX12_copyRow_15 ?_
        refine lv_topi (fun x_5 ex_5 => ?_)
        have fx_5 : x_5.toInt = 160 + u_1.toInt := by rw [ex_5]; exact cv_addI (by have : (160 : Int32).toInt = 160 := rfl; omega) (by have : (160 : Int32).toInt = 160 := rfl; omega)
        refine lv_aload_n hx hb dX12_copyRow_16 rfl (lv_at hl 1 rfl) ?_
        refine lv_iload_n hx hb dX12_copyRow_17 rfl (lv_at hl 2 rfl) ?_
        refine lv_iload_n hx hb dX12_copyRow_18 rfl (lv_at hl 3 rfl) ?_
        refine lv_imul hx hb dX12_copyRow_19 ?_
        refine cv_topi (b := 0) (by decide) ?_
        refine lv_iload hx hb dX12_copyRow_20 (lv_at hl 0 rfl) ?_
        refine lv_iadd hx hb dX12_copyRow_22 ?_
        refine lv_topi (fun x_6 ex_6 => ?_)
        have fx_6 : x_6.toInt = 0 + u_1.toInt := by rw [ex_6]; exact cv_addI (by have : (0 : Int32).toInt = 0 := rfl; omega) (by have : (0 : Int32).toInt = 0 := rfl; omega)
        refine va_iald hx hb hK hP 0 0 rfl rfl (vp_in_iff.mpr (by omega)) dX12_copyRow_23 ?_
        refine lv_topi (fun x_7 ex_7 => ?_)
        refine va_iast hx hb hK hP hD hS 0 0 rfl rfl (vp_in_iff.mpr (by omega)) dX12_copyRow_24 (fun H locs hP hD hS => ?_)
        obtain ⟨f_8, ef_8⟩ : ∃ z9 : Nat → Int32, z9 = upd f_2 x_5.toNatClampNeg x_7 := ⟨_, rfl⟩
        rw [← ef_8] at hP hD
        have hP : va_P (dC, dI) vwCl [(r0, .inl (cyI, 400, .inl f_8))] H := hP
        have hD : va_D A [(r0, .inl (cyI, 400, .inl f_8))] := hD
        obtain ⟨x_9, ex_9⟩ : ∃ y : Int32, y = u_1 + 1 := ⟨_, rfl⟩
        refine lv_iinc (v := x_9) (lv' := [(4, .int x_9), (0, .ref r0), (1, .int 80), (2, .int 0), (3, .int 2)]) hx hb dX12_copyRow_25 hl (k := 0) rfl (by rw [ex_9]; rfl) (by decide) rfl (fun ls hl => ?_)
        have fx_9 : x_9.toInt = u_1.toInt + 1 := by rw [ex_9]; exact cv_addI (by have : (1 : Int32).toInt = 1 := rfl; omega) (by have : (1 : Int32).toInt = 1 := rfl; omega)
        refine lv_goto (tgt := 3) hx hb dX12_copyRow_28 (by decide) ?_
        exact ihkey_3 x_9 f_8 _ _ _ (by omega) (cpr_step (n := 0) hcp9 (by assumption) (by assumption) (by omega) (by omega) (by omega) (by omega) (by decide) (by omega)) hP hD hS (lv_sub hl [0, 1, 2, 3, 4] rfl) (by omega)
  exact key_3 _ 0 f0 _ _ _ (by decide) cpr_zero hP hD hS (lv_sub hl [0, 1, 2, 3, 4] rfl) (Nat.lt_succ_self _)

/- X12_copyRow -/
set_option maxHeartbeats 4000000 in
set_option maxRecDepth 100000 in
theorem m_cp_act_03 (l : Launch) (dC : Nat → ClassId) (dI : Nat → Nat → Nat) (cyI cyB cyJ cyZ cyH cyN : ClassId) (sz : Nat) (r0 : Nat) (f0 : Nat → Int32) : Met l yX12_copyRow (wk yX12_copyRow cX12_copyRow 5 none) ({ frames := 1, cells := 0, slots := 0, locals := 60 }) (va_Pc [.ref r0, .int 80, .int 0, .int 3] (fun U => U.heap.size = sz ∧ va_P (dC, dI) vwCl [(r0, .inl (cyI, 400, .inl f0))] U.heap ∧ va_K (dC, dI) vwCl [(cyI, .int), (cyB, .byte), (cyJ, .long), (cyZ, .boolean), (cyH, .object RX2), (cyN, .array .long)] U ∧ va_D (fun _ => True) [(r0, .inl (cyI, 400, .inl f0))])) (va_Qv (fun _ : Unit => True) (fun (_ : Unit) (t : State) => ∃ y0 : Nat → Int32, (cpr 80 0 3 80 f0 y0) ∧ va_P (dC, dI) vwCl [(r0, .inl (cyI, 400, .inl y0))] t.heap ∧ va_D (va_A [(r0, .inl (cyI, 400, .inl f0))] sz) [(r0, .inl (cyI, 400, .inl y0))]) (va_A [(r0, .inl (cyI, 400, .inl f0))] sz)) 0 0 (va_A [(r0, .inl (cyI, 400, .inl f0))] sz) := by
  refine Met.ofW (cc := cX12_copyRow) (maxL := 5) (ret := none) (by decide) rfl ?_
  intro p e s m args below meth c s₁ B hml hv
  obtain ⟨rfl, hsz, hP, hK, hD0⟩ := hv
  have hx := B.exec
  have hb := B.bytes
  have hr := B.returns
  have hts : ∀ w ∈ uU, w.before ([.ref r0, .int 80, .int 0, .int 3] : List Value).toArray s = true := fun w h => atoms_spec (ws := wk yX12_copyRow cX12_copyRow 5 none) B.pre w (List.mem_cons_of_mem _ h)
  have hown : s.vm.findClass RX12 = some m.cls := findClass_of_methodNamed B.named
  have hlocks := B.notSynchronized
  subst hsz
  have hD := hD0.self (sz := s.heap.size)
  generalize hAe : va_A [(r0, .inl (cyI, 400, .inl f0))] s.heap.size = A at hD ⊢
  have hA : ∀ q : Nat, s.heap.size ≤ q → A q := fun q h => by rw [← hAe]; exact Or.inr h
  have hS : va_S A s.heap s.heap [] := va_S.rf
  have hP : va_P (dC, dI) vwCl [(r0, .inl (cyI, 400, .inl f0))] s.heap := hP
  have hl := lv_entry ([.ref r0, .int 80, .int 0, .int 3]) (n := 5) (Nat.le_of_ble_eq_true rfl)
  rw [lg_entry_eq]
  generalize (lg_sl ([.ref r0, .int 80, .int 0, .int 3]) ++ List.replicate (5 - (lg_sl ([.ref r0, .int 80, .int 0, .int 3])).length) Slot.unset).toArray = ls at hl ⊢
  have hl : lv_has ls 5 [(0, .ref r0), (1, .int 80), (2, .int 0), (3, .int 3)] := hl
  obtain ⟨H, hHe⟩ : ∃ H, H = s.heap := ⟨_, rfl⟩
  have hP : va_P (dC, dI) vwCl [(r0, .inl (cyI, 400, .inl f0))] H := by rw [hHe]; exact hP
  have hS : va_S A s.heap H [] := by rw [hHe]; exact hS
  refine cv_heap hHe ?_
  obtain ⟨Q9, hQ9⟩ : ∃ Q9 : State → Prop, Q9 = MQ below (va_Qv (fun _ : Unit => True) (fun (_ : Unit) (t : State) => ∃ y0 : Nat → Int32, (cpr 80 0 3 80 f0 y0) ∧ va_P (dC, dI) vwCl [(r0, .inl (cyI, 400, .inl y0))] t.heap ∧ va_D A [(r0, .inl (cyI, 400, .inl y0))]) A) ([.ref r0, .int 80, .int 0, .int 3] : List Value).toArray s 0 0 A := ⟨_, rfl⟩
  rw [← hQ9]
  refine lv_iconst (v := 0) hx hb dX12_copyRow_0 (by decide) ?_
  refine lv_istore (lv' := [(4, .int 0), (0, .ref r0), (1, .int 80), (2, .int 0), (3, .int 3)]) hx hb dX12_copyRow_1 hl (by decide) rfl (fun ls hl => ?_)
  have key_3 : ∀ (nkey_3 : Nat) (u_1 : Int32) (f_2 : Nat → Int32) (H : Heap) (locs : List Loc) (ls : Array Slot), (0 ≤ u_1.toInt ∧ u_1.toInt ≤ 80) → (cpr 80 0 3 u_1.toInt.toNat f0 f_2) → va_P (dC, dI) vwCl [(r0, .inl (cyI, 400, .inl f_2))] H → va_D A [(r0, .inl (cyI, 400, .inl f_2))] → va_S A s.heap H locs → lv_has ls 5 [(4, .int u_1), (0, .ref r0), (1, .int 80), (2, .int 0), (3, .int 3)] → (80 - u_1.toInt).toNat < nkey_3 → W p l e ({ frames := 1, cells := 0, slots := 0, locals := 60 }) s m ([.ref r0, .int 80, .int 0, .int 3] : List Value).toArray below meth c H locs 0 0 Q9 (F0 m 3 ls []) := by
    intro nkey_3
    induction nkey_3 with
    | zero => intro u_1 f_2 H locs ls hu_1 hcp9 hP hD hS hl hnkey_3; exact absurd hnkey_3 (Nat.not_lt_zero _)
    | succ nkey_3 ihkey_3 =>
      intro u_1 f_2 H locs ls hu_1 hcp9 hP hD hS hl hnkey_3
      refine lv_iload hx hb dX12_copyRow_3 (lv_at hl 0 rfl) ?_
      refine lv_iload_n hx hb dX12_copyRow_5 rfl (lv_at hl 2 rfl) ?_
      refine lv_icmp_ge (tgt := 31) hx hb dX12_copyRow_6 (by decide) (fun c_4 => ?_) (fun c_4 => ?_)
      · have c_4 : 80 ≤ u_1.toInt := cv_le c_4
        rw [hQ9]
        have hP9 := hP.sub (ws' := [(r0, .inl (cyI, 400, .inl f_2))]) [0] rfl
        have hD9 := hD.sub (ws' := [(r0, .inl (cyI, 400, .inl f_2))]) [0] (by decide) rfl
        exact W.vret hx hb hr (fun t ht hW => ⟨⟨(), rfl, trivial, ⟨f_2, (cpr_end hcp9 (by omega)), by rw [ht]; exact hP9, hD9⟩⟩, hS.F ht⟩) hS.2.2 dX12_copyRow_31
      · have c_4 : u_1.toInt < 80 := cv_nle c_4
        refine lv_aload_n hx hb dX12_copyRow_9 rfl (lv_at hl 1 rfl) ?_
        refine lv_iload_n hx hb dX12_copyRow_10 rfl (lv_at hl 2 rfl) ?_
        refine lv_iload_n hx hb dX12_copyRow_11 rfl (lv_at hl 4 rfl) ?_
        refine lv_imul hx hb dX12_copyRow_12 ?_
        refine cv_topi (b := 240) (by decide) ?_
        refine lv_iload hx hb dX12_copyRow_13 (lv_at hl 0 rfl) ?_
        refine lv_iadd hx hb dX12_copyRow_15 ?_
        refine lv_topi (fun x_5 ex_5 => ?_)
        have fx_5 : x_5.toInt = 240 + u_1.toInt := by rw [ex_5]; exact cv_addI (by have : (240 : Int32).toInt = 240 := rfl; omega) (by have : (240 : Int32).toInt = 240 := rfl; omega)
        refine lv_aload_n hx hb dX12_copyRow_16 rfl (lv_at hl 1 rfl) ?_
        refine lv_iload_n hx hb dX12_copyRow_17 rfl (lv_at hl 2 rfl) ?_
        refine lv_iload_n hx hb dX12_copyRow_18 rfl (lv_at hl 3 rfl) ?_
        refine lv_imul hx hb dX12_copyRow_19 ?_
        refine cv_topi (b := 0) (by decide) ?_
        refine lv_iload hx hb dX12_copyRow_20 (lv_at hl 0 rfl) ?_
        refine lv_iadd hx hb dX12_copyRow_22 ?_
        refine lv_topi (fun x_6 ex_6 => ?_)
        have fx_6 : x_6.toInt = 0 + u_1.toInt := by rw [ex_6]; exact cv_addI (by have : (0 : Int32).toInt = 0 := rfl; omega) (by have : (0 : Int32).toInt = 0 := rfl; omega)
        refine va_iald hx hb hK hP 0 0 rfl rfl (vp_in_iff.mpr (by omega)) dX12_copyRow_23 ?_
        refine lv_topi (fun x_7 ex_7 => ?_)
        refine va_iast hx hb hK hP hD hS 0 0 rfl rfl (vp_in_iff.mpr (by omega)) dX12_copyRow_24 (fun H locs hP hD hS => ?_)
        obtain ⟨f_8, ef_8⟩ : ∃ z9 : Nat → Int32, z9 = upd f_2 x_5.toNatClampNeg x_7 := ⟨_, rfl⟩
        rw [← ef_8] at hP hD
        have hP : va_P (dC, dI) vwCl [(r0, .inl (cyI, 400, .inl f_8))] H := hP
        have hD : va_D A [(r0, .inl (cyI, 400, .inl f_8))] := hD
        obtain ⟨x_9, ex_9⟩ : ∃ y : Int32, y = u_1 + 1 := ⟨_, rfl⟩
        refine lv_iinc (v := x_9) (lv' := [(4, .int x_9), (0, .ref r0), (1, .int 80), (2, .int 0), (3, .int 3)]) hx hb dX12_copyRow_25 hl (k := 0) rfl (by rw [ex_9]; rfl) (by decide) rfl (fun ls hl => ?_)
        have fx_9 : x_9.toInt = u_1.toInt + 1 := by rw [ex_9]; exact cv_addI (by have : (1 : Int32).toInt = 1 := rfl; omega) (by have : (1 : Int32).toInt = 1 := rfl; omega)
        refine lv_goto (tgt := 3) hx hb dX12_copyRow_28 (by decide) ?_
        exact ihkey_3 x_9 f_8 _ _ _ (by omega) (cpr_step (n := 0) hcp9 (by assumption) (by assumption) (by omega) (by omega) (by omega) (by omega) (by decide) (by omega)) hP hD hS (lv_sub hl [0, 1, 2, 3, 4] rfl) (by omega)
  exact key_3 _ 0 f0 _ _ _ (by decide) cpr_zero hP hD hS (lv_sub hl [0, 1, 2, 3, 4] rfl) (Nat.lt_succ_self _)

/- X12_copyRow -/
set_option maxHeartbeats 4000000 in
set_option maxRecDepth 100000 in
theorem m_cp_act_10 (l : Launch) (dC : Nat → ClassId) (dI : Nat → Nat → Nat) (cyI cyB cyJ cyZ cyH cyN : ClassId) (sz : Nat) (r0 : Nat) (f0 : Nat → Int32) : Met l yX12_copyRow (wk yX12_copyRow cX12_copyRow 5 none) ({ frames := 1, cells := 0, slots := 0, locals := 60 }) (va_Pc [.ref r0, .int 80, .int 1, .int 0] (fun U => U.heap.size = sz ∧ va_P (dC, dI) vwCl [(r0, .inl (cyI, 400, .inl f0))] U.heap ∧ va_K (dC, dI) vwCl [(cyI, .int), (cyB, .byte), (cyJ, .long), (cyZ, .boolean), (cyH, .object RX2), (cyN, .array .long)] U ∧ va_D (fun _ => True) [(r0, .inl (cyI, 400, .inl f0))])) (va_Qv (fun _ : Unit => True) (fun (_ : Unit) (t : State) => ∃ y0 : Nat → Int32, (cpr 80 1 0 80 f0 y0) ∧ va_P (dC, dI) vwCl [(r0, .inl (cyI, 400, .inl y0))] t.heap ∧ va_D (va_A [(r0, .inl (cyI, 400, .inl f0))] sz) [(r0, .inl (cyI, 400, .inl y0))]) (va_A [(r0, .inl (cyI, 400, .inl f0))] sz)) 0 0 (va_A [(r0, .inl (cyI, 400, .inl f0))] sz) := by
  refine Met.ofW (cc := cX12_copyRow) (maxL := 5) (ret := none) (by decide) rfl ?_
  intro p e s m args below meth c s₁ B hml hv
  obtain ⟨rfl, hsz, hP, hK, hD0⟩ := hv
  have hx := B.exec
  have hb := B.bytes
  have hr := B.returns
  have hts : ∀ w ∈ uU, w.before ([.ref r0, .int 80, .int 1, .int 0] : List Value).toArray s = true := fun w h => atoms_spec (ws := wk yX12_copyRow cX12_copyRow 5 none) B.pre w (List.mem_cons_of_mem _ h)
  have hown : s.vm.findClass RX12 = some m.cls := findClass_of_methodNamed B.named
  have hlocks := B.notSynchronized
  subst hsz
  have hD := hD0.self (sz := s.heap.size)
  generalize hAe : va_A [(r0, .inl (cyI, 400, .inl f0))] s.heap.size = A at hD ⊢
  have hA : ∀ q : Nat, s.heap.size ≤ q → A q := fun q h => by rw [← hAe]; exact Or.inr h
  have hS : va_S A s.heap s.heap [] := va_S.rf
  have hP : va_P (dC, dI) vwCl [(r0, .inl (cyI, 400, .inl f0))] s.heap := hP
  have hl := lv_entry ([.ref r0, .int 80, .int 1, .int 0]) (n := 5) (Nat.le_of_ble_eq_true rfl)
  rw [lg_entry_eq]
  generalize (lg_sl ([.ref r0, .int 80, .int 1, .int 0]) ++ List.replicate (5 - (lg_sl ([.ref r0, .int 80, .int 1, .int 0])).length) Slot.unset).toArray = ls at hl ⊢
  have hl : lv_has ls 5 [(0, .ref r0), (1, .int 80), (2, .int 1), (3, .int 0)] := hl
  obtain ⟨H, hHe⟩ : ∃ H, H = s.heap := ⟨_, rfl⟩
  have hP : va_P (dC, dI) vwCl [(r0, .inl (cyI, 400, .inl f0))] H := by rw [hHe]; exact hP
  have hS : va_S A s.heap H [] := by rw [hHe]; exact hS
  refine cv_heap hHe ?_
  obtain ⟨Q9, hQ9⟩ : ∃ Q9 : State → Prop, Q9 = MQ below (va_Qv (fun _ : Unit => True) (fun (_ : Unit) (t : State) => ∃ y0 : Nat → Int32, (cpr 80 1 0 80 f0 y0) ∧ va_P (dC, dI) vwCl [(r0, .inl (cyI, 400, .inl y0))] t.heap ∧ va_D A [(r0, .inl (cyI, 400, .inl y0))]) A) ([.ref r0, .int 80, .int 1, .int 0] : List Value).toArray s 0 0 A := ⟨_, rfl⟩
  rw [← hQ9]
  refine lv_iconst (v := 0) hx hb dX12_copyRow_0 (by decide) ?_
  refine lv_istore (lv' := [(4, .int 0), (0, .ref r0), (1, .int 80), (2, .int 1), (3, .int 0)]) hx hb dX12_copyRow_1 hl (by decide) rfl (fun ls hl => ?_)
  have key_3 : ∀ (nkey_3 : Nat) (u_1 : Int32) (f_2 : Nat → Int32) (H : Heap) (locs : List Loc) (ls : Array Slot), (0 ≤ u_1.toInt ∧ u_1.toInt ≤ 80) → (cpr 80 1 0 u_1.toInt.toNat f0 f_2) → va_P (dC, dI) vwCl [(r0, .inl (cyI, 400, .inl f_2))] H → va_D A [(r0, .inl (cyI, 400, .inl f_2))] → va_S A s.heap H locs → lv_has ls 5 [(4, .int u_1), (0, .ref r0), (1, .int 80), (2, .int 1), (3, .int 0)] → (80 - u_1.toInt).toNat < nkey_3 → W p l e ({ frames := 1, cells := 0, slots := 0, locals := 60 }) s m ([.ref r0, .int 80, .int 1, .int 0] : List Value).toArray below meth c H locs 0 0 Q9 (F0 m 3 ls []) := by
    intro nkey_3
    induction nkey_3 with
    | zero => intro u_1 f_2 H locs ls hu_1 hcp9 hP hD hS hl hnkey_3; exact absurd hnkey_3 (Nat.not_lt_zero _)
    | succ nkey_3 ihkey_3 =>
      intro u_1 f_2 H locs ls hu_1 hcp9 hP hD hS hl hnkey_3
      refine lv_iload hx hb dX12_copyRow_3 (lv_at hl 0 rfl) ?_
      refine lv_iload_n hx hb dX12_copyRow_5 rfl (lv_at hl 2 rfl) ?_
      refine lv_icmp_ge (tgt := 31) hx hb dX12_copyRow_6 (by decide) (fun c_4 => ?_) (fun c_4 => ?_)
      · have c_4 : 80 ≤ u_1.toInt := cv_le c_4
        rw [hQ9]
        have hP9 := hP.sub (ws' := [(r0, .inl (cyI, 400, .inl f_2))]) [0] rfl
        have hD9 := hD.sub (ws' := [(r0, .inl (cyI, 400, .inl f_2))]) [0] (by decide) rfl
        exact W.vret hx hb hr (fun t ht hW => ⟨⟨(), rfl, trivial, ⟨f_2, (cpr_end hcp9 (by omega)), by rw [ht]; exact hP9, hD9⟩⟩, hS.F ht⟩) hS.2.2 dX12_copyRow_31
      · have c_4 : u_1.toInt < 80 := cv_nle c_4
        refine lv_aload_n hx hb dX12_copyRow_9 rfl (lv_at hl 1 rfl) ?_
        refine lv_iload_n hx hb dX12_copyRow_10 rfl (lv_at hl 2 rfl) ?_
        refine lv_iload_n hx hb dX12_copyRow_11 rfl (lv_at hl 4 rfl) ?_
        refine lv_imul hx hb dX12_copyRow_12 ?_
        refine cv_topi (b := 0) (by decide) ?_
        refine lv_iload hx hb dX12_copyRow_13 (lv_at hl 0 rfl) ?_
        refine lv_iadd hx hb dX12_copyRow_15 ?_
        refine lv_topi (fun x_5 ex_5 => ?_)
        have fx_5 : x_5.toInt = 0 + u_1.toInt := by rw [ex_5]; exact cv_addI (by have : (0 : Int32).toInt = 0 := rfl; omega) (by have : (0 : Int32).toInt = 0 := rfl; omega)
        refine lv_aload_n hx hb dX12_copyRow_16 rfl (lv_at hl 1 rfl) ?_
        refine lv_iload_n hx hb dX12_copyRow_17 rfl (lv_at hl 2 rfl) ?_
        refine lv_iload_n hx hb dX12_copyRow_18 rfl (lv_at hl 3 rfl) ?_
        refine lv_imul hx hb dX12_copyRow_19 ?_
        refine cv_topi (b := 80) (by decide) ?_
        refine lv_iload hx hb dX12_copyRow_20 (lv_at hl 0 rfl) ?_
        refine lv_iadd hx hb dX12_copyRow_22 ?_
        refine lv_topi (fun x_6 ex_6 => ?_)
        have fx_6 : x_6.toInt = 80 + u_1.toInt := by rw [ex_6]; exact cv_addI (by have : (80 : Int32).toInt = 80 := rfl; omega) (by have : (80 : Int32).toInt = 80 := rfl; omega)
        refine va_iald hx hb hK hP 0 0 rfl rfl (vp_in_iff.mpr (by omega)) dX12_copyRow_23 ?_
        refine lv_topi (fun x_7 ex_7 => ?_)
        refine va_iast hx hb hK hP hD hS 0 0 rfl rfl (vp_in_iff.mpr (by omega)) dX12_copyRow_24 (fun H locs hP hD hS => ?_)
        obtain ⟨f_8, ef_8⟩ : ∃ z9 : Nat → Int32, z9 = upd f_2 x_5.toNatClampNeg x_7 := ⟨_, rfl⟩
        rw [← ef_8] at hP hD
        have hP : va_P (dC, dI) vwCl [(r0, .inl (cyI, 400, .inl f_8))] H := hP
        have hD : va_D A [(r0, .inl (cyI, 400, .inl f_8))] := hD
        obtain ⟨x_9, ex_9⟩ : ∃ y : Int32, y = u_1 + 1 := ⟨_, rfl⟩
        refine lv_iinc (v := x_9) (lv' := [(4, .int x_9), (0, .ref r0), (1, .int 80), (2, .int 1), (3, .int 0)]) hx hb dX12_copyRow_25 hl (k := 0) rfl (by rw [ex_9]; rfl) (by decide) rfl (fun ls hl => ?_)
        have fx_9 : x_9.toInt = u_1.toInt + 1 := by rw [ex_9]; exact cv_addI (by have : (1 : Int32).toInt = 1 := rfl; omega) (by have : (1 : Int32).toInt = 1 := rfl; omega)
        refine lv_goto (tgt := 3) hx hb dX12_copyRow_28 (by decide) ?_
        exact ihkey_3 x_9 f_8 _ _ _ (by omega) (cpr_step (n := 0) hcp9 (by assumption) (by assumption) (by omega) (by omega) (by omega) (by omega) (by decide) (by omega)) hP hD hS (lv_sub hl [0, 1, 2, 3, 4] rfl) (by omega)
  exact key_3 _ 0 f0 _ _ _ (by decide) cpr_zero hP hD hS (lv_sub hl [0, 1, 2, 3, 4] rfl) (Nat.lt_succ_self _)

/- X12_copyRow -/
set_option maxHeartbeats 4000000 in
set_option maxRecDepth 100000 in
theorem m_cp_act_20 (l : Launch) (dC : Nat → ClassId) (dI : Nat → Nat → Nat) (cyI cyB cyJ cyZ cyH cyN : ClassId) (sz : Nat) (r0 : Nat) (f0 : Nat → Int32) : Met l yX12_copyRow (wk yX12_copyRow cX12_copyRow 5 none) ({ frames := 1, cells := 0, slots := 0, locals := 60 }) (va_Pc [.ref r0, .int 80, .int 2, .int 0] (fun U => U.heap.size = sz ∧ va_P (dC, dI) vwCl [(r0, .inl (cyI, 400, .inl f0))] U.heap ∧ va_K (dC, dI) vwCl [(cyI, .int), (cyB, .byte), (cyJ, .long), (cyZ, .boolean), (cyH, .object RX2), (cyN, .array .long)] U ∧ va_D (fun _ => True) [(r0, .inl (cyI, 400, .inl f0))])) (va_Qv (fun _ : Unit => True) (fun (_ : Unit) (t : State) => ∃ y0 : Nat → Int32, (cpr 80 2 0 80 f0 y0) ∧ va_P (dC, dI) vwCl [(r0, .inl (cyI, 400, .inl y0))] t.heap ∧ va_D (va_A [(r0, .inl (cyI, 400, .inl f0))] sz) [(r0, .inl (cyI, 400, .inl y0))]) (va_A [(r0, .inl (cyI, 400, .inl f0))] sz)) 0 0 (va_A [(r0, .inl (cyI, 400, .inl f0))] sz) := by
  refine Met.ofW (cc := cX12_copyRow) (maxL := 5) (ret := none) (by decide) rfl ?_
  intro p e s m args below meth c s₁ B hml hv
  obtain ⟨rfl, hsz, hP, hK, hD0⟩ := hv
  have hx := B.exec
  have hb := B.bytes
  have hr := B.returns
  have hts : ∀ w ∈ uU, w.before ([.ref r0, .int 80, .int 2, .int 0] : List Value).toArray s = true := fun w h => atoms_spec (ws := wk yX12_copyRow cX12_copyRow 5 none) B.pre w (List.mem_cons_of_mem _ h)
  have hown : s.vm.findClass RX12 = some m.cls := findClass_of_methodNamed B.named
  have hlocks := B.notSynchronized
  subst hsz
  have hD := hD0.self (sz := s.heap.size)
  generalize hAe : va_A [(r0, .inl (cyI, 400, .inl f0))] s.heap.size = A at hD ⊢
  have hA : ∀ q : Nat, s.heap.size ≤ q → A q := fun q h => by rw [← hAe]; exact Or.inr h
  have hS : va_S A s.heap s.heap [] := va_S.rf
  have hP : va_P (dC, dI) vwCl [(r0, .inl (cyI, 400, .inl f0))] s.heap := hP
  have hl := lv_entry ([.ref r0, .int 80, .int 2, .int 0]) (n := 5) (Nat.le_of_ble_eq_true rfl)
  rw [lg_entry_eq]
  generalize (lg_sl ([.ref r0, .int 80, .int 2, .int 0]) ++ List.replicate (5 - (lg_sl ([.ref r0, .int 80, .int 2, .int 0])).length) Slot.unset).toArray = ls at hl ⊢
  have hl : lv_has ls 5 [(0, .ref r0), (1, .int 80), (2, .int 2), (3, .int 0)] := hl
  obtain ⟨H, hHe⟩ : ∃ H, H = s.heap := ⟨_, rfl⟩
  have hP : va_P (dC, dI) vwCl [(r0, .inl (cyI, 400, .inl f0))] H := by rw [hHe]; exact hP
  have hS : va_S A s.heap H [] := by rw [hHe]; exact hS
  refine cv_heap hHe ?_
  obtain ⟨Q9, hQ9⟩ : ∃ Q9 : State → Prop, Q9 = MQ below (va_Qv (fun _ : Unit => True) (fun (_ : Unit) (t : State) => ∃ y0 : Nat → Int32, (cpr 80 2 0 80 f0 y0) ∧ va_P (dC, dI) vwCl [(r0, .inl (cyI, 400, .inl y0))] t.heap ∧ va_D A [(r0, .inl (cyI, 400, .inl y0))]) A) ([.ref r0, .int 80, .int 2, .int 0] : List Value).toArray s 0 0 A := ⟨_, rfl⟩
  rw [← hQ9]
  refine lv_iconst (v := 0) hx hb dX12_copyRow_0 (by decide) ?_
  refine lv_istore (lv' := [(4, .int 0), (0, .ref r0), (1, .int 80), (2, .int 2), (3, .int 0)]) hx hb dX12_copyRow_1 hl (by decide) rfl (fun ls hl => ?_)
  have key_3 : ∀ (nkey_3 : Nat) (u_1 : Int32) (f_2 : Nat → Int32) (H : Heap) (locs : List Loc) (ls : Array Slot), (0 ≤ u_1.toInt ∧ u_1.toInt ≤ 80) → (cpr 80 2 0 u_1.toInt.toNat f0 f_2) → va_P (dC, dI) vwCl [(r0, .inl (cyI, 400, .inl f_2))] H → va_D A [(r0, .inl (cyI, 400, .inl f_2))] → va_S A s.heap H locs → lv_has ls 5 [(4, .int u_1), (0, .ref r0), (1, .int 80), (2, .int 2), (3, .int 0)] → (80 - u_1.toInt).toNat < nkey_3 → W p l e ({ frames := 1, cells := 0, slots := 0, locals := 60 }) s m ([.ref r0, .int 80, .int 2, .int 0] : List Value).toArray below meth c H locs 0 0 Q9 (F0 m 3 ls []) := by
    intro nkey_3
    induction nkey_3 with
    | zero => intro u_1 f_2 H locs ls hu_1 hcp9 hP hD hS hl hnkey_3; exact absurd hnkey_3 (Nat.not_lt_zero _)
    | succ nkey_3 ihkey_3 =>
      intro u_1 f_2 H locs ls hu_1 hcp9 hP hD hS hl hnkey_3
      refine lv_iload hx hb dX12_copyRow_3 (lv_at hl 0 rfl) ?_
      refine lv_iload_n hx hb dX12_copyRow_5 rfl (lv_at hl 2 rfl) ?_
      refine lv_icmp_ge (tgt := 31) hx hb dX12_copyRow_6 (by decide) (fun c_4 => ?_) (fun c_4 => ?_)
      · have c_4 : 80 ≤ u_1.toInt := cv_le c_4
        rw [hQ9]
        have hP9 := hP.sub (ws' := [(r0, .inl (cyI, 400, .inl f_2))]) [0] rfl
        have hD9 := hD.sub (ws' := [(r0, .inl (cyI, 400, .inl f_2))]) [0] (by decide) rfl
        exact W.vret hx hb hr (fun t ht hW => ⟨⟨(), rfl, trivial, ⟨f_2, (cpr_end hcp9 (by omega)), by rw [ht]; exact hP9, hD9⟩⟩, hS.F ht⟩) hS.2.2 dX12_copyRow_31
      · have c_4 : u_1.toInt < 80 := cv_nle c_4
        refine lv_aload_n hx hb dX12_copyRow_9 rfl (lv_at hl 1 rfl) ?_
        refine lv_iload_n hx hb dX12_copyRow_10 rfl (lv_at hl 2 rfl) ?_
        refine lv_iload_n hx hb dX12_copyRow_11 rfl (lv_at hl 4 rfl) ?_
        refine lv_imul hx hb dX12_copyRow_12 ?_
        refine cv_topi (b := 0) (by decide) ?_
        refine lv_iload hx hb dX12_copyRow_13 (lv_at hl 0 rfl) ?_
        refine lv_iadd hx hb dX12_copyRow_15 ?_
        refine lv_topi (fun x_5 ex_5 => ?_)
        have fx_5 : x_5.toInt = 0 + u_1.toInt := by rw [ex_5]; exact cv_addI (by have : (0 : Int32).toInt = 0 := rfl; omega) (by have : (0 : Int32).toInt = 0 := rfl; omega)
        refine lv_aload_n hx hb dX12_copyRow_16 rfl (lv_at hl 1 rfl) ?_
        refine lv_iload_n hx hb dX12_copyRow_17 rfl (lv_at hl 2 rfl) ?_
        refine lv_iload_n hx hb dX12_copyRow_18 rfl (lv_at hl 3 rfl) ?_
        refine lv_imul hx hb dX12_copyRow_19 ?_
        refine cv_topi (b := 160) (by decide) ?_
        refine lv_iload hx hb dX12_copyRow_20 (lv_at hl 0 rfl) ?_
        refine lv_iadd hx hb dX12_copyRow_22 ?_
        refine lv_topi (fun x_6 ex_6 => ?_)
        have fx_6 : x_6.toInt = 160 + u_1.toInt := by rw [ex_6]; exact cv_addI (by have : (160 : Int32).toInt = 160 := rfl; omega) (by have : (160 : Int32).toInt = 160 := rfl; omega)
        refine va_iald hx hb hK hP 0 0 rfl rfl (vp_in_iff.mpr (by omega)) dX12_copyRow_23 ?_
        refine lv_topi (fun x_7 ex_7 => ?_)
        refine va_iast hx hb hK hP hD hS 0 0 rfl rfl (vp_in_iff.mpr (by omega)) dX12_copyRow_24 (fun H locs hP hD hS => ?_)
        obtain ⟨f_8, ef_8⟩ : ∃ z9 : Nat → Int32, z9 = upd f_2 x_5.toNatClampNeg x_7 := ⟨_, rfl⟩
        rw [← ef_8] at hP hD
        have hP : va_P (dC, dI) vwCl [(r0, .inl (cyI, 400, .inl f_8))] H := hP
        have hD : va_D A [(r0, .inl (cyI, 400, .inl f_8))] := hD
        obtain ⟨x_9, ex_9⟩ : ∃ y : Int32, y = u_1 + 1 := ⟨_, rfl⟩
        refine lv_iinc (v := x_9) (lv' := [(4, .int x_9), (0, .ref r0), (1, .int 80), (2, .int 2), (3, .int 0)]) hx hb dX12_copyRow_25 hl (k := 0) rfl (by rw [ex_9]; rfl) (by decide) rfl (fun ls hl => ?_)
        have fx_9 : x_9.toInt = u_1.toInt + 1 := by rw [ex_9]; exact cv_addI (by have : (1 : Int32).toInt = 1 := rfl; omega) (by have : (1 : Int32).toInt = 1 := rfl; omega)
        refine lv_goto (tgt := 3) hx hb dX12_copyRow_28 (by decide) ?_
        exact ihkey_3 x_9 f_8 _ _ _ (by omega) (cpr_step (n := 0) hcp9 (by assumption) (by assumption) (by omega) (by omega) (by omega) (by omega) (by decide) (by omega)) hP hD hS (lv_sub hl [0, 1, 2, 3, 4] rfl) (by omega)
  exact key_3 _ 0 f0 _ _ _ (by decide) cpr_zero hP hD hS (lv_sub hl [0, 1, 2, 3, 4] rfl) (Nat.lt_succ_self _)

/- X12_copyRow -/
set_option maxHeartbeats 4000000 in
set_option maxRecDepth 100000 in
theorem m_cp_act_30 (l : Launch) (dC : Nat → ClassId) (dI : Nat → Nat → Nat) (cyI cyB cyJ cyZ cyH cyN : ClassId) (sz : Nat) (r0 : Nat) (f0 : Nat → Int32) : Met l yX12_copyRow (wk yX12_copyRow cX12_copyRow 5 none) ({ frames := 1, cells := 0, slots := 0, locals := 60 }) (va_Pc [.ref r0, .int 80, .int 3, .int 0] (fun U => U.heap.size = sz ∧ va_P (dC, dI) vwCl [(r0, .inl (cyI, 400, .inl f0))] U.heap ∧ va_K (dC, dI) vwCl [(cyI, .int), (cyB, .byte), (cyJ, .long), (cyZ, .boolean), (cyH, .object RX2), (cyN, .array .long)] U ∧ va_D (fun _ => True) [(r0, .inl (cyI, 400, .inl f0))])) (va_Qv (fun _ : Unit => True) (fun (_ : Unit) (t : State) => ∃ y0 : Nat → Int32, (cpr 80 3 0 80 f0 y0) ∧ va_P (dC, dI) vwCl [(r0, .inl (cyI, 400, .inl y0))] t.heap ∧ va_D (va_A [(r0, .inl (cyI, 400, .inl f0))] sz) [(r0, .inl (cyI, 400, .inl y0))]) (va_A [(r0, .inl (cyI, 400, .inl f0))] sz)) 0 0 (va_A [(r0, .inl (cyI, 400, .inl f0))] sz) := by
  refine Met.ofW (cc := cX12_copyRow) (maxL := 5) (ret := none) (by decide) rfl ?_
  intro p e s m args below meth c s₁ B hml hv
  obtain ⟨rfl, hsz, hP, hK, hD0⟩ := hv
  have hx := B.exec
  have hb := B.bytes
  have hr := B.returns
  have hts : ∀ w ∈ uU, w.before ([.ref r0, .int 80, .int 3, .int 0] : List Value).toArray s = true := fun w h => atoms_spec (ws := wk yX12_copyRow cX12_copyRow 5 none) B.pre w (List.mem_cons_of_mem _ h)
  have hown : s.vm.findClass RX12 = some m.cls := findClass_of_methodNamed B.named
  have hlocks := B.notSynchronized
  subst hsz
  have hD := hD0.self (sz := s.heap.size)
  generalize hAe : va_A [(r0, .inl (cyI, 400, .inl f0))] s.heap.size = A at hD ⊢
  have hA : ∀ q : Nat, s.heap.size ≤ q → A q := fun q h => by rw [← hAe]; exact Or.inr h
  have hS : va_S A s.heap s.heap [] := va_S.rf
  have hP : va_P (dC, dI) vwCl [(r0, .inl (cyI, 400, .inl f0))] s.heap := hP
  have hl := lv_entry ([.ref r0, .int 80, .int 3, .int 0]) (n := 5) (Nat.le_of_ble_eq_true rfl)
  rw [lg_entry_eq]
  generalize (lg_sl ([.ref r0, .int 80, .int 3, .int 0]) ++ List.replicate (5 - (lg_sl ([.ref r0, .int 80, .int 3, .int 0])).length) Slot.unset).toArray = ls at hl ⊢
  have hl : lv_has ls 5 [(0, .ref r0), (1, .int 80), (2, .int 3), (3, .int 0)] := hl
  obtain ⟨H, hHe⟩ : ∃ H, H = s.heap := ⟨_, rfl⟩
  have hP : va_P (dC, dI) vwCl [(r0, .inl (cyI, 400, .inl f0))] H := by rw [hHe]; exact hP
  have hS : va_S A s.heap H [] := by rw [hHe]; exact hS
  refine cv_heap hHe ?_
  obtain ⟨Q9, hQ9⟩ : ∃ Q9 : State → Prop, Q9 = MQ below (va_Qv (fun _ : Unit => True) (fun (_ : Unit) (t : State) => ∃ y0 : Nat → Int32, (cpr 80 3 0 80 f0 y0) ∧ va_P (dC, dI) vwCl [(r0, .inl (cyI, 400, .inl y0))] t.heap ∧ va_D A [(r0, .inl (cyI, 400, .inl y0))]) A) ([.ref r0, .int 80, .int 3, .int 0] : List Value).toArray s 0 0 A := ⟨_, rfl⟩
  rw [← hQ9]
  refine lv_iconst (v := 0) hx hb dX12_copyRow_0 (by decide) ?_
  refine lv_istore (lv' := [(4, .int 0), (0, .ref r0), (1, .int 80), (2, .int 3), (3, .int 0)]) hx hb dX12_copyRow_1 hl (by decide) rfl (fun ls hl => ?_)
  have key_3 : ∀ (nkey_3 : Nat) (u_1 : Int32) (f_2 : Nat → Int32) (H : Heap) (locs : List Loc) (ls : Array Slot), (0 ≤ u_1.toInt ∧ u_1.toInt ≤ 80) → (cpr 80 3 0 u_1.toInt.toNat f0 f_2) → va_P (dC, dI) vwCl [(r0, .inl (cyI, 400, .inl f_2))] H → va_D A [(r0, .inl (cyI, 400, .inl f_2))] → va_S A s.heap H locs → lv_has ls 5 [(4, .int u_1), (0, .ref r0), (1, .int 80), (2, .int 3), (3, .int 0)] → (80 - u_1.toInt).toNat < nkey_3 → W p l e ({ frames := 1, cells := 0, slots := 0, locals := 60 }) s m ([.ref r0, .int 80, .int 3, .int 0] : List Value).toArray below meth c H locs 0 0 Q9 (F0 m 3 ls []) := by
    intro nkey_3
    induction nkey_3 with
    | zero => intro u_1 f_2 H locs ls hu_1 hcp9 hP hD hS hl hnkey_3; exact absurd hnkey_3 (Nat.not_lt_zero _)
    | succ nkey_3 ihkey_3 =>
      intro u_1 f_2 H locs ls hu_1 hcp9 hP hD hS hl hnkey_3
      refine lv_iload hx hb dX12_copyRow_3 (lv_at hl 0 rfl) ?_
      refine lv_iload_n hx hb dX12_copyRow_5 rfl (lv_at hl 2 rfl) ?_
      refine lv_icmp_ge (tgt := 31) hx hb dX12_copyRow_6 (by decide) (fun c_4 => ?_) (fun c_4 => ?_)
      · have c_4 : 80 ≤ u_1.toInt := cv_le c_4
        rw [hQ9]
        have hP9 := hP.sub (ws' := [(r0, .inl (cyI, 400, .inl f_2))]) [0] rfl
        have hD9 := hD.sub (ws' := [(r0, .inl (cyI, 400, .inl f_2))]) [0] (by decide) rfl
        exact W.vret hx hb hr (fun t ht hW => ⟨⟨(), rfl, trivial, ⟨f_2, (cpr_end hcp9 (by omega)), by rw [ht]; exact hP9, hD9⟩⟩, hS.F ht⟩) hS.2.2 dX12_copyRow_31
      · have c_4 : u_1.toInt < 80 := cv_nle c_4
        refine lv_aload_n hx hb dX12_copyRow_9 rfl (lv_at hl 1 rfl) ?_
        refine lv_iload_n hx hb dX12_copyRow_10 rfl (lv_at hl 2 rfl) ?_
        refine lv_iload_n hx hb dX12_copyRow_11 rfl (lv_at hl 4 rfl) ?_
        refine lv_imul hx hb dX12_copyRow_12 ?_
        refine cv_topi (b := 0) (by decide) ?_
        refine lv_iload hx hb dX12_copyRow_13 (lv_at hl 0 rfl) ?_
        refine lv_iadd hx hb dX12_copyRow_15 ?_
        refine lv_topi (fun x_5 ex_5 => ?_)
        have fx_5 : x_5.toInt = 0 + u_1.toInt := by rw [ex_5]; exact cv_addI (by have : (0 : Int32).toInt = 0 := rfl; omega) (by have : (0 : Int32).toInt = 0 := rfl; omega)
        refine lv_aload_n hx hb dX12_copyRow_16 rfl (lv_at hl 1 rfl) ?_
        refine lv_iload_n hx hb dX12_copyRow_17 rfl (lv_at hl 2 rfl) ?_
        refine lv_iload_n hx hb dX12_copyRow_18 rfl (lv_at hl 3 rfl) ?_
        refine lv_imul hx hb dX12_copyRow_19 ?_
        refine cv_topi (b := 240) (by decide) ?_
        refine lv_iload hx hb dX12_copyRow_20 (lv_at hl 0 rfl) ?_
        refine lv_iadd hx hb dX12_copyRow_22 ?_
        refine lv_topi (fun x_6 ex_6 => ?_)
        have fx_6 : x_6.toInt = 240 + u_1.toInt := by rw [ex_6]; exact cv_addI (by have : (240 : Int32).toInt = 240 := rfl; omega) (by have : (240 : Int32).toInt = 240 := rfl; omega)
        refine va_iald hx hb hK hP 0 0 rfl rfl (vp_in_iff.mpr (by omega)) dX12_copyRow_23 ?_
        refine lv_topi (fun x_7 ex_7 => ?_)
        refine va_iast hx hb hK hP hD hS 0 0 rfl rfl (vp_in_iff.mpr (by omega)) dX12_copyRow_24 (fun H locs hP hD hS => ?_)
        obtain ⟨f_8, ef_8⟩ : ∃ z9 : Nat → Int32, z9 = upd f_2 x_5.toNatClampNeg x_7 := ⟨_, rfl⟩
        rw [← ef_8] at hP hD
        have hP : va_P (dC, dI) vwCl [(r0, .inl (cyI, 400, .inl f_8))] H := hP
        have hD : va_D A [(r0, .inl (cyI, 400, .inl f_8))] := hD
        obtain ⟨x_9, ex_9⟩ : ∃ y : Int32, y = u_1 + 1 := ⟨_, rfl⟩
        refine lv_iinc (v := x_9) (lv' := [(4, .int x_9), (0, .ref r0), (1, .int 80), (2, .int 3), (3, .int 0)]) hx hb dX12_copyRow_25 hl (k := 0) rfl (by rw [ex_9]; rfl) (by decide) rfl (fun ls hl => ?_)
        have fx_9 : x_9.toInt = u_1.toInt + 1 := by rw [ex_9]; exact cv_addI (by have : (1 : Int32).toInt = 1 := rfl; omega) (by have : (1 : Int32).toInt = 1 := rfl; omega)
        refine lv_goto (tgt := 3) hx hb dX12_copyRow_28 (by decide) ?_
        exact ihkey_3 x_9 f_8 _ _ _ (by omega) (cpr_step (n := 0) hcp9 (by assumption) (by assumption) (by omega) (by omega) (by omega) (by omega) (by decide) (by omega)) hP hD hS (lv_sub hl [0, 1, 2, 3, 4] rfl) (by omega)
  exact key_3 _ 0 f0 _ _ _ (by decide) cpr_zero hP hD hS (lv_sub hl [0, 1, 2, 3, 4] rfl) (Nat.lt_succ_self _)

/- X12_copyRow -/
set_option maxHeartbeats 4000000 in
set_option maxRecDepth 100000 in
theorem m_cp_apart_40 (l : Launch) (dC : Nat → ClassId) (dI : Nat → Nat → Nat) (cyI cyB cyJ cyZ cyH cyN : ClassId) (sz : Nat) (r0 : Nat) (f0 : Nat → Int32) (g0 : rg 0 127 35 f0) : Met l yX12_copyRow (wk yX12_copyRow cX12_copyRow 5 none) ({ frames := 1, cells := 0, slots := 0, locals := 60 }) (va_Pc [.ref r0, .int 7, .int 4, .int 0] (fun U => U.heap.size = sz ∧ va_P (dC, dI) vwCl [(r0, .inl (cyI, 35, .inl f0))] U.heap ∧ va_K (dC, dI) vwCl [(cyI, .int), (cyB, .byte), (cyJ, .long), (cyZ, .boolean), (cyH, .object RX2), (cyN, .array .long)] U ∧ va_D (fun _ => True) [(r0, .inl (cyI, 35, .inl f0))])) (va_Qv (fun _ : Unit => True) (fun (_ : Unit) (t : State) => ∃ y0 : Nat → Int32, (rg 0 127 35 y0) ∧ va_P (dC, dI) vwCl [(r0, .inl (cyI, 35, .inl y0))] t.heap ∧ va_D (va_A [(r0, .inl (cyI, 35, .inl f0))] sz) [(r0, .inl (cyI, 35, .inl y0))]) (va_A [(r0, .inl (cyI, 35, .inl f0))] sz)) 0 0 (va_A [(r0, .inl (cyI, 35, .inl f0))] sz) := by
  refine Met.ofW (cc := cX12_copyRow) (maxL := 5) (ret := none) (by decide) rfl ?_
  intro p e s m args below meth c s₁ B hml hv
  obtain ⟨rfl, hsz, hP, hK, hD0⟩ := hv
  have hx := B.exec
  have hb := B.bytes
  have hr := B.returns
  have hts : ∀ w ∈ uU, w.before ([.ref r0, .int 7, .int 4, .int 0] : List Value).toArray s = true := fun w h => atoms_spec (ws := wk yX12_copyRow cX12_copyRow 5 none) B.pre w (List.mem_cons_of_mem _ h)
  have hown : s.vm.findClass RX12 = some m.cls := findClass_of_methodNamed B.named
  have hlocks := B.notSynchronized
  subst hsz
  have hD := hD0.self (sz := s.heap.size)
  generalize hAe : va_A [(r0, .inl (cyI, 35, .inl f0))] s.heap.size = A at hD ⊢
  have hA : ∀ q : Nat, s.heap.size ≤ q → A q := fun q h => by rw [← hAe]; exact Or.inr h
  have hS : va_S A s.heap s.heap [] := va_S.rf
  have hP : va_P (dC, dI) vwCl [(r0, .inl (cyI, 35, .inl f0))] s.heap := hP
  have hl := lv_entry ([.ref r0, .int 7, .int 4, .int 0]) (n := 5) (Nat.le_of_ble_eq_true rfl)
  rw [lg_entry_eq]
  generalize (lg_sl ([.ref r0, .int 7, .int 4, .int 0]) ++ List.replicate (5 - (lg_sl ([.ref r0, .int 7, .int 4, .int 0])).length) Slot.unset).toArray = ls at hl ⊢
  have hl : lv_has ls 5 [(0, .ref r0), (1, .int 7), (2, .int 4), (3, .int 0)] := hl
  obtain ⟨H, hHe⟩ : ∃ H, H = s.heap := ⟨_, rfl⟩
  have hP : va_P (dC, dI) vwCl [(r0, .inl (cyI, 35, .inl f0))] H := by rw [hHe]; exact hP
  have hS : va_S A s.heap H [] := by rw [hHe]; exact hS
  refine cv_heap hHe ?_
  obtain ⟨Q9, hQ9⟩ : ∃ Q9 : State → Prop, Q9 = MQ below (va_Qv (fun _ : Unit => True) (fun (_ : Unit) (t : State) => ∃ y0 : Nat → Int32, (rg 0 127 35 y0) ∧ va_P (dC, dI) vwCl [(r0, .inl (cyI, 35, .inl y0))] t.heap ∧ va_D A [(r0, .inl (cyI, 35, .inl y0))]) A) ([.ref r0, .int 7, .int 4, .int 0] : List Value).toArray s 0 0 A := ⟨_, rfl⟩
  rw [← hQ9]
  refine lv_iconst (v := 0) hx hb dX12_copyRow_0 (by decide) ?_
  refine lv_istore (lv' := [(4, .int 0), (0, .ref r0), (1, .int 7), (2, .int 4), (3, .int 0)]) hx hb dX12_copyRow_1 hl (by decide) rfl (fun ls hl => ?_)
  have key_3 : ∀ (nkey_3 : Nat) (u_1 : Int32) (f_2 : Nat → Int32) (H : Heap) (locs : List Loc) (ls : Array Slot), (0 ≤ u_1.toInt ∧ u_1.toInt ≤ 7) → rg 0 127 35 f_2 → va_P (dC, dI) vwCl [(r0, .inl (cyI, 35, .inl f_2))] H → va_D A [(r0, .inl (cyI, 35, .inl f_2))] → va_S A s.heap H locs → lv_has ls 5 [(4, .int u_1), (0, .ref r0), (1, .int 7), (2, .int 4), (3, .int 0)] → (7 - u_1.toInt).toNat < nkey_3 → W p l e ({ frames := 1, cells := 0, slots := 0, locals := 60 }) s m ([.ref r0, .int 7, .int 4, .int 0] : List Value).toArray below meth c H locs 0 0 Q9 (F0 m 3 ls []) := by
    intro nkey_3
    induction nkey_3 with
    | zero => intro u_1 f_2 H locs ls hu_1 hf_2 hP hD hS hl hnkey_3; exact absurd hnkey_3 (Nat.not_lt_zero _)
    | succ nkey_3 ihkey_3 =>
      intro u_1 f_2 H locs ls hu_1 hf_2 hP hD hS hl hnkey_3
      refine lv_iload hx hb dX12_copyRow_3 (lv_at hl 0 rfl) ?_
      refine lv_iload_n hx hb dX12_copyRow_5 rfl (lv_at hl 2 rfl) ?_
      refine lv_icmp_ge (tgt := 31) hx hb dX12_copyRow_6 (by decide) (fun c_4 => ?_) (fun c_4 => ?_)
      · have c_4 : 7 ≤ u_1.toInt := cv_le c_4
        rw [hQ9]
        have hP9 := hP.sub (ws' := [(r0, .inl (cyI, 35, .inl f_2))]) [0] rfl
        have hD9 := hD.sub (ws' := [(r0, .inl (cyI, 35, .inl f_2))]) [0] (by decide) rfl
        exact W.vret hx hb hr (fun t ht hW => ⟨⟨(), rfl, trivial, ⟨f_2, hf_2, by rw [ht]; exact hP9, hD9⟩⟩, hS.F ht⟩) hS.2.2 dX12_copyRow_31
      · have c_4 : u_1.toInt < 7 := cv_nle c_4
        refine lv_aload_n hx hb dX12_copyRow_9 rfl (lv_at hl 1 rfl) ?_
        refine lv_iload_n hx hb dX12_copyRow_10 rfl (lv_at hl 2 rfl) ?_
        refine lv_iload_n hx hb dX12_copyRow_11 rfl (lv_at hl 4 rfl) ?_
        refine lv_imul hx hb dX12_copyRow_12 ?_
        refine cv_topi (b := 0) (by decide) ?_
        refine lv_iload hx hb dX12_copyRow_13 (lv_at hl 0 rfl) ?_
        refine lv_iadd hx hb dX12_copyRow_15 ?_
        refine lv_topi (fun x_5 ex_5 => ?_)
        have fx_5 : x_5.toInt = 0 + u_1.toInt := by rw [ex_5]; exact cv_addI (by have : (0 : Int32).toInt = 0 := rfl; omega) (by have : (0 : Int32).toInt = 0 := rfl; omega)
        refine lv_aload_n hx hb dX12_copyRow_16 rfl (lv_at hl 1 rfl) ?_
        refine lv_iload_n hx hb dX12_copyRow_17 rfl (lv_at hl 2 rfl) ?_
        refine lv_iload_n hx hb dX12_copyRow_18 rfl (lv_at hl 3 rfl) ?_
        refine lv_imul hx hb dX12_copyRow_19 ?_
        refine cv_topi (b := 28) (by decide) ?_
        refine lv_iload hx hb dX12_copyRow_20 (lv_at hl 0 rfl) ?_
        refine lv_iadd hx hb dX12_copyRow_22 ?_
        refine lv_topi (fun x_6 ex_6 => ?_)
        have fx_6 : x_6.toInt = 28 + u_1.toInt := by rw [ex_6]; exact cv_addI (by have : (28 : Int32).toInt = 28 := rfl; omega) (by have : (28 : Int32).toInt = 28 := rfl; omega)
        refine va_iald hx hb hK hP 0 0 rfl rfl (vp_in_iff.mpr (by omega)) dX12_copyRow_23 ?_
        refine lv_topi (fun x_7 ex_7 => ?_)
        have fx_7 : 0 ≤ x_7.toInt ∧ x_7.toInt ≤ 127 := by rw [ex_7]; exact hf_2 _ (cv_ix (by omega) (by omega))
        refine va_iast hx hb hK hP hD hS 0 0 rfl rfl (vp_in_iff.mpr (by omega)) dX12_copyRow_24 (fun H locs hP hD hS => ?_)
        obtain ⟨f_8, ef_8⟩ : ∃ z9 : Nat → Int32, z9 = upd f_2 x_5.toNatClampNeg x_7 := ⟨_, rfl⟩
        rw [← ef_8] at hP hD
        have hP : va_P (dC, dI) vwCl [(r0, .inl (cyI, 35, .inl f_8))] H := hP
        have hD : va_D A [(r0, .inl (cyI, 35, .inl f_8))] := hD
        have hf_8 : rg 0 127 35 f_8 := by rw [ef_8]; exact rg_upd (hf_2) ⟨by omega, by omega⟩
        obtain ⟨x_9, ex_9⟩ : ∃ y : Int32, y = u_1 + 1 := ⟨_, rfl⟩
        refine lv_iinc (v := x_9) (lv' := [(4, .int x_9), (0, .ref r0), (1, .int 7), (2, .int 4), (3, .int 0)]) hx hb dX12_copyRow_25 hl (k := 0) rfl (by rw [ex_9]; rfl) (by decide) rfl (fun ls hl => ?_)
        have fx_9 : x_9.toInt = u_1.toInt + 1 := by rw [ex_9]; exact cv_addI (by have : (1 : Int32).toInt = 1 := rfl; omega) (by have : (1 : Int32).toInt = 1 := rfl; omega)
        refine lv_goto (tgt := 3) hx hb dX12_copyRow_28 (by decide) ?_
        exact ihkey_3 x_9 f_8 _ _ _ (by omega) hf_8 hP hD hS (lv_sub hl [0, 1, 2, 3, 4] rfl) (by omega)
  exact key_3 _ 0 f0 _ _ _ (by decide) g0 hP hD hS (lv_sub hl [0, 1, 2, 3, 4] rfl) (Nat.lt_succ_self _)

/- X12_copyRow -/
set_option maxHeartbeats 4000000 in
set_option maxRecDepth 100000 in
theorem m_cp_apart_01 (l : Launch) (dC : Nat → ClassId) (dI : Nat → Nat → Nat) (cyI cyB cyJ cyZ cyH cyN : ClassId) (sz : Nat) (r0 : Nat) (f0 : Nat → Int32) (g0 : rg 0 127 35 f0) : Met l yX12_copyRow (wk yX12_copyRow cX12_copyRow 5 none) ({ frames := 1, cells := 0, slots := 0, locals := 60 }) (va_Pc [.ref r0, .int 7, .int 0, .int 1] (fun U => U.heap.size = sz ∧ va_P (dC, dI) vwCl [(r0, .inl (cyI, 35, .inl f0))] U.heap ∧ va_K (dC, dI) vwCl [(cyI, .int), (cyB, .byte), (cyJ, .long), (cyZ, .boolean), (cyH, .object RX2), (cyN, .array .long)] U ∧ va_D (fun _ => True) [(r0, .inl (cyI, 35, .inl f0))])) (va_Qv (fun _ : Unit => True) (fun (_ : Unit) (t : State) => ∃ y0 : Nat → Int32, (rg 0 127 35 y0) ∧ va_P (dC, dI) vwCl [(r0, .inl (cyI, 35, .inl y0))] t.heap ∧ va_D (va_A [(r0, .inl (cyI, 35, .inl f0))] sz) [(r0, .inl (cyI, 35, .inl y0))]) (va_A [(r0, .inl (cyI, 35, .inl f0))] sz)) 0 0 (va_A [(r0, .inl (cyI, 35, .inl f0))] sz) := by
  refine Met.ofW (cc := cX12_copyRow) (maxL := 5) (ret := none) (by decide) rfl ?_
  intro p e s m args below meth c s₁ B hml hv
  obtain ⟨rfl, hsz, hP, hK, hD0⟩ := hv
  have hx := B.exec
  have hb := B.bytes
  have hr := B.returns
  have hts : ∀ w ∈ uU, w.before ([.ref r0, .int 7, .int 0, .int 1] : List Value).toArray s = true := fun w h => atoms_spec (ws := wk yX12_copyRow cX12_copyRow 5 none) B.pre w (List.mem_cons_of_mem _ h)
  have hown : s.vm.findClass RX12 = some m.cls := findClass_of_methodNamed B.named
  have hlocks := B.notSynchronized
  subst hsz
  have hD := hD0.self (sz := s.heap.size)
  generalize hAe : va_A [(r0, .inl (cyI, 35, .inl f0))] s.heap.size = A at hD ⊢
  have hA : ∀ q : Nat, s.heap.size ≤ q → A q := fun q h => by rw [← hAe]; exact Or.inr h
  have hS : va_S A s.heap s.heap [] := va_S.rf
  have hP : va_P (dC, dI) vwCl [(r0, .inl (cyI, 35, .inl f0))] s.heap := hP
  have hl := lv_entry ([.ref r0, .int 7, .int 0, .int 1]) (n := 5) (Nat.le_of_ble_eq_true rfl)
  rw [lg_entry_eq]
  generalize (lg_sl ([.ref r0, .int 7, .int 0, .int 1]) ++ List.replicate (5 - (lg_sl ([.ref r0, .int 7, .int 0, .int 1])).length) Slot.unset).toArray = ls at hl ⊢
  have hl : lv_has ls 5 [(0, .ref r0), (1, .int 7), (2, .int 0), (3, .int 1)] := hl
  obtain ⟨H, hHe⟩ : ∃ H, H = s.heap := ⟨_, rfl⟩
  have hP : va_P (dC, dI) vwCl [(r0, .inl (cyI, 35, .inl f0))] H := by rw [hHe]; exact hP
  have hS : va_S A s.heap H [] := by rw [hHe]; exact hS
  refine cv_heap hHe ?_
  obtain ⟨Q9, hQ9⟩ : ∃ Q9 : State → Prop, Q9 = MQ below (va_Qv (fun _ : Unit => True) (fun (_ : Unit) (t : State) => ∃ y0 : Nat → Int32, (rg 0 127 35 y0) ∧ va_P (dC, dI) vwCl [(r0, .inl (cyI, 35, .inl y0))] t.heap ∧ va_D A [(r0, .inl (cyI, 35, .inl y0))]) A) ([.ref r0, .int 7, .int 0, .int 1] : List Value).toArray s 0 0 A := ⟨_, rfl⟩
  rw [← hQ9]
  refine lv_iconst (v := 0) hx hb dX12_copyRow_0 (by decide) ?_
  refine lv_istore (lv' := [(4, .int 0), (0, .ref r0), (1, .int 7), (2, .int 0), (3, .int 1)]) hx hb dX12_copyRow_1 hl (by decide) rfl (fun ls hl => ?_)
  have key_3 : ∀ (nkey_3 : Nat) (u_1 : Int32) (f_2 : Nat → Int32) (H : Heap) (locs : List Loc) (ls : Array Slot), (0 ≤ u_1.toInt ∧ u_1.toInt ≤ 7) → rg 0 127 35 f_2 → va_P (dC, dI) vwCl [(r0, .inl (cyI, 35, .inl f_2))] H → va_D A [(r0, .inl (cyI, 35, .inl f_2))] → va_S A s.heap H locs → lv_has ls 5 [(4, .int u_1), (0, .ref r0), (1, .int 7), (2, .int 0), (3, .int 1)] → (7 - u_1.toInt).toNat < nkey_3 → W p l e ({ frames := 1, cells := 0, slots := 0, locals := 60 }) s m ([.ref r0, .int 7, .int 0, .int 1] : List Value).toArray below meth c H locs 0 0 Q9 (F0 m 3 ls []) := by
    intro nkey_3
    induction nkey_3 with
    | zero => intro u_1 f_2 H locs ls hu_1 hf_2 hP hD hS hl hnkey_3; exact absurd hnkey_3 (Nat.not_lt_zero _)
    | succ nkey_3 ihkey_3 =>
      intro u_1 f_2 H locs ls hu_1 hf_2 hP hD hS hl hnkey_3
      refine lv_iload hx hb dX12_copyRow_3 (lv_at hl 0 rfl) ?_
      refine lv_iload_n hx hb dX12_copyRow_5 rfl (lv_at hl 2 rfl) ?_
      refine lv_icmp_ge (tgt := 31) hx hb dX12_copyRow_6 (by decide) (fun c_4 => ?_) (fun c_4 => ?_)
      · have c_4 : 7 ≤ u_1.toInt := cv_le c_4
        rw [hQ9]
        have hP9 := hP.sub (ws' := [(r0, .inl (cyI, 35, .inl f_2))]) [0] rfl
        have hD9 := hD.sub (ws' := [(r0, .inl (cyI, 35, .inl f_2))]) [0] (by decide) rfl
        exact W.vret hx hb hr (fun t ht hW => ⟨⟨(), rfl, trivial, ⟨f_2, hf_2, by rw [ht]; exact hP9, hD9⟩⟩, hS.F ht⟩) hS.2.2 dX12_copyRow_31
      · have c_4 : u_1.toInt < 7 := cv_nle c_4
        refine lv_aload_n hx hb dX12_copyRow_9 rfl (lv_at hl 1 rfl) ?_
        refine lv_iload_n hx hb dX12_copyRow_10 rfl (lv_at hl 2 rfl) ?_
        refine lv_iload_n hx hb dX12_copyRow_11 rfl (lv_at hl 4 rfl) ?_
        refine lv_imul hx hb dX12_copyRow_12 ?_
        refine cv_topi (b := 7) (by decide) ?_
        refine lv_iload hx hb dX12_copyRow_13 (lv_at hl 0 rfl) ?_
        refine lv_iadd hx hb dX12_copyRow_15 ?_
        refine lv_topi (fun x_5 ex_5 => ?_)
        have fx_5 : x_5.toInt = 7 + u_1.toInt := by rw [ex_5]; exact cv_addI (by have : (7 : Int32).toInt = 7 := rfl; omega) (by have : (7 : Int32).toInt = 7 := rfl; omega)
        refine lv_aload_n hx hb dX12_copyRow_16 rfl (lv_at hl 1 rfl) ?_
        refine lv_iload_n hx hb dX12_copyRow_17 rfl (lv_at hl 2 rfl) ?_
        refine lv_iload_n hx hb dX12_copyRow_18 rfl (lv_at hl 3 rfl) ?_
        refine lv_imul hx hb dX12_copyRow_19 ?_
        refine cv_topi (b := 0) (by decide) ?_
        refine lv_iload hx hb dX12_copyRow_20 (lv_at hl 0 rfl) ?_
        refine lv_iadd hx hb dX12_copyRow_22 ?_
        refine lv_topi (fun x_6 ex_6 => ?_)
        have fx_6 : x_6.toInt = 0 + u_1.toInt := by rw [ex_6]; exact cv_addI (by have : (0 : Int32).toInt = 0 := rfl; omega) (by have : (0 : Int32).toInt = 0 := rfl; omega)
        refine va_iald hx hb hK hP 0 0 rfl rfl (vp_in_iff.mpr (by omega)) dX12_copyRow_23 ?_
        refine lv_topi (fun x_7 ex_7 => ?_)
        have fx_7 : 0 ≤ x_7.toInt ∧ x_7.toInt ≤ 127 := by rw [ex_7]; exact hf_2 _ (cv_ix (by omega) (by omega))
        refine va_iast hx hb hK hP hD hS 0 0 rfl rfl (vp_in_iff.mpr (by omega)) dX12_copyRow_24 (fun H locs hP hD hS => ?_)
        obtain ⟨f_8, ef_8⟩ : ∃ z9 : Nat → Int32, z9 = upd f_2 x_5.toNatClampNeg x_7 := ⟨_, rfl⟩
        rw [← ef_8] at hP hD
        have hP : va_P (dC, dI) vwCl [(r0, .inl (cyI, 35, .inl f_8))] H := hP
        have hD : va_D A [(r0, .inl (cyI, 35, .inl f_8))] := hD
        have hf_8 : rg 0 127 35 f_8 := by rw [ef_8]; exact rg_upd (hf_2) ⟨by omega, by omega⟩
        obtain ⟨x_9, ex_9⟩ : ∃ y : Int32, y = u_1 + 1 := ⟨_, rfl⟩
        refine lv_iinc (v := x_9) (lv' := [(4, .int x_9), (0, .ref r0), (1, .int 7), (2, .int 0), (3, .int 1)]) hx hb dX12_copyRow_25 hl (k := 0) rfl (by rw [ex_9]; rfl) (by decide) rfl (fun ls hl => ?_)
        have fx_9 : x_9.toInt = u_1.toInt + 1 := by rw [ex_9]; exact cv_addI (by have : (1 : Int32).toInt = 1 := rfl; omega) (by have : (1 : Int32).toInt = 1 := rfl; omega)
        refine lv_goto (tgt := 3) hx hb dX12_copyRow_28 (by decide) ?_
        exact ihkey_3 x_9 f_8 _ _ _ (by omega) hf_8 hP hD hS (lv_sub hl [0, 1, 2, 3, 4] rfl) (by omega)
  exact key_3 _ 0 f0 _ _ _ (by decide) g0 hP hD hS (lv_sub hl [0, 1, 2, 3, 4] rfl) (Nat.lt_succ_self _)

/- X12_copyRow -/
set_option maxHeartbeats 4000000 in
set_option maxRecDepth 100000 in
theorem m_cp_apart_02 (l : Launch) (dC : Nat → ClassId) (dI : Nat → Nat → Nat) (cyI cyB cyJ cyZ cyH cyN : ClassId) (sz : Nat) (r0 : Nat) (f0 : Nat → Int32) (g0 : rg 0 127 35 f0) : Met l yX12_copyRow (wk yX12_copyRow cX12_copyRow 5 none) ({ frames := 1, cells := 0, slots := 0, locals := 60 }) (va_Pc [.ref r0, .int 7, .int 0, .int 2] (fun U => U.heap.size = sz ∧ va_P (dC, dI) vwCl [(r0, .inl (cyI, 35, .inl f0))] U.heap ∧ va_K (dC, dI) vwCl [(cyI, .int), (cyB, .byte), (cyJ, .long), (cyZ, .boolean), (cyH, .object RX2), (cyN, .array .long)] U ∧ va_D (fun _ => True) [(r0, .inl (cyI, 35, .inl f0))])) (va_Qv (fun _ : Unit => True) (fun (_ : Unit) (t : State) => ∃ y0 : Nat → Int32, (rg 0 127 35 y0) ∧ va_P (dC, dI) vwCl [(r0, .inl (cyI, 35, .inl y0))] t.heap ∧ va_D (va_A [(r0, .inl (cyI, 35, .inl f0))] sz) [(r0, .inl (cyI, 35, .inl y0))]) (va_A [(r0, .inl (cyI, 35, .inl f0))] sz)) 0 0 (va_A [(r0, .inl (cyI, 35, .inl f0))] sz) := by
  refine Met.ofW (cc := cX12_copyRow) (maxL := 5) (ret := none) (by decide) rfl ?_
  intro p e s m args below meth c s₁ B hml hv
  obtain ⟨rfl, hsz, hP, hK, hD0⟩ := hv
  have hx := B.exec
  have hb := B.bytes
  have hr := B.returns
  have hts : ∀ w ∈ uU, w.before ([.ref r0, .int 7, .int 0, .int 2] : List Value).toArray s = true := fun w h => atoms_spec (ws := wk yX12_copyRow cX12_copyRow 5 none) B.pre w (List.mem_cons_of_mem _ h)
  have hown : s.vm.findClass RX12 = some m.cls := findClass_of_methodNamed B.named
  have hlocks := B.notSynchronized
  subst hsz
  have hD := hD0.self (sz := s.heap.size)
  generalize hAe : va_A [(r0, .inl (cyI, 35, .inl f0))] s.heap.size = A at hD ⊢
  have hA : ∀ q : Nat, s.heap.size ≤ q → A q := fun q h => by rw [← hAe]; exact Or.inr h
  have hS : va_S A s.heap s.heap [] := va_S.rf
  have hP : va_P (dC, dI) vwCl [(r0, .inl (cyI, 35, .inl f0))] s.heap := hP
  have hl := lv_entry ([.ref r0, .int 7, .int 0, .int 2]) (n := 5) (Nat.le_of_ble_eq_true rfl)
  rw [lg_entry_eq]
  generalize (lg_sl ([.ref r0, .int 7, .int 0, .int 2]) ++ List.replicate (5 - (lg_sl ([.ref r0, .int 7, .int 0, .int 2])).length) Slot.unset).toArray = ls at hl ⊢
  have hl : lv_has ls 5 [(0, .ref r0), (1, .int 7), (2, .int 0), (3, .int 2)] := hl
  obtain ⟨H, hHe⟩ : ∃ H, H = s.heap := ⟨_, rfl⟩
  have hP : va_P (dC, dI) vwCl [(r0, .inl (cyI, 35, .inl f0))] H := by rw [hHe]; exact hP
  have hS : va_S A s.heap H [] := by rw [hHe]; exact hS
  refine cv_heap hHe ?_
  obtain ⟨Q9, hQ9⟩ : ∃ Q9 : State → Prop, Q9 = MQ below (va_Qv (fun _ : Unit => True) (fun (_ : Unit) (t : State) => ∃ y0 : Nat → Int32, (rg 0 127 35 y0) ∧ va_P (dC, dI) vwCl [(r0, .inl (cyI, 35, .inl y0))] t.heap ∧ va_D A [(r0, .inl (cyI, 35, .inl y0))]) A) ([.ref r0, .int 7, .int 0, .int 2] : List Value).toArray s 0 0 A := ⟨_, rfl⟩
  rw [← hQ9]
  refine lv_iconst (v := 0) hx hb dX12_copyRow_0 (by decide) ?_
  refine lv_istore (lv' := [(4, .int 0), (0, .ref r0), (1, .int 7), (2, .int 0), (3, .int 2)]) hx hb dX12_copyRow_1 hl (by decide) rfl (fun ls hl => ?_)
  have key_3 : ∀ (nkey_3 : Nat) (u_1 : Int32) (f_2 : Nat → Int32) (H : Heap) (locs : List Loc) (ls : Array Slot), (0 ≤ u_1.toInt ∧ u_1.toInt ≤ 7) → rg 0 127 35 f_2 → va_P (dC, dI) vwCl [(r0, .inl (cyI, 35, .inl f_2))] H → va_D A [(r0, .inl (cyI, 35, .inl f_2))] → va_S A s.heap H locs → lv_has ls 5 [(4, .int u_1), (0, .ref r0), (1, .int 7), (2, .int 0), (3, .int 2)] → (7 - u_1.toInt).toNat < nkey_3 → W p l e ({ frames := 1, cells := 0, slots := 0, locals := 60 }) s m ([.ref r0, .int 7, .int 0, .int 2] : List Value).toArray below meth c H locs 0 0 Q9 (F0 m 3 ls []) := by
    intro nkey_3
    induction nkey_3 with
    | zero => intro u_1 f_2 H locs ls hu_1 hf_2 hP hD hS hl hnkey_3; exact absurd hnkey_3 (Nat.not_lt_zero _)
    | succ nkey_3 ihkey_3 =>
      intro u_1 f_2 H locs ls hu_1 hf_2 hP hD hS hl hnkey_3
      refine lv_iload hx hb dX12_copyRow_3 (lv_at hl 0 rfl) ?_
      refine lv_iload_n hx hb dX12_copyRow_5 rfl (lv_at hl 2 rfl) ?_
      refine lv_icmp_ge (tgt := 31) hx hb dX12_copyRow_6 (by decide) (fun c_4 => ?_) (fun c_4 => ?_)
      · have c_4 : 7 ≤ u_1.toInt := cv_le c_4
        rw [hQ9]
        have hP9 := hP.sub (ws' := [(r0, .inl (cyI, 35, .inl f_2))]) [0] rfl
        have hD9 := hD.sub (ws' := [(r0, .inl (cyI, 35, .inl f_2))]) [0] (by decide) rfl
        exact W.vret hx hb hr (fun t ht hW => ⟨⟨(), rfl, trivial, ⟨f_2, hf_2, by rw [ht]; exact hP9, hD9⟩⟩, hS.F ht⟩) hS.2.2 dX12_copyRow_31
      · have c_4 : u_1.toInt < 7 := cv_nle c_4
        refine lv_aload_n hx hb dX12_copyRow_9 rfl (lv_at hl 1 rfl) ?_
        refine lv_iload_n hx hb dX12_copyRow_10 rfl (lv_at hl 2 rfl) ?_
        refine lv_iload_n hx hb dX12_copyRow_11 rfl (lv_at hl 4 rfl) ?_
        refine lv_imul hx hb dX12_copyRow_12 ?_
        refine cv_topi (b := 14) (by decide) ?_
        refine lv_iload hx hb dX12_copyRow_13 (lv_at hl 0 rfl) ?_
        refine lv_iadd hx hb dX12_copyRow_15 ?_
        refine lv_topi (fun x_5 ex_5 => ?_)
        have fx_5 : x_5.toInt = 14 + u_1.toInt := by rw [ex_5]; exact cv_addI (by have : (14 : Int32).toInt = 14 := rfl; omega) (by have : (14 : Int32).toInt = 14 := rfl; omega)
        refine lv_aload_n hx hb dX12_copyRow_16 rfl (lv_at hl 1 rfl) ?_
        refine lv_iload_n hx hb dX12_copyRow_17 rfl (lv_at hl 2 rfl) ?_
        refine lv_iload_n hx hb dX12_copyRow_18 rfl (lv_at hl 3 rfl) ?_
        refine lv_imul hx hb dX12_copyRow_19 ?_
        refine cv_topi (b := 0) (by decide) ?_
        refine lv_iload hx hb dX12_copyRow_20 (lv_at hl 0 rfl) ?_
        refine lv_iadd hx hb dX12_copyRow_22 ?_
        refine lv_topi (fun x_6 ex_6 => ?_)
        have fx_6 : x_6.toInt = 0 + u_1.toInt := by rw [ex_6]; exact cv_addI (by have : (0 : Int32).toInt = 0 := rfl; omega) (by have : (0 : Int32).toInt = 0 := rfl; omega)
        refine va_iald hx hb hK hP 0 0 rfl rfl (vp_in_iff.mpr (by omega)) dX12_copyRow_23 ?_
        refine lv_topi (fun x_7 ex_7 => ?_)
        have fx_7 : 0 ≤ x_7.toInt ∧ x_7.toInt ≤ 127 := by rw [ex_7]; exact hf_2 _ (cv_ix (by omega) (by omega))
        refine va_iast hx hb hK hP hD hS 0 0 rfl rfl (vp_in_iff.mpr (by omega)) dX12_copyRow_24 (fun H locs hP hD hS => ?_)
        obtain ⟨f_8, ef_8⟩ : ∃ z9 : Nat → Int32, z9 = upd f_2 x_5.toNatClampNeg x_7 := ⟨_, rfl⟩
        rw [← ef_8] at hP hD
        have hP : va_P (dC, dI) vwCl [(r0, .inl (cyI, 35, .inl f_8))] H := hP
        have hD : va_D A [(r0, .inl (cyI, 35, .inl f_8))] := hD
        have hf_8 : rg 0 127 35 f_8 := by rw [ef_8]; exact rg_upd (hf_2) ⟨by omega, by omega⟩
        obtain ⟨x_9, ex_9⟩ : ∃ y : Int32, y = u_1 + 1 := ⟨_, rfl⟩
        refine lv_iinc (v := x_9) (lv' := [(4, .int x_9), (0, .ref r0), (1, .int 7), (2, .int 0), (3, .int 2)]) hx hb dX12_copyRow_25 hl (k := 0) rfl (by rw [ex_9]; rfl) (by decide) rfl (fun ls hl => ?_)
        have fx_9 : x_9.toInt = u_1.toInt + 1 := by rw [ex_9]; exact cv_addI (by have : (1 : Int32).toInt = 1 := rfl; omega) (by have : (1 : Int32).toInt = 1 := rfl; omega)
        refine lv_goto (tgt := 3) hx hb dX12_copyRow_28 (by decide) ?_
        exact ihkey_3 x_9 f_8 _ _ _ (by omega) hf_8 hP hD hS (lv_sub hl [0, 1, 2, 3, 4] rfl) (by omega)
  exact key_3 _ 0 f0 _ _ _ (by decide) g0 hP hD hS (lv_sub hl [0, 1, 2, 3, 4] rfl) (Nat.lt_succ_self _)

/- X12_copyRow -/
set_option maxHeartbeats 4000000 in
set_option maxRecDepth 100000 in
theorem m_cp_apart_03 (l : Launch) (dC : Nat → ClassId) (dI : Nat → Nat → Nat) (cyI cyB cyJ cyZ cyH cyN : ClassId) (sz : Nat) (r0 : Nat) (f0 : Nat → Int32) (g0 : rg 0 127 35 f0) : Met l yX12_copyRow (wk yX12_copyRow cX12_copyRow 5 none) ({ frames := 1, cells := 0, slots := 0, locals := 60 }) (va_Pc [.ref r0, .int 7, .int 0, .int 3] (fun U => U.heap.size = sz ∧ va_P (dC, dI) vwCl [(r0, .inl (cyI, 35, .inl f0))] U.heap ∧ va_K (dC, dI) vwCl [(cyI, .int), (cyB, .byte), (cyJ, .long), (cyZ, .boolean), (cyH, .object RX2), (cyN, .array .long)] U ∧ va_D (fun _ => True) [(r0, .inl (cyI, 35, .inl f0))])) (va_Qv (fun _ : Unit => True) (fun (_ : Unit) (t : State) => ∃ y0 : Nat → Int32, (rg 0 127 35 y0) ∧ va_P (dC, dI) vwCl [(r0, .inl (cyI, 35, .inl y0))] t.heap ∧ va_D (va_A [(r0, .inl (cyI, 35, .inl f0))] sz) [(r0, .inl (cyI, 35, .inl y0))]) (va_A [(r0, .inl (cyI, 35, .inl f0))] sz)) 0 0 (va_A [(r0, .inl (cyI, 35, .inl f0))] sz) := by
  refine Met.ofW (cc := cX12_copyRow) (maxL := 5) (ret := none) (by decide) rfl ?_
  intro p e s m args below meth c s₁ B hml hv
  obtain ⟨rfl, hsz, hP, hK, hD0⟩ := hv
  have hx := B.exec
  have hb := B.bytes
  have hr := B.returns
  have hts : ∀ w ∈ uU, w.before ([.ref r0, .int 7, .int 0, .int 3] : List Value).toArray s = true := fun w h => atoms_spec (ws := wk yX12_copyRow cX12_copyRow 5 none) B.pre w (List.mem_cons_of_mem _ h)
  have hown : s.vm.findClass RX12 = some m.cls := findClass_of_methodNamed B.named
  have hlocks := B.notSynchronized
  subst hsz
  have hD := hD0.self (sz := s.heap.size)
  generalize hAe : va_A [(r0, .inl (cyI, 35, .inl f0))] s.heap.size = A at hD ⊢
  have hA : ∀ q : Nat, s.heap.size ≤ q → A q := fun q h => by rw [← hAe]; exact Or.inr h
  have hS : va_S A s.heap s.heap [] := va_S.rf
  have hP : va_P (dC, dI) vwCl [(r0, .inl (cyI, 35, .inl f0))] s.heap := hP
  have hl := lv_entry ([.ref r0, .int 7, .int 0, .int 3]) (n := 5) (Nat.le_of_ble_eq_true rfl)
  rw [lg_entry_eq]
  generalize (lg_sl ([.ref r0, .int 7, .int 0, .int 3]) ++ List.replicate (5 - (lg_sl ([.ref r0, .int 7, .int 0, .int 3])).length) Slot.unset).toArray = ls at hl ⊢
  have hl : lv_has ls 5 [(0, .ref r0), (1, .int 7), (2, .int 0), (3, .int 3)] := hl
  obtain ⟨H, hHe⟩ : ∃ H, H = s.heap := ⟨_, rfl⟩
  have hP : va_P (dC, dI) vwCl [(r0, .inl (cyI, 35, .inl f0))] H := by rw [hHe]; exact hP
  have hS : va_S A s.heap H [] := by rw [hHe]; exact hS
  refine cv_heap hHe ?_
  obtain ⟨Q9, hQ9⟩ : ∃ Q9 : State → Prop, Q9 = MQ below (va_Qv (fun _ : Unit => True) (fun (_ : Unit) (t : State) => ∃ y0 : Nat → Int32, (rg 0 127 35 y0) ∧ va_P (dC, dI) vwCl [(r0, .inl (cyI, 35, .inl y0))] t.heap ∧ va_D A [(r0, .inl (cyI, 35, .inl y0))]) A) ([.ref r0, .int 7, .int 0, .int 3] : List Value).toArray s 0 0 A := ⟨_, rfl⟩
  rw [← hQ9]
  refine lv_iconst (v := 0) hx hb dX12_copyRow_0 (by decide) ?_
  refine lv_istore (lv' := [(4, .int 0), (0, .ref r0), (1, .int 7), (2, .int 0), (3, .int 3)]) hx hb dX12_copyRow_1 hl (by decide) rfl (fun ls hl => ?_)
  have key_3 : ∀ (nkey_3 : Nat) (u_1 : Int32) (f_2 : Nat → Int32) (H : Heap) (locs : List Loc) (ls : Array Slot), (0 ≤ u_1.toInt ∧ u_1.toInt ≤ 7) → rg 0 127 35 f_2 → va_P (dC, dI) vwCl [(r0, .inl (cyI, 35, .inl f_2))] H → va_D A [(r0, .inl (cyI, 35, .inl f_2))] → va_S A s.heap H locs → lv_has ls 5 [(4, .int u_1), (0, .ref r0), (1, .int 7), (2, .int 0), (3, .int 3)] → (7 - u_1.toInt).toNat < nkey_3 → W p l e ({ frames := 1, cells := 0, slots := 0, locals := 60 }) s m ([.ref r0, .int 7, .int 0, .int 3] : List Value).toArray below meth c H locs 0 0 Q9 (F0 m 3 ls []) := by
    intro nkey_3
    induction nkey_3 with
    | zero => intro u_1 f_2 H locs ls hu_1 hf_2 hP hD hS hl hnkey_3; exact absurd hnkey_3 (Nat.not_lt_zero _)
    | succ nkey_3 ihkey_3 =>
      intro u_1 f_2 H locs ls hu_1 hf_2 hP hD hS hl hnkey_3
      refine lv_iload hx hb dX12_copyRow_3 (lv_at hl 0 rfl) ?_
      refine lv_iload_n hx hb dX12_copyRow_5 rfl (lv_at hl 2 rfl) ?_
      refine lv_icmp_ge (tgt := 31) hx hb dX12_copyRow_6 (by decide) (fun c_4 => ?_) (fun c_4 => ?_)
      · have c_4 : 7 ≤ u_1.toInt := cv_le c_4
        rw [hQ9]
        have hP9 := hP.sub (ws' := [(r0, .inl (cyI, 35, .inl f_2))]) [0] rfl
        have hD9 := hD.sub (ws' := [(r0, .inl (cyI, 35, .inl f_2))]) [0] (by decide) rfl
        exact W.vret hx hb hr (fun t ht hW => ⟨⟨(), rfl, trivial, ⟨f_2, hf_2, by rw [ht]; exact hP9, hD9⟩⟩, hS.F ht⟩) hS.2.2 dX12_copyRow_31
      · have c_4 : u_1.toInt < 7 := cv_nle c_4
        refine lv_aload_n hx hb dX12_copyRow_9 rfl (lv_at hl 1 rfl) ?_
        refine lv_iload_n hx hb dX12_copyRow_10 rfl (lv_at hl 2 rfl) ?_
        refine lv_iload_n hx hb dX12_copyRow_11 rfl (lv_at hl 4 rfl) ?_
        refine lv_imul hx hb dX12_copyRow_12 ?_
        refine cv_topi (b := 21) (by decide) ?_
        refine lv_iload hx hb dX12_copyRow_13 (lv_at hl 0 rfl) ?_
        refine lv_iadd hx hb dX12_copyRow_15 ?_
        refine lv_topi (fun x_5 ex_5 => ?_)
        have fx_5 : x_5.toInt = 21 + u_1.toInt := by rw [ex_5]; exact cv_addI (by have : (21 : Int32).toInt = 21 := rfl; omega) (by have : (21 : Int32).toInt = 21 := rfl; omega)
        refine lv_aload_n hx hb dX12_copyRow_16 rfl (lv_at hl 1 rfl) ?_
        refine lv_iload_n hx hb dX12_copyRow_17 rfl (lv_at hl 2 rfl) ?_
        refine lv_iload_n hx hb dX12_copyRow_18 rfl (lv_at hl 3 rfl) ?_
        refine lv_imul hx hb dX12_copyRow_19 ?_
        refine cv_topi (b := 0) (by decide) ?_
        refine lv_iload hx hb dX12_copyRow_20 (lv_at hl 0 rfl) ?_
        refine lv_iadd hx hb dX12_copyRow_22 ?_
        refine lv_topi (fun x_6 ex_6 => ?_)
        have fx_6 : x_6.toInt = 0 + u_1.toInt := by rw [ex_6]; exact cv_addI (by have : (0 : Int32).toInt = 0 := rfl; omega) (by have : (0 : Int32).toInt = 0 := rfl; omega)
        refine va_iald hx hb hK hP 0 0 rfl rfl (vp_in_iff.mpr (by omega)) dX12_copyRow_23 ?_
        refine lv_topi (fun x_7 ex_7 => ?_)
        have fx_7 : 0 ≤ x_7.toInt ∧ x_7.toInt ≤ 127 := by rw [ex_7]; exact hf_2 _ (cv_ix (by omega) (by omega))
        refine va_iast hx hb hK hP hD hS 0 0 rfl rfl (vp_in_iff.mpr (by omega)) dX12_copyRow_24 (fun H locs hP hD hS => ?_)
        obtain ⟨f_8, ef_8⟩ : ∃ z9 : Nat → Int32, z9 = upd f_2 x_5.toNatClampNeg x_7 := ⟨_, rfl⟩
        rw [← ef_8] at hP hD
        have hP : va_P (dC, dI) vwCl [(r0, .inl (cyI, 35, .inl f_8))] H := hP
        have hD : va_D A [(r0, .inl (cyI, 35, .inl f_8))] := hD
        have hf_8 : rg 0 127 35 f_8 := by rw [ef_8]; exact rg_upd (hf_2) ⟨by omega, by omega⟩
        obtain ⟨x_9, ex_9⟩ : ∃ y : Int32, y = u_1 + 1 := ⟨_, rfl⟩
        refine lv_iinc (v := x_9) (lv' := [(4, .int x_9), (0, .ref r0), (1, .int 7), (2, .int 0), (3, .int 3)]) hx hb dX12_copyRow_25 hl (k := 0) rfl (by rw [ex_9]; rfl) (by decide) rfl (fun ls hl => ?_)
        have fx_9 : x_9.toInt = u_1.toInt + 1 := by rw [ex_9]; exact cv_addI (by have : (1 : Int32).toInt = 1 := rfl; omega) (by have : (1 : Int32).toInt = 1 := rfl; omega)
        refine lv_goto (tgt := 3) hx hb dX12_copyRow_28 (by decide) ?_
        exact ihkey_3 x_9 f_8 _ _ _ (by omega) hf_8 hP hD hS (lv_sub hl [0, 1, 2, 3, 4] rfl) (by omega)
  exact key_3 _ 0 f0 _ _ _ (by decide) g0 hP hD hS (lv_sub hl [0, 1, 2, 3, 4] rfl) (Nat.lt_succ_self _)

/- X12_copyRow -/
set_option maxHeartbeats 4000000 in
set_option maxRecDepth 100000 in
theorem m_cp_apart_10 (l : Launch) (dC : Nat → ClassId) (dI : Nat → Nat → Nat) (cyI cyB cyJ cyZ cyH cyN : ClassId) (sz : Nat) (r0 : Nat) (f0 : Nat → Int32) (g0 : rg 0 127 35 f0) : Met l yX12_copyRow (wk yX12_copyRow cX12_copyRow 5 none) ({ frames := 1, cells := 0, slots := 0, locals := 60 }) (va_Pc [.ref r0, .int 7, .int 1, .int 0] (fun U => U.heap.size = sz ∧ va_P (dC, dI) vwCl [(r0, .inl (cyI, 35, .inl f0))] U.heap ∧ va_K (dC, dI) vwCl [(cyI, .int), (cyB, .byte), (cyJ, .long), (cyZ, .boolean), (cyH, .object RX2), (cyN, .array .long)] U ∧ va_D (fun _ => True) [(r0, .inl (cyI, 35, .inl f0))])) (va_Qv (fun _ : Unit => True) (fun (_ : Unit) (t : State) => ∃ y0 : Nat → Int32, (rg 0 127 35 y0) ∧ va_P (dC, dI) vwCl [(r0, .inl (cyI, 35, .inl y0))] t.heap ∧ va_D (va_A [(r0, .inl (cyI, 35, .inl f0))] sz) [(r0, .inl (cyI, 35, .inl y0))]) (va_A [(r0, .inl (cyI, 35, .inl f0))] sz)) 0 0 (va_A [(r0, .inl (cyI, 35, .inl f0))] sz) := by
  refine Met.ofW (cc := cX12_copyRow) (maxL := 5) (ret := none) (by decide) rfl ?_
  intro p e s m args below meth c s₁ B hml hv
  obtain ⟨rfl, hsz, hP, hK, hD0⟩ := hv
  have hx := B.exec
  have hb := B.bytes
  have hr := B.returns
  have hts : ∀ w ∈ uU, w.before ([.ref r0, .int 7, .int 1, .int 0] : List Value).toArray s = true := fun w h => atoms_spec (ws := wk yX12_copyRow cX12_copyRow 5 none) B.pre w (List.mem_cons_of_mem _ h)
  have hown : s.vm.findClass RX12 = some m.cls := findClass_of_methodNamed B.named
  have hlocks := B.notSynchronized
  subst hsz
  have hD := hD0.self (sz := s.heap.size)
  generalize hAe : va_A [(r0, .inl (cyI, 35, .inl f0))] s.heap.size = A at hD ⊢
  have hA : ∀ q : Nat, s.heap.size ≤ q → A q := fun q h => by rw [← hAe]; exact Or.inr h
  have hS : va_S A s.heap s.heap [] := va_S.rf
  have hP : va_P (dC, dI) vwCl [(r0, .inl (cyI, 35, .inl f0))] s.heap := hP
  have hl := lv_entry ([.ref r0, .int 7, .int 1, .int 0]) (n := 5) (Nat.le_of_ble_eq_true rfl)
  rw [lg_entry_eq]
  generalize (lg_sl ([.ref r0, .int 7, .int 1, .int 0]) ++ List.replicate (5 - (lg_sl ([.ref r0, .int 7, .int 1, .int 0])).length) Slot.unset).toArray = ls at hl ⊢
  have hl : lv_has ls 5 [(0, .ref r0), (1, .int 7), (2, .int 1), (3, .int 0)] := hl
  obtain ⟨H, hHe⟩ : ∃ H, H = s.heap := ⟨_, rfl⟩
  have hP : va_P (dC, dI) vwCl [(r0, .inl (cyI, 35, .inl f0))] H := by rw [hHe]; exact hP
  have hS : va_S A s.heap H [] := by rw [hHe]; exact hS
  refine cv_heap hHe ?_
  obtain ⟨Q9, hQ9⟩ : ∃ Q9 : State → Prop, Q9 = MQ below (va_Qv (fun _ : Unit => True) (fun (_ : Unit) (t : State) => ∃ y0 : Nat → Int32, (rg 0 127 35 y0) ∧ va_P (dC, dI) vwCl [(r0, .inl (cyI, 35, .inl y0))] t.heap ∧ va_D A [(r0, .inl (cyI, 35, .inl y0))]) A) ([.ref r0, .int 7, .int 1, .int 0] : List Value).toArray s 0 0 A := ⟨_, rfl⟩
  rw [← hQ9]
  refine lv_iconst (v := 0) hx hb dX12_copyRow_0 (by decide) ?_
  refine lv_istore (lv' := [(4, .int 0), (0, .ref r0), (1, .int 7), (2, .int 1), (3, .int 0)]) hx hb dX12_copyRow_1 hl (by decide) rfl (fun ls hl => ?_)
  have key_3 : ∀ (nkey_3 : Nat) (u_1 : Int32) (f_2 : Nat → Int32) (H : Heap) (locs : List Loc) (ls : Array Slot), (0 ≤ u_1.toInt ∧ u_1.toInt ≤ 7) → rg 0 127 35 f_2 → va_P (dC, dI) vwCl [(r0, .inl (cyI, 35, .inl f_2))] H → va_D A [(r0, .inl (cyI, 35, .inl f_2))] → va_S A s.heap H locs → lv_has ls 5 [(4, .int u_1), (0, .ref r0), (1, .int 7), (2, .int 1), (3, .int 0)] → (7 - u_1.toInt).toNat < nkey_3 → W p l e ({ frames := 1, cells := 0, slots := 0, locals := 60 }) s m ([.ref r0, .int 7, .int 1, .int 0] : List Value).toArray below meth c H locs 0 0 Q9 (F0 m 3 ls []) := by
    intro nkey_3
    induction nkey_3 with
    | zero => intro u_1 f_2 H locs ls hu_1 hf_2 hP hD hS hl hnkey_3; exact absurd hnkey_3 (Nat.not_lt_zero _)
    | succ nkey_3 ihkey_3 =>
      intro u_1 f_2 H locs ls hu_1 hf_2 hP hD hS hl hnkey_3
      refine lv_iload hx hb dX12_copyRow_3 (lv_at hl 0 rfl) ?_
      refine lv_iload_n hx hb dX12_copyRow_5 rfl (lv_at hl 2 rfl) ?_
      refine lv_icmp_ge (tgt := 31) hx hb dX12_copyRow_6 (by decide) (fun c_4 => ?_) (fun c_4 => ?_)
      · have c_4 : 7 ≤ u_1.toInt := cv_le c_4
        rw [hQ9]
        have hP9 := hP.sub (ws' := [(r0, .inl (cyI, 35, .inl f_2))]) [0] rfl
        have hD9 := hD.sub (ws' := [(r0, .inl (cyI, 35, .inl f_2))]) [0] (by decide) rfl
        exact W.vret hx hb hr (fun t ht hW => ⟨⟨(), rfl, trivial, ⟨f_2, hf_2, by rw [ht]; exact hP9, hD9⟩⟩, hS.F ht⟩) hS.2.2 dX12_copyRow_31
      · have c_4 : u_1.toInt < 7 := cv_nle c_4
        refine lv_aload_n hx hb dX12_copyRow_9 rfl (lv_at hl 1 rfl) ?_
        refine lv_iload_n hx hb dX12_copyRow_10 rfl (lv_at hl 2 rfl) ?_
        refine lv_iload_n hx hb dX12_copyRow_11 rfl (lv_at hl 4 rfl) ?_
        refine lv_imul hx hb dX12_copyRow_12 ?_
        refine cv_topi (b := 0) (by decide) ?_
        refine lv_iload hx hb dX12_copyRow_13 (lv_at hl 0 rfl) ?_
        refine lv_iadd hx hb dX12_copyRow_15 ?_
        refine lv_topi (fun x_5 ex_5 => ?_)
        have fx_5 : x_5.toInt = 0 + u_1.toInt := by rw [ex_5]; exact cv_addI (by have : (0 : Int32).toInt = 0 := rfl; omega) (by have : (0 : Int32).toInt = 0 := rfl; omega)
        refine lv_aload_n hx hb dX12_copyRow_16 rfl (lv_at hl 1 rfl) ?_
        refine lv_iload_n hx hb dX12_copyRow_17 rfl (lv_at hl 2 rfl) ?_
        refine lv_iload_n hx hb dX12_copyRow_18 rfl (lv_at hl 3 rfl) ?_
        refine lv_imul hx hb dX12_copyRow_19 ?_
        refine cv_topi (b := 7) (by decide) ?_
        refine lv_iload hx hb dX12_copyRow_20 (lv_at hl 0 rfl) ?_
        refine lv_iadd hx hb dX12_copyRow_22 ?_
        refine lv_topi (fun x_6 ex_6 => ?_)
        have fx_6 : x_6.toInt = 7 + u_1.toInt := by rw [ex_6]; exact cv_addI (by have : (7 : Int32).toInt = 7 := rfl; omega) (by have : (7 : Int32).toInt = 7 := rfl; omega)
        refine va_iald hx hb hK hP 0 0 rfl rfl (vp_in_iff.mpr (by omega)) dX12_copyRow_23 ?_
        refine lv_topi (fun x_7 ex_7 => ?_)
        have fx_7 : 0 ≤ x_7.toInt ∧ x_7.toInt ≤ 127 := by rw [ex_7]; exact hf_2 _ (cv_ix (by omega) (by omega))
        refine va_iast hx hb hK hP hD hS 0 0 rfl rfl (vp_in_iff.mpr (by omega)) dX12_copyRow_24 (fun H locs hP hD hS => ?_)
        obtain ⟨f_8, ef_8⟩ : ∃ z9 : Nat → Int32, z9 = upd f_2 x_5.toNatClampNeg x_7 := ⟨_, rfl⟩
        rw [← ef_8] at hP hD
        have hP : va_P (dC, dI) vwCl [(r0, .inl (cyI, 35, .inl f_8))] H := hP
        have hD : va_D A [(r0, .inl (cyI, 35, .inl f_8))] := hD
        have hf_8 : rg 0 127 35 f_8 := by rw [ef_8]; exact rg_upd (hf_2) ⟨by omega, by omega⟩
        obtain ⟨x_9, ex_9⟩ : ∃ y : Int32, y = u_1 + 1 := ⟨_, rfl⟩
        refine lv_iinc (v := x_9) (lv' := [(4, .int x_9), (0, .ref r0), (1, .int 7), (2, .int 1), (3, .int 0)]) hx hb dX12_copyRow_25 hl (k := 0) rfl (by rw [ex_9]; rfl) (by decide) rfl (fun ls hl => ?_)
        have fx_9 : x_9.toInt = u_1.toInt + 1 := by rw [ex_9]; exact cv_addI (by have : (1 : Int32).toInt = 1 := rfl; omega) (by have : (1 : Int32).toInt = 1 := rfl; omega)
        refine lv_goto (tgt := 3) hx hb dX12_copyRow_28 (by decide) ?_
        exact ihkey_3 x_9 f_8 _ _ _ (by omega) hf_8 hP hD hS (lv_sub hl [0, 1, 2, 3, 4] rfl) (by omega)
  exact key_3 _ 0 f0 _ _ _ (by decide) g0 hP hD hS (lv_sub hl [0, 1, 2, 3, 4] rfl) (Nat.lt_succ_self _)

/- X12_copyRow -/
set_option maxHeartbeats 4000000 in
set_option maxRecDepth 100000 in
theorem m_cp_apart_20 (l : Launch) (dC : Nat → ClassId) (dI : Nat → Nat → Nat) (cyI cyB cyJ cyZ cyH cyN : ClassId) (sz : Nat) (r0 : Nat) (f0 : Nat → Int32) (g0 : rg 0 127 35 f0) : Met l yX12_copyRow (wk yX12_copyRow cX12_copyRow 5 none) ({ frames := 1, cells := 0, slots := 0, locals := 60 }) (va_Pc [.ref r0, .int 7, .int 2, .int 0] (fun U => U.heap.size = sz ∧ va_P (dC, dI) vwCl [(r0, .inl (cyI, 35, .inl f0))] U.heap ∧ va_K (dC, dI) vwCl [(cyI, .int), (cyB, .byte), (cyJ, .long), (cyZ, .boolean), (cyH, .object RX2), (cyN, .array .long)] U ∧ va_D (fun _ => True) [(r0, .inl (cyI, 35, .inl f0))])) (va_Qv (fun _ : Unit => True) (fun (_ : Unit) (t : State) => ∃ y0 : Nat → Int32, (rg 0 127 35 y0) ∧ va_P (dC, dI) vwCl [(r0, .inl (cyI, 35, .inl y0))] t.heap ∧ va_D (va_A [(r0, .inl (cyI, 35, .inl f0))] sz) [(r0, .inl (cyI, 35, .inl y0))]) (va_A [(r0, .inl (cyI, 35, .inl f0))] sz)) 0 0 (va_A [(r0, .inl (cyI, 35, .inl f0))] sz) := by
  refine Met.ofW (cc := cX12_copyRow) (maxL := 5) (ret := none) (by decide) rfl ?_
  intro p e s m args below meth c s₁ B hml hv
  obtain ⟨rfl, hsz, hP, hK, hD0⟩ := hv
  have hx := B.exec
  have hb := B.bytes
  have hr := B.returns
  have hts : ∀ w ∈ uU, w.before ([.ref r0, .int 7, .int 2, .int 0] : List Value).toArray s = true := fun w h => atoms_spec (ws := wk yX12_copyRow cX12_copyRow 5 none) B.pre w (List.mem_cons_of_mem _ h)
  have hown : s.vm.findClass RX12 = some m.cls := findClass_of_methodNamed B.named
  have hlocks := B.notSynchronized
  subst hsz
  have hD := hD0.self (sz := s.heap.size)
  generalize hAe : va_A [(r0, .inl (cyI, 35, .inl f0))] s.heap.size = A at hD ⊢
  have hA : ∀ q : Nat, s.heap.size ≤ q → A q := fun q h => by rw [← hAe]; exact Or.inr h
  have hS : va_S A s.heap s.heap [] := va_S.rf
  have hP : va_P (dC, dI) vwCl [(r0, .inl (cyI, 35, .inl f0))] s.heap := hP
  have hl := lv_entry ([.ref r0, .int 7, .int 2, .int 0]) (n := 5) (Nat.le_of_ble_eq_true rfl)
  rw [lg_entry_eq]
  generalize (lg_sl ([.ref r0, .int 7, .int 2, .int 0]) ++ List.replicate (5 - (lg_sl ([.ref r0, .int 7, .int 2, .int 0])).length) Slot.unset).toArray = ls at hl ⊢
  have hl : lv_has ls 5 [(0, .ref r0), (1, .int 7), (2, .int 2), (3, .int 0)] := hl
  obtain ⟨H, hHe⟩ : ∃ H, H = s.heap := ⟨_, rfl⟩
  have hP : va_P (dC, dI) vwCl [(r0, .inl (cyI, 35, .inl f0))] H := by rw [hHe]; exact hP
  have hS : va_S A s.heap H [] := by rw [hHe]; exact hS
  refine cv_heap hHe ?_
  obtain ⟨Q9, hQ9⟩ : ∃ Q9 : State → Prop, Q9 = MQ below (va_Qv (fun _ : Unit => True) (fun (_ : Unit) (t : State) => ∃ y0 : Nat → Int32, (rg 0 127 35 y0) ∧ va_P (dC, dI) vwCl [(r0, .inl (cyI, 35, .inl y0))] t.heap ∧ va_D A [(r0, .inl (cyI, 35, .inl y0))]) A) ([.ref r0, .int 7, .int 2, .int 0] : List Value).toArray s 0 0 A := ⟨_, rfl⟩
  rw [← hQ9]
  refine lv_iconst (v := 0) hx hb dX12_copyRow_0 (by decide) ?_
  refine lv_istore (lv' := [(4, .int 0), (0, .ref r0), (1, .int 7), (2, .int 2), (3, .int 0)]) hx hb dX12_copyRow_1 hl (by decide) rfl (fun ls hl => ?_)
  have key_3 : ∀ (nkey_3 : Nat) (u_1 : Int32) (f_2 : Nat → Int32) (H : Heap) (locs : List Loc) (ls : Array Slot), (0 ≤ u_1.toInt ∧ u_1.toInt ≤ 7) → rg 0 127 35 f_2 → va_P (dC, dI) vwCl [(r0, .inl (cyI, 35, .inl f_2))] H → va_D A [(r0, .inl (cyI, 35, .inl f_2))] → va_S A s.heap H locs → lv_has ls 5 [(4, .int u_1), (0, .ref r0), (1, .int 7), (2, .int 2), (3, .int 0)] → (7 - u_1.toInt).toNat < nkey_3 → W p l e ({ frames := 1, cells := 0, slots := 0, locals := 60 }) s m ([.ref r0, .int 7, .int 2, .int 0] : List Value).toArray below meth c H locs 0 0 Q9 (F0 m 3 ls []) := by
    intro nkey_3
    induction nkey_3 with
    | zero => intro u_1 f_2 H locs ls hu_1 hf_2 hP hD hS hl hnkey_3; exact absurd hnkey_3 (Nat.not_lt_zero _)
    | succ nkey_3 ihkey_3 =>
      intro u_1 f_2 H locs ls hu_1 hf_2 hP hD hS hl hnkey_3
      refine lv_iload hx hb dX12_copyRow_3 (lv_at hl 0 rfl) ?_
      refine lv_iload_n hx hb dX12_copyRow_5 rfl (lv_at hl 2 rfl) ?_
      refine lv_icmp_ge (tgt := 31) hx hb dX12_copyRow_6 (by decide) (fun c_4 => ?_) (fun c_4 => ?_)
      · have c_4 : 7 ≤ u_1.toInt := cv_le c_4
        rw [hQ9]
        have hP9 := hP.sub (ws' := [(r0, .inl (cyI, 35, .inl f_2))]) [0] rfl
        have hD9 := hD.sub (ws' := [(r0, .inl (cyI, 35, .inl f_2))]) [0] (by decide) rfl
        exact W.vret hx hb hr (fun t ht hW => ⟨⟨(), rfl, trivial, ⟨f_2, hf_2, by rw [ht]; exact hP9, hD9⟩⟩, hS.F ht⟩) hS.2.2 dX12_copyRow_31
      · have c_4 : u_1.toInt < 7 := cv_nle c_4
        refine lv_aload_n hx hb dX12_copyRow_9 rfl (lv_at hl 1 rfl) ?_
        refine lv_iload_n hx hb dX12_copyRow_10 rfl (lv_at hl 2 rfl) ?_
        refine lv_iload_n hx hb dX12_copyRow_11 rfl (lv_at hl 4 rfl) ?_
        refine lv_imul hx hb dX12_copyRow_12 ?_
        refine cv_topi (b := 0) (by decide) ?_
        refine lv_iload hx hb dX12_copyRow_13 (lv_at hl 0 rfl) ?_
        refine lv_iadd hx hb dX12_copyRow_15 ?_
        refine lv_topi (fun x_5 ex_5 => ?_)
        have fx_5 : x_5.toInt = 0 + u_1.toInt := by rw [ex_5]; exact cv_addI (by have : (0 : Int32).toInt = 0 := rfl; omega) (by have : (0 : Int32).toInt = 0 := rfl; omega)
        refine lv_aload_n hx hb dX12_copyRow_16 rfl (lv_at hl 1 rfl) ?_
        refine lv_iload_n hx hb dX12_copyRow_17 rfl (lv_at hl 2 rfl) ?_
        refine lv_iload_n hx hb dX12_copyRow_18 rfl (lv_at hl 3 rfl) ?_
        refine lv_imul hx hb dX12_copyRow_19 ?_
        refine cv_topi (b := 14) (by decide) ?_
        refine lv_iload hx hb dX12_copyRow_20 (lv_at hl 0 rfl) ?_
        refine lv_iadd hx hb dX12_copyRow_22 ?_
        refine lv_topi (fun x_6 ex_6 => ?_)
        have fx_6 : x_6.toInt = 14 + u_1.toInt := by rw [ex_6]; exact cv_addI (by have : (14 : Int32).toInt = 14 := rfl; omega) (by have : (14 : Int32).toInt = 14 := rfl; omega)
        refine va_iald hx hb hK hP 0 0 rfl rfl (vp_in_iff.mpr (by omega)) dX12_copyRow_23 ?_
        refine lv_topi (fun x_7 ex_7 => ?_)
        have fx_7 : 0 ≤ x_7.toInt ∧ x_7.toInt ≤ 127 := by rw [ex_7]; exact hf_2 _ (cv_ix (by omega) (by omega))
        refine va_iast hx hb hK hP hD hS 0 0 rfl rfl (vp_in_iff.mpr (by omega)) dX12_copyRow_24 (fun H locs hP hD hS => ?_)
        obtain ⟨f_8, ef_8⟩ : ∃ z9 : Nat → Int32, z9 = upd f_2 x_5.toNatClampNeg x_7 := ⟨_, rfl⟩
        rw [← ef_8] at hP hD
        have hP : va_P (dC, dI) vwCl [(r0, .inl (cyI, 35, .inl f_8))] H := hP
        have hD : va_D A [(r0, .inl (cyI, 35, .inl f_8))] := hD
        have hf_8 : rg 0 127 35 f_8 := by rw [ef_8]; exact rg_upd (hf_2) ⟨by omega, by omega⟩
        obtain ⟨x_9, ex_9⟩ : ∃ y : Int32, y = u_1 + 1 := ⟨_, rfl⟩
        refine lv_iinc (v := x_9) (lv' := [(4, .int x_9), (0, .ref r0), (1, .int 7), (2, .int 2), (3, .int 0)]) hx hb dX12_copyRow_25 hl (k := 0) rfl (by rw [ex_9]; rfl) (by decide) rfl (fun ls hl => ?_)
        have fx_9 : x_9.toInt = u_1.toInt + 1 := by rw [ex_9]; exact cv_addI (by have : (1 : Int32).toInt = 1 := rfl; omega) (by have : (1 : Int32).toInt = 1 := rfl; omega)
        refine lv_goto (tgt := 3) hx hb dX12_copyRow_28 (by decide) ?_
        exact ihkey_3 x_9 f_8 _ _ _ (by omega) hf_8 hP hD hS (lv_sub hl [0, 1, 2, 3, 4] rfl) (by omega)
  exact key_3 _ 0 f0 _ _ _ (by decide) g0 hP hD hS (lv_sub hl [0, 1, 2, 3, 4] rfl) (Nat.lt_succ_self _)

/- X12_copyRow -/
set_option maxHeartbeats 4000000 in
set_option maxRecDepth 100000 in
theorem m_cp_apart_30 (l : Launch) (dC : Nat → ClassId) (dI : Nat → Nat → Nat) (cyI cyB cyJ cyZ cyH cyN : ClassId) (sz : Nat) (r0 : Nat) (f0 : Nat → Int32) (g0 : rg 0 127 35 f0) : Met l yX12_copyRow (wk yX12_copyRow cX12_copyRow 5 none) ({ frames := 1, cells := 0, slots := 0, locals := 60 }) (va_Pc [.ref r0, .int 7, .int 3, .int 0] (fun U => U.heap.size = sz ∧ va_P (dC, dI) vwCl [(r0, .inl (cyI, 35, .inl f0))] U.heap ∧ va_K (dC, dI) vwCl [(cyI, .int), (cyB, .byte), (cyJ, .long), (cyZ, .boolean), (cyH, .object RX2), (cyN, .array .long)] U ∧ va_D (fun _ => True) [(r0, .inl (cyI, 35, .inl f0))])) (va_Qv (fun _ : Unit => True) (fun (_ : Unit) (t : State) => ∃ y0 : Nat → Int32, (rg 0 127 35 y0) ∧ va_P (dC, dI) vwCl [(r0, .inl (cyI, 35, .inl y0))] t.heap ∧ va_D (va_A [(r0, .inl (cyI, 35, .inl f0))] sz) [(r0, .inl (cyI, 35, .inl y0))]) (va_A [(r0, .inl (cyI, 35, .inl f0))] sz)) 0 0 (va_A [(r0, .inl (cyI, 35, .inl f0))] sz) := by
  refine Met.ofW (cc := cX12_copyRow) (maxL := 5) (ret := none) (by decide) rfl ?_
  intro p e s m args below meth c s₁ B hml hv
  obtain ⟨rfl, hsz, hP, hK, hD0⟩ := hv
  have hx := B.exec
  have hb := B.bytes
  have hr := B.returns
  have hts : ∀ w ∈ uU, w.before ([.ref r0, .int 7, .int 3, .int 0] : List Value).toArray s = true := fun w h => atoms_spec (ws := wk yX12_copyRow cX12_copyRow 5 none) B.pre w (List.mem_cons_of_mem _ h)
  have hown : s.vm.findClass RX12 = some m.cls := findClass_of_methodNamed B.named
  have hlocks := B.notSynchronized
  subst hsz
  have hD := hD0.self (sz := s.heap.size)
  generalize hAe : va_A [(r0, .inl (cyI, 35, .inl f0))] s.heap.size = A at hD ⊢
  have hA : ∀ q : Nat, s.heap.size ≤ q → A q := fun q h => by rw [← hAe]; exact Or.inr h
  have hS : va_S A s.heap s.heap [] := va_S.rf
  have hP : va_P (dC, dI) vwCl [(r0, .inl (cyI, 35, .inl f0))] s.heap := hP
  have hl := lv_entry ([.ref r0, .int 7, .int 3, .int 0]) (n := 5) (Nat.le_of_ble_eq_true rfl)
  rw [lg_entry_eq]
  generalize (lg_sl ([.ref r0, .int 7, .int 3, .int 0]) ++ List.replicate (5 - (lg_sl ([.ref r0, .int 7, .int 3, .int 0])).length) Slot.unset).toArray = ls at hl ⊢
  have hl : lv_has ls 5 [(0, .ref r0), (1, .int 7), (2, .int 3), (3, .int 0)] := hl
  obtain ⟨H, hHe⟩ : ∃ H, H = s.heap := ⟨_, rfl⟩
  have hP : va_P (dC, dI) vwCl [(r0, .inl (cyI, 35, .inl f0))] H := by rw [hHe]; exact hP
  have hS : va_S A s.heap H [] := by rw [hHe]; exact hS
  refine cv_heap hHe ?_
  obtain ⟨Q9, hQ9⟩ : ∃ Q9 : State → Prop, Q9 = MQ below (va_Qv (fun _ : Unit => True) (fun (_ : Unit) (t : State) => ∃ y0 : Nat → Int32, (rg 0 127 35 y0) ∧ va_P (dC, dI) vwCl [(r0, .inl (cyI, 35, .inl y0))] t.heap ∧ va_D A [(r0, .inl (cyI, 35, .inl y0))]) A) ([.ref r0, .int 7, .int 3, .int 0] : List Value).toArray s 0 0 A := ⟨_, rfl⟩
  rw [← hQ9]
  refine lv_iconst (v := 0) hx hb dX12_copyRow_0 (by decide) ?_
  refine lv_istore (lv' := [(4, .int 0), (0, .ref r0), (1, .int 7), (2, .int 3), (3, .int 0)]) hx hb dX12_copyRow_1 hl (by decide) rfl (fun ls hl => ?_)
  have key_3 : ∀ (nkey_3 : Nat) (u_1 : Int32) (f_2 : Nat → Int32) (H : Heap) (locs : List Loc) (ls : Array Slot), (0 ≤ u_1.toInt ∧ u_1.toInt ≤ 7) → rg 0 127 35 f_2 → va_P (dC, dI) vwCl [(r0, .inl (cyI, 35, .inl f_2))] H → va_D A [(r0, .inl (cyI, 35, .inl f_2))] → va_S A s.heap H locs → lv_has ls 5 [(4, .int u_1), (0, .ref r0), (1, .int 7), (2, .int 3), (3, .int 0)] → (7 - u_1.toInt).toNat < nkey_3 → W p l e ({ frames := 1, cells := 0, slots := 0, locals := 60 }) s m ([.ref r0, .int 7, .int 3, .int 0] : List Value).toArray below meth c H locs 0 0 Q9 (F0 m 3 ls []) := by
    intro nkey_3
    induction nkey_3 with
    | zero => intro u_1 f_2 H locs ls hu_1 hf_2 hP hD hS hl hnkey_3; exact absurd hnkey_3 (Nat.not_lt_zero _)
    | succ nkey_3 ihkey_3 =>
      intro u_1 f_2 H locs ls hu_1 hf_2 hP hD hS hl hnkey_3
      refine lv_iload hx hb dX12_copyRow_3 (lv_at hl 0 rfl) ?_
      refine lv_iload_n hx hb dX12_copyRow_5 rfl (lv_at hl 2 rfl) ?_
      refine lv_icmp_ge (tgt := 31) hx hb dX12_copyRow_6 (by decide) (fun c_4 => ?_) (fun c_4 => ?_)
      · have c_4 : 7 ≤ u_1.toInt := cv_le c_4
        rw [hQ9]
        have hP9 := hP.sub (ws' := [(r0, .inl (cyI, 35, .inl f_2))]) [0] rfl
        have hD9 := hD.sub (ws' := [(r0, .inl (cyI, 35, .inl f_2))]) [0] (by decide) rfl
        exact W.vret hx hb hr (fun t ht hW => ⟨⟨(), rfl, trivial, ⟨f_2, hf_2, by rw [ht]; exact hP9, hD9⟩⟩, hS.F ht⟩) hS.2.2 dX12_copyRow_31
      · have c_4 : u_1.toInt < 7 := cv_nle c_4
        refine lv_aload_n hx hb dX12_copyRow_9 rfl (lv_at hl 1 rfl) ?_
        refine lv_iload_n hx hb dX12_copyRow_10 rfl (lv_at hl 2 rfl) ?_
        refine lv_iload_n hx hb dX12_copyRow_11 rfl (lv_at hl 4 rfl) ?_
        refine lv_imul hx hb dX12_copyRow_12 ?_
        refine cv_topi (b := 0) (by decide) ?_
        refine lv_iload hx hb dX12_copyRow_13 (lv_at hl 0 rfl) ?_
        refine lv_iadd hx hb dX12_copyRow_15 ?_
        refine lv_topi (fun x_5 ex_5 => ?_)
        have fx_5 : x_5.toInt = 0 + u_1.toInt := by rw [ex_5]; exact cv_addI (by have : (0 : Int32).toInt = 0 := rfl; omega) (by have : (0 : Int32).toInt = 0 := rfl; omega)
        refine lv_aload_n hx hb dX12_copyRow_16 rfl (lv_at hl 1 rfl) ?_
        refine lv_iload_n hx hb dX12_copyRow_17 rfl (lv_at hl 2 rfl) ?_
        refine lv_iload_n hx hb dX12_copyRow_18 rfl (lv_at hl 3 rfl) ?_
        refine lv_imul hx hb dX12_copyRow_19 ?_
        refine cv_topi (b := 21) (by decide) ?_
        refine lv_iload hx hb dX12_copyRow_20 (lv_at hl 0 rfl) ?_
        refine lv_iadd hx hb dX12_copyRow_22 ?_
        refine lv_topi (fun x_6 ex_6 => ?_)
        have fx_6 : x_6.toInt = 21 + u_1.toInt := by rw [ex_6]; exact cv_addI (by have : (21 : Int32).toInt = 21 := rfl; omega) (by have : (21 : Int32).toInt = 21 := rfl; omega)
        refine va_iald hx hb hK hP 0 0 rfl rfl (vp_in_iff.mpr (by omega)) dX12_copyRow_23 ?_
        refine lv_topi (fun x_7 ex_7 => ?_)
        have fx_7 : 0 ≤ x_7.toInt ∧ x_7.toInt ≤ 127 := by rw [ex_7]; exact hf_2 _ (cv_ix (by omega) (by omega))
        refine va_iast hx hb hK hP hD hS 0 0 rfl rfl (vp_in_iff.mpr (by omega)) dX12_copyRow_24 (fun H locs hP hD hS => ?_)
        obtain ⟨f_8, ef_8⟩ : ∃ z9 : Nat → Int32, z9 = upd f_2 x_5.toNatClampNeg x_7 := ⟨_, rfl⟩
        rw [← ef_8] at hP hD
        have hP : va_P (dC, dI) vwCl [(r0, .inl (cyI, 35, .inl f_8))] H := hP
        have hD : va_D A [(r0, .inl (cyI, 35, .inl f_8))] := hD
        have hf_8 : rg 0 127 35 f_8 := by rw [ef_8]; exact rg_upd (hf_2) ⟨by omega, by omega⟩
        obtain ⟨x_9, ex_9⟩ : ∃ y : Int32, y = u_1 + 1 := ⟨_, rfl⟩
        refine lv_iinc (v := x_9) (lv' := [(4, .int x_9), (0, .ref r0), (1, .int 7), (2, .int 3), (3, .int 0)]) hx hb dX12_copyRow_25 hl (k := 0) rfl (by rw [ex_9]; rfl) (by decide) rfl (fun ls hl => ?_)
        have fx_9 : x_9.toInt = u_1.toInt + 1 := by rw [ex_9]; exact cv_addI (by have : (1 : Int32).toInt = 1 := rfl; omega) (by have : (1 : Int32).toInt = 1 := rfl; omega)
        refine lv_goto (tgt := 3) hx hb dX12_copyRow_28 (by decide) ?_
        exact ihkey_3 x_9 f_8 _ _ _ (by omega) hf_8 hP hD hS (lv_sub hl [0, 1, 2, 3, 4] rfl) (by omega)
  exact key_3 _ 0 f0 _ _ _ (by decide) g0 hP hD hS (lv_sub hl [0, 1, 2, 3, 4] rfl) (Nat.lt_succ_self _)

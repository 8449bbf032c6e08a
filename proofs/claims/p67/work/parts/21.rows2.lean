/- X5_longestRise -/
set_option maxHeartbeats 4000000 in
set_option maxRecDepth 100000 in
theorem n_longestRise (l : Launch) (dC : Nat → ClassId) (dI : Nat → Nat → Nat) (cyI cyB cyJ cyZ cyH cyN : ClassId) (sz : Nat) (r0 : Nat) (f0 : Nat → Int32) (r1 : Nat) (f1 : Nat → Int32) (p0 : Int32) (g0 : 0 ≤ p0.toInt ∧ p0.toInt ≤ 7) : Met l yX5_longestRise (wk yX5_longestRise cX5_longestRise 6 (some .int)) ({ frames := 1, cells := 0, slots := 0, locals := 60 }) (va_Pc [.ref r0, .int p0, .ref r1] (fun U => U.heap.size = sz ∧ va_P (dC, dI) vwCl [(r0, .inl (cyI, 7, .inl f0)), (r1, .inl (cyI, 7, .inl f1))] U.heap ∧ va_K (dC, dI) vwCl [(cyI, .int), (cyB, .byte), (cyJ, .long), (cyZ, .boolean), (cyH, .object RX2), (cyN, .array .long)] U ∧ va_D (fun _ => True) [(r0, .inl (cyI, 7, .inl f0)), (r1, .inl (cyI, 7, .inl f1))])) (va_Qi (fun (r : Int32) (_ : Unit) => True) (fun (_ : Unit) (t : State) => ∃ y0 : Nat → Int32, va_P (dC, dI) vwCl [(r0, .inl (cyI, 7, .inl f0)), (r1, .inl (cyI, 7, .inl y0))] t.heap ∧ va_D (va_A [(r0, .inl (cyI, 7, .inl f0)), (r1, .inl (cyI, 7, .inl f1))] sz) [(r0, .inl (cyI, 7, .inl f0)), (r1, .inl (cyI, 7, .inl y0))]) (va_A [(r0, .inl (cyI, 7, .inl f0)), (r1, .inl (cyI, 7, .inl f1))] sz)) 0 0 (va_A [(r0, .inl (cyI, 7, .inl f0)), (r1, .inl (cyI, 7, .inl f1))] sz) := by
  refine Met.ofW (cc := cX5_longestRise) (maxL := 6) (ret := (some .int)) (by decide) rfl ?_
  intro p e s m args below meth c s₁ B hml hv
  obtain ⟨rfl, hsz, hP, hK, hD0⟩ := hv
  have hx := B.exec
  have hb := B.bytes
  have hr := B.returns
  have hts : ∀ w ∈ uU, w.before ([.ref r0, .int p0, .ref r1] : List Value).toArray s = true := fun w h => atoms_spec (ws := wk yX5_longestRise cX5_longestRise 6 (some .int)) B.pre w (List.mem_cons_of_mem _ h)
  have hown : s.vm.findClass RX5 = some m.cls := findClass_of_methodNamed B.named
  have hlocks := B.notSynchronized
  subst hsz
  have hD := hD0.self (sz := s.heap.size)
  generalize hAe : va_A [(r0, .inl (cyI, 7, .inl f0)), (r1, .inl (cyI, 7, .inl f1))] s.heap.size = A at hD ⊢
  have hA : ∀ q : Nat, s.heap.size ≤ q → A q := fun q h => by rw [← hAe]; exact Or.inr h
  have hS : va_S A s.heap s.heap [] := va_S.rf
  have hP : va_P (dC, dI) vwCl [(r0, .inl (cyI, 7, .inl f0)), (r1, .inl (cyI, 7, .inl f1))] s.heap := hP
  have hl := lv_entry ([.ref r0, .int p0, .ref r1]) (n := 6) (Nat.le_of_ble_eq_true rfl)
  rw [lg_entry_eq]
  generalize (lg_sl ([.ref r0, .int p0, .ref r1]) ++ List.replicate (6 - (lg_sl ([.ref r0, .int p0, .ref r1])).length) Slot.unset).toArray = ls at hl ⊢
  have hl : lv_has ls 6 [(0, .ref r0), (1, .int p0), (2, .ref r1)] := hl
  obtain ⟨H, hHe⟩ : ∃ H, H = s.heap := ⟨_, rfl⟩
  have hP : va_P (dC, dI) vwCl [(r0, .inl (cyI, 7, .inl f0)), (r1, .inl (cyI, 7, .inl f1))] H := by rw [hHe]; exact hP
  have hS : va_S A s.heap H [] := by rw [hHe]; exact hS
  refine cv_heap hHe ?_
  obtain ⟨Q9, hQ9⟩ : ∃ Q9 : State → Prop, Q9 = MQ below (va_Qi (fun (r : Int32) (_ : Unit) => True) (fun (_ : Unit) (t : State) => ∃ y0 : Nat → Int32, va_P (dC, dI) vwCl [(r0, .inl (cyI, 7, .inl f0)), (r1, .inl (cyI, 7, .inl y0))] t.heap ∧ va_D A [(r0, .inl (cyI, 7, .inl f0)), (r1, .inl (cyI, 7, .inl y0))]) A) ([.ref r0, .int p0, .ref r1] : List Value).toArray s 0 0 A := ⟨_, rfl⟩
  rw [← hQ9]
  refine lv_iconst (v := 0) hx hb dX5_longestRise_0 (by decide) ?_
  refine lv_istore_n (lv' := [(3, .int 0), (0, .ref r0), (1, .int p0), (2, .ref r1)]) hx hb dX5_longestRise_1 rfl hl (by decide) rfl (fun ls hl => ?_)
  refine lv_iconst (v := 0) hx hb dX5_longestRise_2 (by decide) ?_
  refine lv_istore (lv' := [(4, .int 0), (3, .int 0), (0, .ref r0), (1, .int p0), (2, .ref r1)]) hx hb dX5_longestRise_3 hl (by decide) rfl (fun ls hl => ?_)
  have key_4 : ∀ (nkey_4 : Nat) (u_1 : Int32) (u_2 : Int32) (f_3 : Nat → Int32) (H : Heap) (locs : List Loc) (ls : Array Slot), (0 ≤ u_1.toInt ∧ u_1.toInt ≤ 7) → (0 ≤ u_2.toInt ∧ u_2.toInt ≤ 2147483647) → va_P (dC, dI) vwCl [(r0, .inl (cyI, 7, .inl f0)), (r1, .inl (cyI, 7, .inl f_3))] H → va_D A [(r0, .inl (cyI, 7, .inl f0)), (r1, .inl (cyI, 7, .inl f_3))] → va_S A s.heap H locs → lv_has ls 6 [(4, .int u_1), (3, .int u_2), (0, .ref r0), (1, .int p0), (2, .ref r1)] → (p0.toInt - u_1.toInt).toNat < nkey_4 → W p l e ({ frames := 1, cells := 0, slots := 0, locals := 60 }) s m ([.ref r0, .int p0, .ref r1] : List Value).toArray below meth c H locs 0 0 Q9 (F0 m 5 ls []) := by
    intro nkey_4
    induction nkey_4 with
    | zero => intro u_1 u_2 f_3 H locs ls hu_1 hu_2 hP hD hS hl hnkey_4; exact absurd hnkey_4 (Nat.not_lt_zero _)
    | succ nkey_4 ihkey_4 =>
      intro u_1 u_2 f_3 H locs ls hu_1 hu_2 hP hD hS hl hnkey_4
      refine lv_iload hx hb dX5_longestRise_5 (lv_at hl 0 rfl) ?_
      refine lv_iload_n hx hb dX5_longestRise_7 rfl (lv_at hl 3 rfl) ?_
      refine lv_icmp_ge (tgt := 75) hx hb dX5_longestRise_8 (by decide) (fun c_5 => ?_) (fun c_5 => ?_)
      · have c_5 : p0.toInt ≤ u_1.toInt := cv_le c_5
        refine lv_iload_n hx hb dX5_longestRise_75 rfl (lv_at hl 1 rfl) ?_
        rw [hQ9]
        have hP9 := hP.sub (ws' := [(r0, .inl (cyI, 7, .inl f0)), (r1, .inl (cyI, 7, .inl f_3))]) [0, 1] rfl
        have hD9 := hD.sub (ws' := [(r0, .inl (cyI, 7, .inl f0)), (r1, .inl (cyI, 7, .inl f_3))]) [0, 1] (by decide) rfl
        exact W.iret (v := u_2) hx hb hr (fun t ht hW => ⟨⟨u_2, (), rfl, trivial, ⟨f_3, by rw [ht]; exact hP9, hD9⟩⟩, hS.F ht⟩) hS.2.2 dX5_longestRise_76
      · have c_5 : u_1.toInt < p0.toInt := cv_nle c_5
        refine lv_aload_n hx hb dX5_longestRise_11 rfl (lv_at hl 4 rfl) ?_
        refine lv_iload hx hb dX5_longestRise_12 (lv_at hl 0 rfl) ?_
        refine lv_iconst (v := 1) hx hb dX5_longestRise_14 (by decide) ?_
        refine va_iast hx hb hK hP hD hS 1 0 rfl rfl (vp_in_iff.mpr (by omega)) dX5_longestRise_15 (fun H locs hP hD hS => ?_)
        obtain ⟨f_6, ef_6⟩ : ∃ z9 : Nat → Int32, z9 = upd f_3 u_1.toNatClampNeg 1 := ⟨_, rfl⟩
        rw [← ef_6] at hP hD
        have hP : va_P (dC, dI) vwCl [(r0, .inl (cyI, 7, .inl f0)), (r1, .inl (cyI, 7, .inl f_6))] H := hP
        have hD : va_D A [(r0, .inl (cyI, 7, .inl f0)), (r1, .inl (cyI, 7, .inl f_6))] := hD
        refine lv_iconst (v := 0) hx hb dX5_longestRise_16 (by decide) ?_
        refine lv_istore (lv' := [(5, .int 0), (4, .int u_1), (3, .int u_2), (0, .ref r0), (1, .int p0), (2, .ref r1)]) hx hb dX5_longestRise_17 hl (by decide) rfl (fun ls hl => ?_)
        have key_9 : ∀ (nkey_9 : Nat) (u_7 : Int32) (f_8 : Nat → Int32) (H : Heap) (locs : List Loc) (ls : Array Slot), (0 ≤ u_7.toInt ∧ u_7.toInt ≤ 6) → va_P (dC, dI) vwCl [(r0, .inl (cyI, 7, .inl f0)), (r1, .inl (cyI, 7, .inl f_8))] H → va_D A [(r0, .inl (cyI, 7, .inl f0)), (r1, .inl (cyI, 7, .inl f_8))] → va_S A s.heap H locs → lv_has ls 6 [(5, .int u_7), (4, .int u_1), (3, .int u_2), (0, .ref r0), (1, .int p0), (2, .ref r1)] → (u_1.toInt - u_7.toInt).toNat < nkey_9 → W p l e ({ frames := 1, cells := 0, slots := 0, locals := 60 }) s m ([.ref r0, .int p0, .ref r1] : List Value).toArray below meth c H locs 0 0 Q9 (F0 m 19 ls []) := by
          intro nkey_9
          induction nkey_9 with
          | zero => intro u_7 f_8 H locs ls hu_7 hP hD hS hl hnkey_9; exact absurd hnkey_9 (Nat.not_lt_zero _)
          | succ nkey_9 ihkey_9 =>
            intro u_7 f_8 H locs ls hu_7 hP hD hS hl hnkey_9
            refine lv_iload hx hb dX5_longestRise_19 (lv_at hl 0 rfl) ?_
            refine lv_iload hx hb dX5_longestRise_21 (lv_at hl 1 rfl) ?_
            refine lv_icmp_ge (tgt := 60) hx hb dX5_longestRise_23 (by decide) (fun c_10 => ?_) (fun c_10 => ?_)
            · have c_10 : u_1.toInt ≤ u_7.toInt := cv_le c_10
              refine lv_iload_n hx hb dX5_longestRise_60 rfl (lv_at hl 2 rfl) ?_
              refine lv_aload_n hx hb dX5_longestRise_61 rfl (lv_at hl 5 rfl) ?_
              refine lv_iload hx hb dX5_longestRise_62 (lv_at hl 1 rfl) ?_
              refine va_iald hx hb hK hP 1 0 rfl rfl (vp_in_iff.mpr (by omega)) dX5_longestRise_64 ?_
              refine lv_topi (fun x_11 ex_11 => ?_)
              refine va_mmax hx hb (by rw [hml]; exact hl.1.symm) hown (hts _ wd_3_228) (hts _ wd_3_229) (hts _ wd_1_13) (hts _ wd_3_230) (Nat.le_of_ble_eq_true rfl) (Nat.le_of_ble_eq_true rfl) (Nat.le_of_ble_eq_true rfl) (Nat.le_of_ble_eq_true rfl) dX5_longestRise_65 ?_
              refine lv_topi (fun x_12 ex_12 => ?_)
              have fx_12 : 0 ≤ x_12.toInt := by rw [ex_12]; have q := cv_max (x := u_2) (y := x_11); omega
              refine lv_istore_n (lv' := [(3, .int x_12), (5, .int u_7), (4, .int u_1), (0, .ref r0), (1, .int p0), (2, .ref r1)]) hx hb dX5_longestRise_68 rfl hl (by decide) rfl (fun ls hl => ?_)
              obtain ⟨x_13, ex_13⟩ : ∃ y : Int32, y = u_1 + 1 := ⟨_, rfl⟩
              refine lv_iinc (v := x_13) (lv' := [(4, .int x_13), (3, .int x_12), (5, .int u_7), (0, .ref r0), (1, .int p0), (2, .ref r1)]) hx hb dX5_longestRise_69 hl (k := 2) rfl (by rw [ex_13]; rfl) (by decide) rfl (fun ls hl => ?_)
              have fx_13 : x_13.toInt = u_1.toInt + 1 := by rw [ex_13]; exact cv_addI (by have : (1 : Int32).toInt = 1 := rfl; omega) (by have : (1 : Int32).toInt = 1 := rfl; omega)
              refine lv_goto (tgt := 5) hx hb dX5_longestRise_72 (by decide) ?_
              exact ihkey_4 x_13 x_12 f_8 _ _ _ (by omega) ⟨by omega, cv_hi⟩ hP hD hS (lv_sub hl [0, 1, 3, 4, 5] rfl) (by omega)
            · have c_10 : u_7.toInt < u_1.toInt := cv_nle c_10
              refine lv_aload_n hx hb dX5_longestRise_26 rfl (lv_at hl 3 rfl) ?_
              refine lv_iload hx hb dX5_longestRise_27 (lv_at hl 0 rfl) ?_
              refine va_iald hx hb hK hP 0 0 rfl rfl (vp_in_iff.mpr (by omega)) dX5_longestRise_29 ?_
              refine lv_topi (fun x_14 ex_14 => ?_)
              refine lv_aload_n hx hb dX5_longestRise_30 rfl (lv_at hl 3 rfl) ?_
              refine lv_iload hx hb dX5_longestRise_31 (lv_at hl 1 rfl) ?_
              refine va_iald hx hb hK hP 0 0 rfl rfl (vp_in_iff.mpr (by omega)) dX5_longestRise_33 ?_
              refine lv_topi (fun x_15 ex_15 => ?_)
              have join_17 : ∀ (f_16 : Nat → Int32) (H : Heap) (locs : List Loc) (ls : Array Slot), va_P (dC, dI) vwCl [(r0, .inl (cyI, 7, .inl f0)), (r1, .inl (cyI, 7, .inl f_16))] H → va_D A [(r0, .inl (cyI, 7, .inl f0)), (r1, .inl (cyI, 7, .inl f_16))] → va_S A s.heap H locs → lv_has ls 6 [(5, .int u_7), (4, .int u_1), (3, .int u_2), (0, .ref r0), (1, .int p0), (2, .ref r1)] → W p l e ({ frames := 1, cells := 0, slots := 0, locals := 60 }) s m ([.ref r0, .int p0, .ref r1] : List Value).toArray below meth c H locs 0 0 Q9 (F0 m 54 ls []) := by
                intro f_16 H locs ls hP hD hS hl
                obtain ⟨x_18, ex_18⟩ : ∃ y : Int32, y = u_7 + 1 := ⟨_, rfl⟩
                refine lv_iinc (v := x_18) (lv' := [(5, .int x_18), (4, .int u_1), (3, .int u_2), (0, .ref r0), (1, .int p0), (2, .ref r1)]) hx hb dX5_longestRise_54 hl (k := 0) rfl (by rw [ex_18]; rfl) (by decide) rfl (fun ls hl => ?_)
                have fx_18 : x_18.toInt = u_7.toInt + 1 := by rw [ex_18]; exact cv_addI (by have : (1 : Int32).toInt = 1 := rfl; omega) (by have : (1 : Int32).toInt = 1 := rfl; omega)
                refine lv_goto (tgt := 19) hx hb dX5_longestRise_57 (by decide) ?_
                exact ihkey_9 x_18 f_16 _ _ _ (by omega) hP hD hS (lv_sub hl [0, 1, 2, 3, 4, 5] rfl) (by omega)
              refine lv_icmp_ge (tgt := 54) hx hb dX5_longestRise_34 (by decide) (fun c_19 => ?_) (fun c_19 => ?_)
              · have c_19 : x_15.toInt ≤ x_14.toInt := cv_le c_19
                exact join_17 f_8 _ _ _ hP hD hS (lv_sub hl [0, 1, 2, 3, 4, 5] rfl)
              · have c_19 : x_14.toInt < x_15.toInt := cv_nle c_19
                refine lv_aload_n hx hb dX5_longestRise_37 rfl (lv_at hl 5 rfl) ?_
                refine lv_iload hx hb dX5_longestRise_38 (lv_at hl 1 rfl) ?_
                refine lv_aload_n hx hb dX5_longestRise_40 rfl (lv_at hl 5 rfl) ?_
                refine lv_iload hx hb dX5_longestRise_41 (lv_at hl 1 rfl) ?_
                refine va_iald hx hb hK hP 1 0 rfl rfl (vp_in_iff.mpr (by omega)) dX5_longestRise_43 ?_
                refine lv_topi (fun x_20 ex_20 => ?_)
                refine lv_aload_n hx hb dX5_longestRise_44 rfl (lv_at hl 5 rfl) ?_
                refine lv_iload hx hb dX5_longestRise_45 (lv_at hl 0 rfl) ?_
                refine va_iald hx hb hK hP 1 0 rfl rfl (vp_in_iff.mpr (by omega)) dX5_longestRise_47 ?_
                refine lv_topi (fun x_21 ex_21 => ?_)
                refine lv_iconst (v := 1) hx hb dX5_longestRise_48 (by decide) ?_
                refine lv_iadd hx hb dX5_longestRise_49 ?_
                refine lv_topi (fun x_22 ex_22 => ?_)
                refine va_mmax hx hb (by rw [hml]; exact hl.1.symm) hown (hts _ wd_3_228) (hts _ wd_3_229) (hts _ wd_1_13) (hts _ wd_3_230) (Nat.le_of_ble_eq_true rfl) (Nat.le_of_ble_eq_true rfl) (Nat.le_of_ble_eq_true rfl) (Nat.le_of_ble_eq_true rfl) dX5_longestRise_50 ?_
                refine lv_topi (fun x_23 ex_23 => ?_)
                refine va_iast hx hb hK hP hD hS 1 0 rfl rfl (vp_in_iff.mpr (by omega)) dX5_longestRise_53 (fun H locs hP hD hS => ?_)
                obtain ⟨f_24, ef_24⟩ : ∃ z9 : Nat → Int32, z9 = upd f_8 u_1.toNatClampNeg x_23 := ⟨_, rfl⟩
                rw [← ef_24] at hP hD
                have hP : va_P (dC, dI) vwCl [(r0, .inl (cyI, 7, .inl f0)), (r1, .inl (cyI, 7, .inl f_24))] H := hP
                have hD : va_D A [(r0, .inl (cyI, 7, .inl f0)), (r1, .inl (cyI, 7, .inl f_24))] := hD
                exact join_17 f_24 _ _ _ hP hD hS (lv_sub hl [0, 1, 2, 3, 4, 5] rfl)
        exact key_9 _ 0 f_6 _ _ _ (by decide) hP hD hS (lv_sub hl [0, 1, 2, 3, 4, 5] rfl) (Nat.lt_succ_self _)
  exact key_4 _ 0 0 f1 _ _ _ (by decide) (by decide) hP hD hS (lv_sub hl [0, 1, 2, 3, 4] rfl) (Nat.lt_succ_self _)

/- X5_areBeside -/
set_option maxHeartbeats 4000000 in
set_option maxRecDepth 100000 in
theorem n_areBeside (l : Launch) (dC : Nat → ClassId) (dI : Nat → Nat → Nat) (cyI cyB cyJ cyZ cyH cyN : ClassId) (r0 : Nat) (f0 : Nat → Int32) (p0 p1 p2 : Int32) (g0 : 0 ≤ p0.toInt ∧ p0.toInt ≤ 7) : Met l yX5_areBeside (wk yX5_areBeside cX5_areBeside 4 (some .boolean)) ({ frames := 2, cells := 0, slots := 0, locals := 83 }) (va_Pc [.ref r0, .int p0, .int p1, .int p2] (fun U => va_P (dC, dI) vwCl [(r0, .inl (cyI, 7, .inl f0))] U.heap ∧ va_K (dC, dI) vwCl [(cyI, .int), (cyB, .byte), (cyJ, .long), (cyZ, .boolean), (cyH, .object RX2), (cyN, .array .long)] U)) (vp_Si (fun r : Int32 => 0 ≤ r.toInt ∧ r.toInt ≤ 1)) 0 0 (fun _ => False) := by
  refine Met.ofW (cc := cX5_areBeside) (maxL := 4) (ret := (some .boolean)) (by decide) rfl ?_
  intro p e s m args below meth c s₁ B hml hv
  obtain ⟨rfl, hP, hK⟩ := hv
  have hx := B.exec
  have hb := B.bytes
  have hr := B.returns
  have hts : ∀ w ∈ uU, w.before ([.ref r0, .int p0, .int p1, .int p2] : List Value).toArray s = true := fun w h => atoms_spec (ws := wk yX5_areBeside cX5_areBeside 4 (some .boolean)) B.pre w (List.mem_cons_of_mem _ h)
  have hown : s.vm.findClass RX5 = some m.cls := findClass_of_methodNamed B.named
  have hlocks := B.notSynchronized
  have hl := lv_entry ([.ref r0, .int p0, .int p1, .int p2]) (n := 4) (Nat.le_of_ble_eq_true rfl)
  rw [lg_entry_eq]
  generalize (lg_sl ([.ref r0, .int p0, .int p1, .int p2]) ++ List.replicate (4 - (lg_sl ([.ref r0, .int p0, .int p1, .int p2])).length) Slot.unset).toArray = ls at hl ⊢
  have hl : lv_has ls 4 [(0, .ref r0), (1, .int p0), (2, .int p1), (3, .int p2)] := hl
  obtain ⟨Q9, hQ9⟩ : ∃ Q9 : State → Prop, Q9 = MQ below (vp_Si (fun r : Int32 => 0 ≤ r.toInt ∧ r.toInt ≤ 1)) ([.ref r0, .int p0, .int p1, .int p2] : List Value).toArray s 0 0 (fun _ => False) := ⟨_, rfl⟩
  rw [← hQ9]
  refine lv_aload_n hx hb dX5_areBeside_0 rfl (lv_at hl 0 rfl) ?_
  refine lv_iload_n hx hb dX5_areBeside_1 rfl (lv_at hl 1 rfl) ?_
  refine lv_iload_n hx hb dX5_areBeside_2 rfl (lv_at hl 2 rfl) ?_
  have hPc := hP.sub (ws' := [(r0, .inl (cyI, 7, .inl f0))]) [0] rfl
  have hKc := hK.sub (tys' := [(cyI, .int), (cyB, .byte), (cyJ, .long), (cyZ, .boolean), (cyH, .object RX2), (cyN, .array .long)]) [0, 1, 2, 3, 4, 5] rfl
  refine vp_callSi (va_Run.run (va_runS (As := [.ref r0, .int p0, .int p1]) (rest := []) ⟨hx, hb, hml, hown, hts⟩ (n_placeIn l dC dI cyI cyB cyJ cyZ cyH cyN r0 f0 p0 p1 (by omega)) (va_cwS 3 hts (gdS wd_3_178 wd_3_81 wd_1_19 wd_3_82) rfl rfl rfl (by decide +kernel) ⟨Nat.le_of_ble_eq_true rfl, Nat.le_of_ble_eq_true rfl⟩) ⟨fun a U g mk q => by obtain ⟨q0, qP, qK⟩ := q; exact ⟨q0, qP, va_K.moved (u := U) (U := U.calling g mk a) (Vm.Alike.refl U.vm) qK⟩, fun U hU hW => ⟨rfl, by rw [hU]; exact hPc, va_K.moved hW.alike hKc⟩⟩ rfl rfl hl.1 rfl (lv_room (Nat.le_of_ble_eq_true rfl)) dX5_areBeside_3 ⟨Nat.le_of_ble_eq_true rfl, Nat.le_of_ble_eq_true rfl⟩)) (fun r_1 hw => ?_)
  have hrr_1 := hw
  refine lv_aload_n hx hb dX5_areBeside_6 rfl (lv_at hl 0 rfl) ?_
  refine lv_iload_n hx hb dX5_areBeside_7 rfl (lv_at hl 1 rfl) ?_
  refine lv_iload_n hx hb dX5_areBeside_8 rfl (lv_at hl 3 rfl) ?_
  have hPc := hP.sub (ws' := [(r0, .inl (cyI, 7, .inl f0))]) [0] rfl
  have hKc := hK.sub (tys' := [(cyI, .int), (cyB, .byte), (cyJ, .long), (cyZ, .boolean), (cyH, .object RX2), (cyN, .array .long)]) [0, 1, 2, 3, 4, 5] rfl
  refine vp_callSi (va_Run.run (va_runS (As := [.ref r0, .int p0, .int p2]) (rest := [.int r_1]) ⟨hx, hb, hml, hown, hts⟩ (n_placeIn l dC dI cyI cyB cyJ cyZ cyH cyN r0 f0 p0 p2 (by omega)) (va_cwS 3 hts (gdS wd_3_178 wd_3_81 wd_1_19 wd_3_82) rfl rfl rfl (by decide +kernel) ⟨Nat.le_of_ble_eq_true rfl, Nat.le_of_ble_eq_true rfl⟩) ⟨fun a U g mk q => by obtain ⟨q0, qP, qK⟩ := q; exact ⟨q0, qP, va_K.moved (u := U) (U := U.calling g mk a) (Vm.Alike.refl U.vm) qK⟩, fun U hU hW => ⟨rfl, by rw [hU]; exact hPc, va_K.moved hW.alike hKc⟩⟩ rfl rfl hl.1 rfl (lv_room (Nat.le_of_ble_eq_true rfl)) dX5_areBeside_9 ⟨Nat.le_of_ble_eq_true rfl, Nat.le_of_ble_eq_true rfl⟩)) (fun r_2 hw => ?_)
  have hrr_2 := hw
  refine lv_isub hx hb dX5_areBeside_12 ?_
  refine lv_topi (fun x_3 ex_3 => ?_)
  have fx_3 : x_3.toInt = r_1.toInt - r_2.toInt := by rw [ex_3]; exact cv_subI (by omega) (by omega)
  refine va_mabs hx hb (by rw [hml]; exact hl.1.symm) hown (hts _ wd_3_179) (hts _ wd_3_180) (hts _ wd_1_13) (hts _ wd_3_181) (Nat.le_of_ble_eq_true rfl) (Nat.le_of_ble_eq_true rfl) (Nat.le_of_ble_eq_true rfl) (Nat.le_of_ble_eq_true rfl) dX5_areBeside_13 ?_
  refine lv_topi (fun x_4 ex_4 => ?_)
  have fx_4 : 0 ≤ x_4.toInt ∧ x_4.toInt ≤ 7 := by rw [ex_4]; have q := cv_abs (x := x_3) (by omega); omega
  refine lv_iconst (v := 1) hx hb dX5_areBeside_16 (by decide) ?_
  have join_6 : ∀ (u_5 : Int32) (ls : Array Slot), (0 ≤ u_5.toInt ∧ u_5.toInt ≤ 1) → lv_has ls 4 [(0, .ref r0), (1, .int p0), (2, .int p1), (3, .int p2)] → W p l e ({ frames := 2, cells := 0, slots := 0, locals := 83 }) s m ([.ref r0, .int p0, .int p1, .int p2] : List Value).toArray below meth c s.heap [] 0 0 Q9 (F0 m 25 ls [.int u_5]) := by
    intro u_5 ls hu_5 hl
    rw [hQ9]
    exact W.zret (v := u_5) (ty := .boolean) hx hb hr (cv_nz (by omega) (by omega)) (fun t ht hW => ⟨u_5, rfl, (by omega), ht⟩) (fun q h => by cases h) dX5_areBeside_25
  refine lv_icmp_ne (tgt := 24) hx hb dX5_areBeside_17 (by decide) (fun c_7 => ?_) (fun c_7 => ?_)
  · have c_7 : x_4.toInt ≠ 1 := cv_ne c_7
    refine lv_iconst (v := 0) hx hb dX5_areBeside_24 (by decide) ?_
    exact join_6 0 _ (by decide) (lv_sub hl [0, 1, 2, 3] rfl)
  · have c_7 : x_4.toInt = 1 := cv_eq c_7
    refine lv_iconst (v := 1) hx hb dX5_areBeside_20 (by decide) ?_
    refine lv_goto (tgt := 25) hx hb dX5_areBeside_21 (by decide) ?_
    exact join_6 1 _ (by decide) (lv_sub hl [0, 1, 2, 3] rfl)

/- X5_swapsBetween -/
set_option maxHeartbeats 4000000 in
set_option maxRecDepth 100000 in
theorem n_swapsBetween (l : Launch) (dC : Nat → ClassId) (dI : Nat → Nat → Nat) (cyI cyB cyJ cyZ cyH cyN : ClassId) (sz : Nat) (r0 : Nat) (f0 : Nat → Int32) (r1 r2 : Nat) (f1 f2 : Nat → Int32) (p0 : Int32) (g0 : rg 0 6 7 f0) (g1 : rg 0 6 7 f2) (g2 : 0 ≤ p0.toInt ∧ p0.toInt ≤ 7) : Met l yX5_swapsBetween (wk yX5_swapsBetween cX5_swapsBetween 7 (some .int)) ({ frames := 2, cells := 0, slots := 0, locals := 83 }) (va_Pc [.ref r0, .ref r1, .int p0, .ref r2] (fun U => U.heap.size = sz ∧ va_P (dC, dI) vwCl [(r0, .inl (cyI, 7, .inl f0)), (r1, .inl (cyI, 7, .inl f1)), (r2, .inl (cyI, 7, .inl f2))] U.heap ∧ va_K (dC, dI) vwCl [(cyI, .int), (cyB, .byte), (cyJ, .long), (cyZ, .boolean), (cyH, .object RX2), (cyN, .array .long)] U ∧ va_D (fun _ => True) [(r0, .inl (cyI, 7, .inl f0)), (r1, .inl (cyI, 7, .inl f1)), (r2, .inl (cyI, 7, .inl f2))])) (va_Qi (fun (r : Int32) (_ : Unit) => True) (fun (_ : Unit) (t : State) => ∃ y0 : Nat → Int32, (rg 0 6 7 y0) ∧ va_P (dC, dI) vwCl [(r0, .inl (cyI, 7, .inl f0)), (r1, .inl (cyI, 7, .inl f1)), (r2, .inl (cyI, 7, .inl y0))] t.heap ∧ va_D (va_A [(r0, .inl (cyI, 7, .inl f0)), (r1, .inl (cyI, 7, .inl f1)), (r2, .inl (cyI, 7, .inl f2))] sz) [(r0, .inl (cyI, 7, .inl f0)), (r1, .inl (cyI, 7, .inl f1)), (r2, .inl (cyI, 7, .inl y0))]) (va_A [(r0, .inl (cyI, 7, .inl f0)), (r1, .inl (cyI, 7, .inl f1)), (r2, .inl (cyI, 7, .inl f2))] sz)) 0 0 (va_A [(r0, .inl (cyI, 7, .inl f0)), (r1, .inl (cyI, 7, .inl f1)), (r2, .inl (cyI, 7, .inl f2))] sz) := by
  refine Met.ofW (cc := cX5_swapsBetween) (maxL := 7) (ret := (some .int)) (by decide) rfl ?_
  intro p e s m args below meth c s₁ B hml hv
  obtain ⟨rfl, hsz, hP, hK, hD0⟩ := hv
  have hx := B.exec
  have hb := B.bytes
  have hr := B.returns
  have hts : ∀ w ∈ uU, w.before ([.ref r0, .ref r1, .int p0, .ref r2] : List Value).toArray s = true := fun w h => atoms_spec (ws := wk yX5_swapsBetween cX5_swapsBetween 7 (some .int)) B.pre w (List.mem_cons_of_mem _ h)
  have hown : s.vm.findClass RX5 = some m.cls := findClass_of_methodNamed B.named
  have hlocks := B.notSynchronized
  subst hsz
  have hD := hD0.self (sz := s.heap.size)
  generalize hAe : va_A [(r0, .inl (cyI, 7, .inl f0)), (r1, .inl (cyI, 7, .inl f1)), (r2, .inl (cyI, 7, .inl f2))] s.heap.size = A at hD ⊢
  have hA : ∀ q : Nat, s.heap.size ≤ q → A q := fun q h => by rw [← hAe]; exact Or.inr h
  have hS : va_S A s.heap s.heap [] := va_S.rf
  have hP : va_P (dC, dI) vwCl [(r0, .inl (cyI, 7, .inl f0)), (r1, .inl (cyI, 7, .inl f1)), (r2, .inl (cyI, 7, .inl f2))] s.heap := hP
  have hl := lv_entry ([.ref r0, .ref r1, .int p0, .ref r2]) (n := 7) (Nat.le_of_ble_eq_true rfl)
  rw [lg_entry_eq]
  generalize (lg_sl ([.ref r0, .ref r1, .int p0, .ref r2]) ++ List.replicate (7 - (lg_sl ([.ref r0, .ref r1, .int p0, .ref r2])).length) Slot.unset).toArray = ls at hl ⊢
  have hl : lv_has ls 7 [(0, .ref r0), (1, .ref r1), (2, .int p0), (3, .ref r2)] := hl
  obtain ⟨H, hHe⟩ : ∃ H, H = s.heap := ⟨_, rfl⟩
  have hP : va_P (dC, dI) vwCl [(r0, .inl (cyI, 7, .inl f0)), (r1, .inl (cyI, 7, .inl f1)), (r2, .inl (cyI, 7, .inl f2))] H := by rw [hHe]; exact hP
  have hS : va_S A s.heap H [] := by rw [hHe]; exact hS
  refine cv_heap hHe ?_
  obtain ⟨Q9, hQ9⟩ : ∃ Q9 : State → Prop, Q9 = MQ below (va_Qi (fun (r : Int32) (_ : Unit) => True) (fun (_ : Unit) (t : State) => ∃ y0 : Nat → Int32, (rg 0 6 7 y0) ∧ va_P (dC, dI) vwCl [(r0, .inl (cyI, 7, .inl f0)), (r1, .inl (cyI, 7, .inl f1)), (r2, .inl (cyI, 7, .inl y0))] t.heap ∧ va_D A [(r0, .inl (cyI, 7, .inl f0)), (r1, .inl (cyI, 7, .inl f1)), (r2, .inl (cyI, 7, .inl y0))]) A) ([.ref r0, .ref r1, .int p0, .ref r2] : List Value).toArray s 0 0 A := ⟨_, rfl⟩
  rw [← hQ9]
  refine lv_aload_n hx hb dX5_swapsBetween_0 rfl (lv_at hl 0 rfl) ?_
  refine lv_iconst (v := 0) hx hb dX5_swapsBetween_1 (by decide) ?_
  refine lv_aload_n hx hb dX5_swapsBetween_2 rfl (lv_at hl 3 rfl) ?_
  refine lv_iconst (v := 0) hx hb dX5_swapsBetween_3 (by decide) ?_
  refine lv_bipush (v := 7) hx hb dX5_swapsBetween_4 (by decide) ?_
  refine va_copyi (ty := .int) hx hb (by rw [hml]; exact hl.1.symm) hown (hts _ wd_3_198) (hts _ wd_3_43) (hts _ wd_3_42) (hts _ wd_1_18) hK hP hD hS 0 2 0 0 rfl rfl rfl rfl rfl (by decide) (by decide) (by decide) (by decide) (by decide) (fun _ _ => rfl) (Nat.le_of_ble_eq_true rfl) (Nat.le_of_ble_eq_true rfl) dX5_swapsBetween_6 (fun H locs hP hD hS => ?_)
  obtain ⟨f_1, ef_1⟩ : ∃ z9 : Nat → Int32, z9 = va_cpy f0 f2 (0 : Int32).toNatClampNeg (0 : Int32).toNatClampNeg (7 : Int32).toNatClampNeg := ⟨_, rfl⟩
  rw [← ef_1] at hP hD
  have hP : va_P (dC, dI) vwCl [(r0, .inl (cyI, 7, .inl f0)), (r1, .inl (cyI, 7, .inl f1)), (r2, .inl (cyI, 7, .inl f_1))] H := hP
  have hD : va_D A [(r0, .inl (cyI, 7, .inl f0)), (r1, .inl (cyI, 7, .inl f1)), (r2, .inl (cyI, 7, .inl f_1))] := hD
  have hf_1 : rg 0 6 7 f_1 := by rw [ef_1]; exact rg_cpyall g0 (by decide) (by decide)
  refine lv_iconst (v := 0) hx hb dX5_swapsBetween_9 (by decide) ?_
  refine lv_istore (lv' := [(4, .int 0), (0, .ref r0), (1, .ref r1), (2, .int p0), (3, .ref r2)]) hx hb dX5_swapsBetween_10 hl (by decide) rfl (fun ls hl => ?_)
  refine lv_iconst (v := 0) hx hb dX5_swapsBetween_12 (by decide) ?_
  refine lv_istore (lv' := [(5, .int 0), (4, .int 0), (0, .ref r0), (1, .ref r1), (2, .int p0), (3, .ref r2)]) hx hb dX5_swapsBetween_13 hl (by decide) rfl (fun ls hl => ?_)
  have key_5 : ∀ (nkey_5 : Nat) (u_2 : Int32) (u_3 : Int32) (f_4 : Nat → Int32) (H : Heap) (locs : List Loc) (ls : Array Slot), (0 ≤ u_2.toInt ∧ u_2.toInt ≤ 7) → rg 0 6 7 f_4 → va_P (dC, dI) vwCl [(r0, .inl (cyI, 7, .inl f0)), (r1, .inl (cyI, 7, .inl f1)), (r2, .inl (cyI, 7, .inl f_4))] H → va_D A [(r0, .inl (cyI, 7, .inl f0)), (r1, .inl (cyI, 7, .inl f1)), (r2, .inl (cyI, 7, .inl f_4))] → va_S A s.heap H locs → lv_has ls 7 [(5, .int u_2), (4, .int u_3), (0, .ref r0), (1, .ref r1), (2, .int p0), (3, .ref r2)] → (p0.toInt - u_2.toInt).toNat < nkey_5 → W p l e ({ frames := 2, cells := 0, slots := 0, locals := 83 }) s m ([.ref r0, .ref r1, .int p0, .ref r2] : List Value).toArray below meth c H locs 0 0 Q9 (F0 m 15 ls []) := by
    intro nkey_5
    induction nkey_5 with
    | zero => intro u_2 u_3 f_4 H locs ls hu_2 hf_4 hP hD hS hl hnkey_5; exact absurd hnkey_5 (Nat.not_lt_zero _)
    | succ nkey_5 ihkey_5 =>
      intro u_2 u_3 f_4 H locs ls hu_2 hf_4 hP hD hS hl hnkey_5
      refine lv_iload hx hb dX5_swapsBetween_15 (lv_at hl 0 rfl) ?_
      refine lv_iload_n hx hb dX5_swapsBetween_17 rfl (lv_at hl 4 rfl) ?_
      refine lv_icmp_ge (tgt := 65) hx hb dX5_swapsBetween_18 (by decide) (fun c_6 => ?_) (fun c_6 => ?_)
      · have c_6 : p0.toInt ≤ u_2.toInt := cv_le c_6
        refine lv_iload hx hb dX5_swapsBetween_65 (lv_at hl 1 rfl) ?_
        rw [hQ9]
        have hP9 := hP.sub (ws' := [(r0, .inl (cyI, 7, .inl f0)), (r1, .inl (cyI, 7, .inl f1)), (r2, .inl (cyI, 7, .inl f_4))]) [0, 1, 2] rfl
        have hD9 := hD.sub (ws' := [(r0, .inl (cyI, 7, .inl f0)), (r1, .inl (cyI, 7, .inl f1)), (r2, .inl (cyI, 7, .inl f_4))]) [0, 1, 2] (by decide) rfl
        exact W.iret (v := u_3) hx hb hr (fun t ht hW => ⟨⟨u_3, (), rfl, trivial, ⟨f_4, hf_4, by rw [ht]; exact hP9, hD9⟩⟩, hS.F ht⟩) hS.2.2 dX5_swapsBetween_67
      · have c_6 : u_2.toInt < p0.toInt := cv_nle c_6
        refine lv_aload_n hx hb dX5_swapsBetween_21 rfl (lv_at hl 5 rfl) ?_
        refine lv_iload hx hb dX5_swapsBetween_22 (lv_at hl 0 rfl) ?_
        refine va_iald hx hb hK hP 2 0 rfl rfl (vp_in_iff.mpr (by omega)) dX5_swapsBetween_24 ?_
        refine lv_topi (fun x_7 ex_7 => ?_)
        have fx_7 : 0 ≤ x_7.toInt ∧ x_7.toInt ≤ 6 := by rw [ex_7]; exact hf_4 _ (cv_ix (by omega) (by omega))
        refine lv_aload_n hx hb dX5_swapsBetween_25 rfl (lv_at hl 3 rfl) ?_
        refine lv_iload hx hb dX5_swapsBetween_26 (lv_at hl 0 rfl) ?_
        refine va_iald hx hb hK hP 1 0 rfl rfl (vp_in_iff.mpr (by omega)) dX5_swapsBetween_28 ?_
        refine lv_topi (fun x_8 ex_8 => ?_)
        have join_11 : ∀ (u_9 : Int32) (f_10 : Nat → Int32) (H : Heap) (locs : List Loc) (ls : Array Slot), rg 0 6 7 f_10 → va_P (dC, dI) vwCl [(r0, .inl (cyI, 7, .inl f0)), (r1, .inl (cyI, 7, .inl f1)), (r2, .inl (cyI, 7, .inl f_10))] H → va_D A [(r0, .inl (cyI, 7, .inl f0)), (r1, .inl (cyI, 7, .inl f1)), (r2, .inl (cyI, 7, .inl f_10))] → va_S A s.heap H locs → lv_has ls 7 [(5, .int u_2), (4, .int u_9), (0, .ref r0), (1, .ref r1), (2, .int p0), (3, .ref r2)] → W p l e ({ frames := 2, cells := 0, slots := 0, locals := 83 }) s m ([.ref r0, .ref r1, .int p0, .ref r2] : List Value).toArray below meth c H locs 0 0 Q9 (F0 m 59 ls []) := by
          intro u_9 f_10 H locs ls hf_10 hP hD hS hl
          obtain ⟨x_12, ex_12⟩ : ∃ y : Int32, y = u_2 + 1 := ⟨_, rfl⟩
          refine lv_iinc (v := x_12) (lv' := [(5, .int x_12), (4, .int u_9), (0, .ref r0), (1, .ref r1), (2, .int p0), (3, .ref r2)]) hx hb dX5_swapsBetween_59 hl (k := 0) rfl (by rw [ex_12]; rfl) (by decide) rfl (fun ls hl => ?_)
          have fx_12 : x_12.toInt = u_2.toInt + 1 := by rw [ex_12]; exact cv_addI (by have : (1 : Int32).toInt = 1 := rfl; omega) (by have : (1 : Int32).toInt = 1 := rfl; omega)
          refine lv_goto (tgt := 15) hx hb dX5_swapsBetween_62 (by decide) ?_
          exact ihkey_5 x_12 u_9 f_10 _ _ _ (by omega) hf_10 hP hD hS (lv_sub hl [0, 1, 2, 3, 4, 5] rfl) (by omega)
        refine lv_icmp_eq (tgt := 59) hx hb dX5_swapsBetween_29 (by decide) (fun c_13 => ?_) (fun c_13 => ?_)
        · have c_13 : x_7.toInt = x_8.toInt := cv_eq c_13
          exact join_11 u_3 f_4 _ _ _ hf_4 hP hD hS (lv_sub hl [0, 1, 2, 3, 4, 5] rfl)
        · have c_13 : x_7.toInt ≠ x_8.toInt := cv_ne c_13
          refine lv_aload_n hx hb dX5_swapsBetween_32 rfl (lv_at hl 5 rfl) ?_
          refine lv_iload_n hx hb dX5_swapsBetween_33 rfl (lv_at hl 4 rfl) ?_
          refine lv_aload_n hx hb dX5_swapsBetween_34 rfl (lv_at hl 3 rfl) ?_
          refine lv_iload hx hb dX5_swapsBetween_35 (lv_at hl 0 rfl) ?_
          refine va_iald hx hb hK hP 1 0 rfl rfl (vp_in_iff.mpr (by omega)) dX5_swapsBetween_37 ?_
          refine lv_topi (fun x_14 ex_14 => ?_)
          have hPc := hP.sub (ws' := [(r2, .inl (cyI, 7, .inl f_4))]) [2] rfl
          have hKc := hK.sub (tys' := [(cyI, .int), (cyB, .byte), (cyJ, .long), (cyZ, .boolean), (cyH, .object RX2), (cyN, .array .long)]) [0, 1, 2, 3, 4, 5] rfl
          refine vp_callSi (va_Run.run (va_runS (As := [.ref r2, .int p0, .int x_14]) (rest := []) ⟨hx, hb, hml, hown, hts⟩ (n_placeIn l dC dI cyI cyB cyJ cyZ cyH cyN r2 f_4 p0 x_14 (by omega)) (va_cwS 3 hts (gdS wd_3_178 wd_3_81 wd_1_19 wd_3_82) rfl rfl rfl (by decide +kernel) ⟨Nat.le_of_ble_eq_true rfl, Nat.le_of_ble_eq_true rfl⟩) ⟨fun a U g mk q => by obtain ⟨q0, qP, qK⟩ := q; exact ⟨q0, qP, va_K.moved (u := U) (U := U.calling g mk a) (Vm.Alike.refl U.vm) qK⟩, fun U hU hW => ⟨rfl, by rw [hU]; exact hPc, va_K.moved hW.alike hKc⟩⟩ rfl rfl hl.1 rfl (lv_room (Nat.le_of_ble_eq_true rfl)) dX5_swapsBetween_38 ⟨Nat.le_of_ble_eq_true rfl, Nat.le_of_ble_eq_true rfl⟩)) (fun r_15 hw => ?_)
          have hrr_15 := hw
          refine lv_istore (lv' := [(6, .int r_15), (5, .int u_2), (4, .int u_3), (0, .ref r0), (1, .ref r1), (2, .int p0), (3, .ref r2)]) hx hb dX5_swapsBetween_41 hl (by decide) rfl (fun ls hl => ?_)
          refine lv_iload hx hb dX5_swapsBetween_43 (lv_at hl 0 rfl) ?_
          have join_17 : ∀ (f_16 : Nat → Int32) (H : Heap) (locs : List Loc) (ls : Array Slot), rg 0 6 7 f_16 → va_P (dC, dI) vwCl [(r0, .inl (cyI, 7, .inl f0)), (r1, .inl (cyI, 7, .inl f1)), (r2, .inl (cyI, 7, .inl f_16))] H → va_D A [(r0, .inl (cyI, 7, .inl f0)), (r1, .inl (cyI, 7, .inl f1)), (r2, .inl (cyI, 7, .inl f_16))] → va_S A s.heap H locs → lv_has ls 7 [(6, .int r_15), (5, .int u_2), (4, .int u_3), (0, .ref r0), (1, .ref r1), (2, .int p0), (3, .ref r2)] → W p l e ({ frames := 2, cells := 0, slots := 0, locals := 83 }) s m ([.ref r0, .ref r1, .int p0, .ref r2] : List Value).toArray below meth c H locs 0 0 Q9 (F0 m 56 ls []) := by
            intro f_16 H locs ls hf_16 hP hD hS hl
            obtain ⟨x_18, ex_18⟩ : ∃ y : Int32, y = u_3 + 1 := ⟨_, rfl⟩
            refine lv_iinc (v := x_18) (lv' := [(4, .int x_18), (6, .int r_15), (5, .int u_2), (0, .ref r0), (1, .ref r1), (2, .int p0), (3, .ref r2)]) hx hb dX5_swapsBetween_56 hl (k := 2) rfl (by rw [ex_18]; rfl) (by decide) rfl (fun ls hl => ?_)
            exact join_11 x_18 f_16 _ _ _ hf_16 hP hD hS (lv_sub hl [2, 0, 3, 4, 5, 6] rfl)
          refine lv_if_lt (tgt := 56) hx hb dX5_swapsBetween_45 (by decide) (fun c_19 => ?_) (fun c_19 => ?_)
          · have c_19 : r_15.toInt < 0 := cv_lt c_19
            exact join_17 f_4 _ _ _ hf_4 hP hD hS (lv_sub hl [0, 1, 2, 3, 4, 5, 6] rfl)
          · have c_19 : 0 ≤ r_15.toInt := cv_nlt c_19
            refine lv_aload_n hx hb dX5_swapsBetween_48 rfl (lv_at hl 6 rfl) ?_
            refine lv_iload hx hb dX5_swapsBetween_49 (lv_at hl 1 rfl) ?_
            refine lv_iload hx hb dX5_swapsBetween_51 (lv_at hl 0 rfl) ?_
            have hPc := hP.sub (ws' := [(r2, .inl (cyI, 7, .inl f_4))]) [2] rfl
            have hKc := hK.sub (tys' := [(cyI, .int), (cyB, .byte), (cyJ, .long), (cyZ, .boolean), (cyH, .object RX2), (cyN, .array .long)]) [0, 1, 2, 3, 4, 5] rfl
            have hDc := hD.sub (ws' := [(r2, .inl (cyI, 7, .inl f_4))]) [2] (by decide) rfl
            have hFc := va_free (wc := [(r2, .inl (cyI, 7, .inl f_4))]) hD hS hA [2] rfl
            refine va_callv (va_runS (As := [.ref r2, .int u_2, .int r_15]) (rest := []) ⟨hx, hb, hml, hown, hts⟩ (n_exchange l dC dI cyI cyB cyJ cyZ cyH cyN H.size r2 f_4 u_2 r_15 hf_4 (by omega) (by omega)) (va_cwS 3 hts (gdS wd_3_199 wd_3_200 wd_1_19 wd_3_201) rfl rfl rfl (by decide +kernel) ⟨Nat.le_of_ble_eq_true rfl, Nat.le_of_ble_eq_true rfl⟩) ⟨fun a U g mk q => by obtain ⟨q0, q1, qP, qK, qD⟩ := q; exact ⟨q0, q1, qP, va_K.moved (u := U) (U := U.calling g mk a) (Vm.Alike.refl U.vm) qK, qD⟩, fun U hU hW => ⟨rfl, by rw [hU], by rw [hU]; exact hPc, va_K.moved hW.alike hKc, hDc.weaken (fun _ _ _ _ => trivial)⟩⟩ rfl rfl hl.1 rfl (lv_room (Nat.le_of_ble_eq_true rfl)) dX5_swapsBetween_53 ⟨Nat.le_of_ble_eq_true rfl, Nat.le_of_ble_eq_true rfl⟩) hS (fun q _ h => hFc q h) hFc (fun  u t H1 locs ht hvm hw hB hz1 hk1 hS => ?_)
            obtain ⟨y0_20, hp_21, hP1, hD1⟩ := hB
            rw [ht] at hP1
            obtain ⟨hP, hD⟩ := va_join (wr := [(r0, .inl (cyI, 7, .inl f0)), (r1, .inl (cyI, 7, .inl f1))]) (w1 := [(r2, .inl (cyI, 7, .inl y0_20))]) hP hD [2] [0, 1] rfl rfl (by decide) (by decide) hk1 hFc hP1 hD1
            generalize H1 = H at hP hS ⊢
            have hP : va_P (dC, dI) vwCl [(r0, .inl (cyI, 7, .inl f0)), (r1, .inl (cyI, 7, .inl f1)), (r2, .inl (cyI, 7, .inl y0_20))] H := hP
            have hD : va_D A [(r0, .inl (cyI, 7, .inl f0)), (r1, .inl (cyI, 7, .inl f1)), (r2, .inl (cyI, 7, .inl y0_20))] := hD
            exact join_17 y0_20 _ _ _ hp_21 hP hD hS (lv_sub hl [0, 1, 2, 3, 4, 5, 6] rfl)
  exact key_5 _ 0 0 f_1 _ _ _ (by decide) hf_1 hP hD hS (lv_sub hl [0, 1, 2, 3, 4, 5] rfl) (Nat.lt_succ_self _)

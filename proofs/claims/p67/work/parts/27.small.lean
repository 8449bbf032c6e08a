/- X1_isWon -/
set_option maxHeartbeats 4000000 in
set_option maxRecDepth 100000 in
theorem n_isWon (l : Launch) (dC : Nat → ClassId) (dI : Nat → Nat → Nat) (cyI cyB cyJ cyZ cyH cyN : ClassId) (gm0 g_won : Nat) (g_f : Nat → Int32) (h0 a_first a_now a_lawPlace a_lawOther a_lawEach a_lawFrom a_foes a_suitTable a_acts : Nat) (a_pl a_li a_le a_lc a_ac a_ng : Int32) (a_f_first a_f_now a_f_lawPlace a_f_lawOther a_f_lawEach a_f_lawFrom a_f_foes a_f_suitTable a_f_acts : Nat → Int32) (p0 p1 : Int32) (g0 : rg 0 6 7 a_f_first) (g1 : rg 0 6 7 a_f_now) (g2 : rg 0 6 6 a_f_lawPlace) (g3 : rg 0 6 6 a_f_lawOther) (g4 : ra 40 a_f_acts) (g5 : 0 ≤ a_pl.toInt ∧ a_pl.toInt ≤ 7) (g6 : 0 ≤ a_lc.toInt ∧ a_lc.toInt ≤ 6) (g7 : 0 ≤ a_ac.toInt ∧ a_ac.toInt ≤ 40) (g8 : 0 ≤ p0.toInt ∧ p0.toInt ≤ 127) : Met l yX1_isWon (wk yX1_isWon cX1_isWon 3 (some .boolean)) ({ frames := 1, cells := 0, slots := 0, locals := 60 }) (va_Pc [.ref gm0, .int p0, .int p1] (fun U => va_P (dC, dI) vwCl [(gm0, .inr (1, [.ref g_won, .ref h0])), (g_won, .inl (cyI, 128, .inl g_f)), (h0, .inr (2, [.int a_pl, .int a_li, .int a_le, .int a_lc, .int a_ac, .int a_ng, .ref a_first, .ref a_now, .ref a_lawPlace, .ref a_lawOther, .ref a_lawEach, .ref a_lawFrom, .ref a_foes, .ref a_suitTable, .ref a_acts])), (a_first, .inl (cyI, 7, .inl a_f_first)), (a_now, .inl (cyI, 7, .inl a_f_now)), (a_lawPlace, .inl (cyI, 6, .inl a_f_lawPlace)), (a_lawOther, .inl (cyI, 6, .inl a_f_lawOther)), (a_lawEach, .inl (cyI, 6, .inl a_f_lawEach)), (a_lawFrom, .inl (cyI, 6, .inl a_f_lawFrom)), (a_foes, .inl (cyI, 7, .inl a_f_foes)), (a_suitTable, .inl (cyI, 49, .inl a_f_suitTable)), (a_acts, .inl (cyI, 40, .inl a_f_acts))] U.heap ∧ va_K (dC, dI) vwCl [(cyI, .int), (cyB, .byte), (cyJ, .long), (cyZ, .boolean), (cyH, .object RX2), (cyN, .array .long)] U)) (vp_Si (fun r : Int32 => 0 ≤ r.toInt ∧ r.toInt ≤ 1)) 0 0 (fun _ => False) := by
  refine Met.ofW (cc := cX1_isWon) (maxL := 3) (ret := (some .boolean)) (by decide) rfl ?_
  intro p e s m args below meth c s₁ B hml hv
  obtain ⟨rfl, hP, hK⟩ := hv
  have hx := B.exec
  have hb := B.bytes
  have hr := B.returns
  have hts : ∀ w ∈ uU, w.before ([.ref gm0, .int p0, .int p1] : List Value).toArray s = true := fun w h => atoms_spec (ws := wk yX1_isWon cX1_isWon 3 (some .boolean)) B.pre w (List.mem_cons_of_mem _ h)
  have hown : s.vm.findClass RX1 = some m.cls := findClass_of_methodNamed B.named
  have hlocks := B.notSynchronized
  have hl := lv_entry ([.ref gm0, .int p0, .int p1]) (n := 3) (Nat.le_of_ble_eq_true rfl)
  rw [lg_entry_eq]
  generalize (lg_sl ([.ref gm0, .int p0, .int p1]) ++ List.replicate (3 - (lg_sl ([.ref gm0, .int p0, .int p1])).length) Slot.unset).toArray = ls at hl ⊢
  have hl : lv_has ls 3 [(0, .ref gm0), (1, .int p0), (2, .int p1)] := hl
  obtain ⟨Q9, hQ9⟩ : ∃ Q9 : State → Prop, Q9 = MQ below (vp_Si (fun r : Int32 => 0 ≤ r.toInt ∧ r.toInt ≤ 1)) ([.ref gm0, .int p0, .int p1] : List Value).toArray s 0 0 (fun _ => False) := ⟨_, rfl⟩
  rw [← hQ9]
  refine lv_aload_n hx hb dX1_isWon_0 rfl (lv_at hl 0 rfl) ?_
  refine va_get (D := (dC, dI)) (ci := 1) (v := .ref g_won) (C := RX1) (T := TX1) (N := 2) hx hb hts uinX1 hown hK hP 0 rfl rfl 0 (by decide) (hts _ wd_2_40) (fun _ h9 => h9) rfl dX1_isWon_1 ?_
  refine lv_iload_n hx hb dX1_isWon_4 rfl (lv_at hl 1 rfl) ?_
  refine va_iald hx hb hK hP 1 0 rfl rfl (vp_in_iff.mpr (by omega)) dX1_isWon_5 ?_
  refine lv_topi (fun x_1 ex_1 => ?_)
  refine lv_iload_n hx hb dX1_isWon_6 rfl (lv_at hl 2 rfl) ?_
  refine lv_ishr hx hb dX1_isWon_7 ?_
  refine lv_topi (fun x_2 ex_2 => ?_)
  refine lv_iconst (v := 1) hx hb dX1_isWon_8 (by decide) ?_
  refine lv_iand hx hb dX1_isWon_9 ?_
  refine lv_topi (fun x_3 ex_3 => ?_)
  have fx_3 : 0 ≤ x_3.toInt ∧ x_3.toInt ≤ 1 := by rw [ex_3]; exact cv_andR (by decide) (by decide)
  have join_5 : ∀ (u_4 : Int32) (ls : Array Slot), (0 ≤ u_4.toInt ∧ u_4.toInt ≤ 1) → lv_has ls 3 [(0, .ref gm0), (1, .int p0), (2, .int p1)] → W p l e ({ frames := 1, cells := 0, slots := 0, locals := 60 }) s m ([.ref gm0, .int p0, .int p1] : List Value).toArray below meth c s.heap [] 0 0 Q9 (F0 m 18 ls [.int u_4]) := by
    intro u_4 ls hu_4 hl
    rw [hQ9]
    exact W.zret (v := u_4) (ty := .boolean) hx hb hr (cv_nz (by omega) (by omega)) (fun t ht hW => ⟨u_4, rfl, (by omega), ht⟩) (fun q h => by cases h) dX1_isWon_18
  refine lv_if_eq (tgt := 17) hx hb dX1_isWon_10 (by decide) (fun c_6 => ?_) (fun c_6 => ?_)
  · have c_6 : x_3.toInt = 0 := cv_eq c_6
    refine lv_iconst (v := 0) hx hb dX1_isWon_17 (by decide) ?_
    exact join_5 0 _ (by decide) (lv_sub hl [0, 1, 2] rfl)
  · have c_6 : x_3.toInt ≠ 0 := cv_ne c_6
    refine lv_iconst (v := 1) hx hb dX1_isWon_13 (by decide) ?_
    refine lv_goto (tgt := 18) hx hb dX1_isWon_14 (by decide) ?_
    exact join_5 1 _ (by decide) (lv_sub hl [0, 1, 2] rfl)

/- X1_leastWinning -/
set_option maxHeartbeats 4000000 in
set_option maxRecDepth 100000 in
theorem n_leastWinning (l : Launch) (dC : Nat → ClassId) (dI : Nat → Nat → Nat) (cyI cyB cyJ cyZ cyH cyN : ClassId) (gm0 g_won : Nat) (g_f : Nat → Int32) (h0 a_first a_now a_lawPlace a_lawOther a_lawEach a_lawFrom a_foes a_suitTable a_acts : Nat) (a_pl a_li a_le a_lc a_ac a_ng : Int32) (a_f_first a_f_now a_f_lawPlace a_f_lawOther a_f_lawEach a_f_lawFrom a_f_foes a_f_suitTable a_f_acts : Nat → Int32) (p0 p1 : Int32) (g0 : rg 0 6 7 a_f_first) (g1 : rg 0 6 7 a_f_now) (g2 : rg 0 6 6 a_f_lawPlace) (g3 : rg 0 6 6 a_f_lawOther) (g4 : ra 40 a_f_acts) (g5 : 0 ≤ a_pl.toInt ∧ a_pl.toInt ≤ 7) (g6 : 0 ≤ a_lc.toInt ∧ a_lc.toInt ≤ 6) (g7 : 0 ≤ a_ac.toInt ∧ a_ac.toInt ≤ 40) (g8 : 0 ≤ p0.toInt ∧ p0.toInt ≤ 127) (g9 : 0 ≤ p1.toInt ∧ p1.toInt ≤ 6) : Met l yX1_leastWinning (wk yX1_leastWinning cX1_leastWinning 5 (some .int)) ({ frames := 2, cells := 0, slots := 0, locals := 82 }) (va_Pc [.ref gm0, .int p0, .int p1] (fun U => va_P (dC, dI) vwCl [(gm0, .inr (1, [.ref g_won, .ref h0])), (g_won, .inl (cyI, 128, .inl g_f)), (h0, .inr (2, [.int a_pl, .int a_li, .int a_le, .int a_lc, .int a_ac, .int a_ng, .ref a_first, .ref a_now, .ref a_lawPlace, .ref a_lawOther, .ref a_lawEach, .ref a_lawFrom, .ref a_foes, .ref a_suitTable, .ref a_acts])), (a_first, .inl (cyI, 7, .inl a_f_first)), (a_now, .inl (cyI, 7, .inl a_f_now)), (a_lawPlace, .inl (cyI, 6, .inl a_f_lawPlace)), (a_lawOther, .inl (cyI, 6, .inl a_f_lawOther)), (a_lawEach, .inl (cyI, 6, .inl a_f_lawEach)), (a_lawFrom, .inl (cyI, 6, .inl a_f_lawFrom)), (a_foes, .inl (cyI, 7, .inl a_f_foes)), (a_suitTable, .inl (cyI, 49, .inl a_f_suitTable)), (a_acts, .inl (cyI, 40, .inl a_f_acts))] U.heap ∧ va_K (dC, dI) vwCl [(cyI, .int), (cyB, .byte), (cyJ, .long), (cyZ, .boolean), (cyH, .object RX2), (cyN, .array .long)] U)) (vp_Si (fun r : Int32 => (-1) ≤ r.toInt ∧ r.toInt ≤ 6)) 0 0 (fun _ => False) := by
  refine Met.ofW (cc := cX1_leastWinning) (maxL := 5) (ret := (some .int)) (by decide) rfl ?_
  intro p e s m args below meth c s₁ B hml hv
  obtain ⟨rfl, hP, hK⟩ := hv
  have hx := B.exec
  have hb := B.bytes
  have hr := B.returns
  have hts : ∀ w ∈ uU, w.before ([.ref gm0, .int p0, .int p1] : List Value).toArray s = true := fun w h => atoms_spec (ws := wk yX1_leastWinning cX1_leastWinning 5 (some .int)) B.pre w (List.mem_cons_of_mem _ h)
  have hown : s.vm.findClass RX1 = some m.cls := findClass_of_methodNamed B.named
  have hlocks := B.notSynchronized
  have hl := lv_entry ([.ref gm0, .int p0, .int p1]) (n := 5) (Nat.le_of_ble_eq_true rfl)
  rw [lg_entry_eq]
  generalize (lg_sl ([.ref gm0, .int p0, .int p1]) ++ List.replicate (5 - (lg_sl ([.ref gm0, .int p0, .int p1])).length) Slot.unset).toArray = ls at hl ⊢
  have hl : lv_has ls 5 [(0, .ref gm0), (1, .int p0), (2, .int p1)] := hl
  obtain ⟨Q9, hQ9⟩ : ∃ Q9 : State → Prop, Q9 = MQ below (vp_Si (fun r : Int32 => (-1) ≤ r.toInt ∧ r.toInt ≤ 6)) ([.ref gm0, .int p0, .int p1] : List Value).toArray s 0 0 (fun _ => False) := ⟨_, rfl⟩
  rw [← hQ9]
  refine lv_aload_n hx hb dX1_leastWinning_0 rfl (lv_at hl 0 rfl) ?_
  refine va_get (D := (dC, dI)) (ci := 1) (v := .ref h0) (C := RX1) (T := TX1) (N := 2) hx hb hts uinX1 hown hK hP 0 rfl rfl 1 (by decide) (hts _ wd_2_41) (fun _ h9 => h9) rfl dX1_leastWinning_1 ?_
  refine lv_ifnonnull (tgt := 9) hx hb dX1_leastWinning_4 (by decide) ?_
  refine lv_iconst (v := 0) hx hb dX1_leastWinning_9 (by decide) ?_
  refine lv_istore_n (lv' := [(3, .int 0), (0, .ref gm0), (1, .int p0), (2, .int p1)]) hx hb dX1_leastWinning_10 rfl hl (by decide) rfl (fun ls hl => ?_)
  have key_2 : ∀ (nkey_2 : Nat) (u_1 : Int32) (ls : Array Slot), (0 ≤ u_1.toInt ∧ u_1.toInt ≤ 7) → lv_has ls 5 [(3, .int u_1), (0, .ref gm0), (1, .int p0), (2, .int p1)] → (a_pl.toInt - u_1.toInt).toNat < nkey_2 → W p l e ({ frames := 2, cells := 0, slots := 0, locals := 82 }) s m ([.ref gm0, .int p0, .int p1] : List Value).toArray below meth c s.heap [] 0 0 Q9 (F0 m 11 ls []) := by
    intro nkey_2
    induction nkey_2 with
    | zero => intro u_1 ls hu_1 hl hnkey_2; exact absurd hnkey_2 (Nat.not_lt_zero _)
    | succ nkey_2 ihkey_2 =>
      intro u_1 ls hu_1 hl hnkey_2
      refine lv_iload_n hx hb dX1_leastWinning_11 rfl (lv_at hl 0 rfl) ?_
      refine lv_aload_n hx hb dX1_leastWinning_12 rfl (lv_at hl 1 rfl) ?_
      refine va_get (D := (dC, dI)) (ci := 1) (v := .ref h0) (C := RX1) (T := TX1) (N := 2) hx hb hts uinX1 hown hK hP 0 rfl rfl 1 (by decide) (hts _ wd_2_41) (fun _ h9 => h9) rfl dX1_leastWinning_13 ?_
      refine va_get (D := (dC, dI)) (ci := 2) (v := .int a_pl) (C := RX2) (T := TX2) (N := 15) hx hb hts uinX2 hown hK hP 2 rfl rfl 0 (by decide) (hts _ wd_1_81) (fun _ h9 => h9) rfl dX1_leastWinning_16 ?_
      refine lv_icmp_ge (tgt := 75) hx hb dX1_leastWinning_19 (by decide) (fun c_3 => ?_) (fun c_3 => ?_)
      · have c_3 : a_pl.toInt ≤ u_1.toInt := cv_le c_3
        refine lv_iconst (v := (-1)) hx hb dX1_leastWinning_75 (by decide) ?_
        rw [hQ9]
        exact W.iret (v := (-1)) hx hb hr (fun t ht hW => ⟨(-1), rfl, (by decide), ht⟩) (fun q h => by cases h) dX1_leastWinning_76
      · have c_3 : u_1.toInt < a_pl.toInt := cv_nle c_3
        refine lv_iload_n hx hb dX1_leastWinning_22 rfl (lv_at hl 2 rfl) ?_
        refine lv_iload_n hx hb dX1_leastWinning_23 rfl (lv_at hl 0 rfl) ?_
        refine lv_ishr hx hb dX1_leastWinning_24 ?_
        refine lv_topi (fun x_4 ex_4 => ?_)
        have fx_4 : 0 ≤ x_4.toInt ∧ x_4.toInt ≤ p0.toInt := by rw [ex_4]; exact cv_shr (by omega)
        refine lv_iconst (v := 1) hx hb dX1_leastWinning_25 (by decide) ?_
        refine lv_iand hx hb dX1_leastWinning_26 ?_
        refine lv_topi (fun x_5 ex_5 => ?_)
        have fx_5 : 0 ≤ x_5.toInt ∧ x_5.toInt ≤ 1 := by rw [ex_5]; exact cv_andR (by decide) (by decide)
        have join_7 : ∀ (u_6 : Int32) (ls : Array Slot), (0 ≤ u_6.toInt ∧ u_6.toInt ≤ 1) → lv_has ls 5 [(3, .int u_1), (0, .ref gm0), (1, .int p0), (2, .int p1)] → W p l e ({ frames := 2, cells := 0, slots := 0, locals := 82 }) s m ([.ref gm0, .int p0, .int p1] : List Value).toArray below meth c s.heap [] 0 0 Q9 (F0 m 35 ls [.int u_6]) := by
          intro u_6 ls hu_6 hl
          refine lv_istore (lv' := [(4, .int u_6), (3, .int u_1), (0, .ref gm0), (1, .int p0), (2, .int p1)]) hx hb dX1_leastWinning_35 hl (by decide) rfl (fun ls hl => ?_)
          refine lv_iload hx hb dX1_leastWinning_37 (lv_at hl 0 rfl) ?_
          refine lv_if_eq (tgt := 69) hx hb dX1_leastWinning_39 (by decide) (fun c_8 => ?_) (fun c_8 => ?_)
          · have c_8 : u_6.toInt = 0 := cv_eq c_8
            obtain ⟨x_9, ex_9⟩ : ∃ y : Int32, y = u_1 + 1 := ⟨_, rfl⟩
            refine lv_iinc (v := x_9) (lv' := [(3, .int x_9), (4, .int u_6), (0, .ref gm0), (1, .int p0), (2, .int p1)]) hx hb dX1_leastWinning_69 hl (k := 1) rfl (by rw [ex_9]; rfl) (by decide) rfl (fun ls hl => ?_)
            have fx_9 : x_9.toInt = u_1.toInt + 1 := by rw [ex_9]; exact cv_addI (by have : (1 : Int32).toInt = 1 := rfl; omega) (by have : (1 : Int32).toInt = 1 := rfl; omega)
            refine lv_goto (tgt := 11) hx hb dX1_leastWinning_72 (by decide) ?_
            exact ihkey_2 x_9 _ (by omega) (lv_sub hl [0, 2, 3, 4] rfl) (by omega)
          · have c_8 : u_6.toInt ≠ 0 := cv_ne c_8
            refine lv_aload_n hx hb dX1_leastWinning_42 rfl (lv_at hl 2 rfl) ?_
            refine va_get (D := (dC, dI)) (ci := 1) (v := .ref h0) (C := RX1) (T := TX1) (N := 2) hx hb hts uinX1 hown hK hP 0 rfl rfl 1 (by decide) (hts _ wd_2_41) (fun _ h9 => h9) rfl dX1_leastWinning_43 ?_
            refine lv_iload_n hx hb dX1_leastWinning_46 rfl (lv_at hl 4 rfl) ?_
            refine lv_iload_n hx hb dX1_leastWinning_47 rfl (lv_at hl 1 rfl) ?_
            have hPc := hP.sub (ws' := [(h0, .inr (2, [.int a_pl, .int a_li, .int a_le, .int a_lc, .int a_ac, .int a_ng, .ref a_first, .ref a_now, .ref a_lawPlace, .ref a_lawOther, .ref a_lawEach, .ref a_lawFrom, .ref a_foes, .ref a_suitTable, .ref a_acts])), (a_first, .inl (cyI, 7, .inl a_f_first)), (a_now, .inl (cyI, 7, .inl a_f_now)), (a_lawPlace, .inl (cyI, 6, .inl a_f_lawPlace)), (a_lawOther, .inl (cyI, 6, .inl a_f_lawOther)), (a_lawEach, .inl (cyI, 6, .inl a_f_lawEach)), (a_lawFrom, .inl (cyI, 6, .inl a_f_lawFrom)), (a_foes, .inl (cyI, 7, .inl a_f_foes)), (a_suitTable, .inl (cyI, 49, .inl a_f_suitTable)), (a_acts, .inl (cyI, 40, .inl a_f_acts))]) [2, 3, 4, 5, 6, 7, 8, 9, 10, 11] rfl
            have hKc := hK.sub (tys' := [(cyI, .int), (cyB, .byte), (cyJ, .long), (cyZ, .boolean), (cyH, .object RX2), (cyN, .array .long)]) [0, 1, 2, 3, 4, 5] rfl
            refine vp_callSi (va_Run.run (va_runV (As := [.int p1, .int u_1]) (rest := []) ⟨hx, hb, hml, hown, hts⟩ (n_canLeap l dC dI cyI cyB cyJ cyZ cyH cyN h0 a_first a_now a_lawPlace a_lawOther a_lawEach a_lawFrom a_foes a_suitTable a_acts a_pl a_li a_le a_lc a_ac a_ng a_f_first a_f_now a_f_lawPlace a_f_lawOther a_f_lawEach a_f_lawFrom a_f_foes a_f_suitTable a_f_acts p1 u_1 g0 g1 g2 g3 g4 (by omega) (by omega) (by omega) (by omega) (by omega)) (cwV 2 hts (gdV wd_5_111 wd_5_112 wd_5_113 wd_1_3 wd_5_114) rfl rfl rfl (by decide +kernel) ⟨Nat.le_of_ble_eq_true rfl, Nat.le_of_ble_eq_true rfl⟩) ⟨fun a U g mk q => by obtain ⟨q0, qP, qK⟩ := q; exact ⟨q0, qP, va_K.moved (u := U) (U := U.calling g mk a) (Vm.Alike.refl U.vm) qK⟩, va_recv hKc hPc (ci := 2) (q0 := 0) rfl rfl, fun U hU hW => ⟨rfl, by rw [hU]; exact hPc, va_K.moved hW.alike hKc⟩⟩ rfl rfl hl.1 rfl (lv_room (Nat.le_of_ble_eq_true rfl)) dX1_leastWinning_48 ⟨Nat.le_of_ble_eq_true rfl, Nat.le_of_ble_eq_true rfl⟩)) (fun r_10 hw => ?_)
            have hrr_10 := hw
            refine lv_if_eq (tgt := 69) hx hb dX1_leastWinning_51 (by decide) (fun c_11 => ?_) (fun c_11 => ?_)
            · have c_11 : r_10.toInt = 0 := cv_eq c_11
              obtain ⟨x_12, ex_12⟩ : ∃ y : Int32, y = u_1 + 1 := ⟨_, rfl⟩
              refine lv_iinc (v := x_12) (lv' := [(3, .int x_12), (4, .int u_6), (0, .ref gm0), (1, .int p0), (2, .int p1)]) hx hb dX1_leastWinning_69 hl (k := 1) rfl (by rw [ex_12]; rfl) (by decide) rfl (fun ls hl => ?_)
              have fx_12 : x_12.toInt = u_1.toInt + 1 := by rw [ex_12]; exact cv_addI (by have : (1 : Int32).toInt = 1 := rfl; omega) (by have : (1 : Int32).toInt = 1 := rfl; omega)
              refine lv_goto (tgt := 11) hx hb dX1_leastWinning_72 (by decide) ?_
              exact ihkey_2 x_12 _ (by omega) (lv_sub hl [0, 2, 3, 4] rfl) (by omega)
            · have c_11 : r_10.toInt ≠ 0 := cv_ne c_11
              refine lv_aload_n hx hb dX1_leastWinning_54 rfl (lv_at hl 2 rfl) ?_
              refine lv_iload_n hx hb dX1_leastWinning_55 rfl (lv_at hl 3 rfl) ?_
              refine lv_iconst (v := 1) hx hb dX1_leastWinning_56 (by decide) ?_
              refine lv_iload_n hx hb dX1_leastWinning_57 rfl (lv_at hl 1 rfl) ?_
              refine lv_ishl hx hb dX1_leastWinning_58 ?_
              refine lv_topi (fun x_13 ex_13 => ?_)
              have fx_13 : 1 ≤ x_13.toInt ∧ x_13.toInt ≤ 64 := by rw [ex_13]; have q := cv_shl1 (y := u_1) 0 6 (by decide) (by decide) (by omega) (by omega); omega
              refine lv_ior hx hb dX1_leastWinning_59 ?_
              refine lv_topi (fun x_14 ex_14 => ?_)
              have fx_14 : 0 ≤ x_14.toInt ∧ x_14.toInt ≤ 127 := by rw [ex_14]; have q := cv_or (x := p0) (y := x_13) 7 (by decide) (by omega) (by omega) (by omega) (by omega); omega
              refine lv_iload_n hx hb dX1_leastWinning_60 rfl (lv_at hl 1 rfl) ?_
              have hPc := hP.sub (ws' := [(gm0, .inr (1, [.ref g_won, .ref h0])), (g_won, .inl (cyI, 128, .inl g_f)), (h0, .inr (2, [.int a_pl, .int a_li, .int a_le, .int a_lc, .int a_ac, .int a_ng, .ref a_first, .ref a_now, .ref a_lawPlace, .ref a_lawOther, .ref a_lawEach, .ref a_lawFrom, .ref a_foes, .ref a_suitTable, .ref a_acts])), (a_first, .inl (cyI, 7, .inl a_f_first)), (a_now, .inl (cyI, 7, .inl a_f_now)), (a_lawPlace, .inl (cyI, 6, .inl a_f_lawPlace)), (a_lawOther, .inl (cyI, 6, .inl a_f_lawOther)), (a_lawEach, .inl (cyI, 6, .inl a_f_lawEach)), (a_lawFrom, .inl (cyI, 6, .inl a_f_lawFrom)), (a_foes, .inl (cyI, 7, .inl a_f_foes)), (a_suitTable, .inl (cyI, 49, .inl a_f_suitTable)), (a_acts, .inl (cyI, 40, .inl a_f_acts))]) [0, 1, 2, 3, 4, 5, 6, 7, 8, 9, 10, 11] rfl
              have hKc := hK.sub (tys' := [(cyI, .int), (cyB, .byte), (cyJ, .long), (cyZ, .boolean), (cyH, .object RX2), (cyN, .array .long)]) [0, 1, 2, 3, 4, 5] rfl
              refine vp_callSi (va_Run.run (va_runV (As := [.int x_14, .int u_1]) (rest := []) ⟨hx, hb, hml, hown, hts⟩ (n_isWon l dC dI cyI cyB cyJ cyZ cyH cyN gm0 g_won g_f h0 a_first a_now a_lawPlace a_lawOther a_lawEach a_lawFrom a_foes a_suitTable a_acts a_pl a_li a_le a_lc a_ac a_ng a_f_first a_f_now a_f_lawPlace a_f_lawOther a_f_lawEach a_f_lawFrom a_f_foes a_f_suitTable a_f_acts x_14 u_1 g0 g1 g2 g3 g4 (by omega) (by omega) (by omega) (by omega)) (cwV 2 hts (gdV wd_5_116 wd_5_117 wd_5_118 wd_1_9 wd_5_119) rfl rfl rfl (by decide +kernel) ⟨Nat.le_of_ble_eq_true rfl, Nat.le_of_ble_eq_true rfl⟩) ⟨fun a U g mk q => by obtain ⟨q0, qP, qK⟩ := q; exact ⟨q0, qP, va_K.moved (u := U) (U := U.calling g mk a) (Vm.Alike.refl U.vm) qK⟩, va_recv hKc hPc (ci := 1) (q0 := 0) rfl rfl, fun U hU hW => ⟨rfl, by rw [hU]; exact hPc, va_K.moved hW.alike hKc⟩⟩ rfl rfl hl.1 rfl (lv_room (Nat.le_of_ble_eq_true rfl)) dX1_leastWinning_61 ⟨Nat.le_of_ble_eq_true rfl, Nat.le_of_ble_eq_true rfl⟩)) (fun r_15 hw => ?_)
              have hrr_15 := hw
              refine lv_if_ne (tgt := 69) hx hb dX1_leastWinning_64 (by decide) (fun c_16 => ?_) (fun c_16 => ?_)
              · have c_16 : r_15.toInt ≠ 0 := cv_ne c_16
                obtain ⟨x_17, ex_17⟩ : ∃ y : Int32, y = u_1 + 1 := ⟨_, rfl⟩
                refine lv_iinc (v := x_17) (lv' := [(3, .int x_17), (4, .int u_6), (0, .ref gm0), (1, .int p0), (2, .int p1)]) hx hb dX1_leastWinning_69 hl (k := 1) rfl (by rw [ex_17]; rfl) (by decide) rfl (fun ls hl => ?_)
                have fx_17 : x_17.toInt = u_1.toInt + 1 := by rw [ex_17]; exact cv_addI (by have : (1 : Int32).toInt = 1 := rfl; omega) (by have : (1 : Int32).toInt = 1 := rfl; omega)
                refine lv_goto (tgt := 11) hx hb dX1_leastWinning_72 (by decide) ?_
                exact ihkey_2 x_17 _ (by omega) (lv_sub hl [0, 2, 3, 4] rfl) (by omega)
              · have c_16 : r_15.toInt = 0 := cv_eq c_16
                refine lv_iload_n hx hb dX1_leastWinning_67 rfl (lv_at hl 1 rfl) ?_
                rw [hQ9]
                exact W.iret (v := u_1) hx hb hr (fun t ht hW => ⟨u_1, rfl, (by omega), ht⟩) (fun q h => by cases h) dX1_leastWinning_68
        refine lv_if_ne (tgt := 34) hx hb dX1_leastWinning_27 (by decide) (fun c_18 => ?_) (fun c_18 => ?_)
        · have c_18 : x_5.toInt ≠ 0 := cv_ne c_18
          refine lv_iconst (v := 0) hx hb dX1_leastWinning_34 (by decide) ?_
          exact join_7 0 _ (by decide) (lv_sub hl [0, 1, 2, 3] rfl)
        · have c_18 : x_5.toInt = 0 := cv_eq c_18
          refine lv_iconst (v := 1) hx hb dX1_leastWinning_30 (by decide) ?_
          refine lv_goto (tgt := 35) hx hb dX1_leastWinning_31 (by decide) ?_
          exact join_7 1 _ (by decide) (lv_sub hl [0, 1, 2, 3] rfl)
  exact key_2 _ 0 _ (by decide) (lv_sub hl [0, 1, 2, 3] rfl) (Nat.lt_succ_self _)

/- X1_bestLead -/
set_option maxHeartbeats 4000000 in
set_option maxRecDepth 100000 in
theorem n_bestLead (l : Launch) (dC : Nat → ClassId) (dI : Nat → Nat → Nat) (cyI cyB cyJ cyZ cyH cyN : ClassId) (gm0 g_won : Nat) (g_f : Nat → Int32) (h0 a_first a_now a_lawPlace a_lawOther a_lawEach a_lawFrom a_foes a_suitTable a_acts : Nat) (a_pl a_li a_le a_lc a_ac a_ng : Int32) (a_f_first a_f_now a_f_lawPlace a_f_lawOther a_f_lawEach a_f_lawFrom a_f_foes a_f_suitTable a_f_acts : Nat → Int32) (p0 : Int32) (g0 : rg 0 6 7 a_f_first) (g1 : rg 0 6 7 a_f_now) (g2 : rg 0 6 6 a_f_lawPlace) (g3 : rg 0 6 6 a_f_lawOther) (g4 : ra 40 a_f_acts) (g5 : 0 ≤ a_pl.toInt ∧ a_pl.toInt ≤ 7) (g6 : 0 ≤ a_lc.toInt ∧ a_lc.toInt ≤ 6) (g7 : 0 ≤ a_ac.toInt ∧ a_ac.toInt ≤ 40) (g8 : 0 ≤ p0.toInt ∧ p0.toInt ≤ 6) : Met l yX1_bestLead (wk yX1_bestLead cX1_bestLead 2 (some .int)) ({ frames := 3, cells := 0, slots := 0, locals := 106 }) (va_Pc [.ref gm0, .int p0] (fun U => va_P (dC, dI) vwCl [(gm0, .inr (1, [.ref g_won, .ref h0])), (g_won, .inl (cyI, 128, .inl g_f)), (h0, .inr (2, [.int a_pl, .int a_li, .int a_le, .int a_lc, .int a_ac, .int a_ng, .ref a_first, .ref a_now, .ref a_lawPlace, .ref a_lawOther, .ref a_lawEach, .ref a_lawFrom, .ref a_foes, .ref a_suitTable, .ref a_acts])), (a_first, .inl (cyI, 7, .inl a_f_first)), (a_now, .inl (cyI, 7, .inl a_f_now)), (a_lawPlace, .inl (cyI, 6, .inl a_f_lawPlace)), (a_lawOther, .inl (cyI, 6, .inl a_f_lawOther)), (a_lawEach, .inl (cyI, 6, .inl a_f_lawEach)), (a_lawFrom, .inl (cyI, 6, .inl a_f_lawFrom)), (a_foes, .inl (cyI, 7, .inl a_f_foes)), (a_suitTable, .inl (cyI, 49, .inl a_f_suitTable)), (a_acts, .inl (cyI, 40, .inl a_f_acts))] U.heap ∧ va_K (dC, dI) vwCl [(cyI, .int), (cyB, .byte), (cyJ, .long), (cyZ, .boolean), (cyH, .object RX2), (cyN, .array .long)] U)) (vp_Si (fun r : Int32 => True)) 0 0 (fun _ => False) := by
  refine Met.ofW (cc := cX1_bestLead) (maxL := 2) (ret := (some .int)) (by decide) rfl ?_
  intro p e s m args below meth c s₁ B hml hv
  obtain ⟨rfl, hP, hK⟩ := hv
  have hx := B.exec
  have hb := B.bytes
  have hr := B.returns
  have hts : ∀ w ∈ uU, w.before ([.ref gm0, .int p0] : List Value).toArray s = true := fun w h => atoms_spec (ws := wk yX1_bestLead cX1_bestLead 2 (some .int)) B.pre w (List.mem_cons_of_mem _ h)
  have hown : s.vm.findClass RX1 = some m.cls := findClass_of_methodNamed B.named
  have hlocks := B.notSynchronized
  have hl := lv_entry ([.ref gm0, .int p0]) (n := 2) (Nat.le_of_ble_eq_true rfl)
  rw [lg_entry_eq]
  generalize (lg_sl ([.ref gm0, .int p0]) ++ List.replicate (2 - (lg_sl ([.ref gm0, .int p0])).length) Slot.unset).toArray = ls at hl ⊢
  have hl : lv_has ls 2 [(0, .ref gm0), (1, .int p0)] := hl
  obtain ⟨Q9, hQ9⟩ : ∃ Q9 : State → Prop, Q9 = MQ below (vp_Si (fun r : Int32 => True)) ([.ref gm0, .int p0] : List Value).toArray s 0 0 (fun _ => False) := ⟨_, rfl⟩
  rw [← hQ9]
  refine lv_aload_n hx hb dX1_bestLead_0 rfl (lv_at hl 0 rfl) ?_
  refine lv_iconst (v := 1) hx hb dX1_bestLead_1 (by decide) ?_
  refine lv_iload_n hx hb dX1_bestLead_2 rfl (lv_at hl 1 rfl) ?_
  refine lv_ishl hx hb dX1_bestLead_3 ?_
  refine lv_topi (fun x_1 ex_1 => ?_)
  have fx_1 : 1 ≤ x_1.toInt ∧ x_1.toInt ≤ 64 := by rw [ex_1]; have q := cv_shl1 (y := p0) 0 6 (by decide) (by decide) (by omega) (by omega); omega
  refine lv_iload_n hx hb dX1_bestLead_4 rfl (lv_at hl 1 rfl) ?_
  have hPc := hP.sub (ws' := [(gm0, .inr (1, [.ref g_won, .ref h0])), (g_won, .inl (cyI, 128, .inl g_f)), (h0, .inr (2, [.int a_pl, .int a_li, .int a_le, .int a_lc, .int a_ac, .int a_ng, .ref a_first, .ref a_now, .ref a_lawPlace, .ref a_lawOther, .ref a_lawEach, .ref a_lawFrom, .ref a_foes, .ref a_suitTable, .ref a_acts])), (a_first, .inl (cyI, 7, .inl a_f_first)), (a_now, .inl (cyI, 7, .inl a_f_now)), (a_lawPlace, .inl (cyI, 6, .inl a_f_lawPlace)), (a_lawOther, .inl (cyI, 6, .inl a_f_lawOther)), (a_lawEach, .inl (cyI, 6, .inl a_f_lawEach)), (a_lawFrom, .inl (cyI, 6, .inl a_f_lawFrom)), (a_foes, .inl (cyI, 7, .inl a_f_foes)), (a_suitTable, .inl (cyI, 49, .inl a_f_suitTable)), (a_acts, .inl (cyI, 40, .inl a_f_acts))]) [0, 1, 2, 3, 4, 5, 6, 7, 8, 9, 10, 11] rfl
  have hKc := hK.sub (tys' := [(cyI, .int), (cyB, .byte), (cyJ, .long), (cyZ, .boolean), (cyH, .object RX2), (cyN, .array .long)]) [0, 1, 2, 3, 4, 5] rfl
  refine vp_callSi (va_Run.run (va_runV (As := [.int x_1, .int p0]) (rest := []) ⟨hx, hb, hml, hown, hts⟩ (n_leastWinning l dC dI cyI cyB cyJ cyZ cyH cyN gm0 g_won g_f h0 a_first a_now a_lawPlace a_lawOther a_lawEach a_lawFrom a_foes a_suitTable a_acts a_pl a_li a_le a_lc a_ac a_ng a_f_first a_f_now a_f_lawPlace a_f_lawOther a_f_lawEach a_f_lawFrom a_f_foes a_f_suitTable a_f_acts x_1 p0 g0 g1 g2 g3 g4 (by omega) (by omega) (by omega) (by omega) (by omega)) (cwV 2 hts (gdV wd_5_107 wd_5_109 wd_s3_4 wd_1_9 wd_5_110) rfl rfl rfl (by decide +kernel) ⟨Nat.le_of_ble_eq_true rfl, Nat.le_of_ble_eq_true rfl⟩) ⟨fun a U g mk q => by obtain ⟨q0, qP, qK⟩ := q; exact ⟨q0, qP, va_K.moved (u := U) (U := U.calling g mk a) (Vm.Alike.refl U.vm) qK⟩, va_recv hKc hPc (ci := 1) (q0 := 0) rfl rfl, fun U hU hW => ⟨rfl, by rw [hU]; exact hPc, va_K.moved hW.alike hKc⟩⟩ rfl rfl hl.1 rfl (lv_room (Nat.le_of_ble_eq_true rfl)) dX1_bestLead_5 ⟨Nat.le_of_ble_eq_true rfl, Nat.le_of_ble_eq_true rfl⟩)) (fun r_2 hw => ?_)
  have hrr_2 := hw
  rw [hQ9]
  exact W.iret (v := r_2) hx hb hr (fun t ht hW => ⟨r_2, rfl, trivial, ht⟩) (fun q h => by cases h) dX1_bestLead_8

/- X1_prepare -/
set_option maxHeartbeats 4000000 in
set_option maxRecDepth 100000 in
theorem n_gprepare0 (l : Launch) (dC : Nat → ClassId) (dI : Nat → Nat → Nat) (cyI cyB cyJ cyZ cyH cyN : ClassId) (sz : Nat) (gm0 g_won : Nat) (g_f : Nat → Int32) (h0 a_first a_now a_lawPlace a_lawOther a_lawEach a_lawFrom a_foes a_suitTable a_acts : Nat) (a_pl a_li a_le a_lc a_ac a_ng : Int32) (a_f_first a_f_now a_f_lawPlace a_f_lawOther a_f_lawEach a_f_lawFrom a_f_foes a_f_suitTable a_f_acts : Nat → Int32) (g0 : rg 0 6 7 a_f_first) (g1 : rg 0 6 7 a_f_now) (g2 : rg 0 6 6 a_f_lawPlace) (g3 : rg 0 6 6 a_f_lawOther) (g4 : ra 40 a_f_acts) (g5 : 0 ≤ a_pl.toInt ∧ a_pl.toInt ≤ 7) (g6 : 0 ≤ a_lc.toInt ∧ a_lc.toInt ≤ 6) (g7 : 0 ≤ a_ac.toInt ∧ a_ac.toInt ≤ 40) : Met l yX1_prepare (wk yX1_prepare cX1_prepare 4 none) ({ frames := 3, cells := 0, slots := 0, locals := 106 }) (va_Pc [.ref gm0, .ref h0] (fun U => U.heap.size = sz ∧ va_P (dC, dI) vwCl [(gm0, .inr (1, [.ref g_won, .null])), (g_won, .inl (cyI, 128, .inl g_f)), (h0, .inr (2, [.int a_pl, .int a_li, .int a_le, .int a_lc, .int a_ac, .int a_ng, .ref a_first, .ref a_now, .ref a_lawPlace, .ref a_lawOther, .ref a_lawEach, .ref a_lawFrom, .ref a_foes, .ref a_suitTable, .ref a_acts])), (a_first, .inl (cyI, 7, .inl a_f_first)), (a_now, .inl (cyI, 7, .inl a_f_now)), (a_lawPlace, .inl (cyI, 6, .inl a_f_lawPlace)), (a_lawOther, .inl (cyI, 6, .inl a_f_lawOther)), (a_lawEach, .inl (cyI, 6, .inl a_f_lawEach)), (a_lawFrom, .inl (cyI, 6, .inl a_f_lawFrom)), (a_foes, .inl (cyI, 7, .inl a_f_foes)), (a_suitTable, .inl (cyI, 49, .inl a_f_suitTable)), (a_acts, .inl (cyI, 40, .inl a_f_acts))] U.heap ∧ va_K (dC, dI) vwCl [(cyI, .int), (cyB, .byte), (cyJ, .long), (cyZ, .boolean), (cyH, .object RX2), (cyN, .array .long)] U ∧ va_D (fun _ => True) [(gm0, .inr (1, [.ref g_won, .null])), (g_won, .inl (cyI, 128, .inl g_f)), (h0, .inr (2, [.int a_pl, .int a_li, .int a_le, .int a_lc, .int a_ac, .int a_ng, .ref a_first, .ref a_now, .ref a_lawPlace, .ref a_lawOther, .ref a_lawEach, .ref a_lawFrom, .ref a_foes, .ref a_suitTable, .ref a_acts])), (a_first, .inl (cyI, 7, .inl a_f_first)), (a_now, .inl (cyI, 7, .inl a_f_now)), (a_lawPlace, .inl (cyI, 6, .inl a_f_lawPlace)), (a_lawOther, .inl (cyI, 6, .inl a_f_lawOther)), (a_lawEach, .inl (cyI, 6, .inl a_f_lawEach)), (a_lawFrom, .inl (cyI, 6, .inl a_f_lawFrom)), (a_foes, .inl (cyI, 7, .inl a_f_foes)), (a_suitTable, .inl (cyI, 49, .inl a_f_suitTable)), (a_acts, .inl (cyI, 40, .inl a_f_acts))])) (va_Qv (fun _ : Unit => True) (fun (_ : Unit) (t : State) => ∃ y0 : Nat → Int32, va_P (dC, dI) vwCl [(gm0, .inr (1, [.ref g_won, .ref h0])), (g_won, .inl (cyI, 128, .inl y0)), (h0, .inr (2, [.int a_pl, .int a_li, .int a_le, .int a_lc, .int a_ac, .int a_ng, .ref a_first, .ref a_now, .ref a_lawPlace, .ref a_lawOther, .ref a_lawEach, .ref a_lawFrom, .ref a_foes, .ref a_suitTable, .ref a_acts])), (a_first, .inl (cyI, 7, .inl a_f_first)), (a_now, .inl (cyI, 7, .inl a_f_now)), (a_lawPlace, .inl (cyI, 6, .inl a_f_lawPlace)), (a_lawOther, .inl (cyI, 6, .inl a_f_lawOther)), (a_lawEach, .inl (cyI, 6, .inl a_f_lawEach)), (a_lawFrom, .inl (cyI, 6, .inl a_f_lawFrom)), (a_foes, .inl (cyI, 7, .inl a_f_foes)), (a_suitTable, .inl (cyI, 49, .inl a_f_suitTable)), (a_acts, .inl (cyI, 40, .inl a_f_acts))] t.heap ∧ va_D (va_A [(gm0, .inr (1, [.ref g_won, .null])), (g_won, .inl (cyI, 128, .inl g_f)), (h0, .inr (2, [.int a_pl, .int a_li, .int a_le, .int a_lc, .int a_ac, .int a_ng, .ref a_first, .ref a_now, .ref a_lawPlace, .ref a_lawOther, .ref a_lawEach, .ref a_lawFrom, .ref a_foes, .ref a_suitTable, .ref a_acts])), (a_first, .inl (cyI, 7, .inl a_f_first)), (a_now, .inl (cyI, 7, .inl a_f_now)), (a_lawPlace, .inl (cyI, 6, .inl a_f_lawPlace)), (a_lawOther, .inl (cyI, 6, .inl a_f_lawOther)), (a_lawEach, .inl (cyI, 6, .inl a_f_lawEach)), (a_lawFrom, .inl (cyI, 6, .inl a_f_lawFrom)), (a_foes, .inl (cyI, 7, .inl a_f_foes)), (a_suitTable, .inl (cyI, 49, .inl a_f_suitTable)), (a_acts, .inl (cyI, 40, .inl a_f_acts))] sz) [(gm0, .inr (1, [.ref g_won, .ref h0])), (g_won, .inl (cyI, 128, .inl y0)), (h0, .inr (2, [.int a_pl, .int a_li, .int a_le, .int a_lc, .int a_ac, .int a_ng, .ref a_first, .ref a_now, .ref a_lawPlace, .ref a_lawOther, .ref a_lawEach, .ref a_lawFrom, .ref a_foes, .ref a_suitTable, .ref a_acts])), (a_first, .inl (cyI, 7, .inl a_f_first)), (a_now, .inl (cyI, 7, .inl a_f_now)), (a_lawPlace, .inl (cyI, 6, .inl a_f_lawPlace)), (a_lawOther, .inl (cyI, 6, .inl a_f_lawOther)), (a_lawEach, .inl (cyI, 6, .inl a_f_lawEach)), (a_lawFrom, .inl (cyI, 6, .inl a_f_lawFrom)), (a_foes, .inl (cyI, 7, .inl a_f_foes)), (a_suitTable, .inl (cyI, 49, .inl a_f_suitTable)), (a_acts, .inl (cyI, 40, .inl a_f_acts))]) (va_A [(gm0, .inr (1, [.ref g_won, .null])), (g_won, .inl (cyI, 128, .inl g_f)), (h0, .inr (2, [.int a_pl, .int a_li, .int a_le, .int a_lc, .int a_ac, .int a_ng, .ref a_first, .ref a_now, .ref a_lawPlace, .ref a_lawOther, .ref a_lawEach, .ref a_lawFrom, .ref a_foes, .ref a_suitTable, .ref a_acts])), (a_first, .inl (cyI, 7, .inl a_f_first)), (a_now, .inl (cyI, 7, .inl a_f_now)), (a_lawPlace, .inl (cyI, 6, .inl a_f_lawPlace)), (a_lawOther, .inl (cyI, 6, .inl a_f_lawOther)), (a_lawEach, .inl (cyI, 6, .inl a_f_lawEach)), (a_lawFrom, .inl (cyI, 6, .inl a_f_lawFrom)), (a_foes, .inl (cyI, 7, .inl a_f_foes)), (a_suitTable, .inl (cyI, 49, .inl a_f_suitTable)), (a_acts, .inl (cyI, 40, .inl a_f_acts))] sz)) 0 0 (va_A [(gm0, .inr (1, [.ref g_won, .null])), (g_won, .inl (cyI, 128, .inl g_f)), (h0, .inr (2, [.int a_pl, .int a_li, .int a_le, .int a_lc, .int a_ac, .int a_ng, .ref a_first, .ref a_now, .ref a_lawPlace, .ref a_lawOther, .ref a_lawEach, .ref a_lawFrom, .ref a_foes, .ref a_suitTable, .ref a_acts])), (a_first, .inl (cyI, 7, .inl a_f_first)), (a_now, .inl (cyI, 7, .inl a_f_now)), (a_lawPlace, .inl (cyI, 6, .inl a_f_lawPlace)), (a_lawOther, .inl (cyI, 6, .inl a_f_lawOther)), (a_lawEach, .inl (cyI, 6, .inl a_f_lawEach)), (a_lawFrom, .inl (cyI, 6, .inl a_f_lawFrom)), (a_foes, .inl (cyI, 7, .inl a_f_foes)), (a_suitTable, .inl (cyI, 49, .inl a_f_suitTable)), (a_acts, .inl (cyI, 40, .inl a_f_acts))] sz) := by
  refine Met.ofW (cc := cX1_prepare) (maxL := 4) (ret := none) (by decide) rfl ?_
  intro p e s m args below meth c s₁ B hml hv
  obtain ⟨rfl, hsz, hP, hK, hD0⟩ := hv
  have hx := B.exec
  have hb := B.bytes
  have hr := B.returns
  have hts : ∀ w ∈ uU, w.before ([.ref gm0, .ref h0] : List Value).toArray s = true := fun w h => atoms_spec (ws := wk yX1_prepare cX1_prepare 4 none) B.pre w (List.mem_cons_of_mem _ h)
  have hown : s.vm.findClass RX1 = some m.cls := findClass_of_methodNamed B.named
  have hlocks := B.notSynchronized
  subst hsz
  have hD := hD0.self (sz := s.heap.size)
  generalize hAe : va_A [(gm0, .inr (1, [.ref g_won, .null])), (g_won, .inl (cyI, 128, .inl g_f)), (h0, .inr (2, [.int a_pl, .int a_li, .int a_le, .int a_lc, .int a_ac, .int a_ng, .ref a_first, .ref a_now, .ref a_lawPlace, .ref a_lawOther, .ref a_lawEach, .ref a_lawFrom, .ref a_foes, .ref a_suitTable, .ref a_acts])), (a_first, .inl (cyI, 7, .inl a_f_first)), (a_now, .inl (cyI, 7, .inl a_f_now)), (a_lawPlace, .inl (cyI, 6, .inl a_f_lawPlace)), (a_lawOther, .inl (cyI, 6, .inl a_f_lawOther)), (a_lawEach, .inl (cyI, 6, .inl a_f_lawEach)), (a_lawFrom, .inl (cyI, 6, .inl a_f_lawFrom)), (a_foes, .inl (cyI, 7, .inl a_f_foes)), (a_suitTable, .inl (cyI, 49, .inl a_f_suitTable)), (a_acts, .inl (cyI, 40, .inl a_f_acts))] s.heap.size = A at hD ⊢
  have hA : ∀ q : Nat, s.heap.size ≤ q → A q := fun q h => by rw [← hAe]; exact Or.inr h
  have hS : va_S A s.heap s.heap [] := va_S.rf
  have hP : va_P (dC, dI) vwCl [(gm0, .inr (1, [.ref g_won, .null])), (g_won, .inl (cyI, 128, .inl g_f)), (h0, .inr (2, [.int a_pl, .int a_li, .int a_le, .int a_lc, .int a_ac, .int a_ng, .ref a_first, .ref a_now, .ref a_lawPlace, .ref a_lawOther, .ref a_lawEach, .ref a_lawFrom, .ref a_foes, .ref a_suitTable, .ref a_acts])), (a_first, .inl (cyI, 7, .inl a_f_first)), (a_now, .inl (cyI, 7, .inl a_f_now)), (a_lawPlace, .inl (cyI, 6, .inl a_f_lawPlace)), (a_lawOther, .inl (cyI, 6, .inl a_f_lawOther)), (a_lawEach, .inl (cyI, 6, .inl a_f_lawEach)), (a_lawFrom, .inl (cyI, 6, .inl a_f_lawFrom)), (a_foes, .inl (cyI, 7, .inl a_f_foes)), (a_suitTable, .inl (cyI, 49, .inl a_f_suitTable)), (a_acts, .inl (cyI, 40, .inl a_f_acts))] s.heap := hP
  have hl := lv_entry ([.ref gm0, .ref h0]) (n := 4) (Nat.le_of_ble_eq_true rfl)
  rw [lg_entry_eq]
  generalize (lg_sl ([.ref gm0, .ref h0]) ++ List.replicate (4 - (lg_sl ([.ref gm0, .ref h0])).length) Slot.unset).toArray = ls at hl ⊢
  have hl : lv_has ls 4 [(0, .ref gm0), (1, .ref h0)] := hl
  obtain ⟨H, hHe⟩ : ∃ H, H = s.heap := ⟨_, rfl⟩
  have hP : va_P (dC, dI) vwCl [(gm0, .inr (1, [.ref g_won, .null])), (g_won, .inl (cyI, 128, .inl g_f)), (h0, .inr (2, [.int a_pl, .int a_li, .int a_le, .int a_lc, .int a_ac, .int a_ng, .ref a_first, .ref a_now, .ref a_lawPlace, .ref a_lawOther, .ref a_lawEach, .ref a_lawFrom, .ref a_foes, .ref a_suitTable, .ref a_acts])), (a_first, .inl (cyI, 7, .inl a_f_first)), (a_now, .inl (cyI, 7, .inl a_f_now)), (a_lawPlace, .inl (cyI, 6, .inl a_f_lawPlace)), (a_lawOther, .inl (cyI, 6, .inl a_f_lawOther)), (a_lawEach, .inl (cyI, 6, .inl a_f_lawEach)), (a_lawFrom, .inl (cyI, 6, .inl a_f_lawFrom)), (a_foes, .inl (cyI, 7, .inl a_f_foes)), (a_suitTable, .inl (cyI, 49, .inl a_f_suitTable)), (a_acts, .inl (cyI, 40, .inl a_f_acts))] H := by rw [hHe]; exact hP
  have hS : va_S A s.heap H [] := by rw [hHe]; exact hS
  refine cv_heap hHe ?_
  obtain ⟨Q9, hQ9⟩ : ∃ Q9 : State → Prop, Q9 = MQ below (va_Qv (fun _ : Unit => True) (fun (_ : Unit) (t : State) => ∃ y0 : Nat → Int32, va_P (dC, dI) vwCl [(gm0, .inr (1, [.ref g_won, .ref h0])), (g_won, .inl (cyI, 128, .inl y0)), (h0, .inr (2, [.int a_pl, .int a_li, .int a_le, .int a_lc, .int a_ac, .int a_ng, .ref a_first, .ref a_now, .ref a_lawPlace, .ref a_lawOther, .ref a_lawEach, .ref a_lawFrom, .ref a_foes, .ref a_suitTable, .ref a_acts])), (a_first, .inl (cyI, 7, .inl a_f_first)), (a_now, .inl (cyI, 7, .inl a_f_now)), (a_lawPlace, .inl (cyI, 6, .inl a_f_lawPlace)), (a_lawOther, .inl (cyI, 6, .inl a_f_lawOther)), (a_lawEach, .inl (cyI, 6, .inl a_f_lawEach)), (a_lawFrom, .inl (cyI, 6, .inl a_f_lawFrom)), (a_foes, .inl (cyI, 7, .inl a_f_foes)), (a_suitTable, .inl (cyI, 49, .inl a_f_suitTable)), (a_acts, .inl (cyI, 40, .inl a_f_acts))] t.heap ∧ va_D A [(gm0, .inr (1, [.ref g_won, .ref h0])), (g_won, .inl (cyI, 128, .inl y0)), (h0, .inr (2, [.int a_pl, .int a_li, .int a_le, .int a_lc, .int a_ac, .int a_ng, .ref a_first, .ref a_now, .ref a_lawPlace, .ref a_lawOther, .ref a_lawEach, .ref a_lawFrom, .ref a_foes, .ref a_suitTable, .ref a_acts])), (a_first, .inl (cyI, 7, .inl a_f_first)), (a_now, .inl (cyI, 7, .inl a_f_now)), (a_lawPlace, .inl (cyI, 6, .inl a_f_lawPlace)), (a_lawOther, .inl (cyI, 6, .inl a_f_lawOther)), (a_lawEach, .inl (cyI, 6, .inl a_f_lawEach)), (a_lawFrom, .inl (cyI, 6, .inl a_f_lawFrom)), (a_foes, .inl (cyI, 7, .inl a_f_foes)), (a_suitTable, .inl (cyI, 49, .inl a_f_suitTable)), (a_acts, .inl (cyI, 40, .inl a_f_acts))]) A) ([.ref gm0, .ref h0] : List Value).toArray s 0 0 A := ⟨_, rfl⟩
  rw [← hQ9]
  refine lv_aload_n hx hb dX1_prepare_0 rfl (lv_at hl 0 rfl) ?_
  refine lv_aload_n hx hb dX1_prepare_1 rfl (lv_at hl 1 rfl) ?_
  refine va_put (D := (dC, dI)) (ci := 1) (v := .ref h0) (ty := (.object "SwapTrophies$Hall")) (C := RX1) (T := TX1) (N := 2) hx hb hts uinX1 tyX1 tyX1_ok nmX1 hown hK hP hD hS 0 rfl rfl 1 (by decide) (hts _ wd_2_41) (fun _ h9 => h9) rfl (by decide +kernel) rfl rfl (Nat.le_of_ble_eq_true rfl) dX1_prepare_2 (fun H locs hP hD hS => ?_)
  have hP : va_P (dC, dI) vwCl [(gm0, .inr (1, [.ref g_won, .ref h0])), (g_won, .inl (cyI, 128, .inl g_f)), (h0, .inr (2, [.int a_pl, .int a_li, .int a_le, .int a_lc, .int a_ac, .int a_ng, .ref a_first, .ref a_now, .ref a_lawPlace, .ref a_lawOther, .ref a_lawEach, .ref a_lawFrom, .ref a_foes, .ref a_suitTable, .ref a_acts])), (a_first, .inl (cyI, 7, .inl a_f_first)), (a_now, .inl (cyI, 7, .inl a_f_now)), (a_lawPlace, .inl (cyI, 6, .inl a_f_lawPlace)), (a_lawOther, .inl (cyI, 6, .inl a_f_lawOther)), (a_lawEach, .inl (cyI, 6, .inl a_f_lawEach)), (a_lawFrom, .inl (cyI, 6, .inl a_f_lawFrom)), (a_foes, .inl (cyI, 7, .inl a_f_foes)), (a_suitTable, .inl (cyI, 49, .inl a_f_suitTable)), (a_acts, .inl (cyI, 40, .inl a_f_acts))] H := hP
  have hD : va_D A [(gm0, .inr (1, [.ref g_won, .ref h0])), (g_won, .inl (cyI, 128, .inl g_f)), (h0, .inr (2, [.int a_pl, .int a_li, .int a_le, .int a_lc, .int a_ac, .int a_ng, .ref a_first, .ref a_now, .ref a_lawPlace, .ref a_lawOther, .ref a_lawEach, .ref a_lawFrom, .ref a_foes, .ref a_suitTable, .ref a_acts])), (a_first, .inl (cyI, 7, .inl a_f_first)), (a_now, .inl (cyI, 7, .inl a_f_now)), (a_lawPlace, .inl (cyI, 6, .inl a_f_lawPlace)), (a_lawOther, .inl (cyI, 6, .inl a_f_lawOther)), (a_lawEach, .inl (cyI, 6, .inl a_f_lawEach)), (a_lawFrom, .inl (cyI, 6, .inl a_f_lawFrom)), (a_foes, .inl (cyI, 7, .inl a_f_foes)), (a_suitTable, .inl (cyI, 49, .inl a_f_suitTable)), (a_acts, .inl (cyI, 40, .inl a_f_acts))] := hD
  refine lv_iconst (v := 1) hx hb dX1_prepare_5 (by decide) ?_
  refine lv_aload_n hx hb dX1_prepare_6 rfl (lv_at hl 1 rfl) ?_
  refine va_get (D := (dC, dI)) (ci := 2) (v := .int a_pl) (C := RX2) (T := TX2) (N := 15) hx hb hts uinX2 hown hK hP 2 rfl rfl 0 (by decide) (hts _ wd_1_81) (fun _ h9 => h9) rfl dX1_prepare_7 ?_
  refine lv_ishl hx hb dX1_prepare_10 ?_
  refine lv_topi (fun x_1 ex_1 => ?_)
  have fx_1 : 1 ≤ x_1.toInt ∧ x_1.toInt ≤ 128 := by rw [ex_1]; have q := cv_shl1 (y := a_pl) 0 7 (by decide) (by decide) (by omega) (by omega); omega
  refine lv_iconst (v := 1) hx hb dX1_prepare_11 (by decide) ?_
  refine lv_isub hx hb dX1_prepare_12 ?_
  refine lv_topi (fun x_2 ex_2 => ?_)
  have fx_2 : x_2.toInt = x_1.toInt - 1 := by rw [ex_2]; exact cv_subI (by have : (1 : Int32).toInt = 1 := rfl; omega) (by have : (1 : Int32).toInt = 1 := rfl; omega)
  refine lv_istore_n (lv' := [(2, .int x_2), (0, .ref gm0), (1, .ref h0)]) hx hb dX1_prepare_13 rfl hl (by decide) rfl (fun ls hl => ?_)
  have key_5 : ∀ (nkey_5 : Nat) (u_3 : Int32) (f_4 : Nat → Int32) (H : Heap) (locs : List Loc) (ls : Array Slot), (0 ≤ u_3.toInt ∧ u_3.toInt ≤ 127) → va_P (dC, dI) vwCl [(gm0, .inr (1, [.ref g_won, .ref h0])), (g_won, .inl (cyI, 128, .inl f_4)), (h0, .inr (2, [.int a_pl, .int a_li, .int a_le, .int a_lc, .int a_ac, .int a_ng, .ref a_first, .ref a_now, .ref a_lawPlace, .ref a_lawOther, .ref a_lawEach, .ref a_lawFrom, .ref a_foes, .ref a_suitTable, .ref a_acts])), (a_first, .inl (cyI, 7, .inl a_f_first)), (a_now, .inl (cyI, 7, .inl a_f_now)), (a_lawPlace, .inl (cyI, 6, .inl a_f_lawPlace)), (a_lawOther, .inl (cyI, 6, .inl a_f_lawOther)), (a_lawEach, .inl (cyI, 6, .inl a_f_lawEach)), (a_lawFrom, .inl (cyI, 6, .inl a_f_lawFrom)), (a_foes, .inl (cyI, 7, .inl a_f_foes)), (a_suitTable, .inl (cyI, 49, .inl a_f_suitTable)), (a_acts, .inl (cyI, 40, .inl a_f_acts))] H → va_D A [(gm0, .inr (1, [.ref g_won, .ref h0])), (g_won, .inl (cyI, 128, .inl f_4)), (h0, .inr (2, [.int a_pl, .int a_li, .int a_le, .int a_lc, .int a_ac, .int a_ng, .ref a_first, .ref a_now, .ref a_lawPlace, .ref a_lawOther, .ref a_lawEach, .ref a_lawFrom, .ref a_foes, .ref a_suitTable, .ref a_acts])), (a_first, .inl (cyI, 7, .inl a_f_first)), (a_now, .inl (cyI, 7, .inl a_f_now)), (a_lawPlace, .inl (cyI, 6, .inl a_f_lawPlace)), (a_lawOther, .inl (cyI, 6, .inl a_f_lawOther)), (a_lawEach, .inl (cyI, 6, .inl a_f_lawEach)), (a_lawFrom, .inl (cyI, 6, .inl a_f_lawFrom)), (a_foes, .inl (cyI, 7, .inl a_f_foes)), (a_suitTable, .inl (cyI, 49, .inl a_f_suitTable)), (a_acts, .inl (cyI, 40, .inl a_f_acts))] → va_S A s.heap H locs → lv_has ls 4 [(2, .int u_3), (0, .ref gm0), (1, .ref h0)] → (u_3.toInt - 0).toNat < nkey_5 → W p l e ({ frames := 3, cells := 0, slots := 0, locals := 106 }) s m ([.ref gm0, .ref h0] : List Value).toArray below meth c H locs 0 0 Q9 (F0 m 14 ls []) := by
    intro nkey_5
    induction nkey_5 with
    | zero => intro u_3 f_4 H locs ls hu_3 hP hD hS hl hnkey_5; exact absurd hnkey_5 (Nat.not_lt_zero _)
    | succ nkey_5 ihkey_5 =>
      intro u_3 f_4 H locs ls hu_3 hP hD hS hl hnkey_5
      refine lv_iload_n hx hb dX1_prepare_14 rfl (lv_at hl 0 rfl) ?_
      refine lv_if_le (tgt := 77) hx hb dX1_prepare_15 (by decide) (fun c_6 => ?_) (fun c_6 => ?_)
      · have c_6 : u_3.toInt ≤ 0 := cv_le c_6
        rw [hQ9]
        have hP9 := hP.sub (ws' := [(gm0, .inr (1, [.ref g_won, .ref h0])), (g_won, .inl (cyI, 128, .inl f_4)), (h0, .inr (2, [.int a_pl, .int a_li, .int a_le, .int a_lc, .int a_ac, .int a_ng, .ref a_first, .ref a_now, .ref a_lawPlace, .ref a_lawOther, .ref a_lawEach, .ref a_lawFrom, .ref a_foes, .ref a_suitTable, .ref a_acts])), (a_first, .inl (cyI, 7, .inl a_f_first)), (a_now, .inl (cyI, 7, .inl a_f_now)), (a_lawPlace, .inl (cyI, 6, .inl a_f_lawPlace)), (a_lawOther, .inl (cyI, 6, .inl a_f_lawOther)), (a_lawEach, .inl (cyI, 6, .inl a_f_lawEach)), (a_lawFrom, .inl (cyI, 6, .inl a_f_lawFrom)), (a_foes, .inl (cyI, 7, .inl a_f_foes)), (a_suitTable, .inl (cyI, 49, .inl a_f_suitTable)), (a_acts, .inl (cyI, 40, .inl a_f_acts))]) [0, 1, 2, 3, 4, 5, 6, 7, 8, 9, 10, 11] rfl
        have hD9 := hD.sub (ws' := [(gm0, .inr (1, [.ref g_won, .ref h0])), (g_won, .inl (cyI, 128, .inl f_4)), (h0, .inr (2, [.int a_pl, .int a_li, .int a_le, .int a_lc, .int a_ac, .int a_ng, .ref a_first, .ref a_now, .ref a_lawPlace, .ref a_lawOther, .ref a_lawEach, .ref a_lawFrom, .ref a_foes, .ref a_suitTable, .ref a_acts])), (a_first, .inl (cyI, 7, .inl a_f_first)), (a_now, .inl (cyI, 7, .inl a_f_now)), (a_lawPlace, .inl (cyI, 6, .inl a_f_lawPlace)), (a_lawOther, .inl (cyI, 6, .inl a_f_lawOther)), (a_lawEach, .inl (cyI, 6, .inl a_f_lawEach)), (a_lawFrom, .inl (cyI, 6, .inl a_f_lawFrom)), (a_foes, .inl (cyI, 7, .inl a_f_foes)), (a_suitTable, .inl (cyI, 49, .inl a_f_suitTable)), (a_acts, .inl (cyI, 40, .inl a_f_acts))]) [0, 1, 2, 3, 4, 5, 6, 7, 8, 9, 10, 11] (by decide) rfl
        exact W.vret hx hb hr (fun t ht hW => ⟨⟨(), rfl, trivial, ⟨f_4, by rw [ht]; exact hP9, hD9⟩⟩, hS.F ht⟩) hS.2.2 dX1_prepare_77
      · have c_6 : 0 < u_3.toInt := cv_nle c_6
        refine lv_aload_n hx hb dX1_prepare_18 rfl (lv_at hl 1 rfl) ?_
        refine va_get (D := (dC, dI)) (ci := 1) (v := .ref g_won) (C := RX1) (T := TX1) (N := 2) hx hb hts uinX1 hown hK hP 0 rfl rfl 0 (by decide) (hts _ wd_2_40) (fun _ h9 => h9) rfl dX1_prepare_19 ?_
        refine lv_iload_n hx hb dX1_prepare_22 rfl (lv_at hl 0 rfl) ?_
        refine lv_iconst (v := 0) hx hb dX1_prepare_23 (by decide) ?_
        refine va_iast hx hb hK hP hD hS 1 0 rfl rfl (vp_in_iff.mpr (by omega)) dX1_prepare_24 (fun H locs hP hD hS => ?_)
        obtain ⟨f_7, ef_7⟩ : ∃ z9 : Nat → Int32, z9 = upd f_4 u_3.toNatClampNeg 0 := ⟨_, rfl⟩
        rw [← ef_7] at hP hD
        have hP : va_P (dC, dI) vwCl [(gm0, .inr (1, [.ref g_won, .ref h0])), (g_won, .inl (cyI, 128, .inl f_7)), (h0, .inr (2, [.int a_pl, .int a_li, .int a_le, .int a_lc, .int a_ac, .int a_ng, .ref a_first, .ref a_now, .ref a_lawPlace, .ref a_lawOther, .ref a_lawEach, .ref a_lawFrom, .ref a_foes, .ref a_suitTable, .ref a_acts])), (a_first, .inl (cyI, 7, .inl a_f_first)), (a_now, .inl (cyI, 7, .inl a_f_now)), (a_lawPlace, .inl (cyI, 6, .inl a_f_lawPlace)), (a_lawOther, .inl (cyI, 6, .inl a_f_lawOther)), (a_lawEach, .inl (cyI, 6, .inl a_f_lawEach)), (a_lawFrom, .inl (cyI, 6, .inl a_f_lawFrom)), (a_foes, .inl (cyI, 7, .inl a_f_foes)), (a_suitTable, .inl (cyI, 49, .inl a_f_suitTable)), (a_acts, .inl (cyI, 40, .inl a_f_acts))] H := hP
        have hD : va_D A [(gm0, .inr (1, [.ref g_won, .ref h0])), (g_won, .inl (cyI, 128, .inl f_7)), (h0, .inr (2, [.int a_pl, .int a_li, .int a_le, .int a_lc, .int a_ac, .int a_ng, .ref a_first, .ref a_now, .ref a_lawPlace, .ref a_lawOther, .ref a_lawEach, .ref a_lawFrom, .ref a_foes, .ref a_suitTable, .ref a_acts])), (a_first, .inl (cyI, 7, .inl a_f_first)), (a_now, .inl (cyI, 7, .inl a_f_now)), (a_lawPlace, .inl (cyI, 6, .inl a_f_lawPlace)), (a_lawOther, .inl (cyI, 6, .inl a_f_lawOther)), (a_lawEach, .inl (cyI, 6, .inl a_f_lawEach)), (a_lawFrom, .inl (cyI, 6, .inl a_f_lawFrom)), (a_foes, .inl (cyI, 7, .inl a_f_foes)), (a_suitTable, .inl (cyI, 49, .inl a_f_suitTable)), (a_acts, .inl (cyI, 40, .inl a_f_acts))] := hD
        refine lv_iconst (v := 0) hx hb dX1_prepare_25 (by decide) ?_
        refine lv_istore_n (lv' := [(3, .int 0), (2, .int u_3), (0, .ref gm0), (1, .ref h0)]) hx hb dX1_prepare_26 rfl hl (by decide) rfl (fun ls hl => ?_)
        have key_10 : ∀ (nkey_10 : Nat) (u_8 : Int32) (f_9 : Nat → Int32) (H : Heap) (locs : List Loc) (ls : Array Slot), (0 ≤ u_8.toInt ∧ u_8.toInt ≤ 7) → va_P (dC, dI) vwCl [(gm0, .inr (1, [.ref g_won, .ref h0])), (g_won, .inl (cyI, 128, .inl f_9)), (h0, .inr (2, [.int a_pl, .int a_li, .int a_le, .int a_lc, .int a_ac, .int a_ng, .ref a_first, .ref a_now, .ref a_lawPlace, .ref a_lawOther, .ref a_lawEach, .ref a_lawFrom, .ref a_foes, .ref a_suitTable, .ref a_acts])), (a_first, .inl (cyI, 7, .inl a_f_first)), (a_now, .inl (cyI, 7, .inl a_f_now)), (a_lawPlace, .inl (cyI, 6, .inl a_f_lawPlace)), (a_lawOther, .inl (cyI, 6, .inl a_f_lawOther)), (a_lawEach, .inl (cyI, 6, .inl a_f_lawEach)), (a_lawFrom, .inl (cyI, 6, .inl a_f_lawFrom)), (a_foes, .inl (cyI, 7, .inl a_f_foes)), (a_suitTable, .inl (cyI, 49, .inl a_f_suitTable)), (a_acts, .inl (cyI, 40, .inl a_f_acts))] H → va_D A [(gm0, .inr (1, [.ref g_won, .ref h0])), (g_won, .inl (cyI, 128, .inl f_9)), (h0, .inr (2, [.int a_pl, .int a_li, .int a_le, .int a_lc, .int a_ac, .int a_ng, .ref a_first, .ref a_now, .ref a_lawPlace, .ref a_lawOther, .ref a_lawEach, .ref a_lawFrom, .ref a_foes, .ref a_suitTable, .ref a_acts])), (a_first, .inl (cyI, 7, .inl a_f_first)), (a_now, .inl (cyI, 7, .inl a_f_now)), (a_lawPlace, .inl (cyI, 6, .inl a_f_lawPlace)), (a_lawOther, .inl (cyI, 6, .inl a_f_lawOther)), (a_lawEach, .inl (cyI, 6, .inl a_f_lawEach)), (a_lawFrom, .inl (cyI, 6, .inl a_f_lawFrom)), (a_foes, .inl (cyI, 7, .inl a_f_foes)), (a_suitTable, .inl (cyI, 49, .inl a_f_suitTable)), (a_acts, .inl (cyI, 40, .inl a_f_acts))] → va_S A s.heap H locs → lv_has ls 4 [(3, .int u_8), (2, .int u_3), (0, .ref gm0), (1, .ref h0)] → (a_pl.toInt - u_8.toInt).toNat < nkey_10 → W p l e ({ frames := 3, cells := 0, slots := 0, locals := 106 }) s m ([.ref gm0, .ref h0] : List Value).toArray below meth c H locs 0 0 Q9 (F0 m 27 ls []) := by
          intro nkey_10
          induction nkey_10 with
          | zero => intro u_8 f_9 H locs ls hu_8 hP hD hS hl hnkey_10; exact absurd hnkey_10 (Nat.not_lt_zero _)
          | succ nkey_10 ihkey_10 =>
            intro u_8 f_9 H locs ls hu_8 hP hD hS hl hnkey_10
            refine lv_iload_n hx hb dX1_prepare_27 rfl (lv_at hl 0 rfl) ?_
            refine lv_aload_n hx hb dX1_prepare_28 rfl (lv_at hl 3 rfl) ?_
            refine va_get (D := (dC, dI)) (ci := 2) (v := .int a_pl) (C := RX2) (T := TX2) (N := 15) hx hb hts uinX2 hown hK hP 2 rfl rfl 0 (by decide) (hts _ wd_1_81) (fun _ h9 => h9) rfl dX1_prepare_29 ?_
            refine lv_icmp_ge (tgt := 71) hx hb dX1_prepare_32 (by decide) (fun c_11 => ?_) (fun c_11 => ?_)
            · have c_11 : a_pl.toInt ≤ u_8.toInt := cv_le c_11
              obtain ⟨x_12, ex_12⟩ : ∃ y : Int32, y = u_3 + (-1) := ⟨_, rfl⟩
              refine lv_iinc (v := x_12) (lv' := [(2, .int x_12), (3, .int u_8), (0, .ref gm0), (1, .ref h0)]) hx hb dX1_prepare_71 hl (k := 1) rfl (by rw [ex_12]; rfl) (by decide) rfl (fun ls hl => ?_)
              have fx_12 : x_12.toInt = u_3.toInt + (-1) := by rw [ex_12]; exact cv_addI (by have : ((-1) : Int32).toInt = (-1) := rfl; omega) (by have : ((-1) : Int32).toInt = (-1) := rfl; omega)
              refine lv_goto (tgt := 14) hx hb dX1_prepare_74 (by decide) ?_
              exact ihkey_5 x_12 f_9 _ _ _ (by omega) hP hD hS (lv_sub hl [0, 2, 3] rfl) (by omega)
            · have c_11 : u_8.toInt < a_pl.toInt := cv_nle c_11
              refine lv_iload_n hx hb dX1_prepare_35 rfl (lv_at hl 1 rfl) ?_
              refine lv_iload_n hx hb dX1_prepare_36 rfl (lv_at hl 0 rfl) ?_
              refine lv_ishr hx hb dX1_prepare_37 ?_
              refine lv_topi (fun x_13 ex_13 => ?_)
              have fx_13 : 0 ≤ x_13.toInt ∧ x_13.toInt ≤ u_3.toInt := by rw [ex_13]; exact cv_shr (by omega)
              refine lv_iconst (v := 1) hx hb dX1_prepare_38 (by decide) ?_
              refine lv_iand hx hb dX1_prepare_39 ?_
              refine lv_topi (fun x_14 ex_14 => ?_)
              have fx_14 : 0 ≤ x_14.toInt ∧ x_14.toInt ≤ 1 := by rw [ex_14]; exact cv_andR (by decide) (by decide)
              have join_16 : ∀ (f_15 : Nat → Int32) (H : Heap) (locs : List Loc) (ls : Array Slot), va_P (dC, dI) vwCl [(gm0, .inr (1, [.ref g_won, .ref h0])), (g_won, .inl (cyI, 128, .inl f_15)), (h0, .inr (2, [.int a_pl, .int a_li, .int a_le, .int a_lc, .int a_ac, .int a_ng, .ref a_first, .ref a_now, .ref a_lawPlace, .ref a_lawOther, .ref a_lawEach, .ref a_lawFrom, .ref a_foes, .ref a_suitTable, .ref a_acts])), (a_first, .inl (cyI, 7, .inl a_f_first)), (a_now, .inl (cyI, 7, .inl a_f_now)), (a_lawPlace, .inl (cyI, 6, .inl a_f_lawPlace)), (a_lawOther, .inl (cyI, 6, .inl a_f_lawOther)), (a_lawEach, .inl (cyI, 6, .inl a_f_lawEach)), (a_lawFrom, .inl (cyI, 6, .inl a_f_lawFrom)), (a_foes, .inl (cyI, 7, .inl a_f_foes)), (a_suitTable, .inl (cyI, 49, .inl a_f_suitTable)), (a_acts, .inl (cyI, 40, .inl a_f_acts))] H → va_D A [(gm0, .inr (1, [.ref g_won, .ref h0])), (g_won, .inl (cyI, 128, .inl f_15)), (h0, .inr (2, [.int a_pl, .int a_li, .int a_le, .int a_lc, .int a_ac, .int a_ng, .ref a_first, .ref a_now, .ref a_lawPlace, .ref a_lawOther, .ref a_lawEach, .ref a_lawFrom, .ref a_foes, .ref a_suitTable, .ref a_acts])), (a_first, .inl (cyI, 7, .inl a_f_first)), (a_now, .inl (cyI, 7, .inl a_f_now)), (a_lawPlace, .inl (cyI, 6, .inl a_f_lawPlace)), (a_lawOther, .inl (cyI, 6, .inl a_f_lawOther)), (a_lawEach, .inl (cyI, 6, .inl a_f_lawEach)), (a_lawFrom, .inl (cyI, 6, .inl a_f_lawFrom)), (a_foes, .inl (cyI, 7, .inl a_f_foes)), (a_suitTable, .inl (cyI, 49, .inl a_f_suitTable)), (a_acts, .inl (cyI, 40, .inl a_f_acts))] → va_S A s.heap H locs → lv_has ls 4 [(3, .int u_8), (2, .int u_3), (0, .ref gm0), (1, .ref h0)] → W p l e ({ frames := 3, cells := 0, slots := 0, locals := 106 }) s m ([.ref gm0, .ref h0] : List Value).toArray below meth c H locs 0 0 Q9 (F0 m 65 ls []) := by
                intro f_15 H locs ls hP hD hS hl
                obtain ⟨x_17, ex_17⟩ : ∃ y : Int32, y = u_8 + 1 := ⟨_, rfl⟩
                refine lv_iinc (v := x_17) (lv' := [(3, .int x_17), (2, .int u_3), (0, .ref gm0), (1, .ref h0)]) hx hb dX1_prepare_65 hl (k := 0) rfl (by rw [ex_17]; rfl) (by decide) rfl (fun ls hl => ?_)
                have fx_17 : x_17.toInt = u_8.toInt + 1 := by rw [ex_17]; exact cv_addI (by have : (1 : Int32).toInt = 1 := rfl; omega) (by have : (1 : Int32).toInt = 1 := rfl; omega)
                refine lv_goto (tgt := 27) hx hb dX1_prepare_68 (by decide) ?_
                exact ihkey_10 x_17 f_15 _ _ _ (by omega) hP hD hS (lv_sub hl [0, 1, 2, 3] rfl) (by omega)
              refine lv_if_eq (tgt := 65) hx hb dX1_prepare_40 (by decide) (fun c_18 => ?_) (fun c_18 => ?_)
              · have c_18 : x_14.toInt = 0 := cv_eq c_18
                exact join_16 f_9 _ _ _ hP hD hS (lv_sub hl [0, 1, 2, 3] rfl)
              · have c_18 : x_14.toInt ≠ 0 := cv_ne c_18
                refine lv_aload_n hx hb dX1_prepare_43 rfl (lv_at hl 2 rfl) ?_
                refine lv_iload_n hx hb dX1_prepare_44 rfl (lv_at hl 1 rfl) ?_
                refine lv_iload_n hx hb dX1_prepare_45 rfl (lv_at hl 0 rfl) ?_
                have hPc := hP.sub (ws' := [(gm0, .inr (1, [.ref g_won, .ref h0])), (g_won, .inl (cyI, 128, .inl f_9)), (h0, .inr (2, [.int a_pl, .int a_li, .int a_le, .int a_lc, .int a_ac, .int a_ng, .ref a_first, .ref a_now, .ref a_lawPlace, .ref a_lawOther, .ref a_lawEach, .ref a_lawFrom, .ref a_foes, .ref a_suitTable, .ref a_acts])), (a_first, .inl (cyI, 7, .inl a_f_first)), (a_now, .inl (cyI, 7, .inl a_f_now)), (a_lawPlace, .inl (cyI, 6, .inl a_f_lawPlace)), (a_lawOther, .inl (cyI, 6, .inl a_f_lawOther)), (a_lawEach, .inl (cyI, 6, .inl a_f_lawEach)), (a_lawFrom, .inl (cyI, 6, .inl a_f_lawFrom)), (a_foes, .inl (cyI, 7, .inl a_f_foes)), (a_suitTable, .inl (cyI, 49, .inl a_f_suitTable)), (a_acts, .inl (cyI, 40, .inl a_f_acts))]) [0, 1, 2, 3, 4, 5, 6, 7, 8, 9, 10, 11] rfl
                have hKc := hK.sub (tys' := [(cyI, .int), (cyB, .byte), (cyJ, .long), (cyZ, .boolean), (cyH, .object RX2), (cyN, .array .long)]) [0, 1, 2, 3, 4, 5] rfl
                refine vp_callSi (va_Run.run (va_runV (As := [.int u_3, .int u_8]) (rest := []) ⟨hx, hb, hml, hown, hts⟩ (n_leastWinning l dC dI cyI cyB cyJ cyZ cyH cyN gm0 g_won f_9 h0 a_first a_now a_lawPlace a_lawOther a_lawEach a_lawFrom a_foes a_suitTable a_acts a_pl a_li a_le a_lc a_ac a_ng a_f_first a_f_now a_f_lawPlace a_f_lawOther a_f_lawEach a_f_lawFrom a_f_foes a_f_suitTable a_f_acts u_3 u_8 g0 g1 g2 g3 g4 (by omega) (by omega) (by omega) (by omega) (by omega)) (cwV 2 hts (gdV wd_5_107 wd_5_109 wd_s3_4 wd_1_9 wd_5_110) rfl rfl rfl (by decide +kernel) ⟨Nat.le_of_ble_eq_true rfl, Nat.le_of_ble_eq_true rfl⟩) ⟨fun a U g mk q => by obtain ⟨q0, qP, qK⟩ := q; exact ⟨q0, qP, va_K.moved (u := U) (U := U.calling g mk a) (Vm.Alike.refl U.vm) qK⟩, va_recv hKc hPc (ci := 1) (q0 := 0) rfl rfl, fun U hU hW => ⟨rfl, by rw [hU]; exact hPc, va_K.moved hW.alike hKc⟩⟩ rfl rfl hl.1 rfl (lv_room (Nat.le_of_ble_eq_true rfl)) dX1_prepare_46 ⟨Nat.le_of_ble_eq_true rfl, Nat.le_of_ble_eq_true rfl⟩)) (fun r_19 hw => ?_)
                have hrr_19 := hw
                refine lv_iconst (v := (-1)) hx hb dX1_prepare_49 (by decide) ?_
                refine lv_icmp_eq (tgt := 65) hx hb dX1_prepare_50 (by decide) (fun c_20 => ?_) (fun c_20 => ?_)
                · have c_20 : r_19.toInt = (-1) := cv_eq c_20
                  exact join_16 f_9 _ _ _ hP hD hS (lv_sub hl [0, 1, 2, 3] rfl)
                · have c_20 : r_19.toInt ≠ (-1) := cv_ne c_20
                  refine lv_aload_n hx hb dX1_prepare_53 rfl (lv_at hl 2 rfl) ?_
                  refine va_get (D := (dC, dI)) (ci := 1) (v := .ref g_won) (C := RX1) (T := TX1) (N := 2) hx hb hts uinX1 hown hK hP 0 rfl rfl 0 (by decide) (hts _ wd_2_40) (fun _ h9 => h9) rfl dX1_prepare_54 ?_
                  refine lv_iload_n hx hb dX1_prepare_57 rfl (lv_at hl 1 rfl) ?_
                  refine lv_dup2_11 hx hb dX1_prepare_58 rfl rfl ?_
                  refine va_iald hx hb hK hP 1 0 rfl rfl (vp_in_iff.mpr (by omega)) dX1_prepare_59 ?_
                  refine lv_topi (fun x_21 ex_21 => ?_)
                  refine lv_iconst (v := 1) hx hb dX1_prepare_60 (by decide) ?_
                  refine lv_iload_n hx hb dX1_prepare_61 rfl (lv_at hl 0 rfl) ?_
                  refine lv_ishl hx hb dX1_prepare_62 ?_
                  refine lv_topi (fun x_22 ex_22 => ?_)
                  have fx_22 : 1 ≤ x_22.toInt ∧ x_22.toInt ≤ 64 := by rw [ex_22]; have q := cv_shl1 (y := u_8) 0 6 (by decide) (by decide) (by omega) (by omega); omega
                  refine lv_ior hx hb dX1_prepare_63 ?_
                  refine lv_topi (fun x_23 ex_23 => ?_)
                  refine va_iast hx hb hK hP hD hS 1 0 rfl rfl (vp_in_iff.mpr (by omega)) dX1_prepare_64 (fun H locs hP hD hS => ?_)
                  obtain ⟨f_24, ef_24⟩ : ∃ z9 : Nat → Int32, z9 = upd f_9 u_3.toNatClampNeg x_23 := ⟨_, rfl⟩
                  rw [← ef_24] at hP hD
                  have hP : va_P (dC, dI) vwCl [(gm0, .inr (1, [.ref g_won, .ref h0])), (g_won, .inl (cyI, 128, .inl f_24)), (h0, .inr (2, [.int a_pl, .int a_li, .int a_le, .int a_lc, .int a_ac, .int a_ng, .ref a_first, .ref a_now, .ref a_lawPlace, .ref a_lawOther, .ref a_lawEach, .ref a_lawFrom, .ref a_foes, .ref a_suitTable, .ref a_acts])), (a_first, .inl (cyI, 7, .inl a_f_first)), (a_now, .inl (cyI, 7, .inl a_f_now)), (a_lawPlace, .inl (cyI, 6, .inl a_f_lawPlace)), (a_lawOther, .inl (cyI, 6, .inl a_f_lawOther)), (a_lawEach, .inl (cyI, 6, .inl a_f_lawEach)), (a_lawFrom, .inl (cyI, 6, .inl a_f_lawFrom)), (a_foes, .inl (cyI, 7, .inl a_f_foes)), (a_suitTable, .inl (cyI, 49, .inl a_f_suitTable)), (a_acts, .inl (cyI, 40, .inl a_f_acts))] H := hP
                  have hD : va_D A [(gm0, .inr (1, [.ref g_won, .ref h0])), (g_won, .inl (cyI, 128, .inl f_24)), (h0, .inr (2, [.int a_pl, .int a_li, .int a_le, .int a_lc, .int a_ac, .int a_ng, .ref a_first, .ref a_now, .ref a_lawPlace, .ref a_lawOther, .ref a_lawEach, .ref a_lawFrom, .ref a_foes, .ref a_suitTable, .ref a_acts])), (a_first, .inl (cyI, 7, .inl a_f_first)), (a_now, .inl (cyI, 7, .inl a_f_now)), (a_lawPlace, .inl (cyI, 6, .inl a_f_lawPlace)), (a_lawOther, .inl (cyI, 6, .inl a_f_lawOther)), (a_lawEach, .inl (cyI, 6, .inl a_f_lawEach)), (a_lawFrom, .inl (cyI, 6, .inl a_f_lawFrom)), (a_foes, .inl (cyI, 7, .inl a_f_foes)), (a_suitTable, .inl (cyI, 49, .inl a_f_suitTable)), (a_acts, .inl (cyI, 40, .inl a_f_acts))] := hD
                  exact join_16 f_24 _ _ _ hP hD hS (lv_sub hl [0, 1, 2, 3] rfl)
        exact key_10 _ 0 f_7 _ _ _ (by decide) hP hD hS (lv_sub hl [0, 1, 2, 3] rfl) (Nat.lt_succ_self _)
  exact key_5 _ x_2 g_f _ _ _ (by omega) hP hD hS (lv_sub hl [0, 1, 2] rfl) (Nat.lt_succ_self _)

/- X1_prepare -/
set_option maxHeartbeats 4000000 in
set_option maxRecDepth 100000 in
theorem n_gprepare1 (l : Launch) (dC : Nat → ClassId) (dI : Nat → Nat → Nat) (cyI cyB cyJ cyZ cyH cyN : ClassId) (sz : Nat) (gm0 g_won : Nat) (g_f : Nat → Int32) (h0 a_first a_now a_lawPlace a_lawOther a_lawEach a_lawFrom a_foes a_suitTable a_acts : Nat) (a_pl a_li a_le a_lc a_ac a_ng : Int32) (a_f_first a_f_now a_f_lawPlace a_f_lawOther a_f_lawEach a_f_lawFrom a_f_foes a_f_suitTable a_f_acts : Nat → Int32) (g0 : rg 0 6 7 a_f_first) (g1 : rg 0 6 7 a_f_now) (g2 : rg 0 6 6 a_f_lawPlace) (g3 : rg 0 6 6 a_f_lawOther) (g4 : ra 40 a_f_acts) (g5 : 0 ≤ a_pl.toInt ∧ a_pl.toInt ≤ 7) (g6 : 0 ≤ a_lc.toInt ∧ a_lc.toInt ≤ 6) (g7 : 0 ≤ a_ac.toInt ∧ a_ac.toInt ≤ 40) : Met l yX1_prepare (wk yX1_prepare cX1_prepare 4 none) ({ frames := 3, cells := 0, slots := 0, locals := 106 }) (va_Pc [.ref gm0, .ref h0] (fun U => U.heap.size = sz ∧ va_P (dC, dI) vwCl [(gm0, .inr (1, [.ref g_won, .ref h0])), (g_won, .inl (cyI, 128, .inl g_f)), (h0, .inr (2, [.int a_pl, .int a_li, .int a_le, .int a_lc, .int a_ac, .int a_ng, .ref a_first, .ref a_now, .ref a_lawPlace, .ref a_lawOther, .ref a_lawEach, .ref a_lawFrom, .ref a_foes, .ref a_suitTable, .ref a_acts])), (a_first, .inl (cyI, 7, .inl a_f_first)), (a_now, .inl (cyI, 7, .inl a_f_now)), (a_lawPlace, .inl (cyI, 6, .inl a_f_lawPlace)), (a_lawOther, .inl (cyI, 6, .inl a_f_lawOther)), (a_lawEach, .inl (cyI, 6, .inl a_f_lawEach)), (a_lawFrom, .inl (cyI, 6, .inl a_f_lawFrom)), (a_foes, .inl (cyI, 7, .inl a_f_foes)), (a_suitTable, .inl (cyI, 49, .inl a_f_suitTable)), (a_acts, .inl (cyI, 40, .inl a_f_acts))] U.heap ∧ va_K (dC, dI) vwCl [(cyI, .int), (cyB, .byte), (cyJ, .long), (cyZ, .boolean), (cyH, .object RX2), (cyN, .array .long)] U ∧ va_D (fun _ => True) [(gm0, .inr (1, [.ref g_won, .ref h0])), (g_won, .inl (cyI, 128, .inl g_f)), (h0, .inr (2, [.int a_pl, .int a_li, .int a_le, .int a_lc, .int a_ac, .int a_ng, .ref a_first, .ref a_now, .ref a_lawPlace, .ref a_lawOther, .ref a_lawEach, .ref a_lawFrom, .ref a_foes, .ref a_suitTable, .ref a_acts])), (a_first, .inl (cyI, 7, .inl a_f_first)), (a_now, .inl (cyI, 7, .inl a_f_now)), (a_lawPlace, .inl (cyI, 6, .inl a_f_lawPlace)), (a_lawOther, .inl (cyI, 6, .inl a_f_lawOther)), (a_lawEach, .inl (cyI, 6, .inl a_f_lawEach)), (a_lawFrom, .inl (cyI, 6, .inl a_f_lawFrom)), (a_foes, .inl (cyI, 7, .inl a_f_foes)), (a_suitTable, .inl (cyI, 49, .inl a_f_suitTable)), (a_acts, .inl (cyI, 40, .inl a_f_acts))])) (va_Qv (fun _ : Unit => True) (fun (_ : Unit) (t : State) => ∃ y0 : Nat → Int32, va_P (dC, dI) vwCl [(gm0, .inr (1, [.ref g_won, .ref h0])), (g_won, .inl (cyI, 128, .inl y0)), (h0, .inr (2, [.int a_pl, .int a_li, .int a_le, .int a_lc, .int a_ac, .int a_ng, .ref a_first, .ref a_now, .ref a_lawPlace, .ref a_lawOther, .ref a_lawEach, .ref a_lawFrom, .ref a_foes, .ref a_suitTable, .ref a_acts])), (a_first, .inl (cyI, 7, .inl a_f_first)), (a_now, .inl (cyI, 7, .inl a_f_now)), (a_lawPlace, .inl (cyI, 6, .inl a_f_lawPlace)), (a_lawOther, .inl (cyI, 6, .inl a_f_lawOther)), (a_lawEach, .inl (cyI, 6, .inl a_f_lawEach)), (a_lawFrom, .inl (cyI, 6, .inl a_f_lawFrom)), (a_foes, .inl (cyI, 7, .inl a_f_foes)), (a_suitTable, .inl (cyI, 49, .inl a_f_suitTable)), (a_acts, .inl (cyI, 40, .inl a_f_acts))] t.heap ∧ va_D (va_A [(gm0, .inr (1, [.ref g_won, .ref h0])), (g_won, .inl (cyI, 128, .inl g_f)), (h0, .inr (2, [.int a_pl, .int a_li, .int a_le, .int a_lc, .int a_ac, .int a_ng, .ref a_first, .ref a_now, .ref a_lawPlace, .ref a_lawOther, .ref a_lawEach, .ref a_lawFrom, .ref a_foes, .ref a_suitTable, .ref a_acts])), (a_first, .inl (cyI, 7, .inl a_f_first)), (a_now, .inl (cyI, 7, .inl a_f_now)), (a_lawPlace, .inl (cyI, 6, .inl a_f_lawPlace)), (a_lawOther, .inl (cyI, 6, .inl a_f_lawOther)), (a_lawEach, .inl (cyI, 6, .inl a_f_lawEach)), (a_lawFrom, .inl (cyI, 6, .inl a_f_lawFrom)), (a_foes, .inl (cyI, 7, .inl a_f_foes)), (a_suitTable, .inl (cyI, 49, .inl a_f_suitTable)), (a_acts, .inl (cyI, 40, .inl a_f_acts))] sz) [(gm0, .inr (1, [.ref g_won, .ref h0])), (g_won, .inl (cyI, 128, .inl y0)), (h0, .inr (2, [.int a_pl, .int a_li, .int a_le, .int a_lc, .int a_ac, .int a_ng, .ref a_first, .ref a_now, .ref a_lawPlace, .ref a_lawOther, .ref a_lawEach, .ref a_lawFrom, .ref a_foes, .ref a_suitTable, .ref a_acts])), (a_first, .inl (cyI, 7, .inl a_f_first)), (a_now, .inl (cyI, 7, .inl a_f_now)), (a_lawPlace, .inl (cyI, 6, .inl a_f_lawPlace)), (a_lawOther, .inl (cyI, 6, .inl a_f_lawOther)), (a_lawEach, .inl (cyI, 6, .inl a_f_lawEach)), (a_lawFrom, .inl (cyI, 6, .inl a_f_lawFrom)), (a_foes, .inl (cyI, 7, .inl a_f_foes)), (a_suitTable, .inl (cyI, 49, .inl a_f_suitTable)), (a_acts, .inl (cyI, 40, .inl a_f_acts))]) (va_A [(gm0, .inr (1, [.ref g_won, .ref h0])), (g_won, .inl (cyI, 128, .inl g_f)), (h0, .inr (2, [.int a_pl, .int a_li, .int a_le, .int a_lc, .int a_ac, .int a_ng, .ref a_first, .ref a_now, .ref a_lawPlace, .ref a_lawOther, .ref a_lawEach, .ref a_lawFrom, .ref a_foes, .ref a_suitTable, .ref a_acts])), (a_first, .inl (cyI, 7, .inl a_f_first)), (a_now, .inl (cyI, 7, .inl a_f_now)), (a_lawPlace, .inl (cyI, 6, .inl a_f_lawPlace)), (a_lawOther, .inl (cyI, 6, .inl a_f_lawOther)), (a_lawEach, .inl (cyI, 6, .inl a_f_lawEach)), (a_lawFrom, .inl (cyI, 6, .inl a_f_lawFrom)), (a_foes, .inl (cyI, 7, .inl a_f_foes)), (a_suitTable, .inl (cyI, 49, .inl a_f_suitTable)), (a_acts, .inl (cyI, 40, .inl a_f_acts))] sz)) 0 0 (va_A [(gm0, .inr (1, [.ref g_won, .ref h0])), (g_won, .inl (cyI, 128, .inl g_f)), (h0, .inr (2, [.int a_pl, .int a_li, .int a_le, .int a_lc, .int a_ac, .int a_ng, .ref a_first, .ref a_now, .ref a_lawPlace, .ref a_lawOther, .ref a_lawEach, .ref a_lawFrom, .ref a_foes, .ref a_suitTable, .ref a_acts])), (a_first, .inl (cyI, 7, .inl a_f_first)), (a_now, .inl (cyI, 7, .inl a_f_now)), (a_lawPlace, .inl (cyI, 6, .inl a_f_lawPlace)), (a_lawOther, .inl (cyI, 6, .inl a_f_lawOther)), (a_lawEach, .inl (cyI, 6, .inl a_f_lawEach)), (a_lawFrom, .inl (cyI, 6, .inl a_f_lawFrom)), (a_foes, .inl (cyI, 7, .inl a_f_foes)), (a_suitTable, .inl (cyI, 49, .inl a_f_suitTable)), (a_acts, .inl (cyI, 40, .inl a_f_acts))] sz) := by
  refine Met.ofW (cc := cX1_prepare) (maxL := 4) (ret := none) (by decide) rfl ?_
  intro p e s m args below meth c s₁ B hml hv
  obtain ⟨rfl, hsz, hP, hK, hD0⟩ := hv
  have hx := B.exec
  have hb := B.bytes
  have hr := B.returns
  have hts : ∀ w ∈ uU, w.before ([.ref gm0, .ref h0] : List Value).toArray s = true := fun w h => atoms_spec (ws := wk yX1_prepare cX1_prepare 4 none) B.pre w (List.mem_cons_of_mem _ h)
  have hown : s.vm.findClass RX1 = some m.cls := findClass_of_methodNamed B.named
  have hlocks := B.notSynchronized
  subst hsz
  have hD := hD0.self (sz := s.heap.size)
  generalize hAe : va_A [(gm0, .inr (1, [.ref g_won, .ref h0])), (g_won, .inl (cyI, 128, .inl g_f)), (h0, .inr (2, [.int a_pl, .int a_li, .int a_le, .int a_lc, .int a_ac, .int a_ng, .ref a_first, .ref a_now, .ref a_lawPlace, .ref a_lawOther, .ref a_lawEach, .ref a_lawFrom, .ref a_foes, .ref a_suitTable, .ref a_acts])), (a_first, .inl (cyI, 7, .inl a_f_first)), (a_now, .inl (cyI, 7, .inl a_f_now)), (a_lawPlace, .inl (cyI, 6, .inl a_f_lawPlace)), (a_lawOther, .inl (cyI, 6, .inl a_f_lawOther)), (a_lawEach, .inl (cyI, 6, .inl a_f_lawEach)), (a_lawFrom, .inl (cyI, 6, .inl a_f_lawFrom)), (a_foes, .inl (cyI, 7, .inl a_f_foes)), (a_suitTable, .inl (cyI, 49, .inl a_f_suitTable)), (a_acts, .inl (cyI, 40, .inl a_f_acts))] s.heap.size = A at hD ⊢
  have hA : ∀ q : Nat, s.heap.size ≤ q → A q := fun q h => by rw [← hAe]; exact Or.inr h
  have hS : va_S A s.heap s.heap [] := va_S.rf
  have hP : va_P (dC, dI) vwCl [(gm0, .inr (1, [.ref g_won, .ref h0])), (g_won, .inl (cyI, 128, .inl g_f)), (h0, .inr (2, [.int a_pl, .int a_li, .int a_le, .int a_lc, .int a_ac, .int a_ng, .ref a_first, .ref a_now, .ref a_lawPlace, .ref a_lawOther, .ref a_lawEach, .ref a_lawFrom, .ref a_foes, .ref a_suitTable, .ref a_acts])), (a_first, .inl (cyI, 7, .inl a_f_first)), (a_now, .inl (cyI, 7, .inl a_f_now)), (a_lawPlace, .inl (cyI, 6, .inl a_f_lawPlace)), (a_lawOther, .inl (cyI, 6, .inl a_f_lawOther)), (a_lawEach, .inl (cyI, 6, .inl a_f_lawEach)), (a_lawFrom, .inl (cyI, 6, .inl a_f_lawFrom)), (a_foes, .inl (cyI, 7, .inl a_f_foes)), (a_suitTable, .inl (cyI, 49, .inl a_f_suitTable)), (a_acts, .inl (cyI, 40, .inl a_f_acts))] s.heap := hP
  have hl := lv_entry ([.ref gm0, .ref h0]) (n := 4) (Nat.le_of_ble_eq_true rfl)
  rw [lg_entry_eq]
  generalize (lg_sl ([.ref gm0, .ref h0]) ++ List.replicate (4 - (lg_sl ([.ref gm0, .ref h0])).length) Slot.unset).toArray = ls at hl ⊢
  have hl : lv_has ls 4 [(0, .ref gm0), (1, .ref h0)] := hl
  obtain ⟨H, hHe⟩ : ∃ H, H = s.heap := ⟨_, rfl⟩
  have hP : va_P (dC, dI) vwCl [(gm0, .inr (1, [.ref g_won, .ref h0])), (g_won, .inl (cyI, 128, .inl g_f)), (h0, .inr (2, [.int a_pl, .int a_li, .int a_le, .int a_lc, .int a_ac, .int a_ng, .ref a_first, .ref a_now, .ref a_lawPlace, .ref a_lawOther, .ref a_lawEach, .ref a_lawFrom, .ref a_foes, .ref a_suitTable, .ref a_acts])), (a_first, .inl (cyI, 7, .inl a_f_first)), (a_now, .inl (cyI, 7, .inl a_f_now)), (a_lawPlace, .inl (cyI, 6, .inl a_f_lawPlace)), (a_lawOther, .inl (cyI, 6, .inl a_f_lawOther)), (a_lawEach, .inl (cyI, 6, .inl a_f_lawEach)), (a_lawFrom, .inl (cyI, 6, .inl a_f_lawFrom)), (a_foes, .inl (cyI, 7, .inl a_f_foes)), (a_suitTable, .inl (cyI, 49, .inl a_f_suitTable)), (a_acts, .inl (cyI, 40, .inl a_f_acts))] H := by rw [hHe]; exact hP
  have hS : va_S A s.heap H [] := by rw [hHe]; exact hS
  refine cv_heap hHe ?_
  obtain ⟨Q9, hQ9⟩ : ∃ Q9 : State → Prop, Q9 = MQ below (va_Qv (fun _ : Unit => True) (fun (_ : Unit) (t : State) => ∃ y0 : Nat → Int32, va_P (dC, dI) vwCl [(gm0, .inr (1, [.ref g_won, .ref h0])), (g_won, .inl (cyI, 128, .inl y0)), (h0, .inr (2, [.int a_pl, .int a_li, .int a_le, .int a_lc, .int a_ac, .int a_ng, .ref a_first, .ref a_now, .ref a_lawPlace, .ref a_lawOther, .ref a_lawEach, .ref a_lawFrom, .ref a_foes, .ref a_suitTable, .ref a_acts])), (a_first, .inl (cyI, 7, .inl a_f_first)), (a_now, .inl (cyI, 7, .inl a_f_now)), (a_lawPlace, .inl (cyI, 6, .inl a_f_lawPlace)), (a_lawOther, .inl (cyI, 6, .inl a_f_lawOther)), (a_lawEach, .inl (cyI, 6, .inl a_f_lawEach)), (a_lawFrom, .inl (cyI, 6, .inl a_f_lawFrom)), (a_foes, .inl (cyI, 7, .inl a_f_foes)), (a_suitTable, .inl (cyI, 49, .inl a_f_suitTable)), (a_acts, .inl (cyI, 40, .inl a_f_acts))] t.heap ∧ va_D A [(gm0, .inr (1, [.ref g_won, .ref h0])), (g_won, .inl (cyI, 128, .inl y0)), (h0, .inr (2, [.int a_pl, .int a_li, .int a_le, .int a_lc, .int a_ac, .int a_ng, .ref a_first, .ref a_now, .ref a_lawPlace, .ref a_lawOther, .ref a_lawEach, .ref a_lawFrom, .ref a_foes, .ref a_suitTable, .ref a_acts])), (a_first, .inl (cyI, 7, .inl a_f_first)), (a_now, .inl (cyI, 7, .inl a_f_now)), (a_lawPlace, .inl (cyI, 6, .inl a_f_lawPlace)), (a_lawOther, .inl (cyI, 6, .inl a_f_lawOther)), (a_lawEach, .inl (cyI, 6, .inl a_f_lawEach)), (a_lawFrom, .inl (cyI, 6, .inl a_f_lawFrom)), (a_foes, .inl (cyI, 7, .inl a_f_foes)), (a_suitTable, .inl (cyI, 49, .inl a_f_suitTable)), (a_acts, .inl (cyI, 40, .inl a_f_acts))]) A) ([.ref gm0, .ref h0] : List Value).toArray s 0 0 A := ⟨_, rfl⟩
  rw [← hQ9]
  refine lv_aload_n hx hb dX1_prepare_0 rfl (lv_at hl 0 rfl) ?_
  refine lv_aload_n hx hb dX1_prepare_1 rfl (lv_at hl 1 rfl) ?_
  refine va_put (D := (dC, dI)) (ci := 1) (v := .ref h0) (ty := (.object "SwapTrophies$Hall")) (C := RX1) (T := TX1) (N := 2) hx hb hts uinX1 tyX1 tyX1_ok nmX1 hown hK hP hD hS 0 rfl rfl 1 (by decide) (hts _ wd_2_41) (fun _ h9 => h9) rfl (by decide +kernel) rfl rfl (Nat.le_of_ble_eq_true rfl) dX1_prepare_2 (fun H locs hP hD hS => ?_)
  have hP : va_P (dC, dI) vwCl [(gm0, .inr (1, [.ref g_won, .ref h0])), (g_won, .inl (cyI, 128, .inl g_f)), (h0, .inr (2, [.int a_pl, .int a_li, .int a_le, .int a_lc, .int a_ac, .int a_ng, .ref a_first, .ref a_now, .ref a_lawPlace, .ref a_lawOther, .ref a_lawEach, .ref a_lawFrom, .ref a_foes, .ref a_suitTable, .ref a_acts])), (a_first, .inl (cyI, 7, .inl a_f_first)), (a_now, .inl (cyI, 7, .inl a_f_now)), (a_lawPlace, .inl (cyI, 6, .inl a_f_lawPlace)), (a_lawOther, .inl (cyI, 6, .inl a_f_lawOther)), (a_lawEach, .inl (cyI, 6, .inl a_f_lawEach)), (a_lawFrom, .inl (cyI, 6, .inl a_f_lawFrom)), (a_foes, .inl (cyI, 7, .inl a_f_foes)), (a_suitTable, .inl (cyI, 49, .inl a_f_suitTable)), (a_acts, .inl (cyI, 40, .inl a_f_acts))] H := hP
  have hD : va_D A [(gm0, .inr (1, [.ref g_won, .ref h0])), (g_won, .inl (cyI, 128, .inl g_f)), (h0, .inr (2, [.int a_pl, .int a_li, .int a_le, .int a_lc, .int a_ac, .int a_ng, .ref a_first, .ref a_now, .ref a_lawPlace, .ref a_lawOther, .ref a_lawEach, .ref a_lawFrom, .ref a_foes, .ref a_suitTable, .ref a_acts])), (a_first, .inl (cyI, 7, .inl a_f_first)), (a_now, .inl (cyI, 7, .inl a_f_now)), (a_lawPlace, .inl (cyI, 6, .inl a_f_lawPlace)), (a_lawOther, .inl (cyI, 6, .inl a_f_lawOther)), (a_lawEach, .inl (cyI, 6, .inl a_f_lawEach)), (a_lawFrom, .inl (cyI, 6, .inl a_f_lawFrom)), (a_foes, .inl (cyI, 7, .inl a_f_foes)), (a_suitTable, .inl (cyI, 49, .inl a_f_suitTable)), (a_acts, .inl (cyI, 40, .inl a_f_acts))] := hD
  refine lv_iconst (v := 1) hx hb dX1_prepare_5 (by decide) ?_
  refine lv_aload_n hx hb dX1_prepare_6 rfl (lv_at hl 1 rfl) ?_
  refine va_get (D := (dC, dI)) (ci := 2) (v := .int a_pl) (C := RX2) (T := TX2) (N := 15) hx hb hts uinX2 hown hK hP 2 rfl rfl 0 (by decide) (hts _ wd_1_81) (fun _ h9 => h9) rfl dX1_prepare_7 ?_
  refine lv_ishl hx hb dX1_prepare_10 ?_
  refine lv_topi (fun x_1 ex_1 => ?_)
  have fx_1 : 1 ≤ x_1.toInt ∧ x_1.toInt ≤ 128 := by rw [ex_1]; have q := cv_shl1 (y := a_pl) 0 7 (by decide) (by decide) (by omega) (by omega); omega
  refine lv_iconst (v := 1) hx hb dX1_prepare_11 (by decide) ?_
  refine lv_isub hx hb dX1_prepare_12 ?_
  refine lv_topi (fun x_2 ex_2 => ?_)
  have fx_2 : x_2.toInt = x_1.toInt - 1 := by rw [ex_2]; exact cv_subI (by have : (1 : Int32).toInt = 1 := rfl; omega) (by have : (1 : Int32).toInt = 1 := rfl; omega)
  refine lv_istore_n (lv' := [(2, .int x_2), (0, .ref gm0), (1, .ref h0)]) hx hb dX1_prepare_13 rfl hl (by decide) rfl (fun ls hl => ?_)
  have key_5 : ∀ (nkey_5 : Nat) (u_3 : Int32) (f_4 : Nat → Int32) (H : Heap) (locs : List Loc) (ls : Array Slot), (0 ≤ u_3.toInt ∧ u_3.toInt ≤ 127) → va_P (dC, dI) vwCl [(gm0, .inr (1, [.ref g_won, .ref h0])), (g_won, .inl (cyI, 128, .inl f_4)), (h0, .inr (2, [.int a_pl, .int a_li, .int a_le, .int a_lc, .int a_ac, .int a_ng, .ref a_first, .ref a_now, .ref a_lawPlace, .ref a_lawOther, .ref a_lawEach, .ref a_lawFrom, .ref a_foes, .ref a_suitTable, .ref a_acts])), (a_first, .inl (cyI, 7, .inl a_f_first)), (a_now, .inl (cyI, 7, .inl a_f_now)), (a_lawPlace, .inl (cyI, 6, .inl a_f_lawPlace)), (a_lawOther, .inl (cyI, 6, .inl a_f_lawOther)), (a_lawEach, .inl (cyI, 6, .inl a_f_lawEach)), (a_lawFrom, .inl (cyI, 6, .inl a_f_lawFrom)), (a_foes, .inl (cyI, 7, .inl a_f_foes)), (a_suitTable, .inl (cyI, 49, .inl a_f_suitTable)), (a_acts, .inl (cyI, 40, .inl a_f_acts))] H → va_D A [(gm0, .inr (1, [.ref g_won, .ref h0])), (g_won, .inl (cyI, 128, .inl f_4)), (h0, .inr (2, [.int a_pl, .int a_li, .int a_le, .int a_lc, .int a_ac, .int a_ng, .ref a_first, .ref a_now, .ref a_lawPlace, .ref a_lawOther, .ref a_lawEach, .ref a_lawFrom, .ref a_foes, .ref a_suitTable, .ref a_acts])), (a_first, .inl (cyI, 7, .inl a_f_first)), (a_now, .inl (cyI, 7, .inl a_f_now)), (a_lawPlace, .inl (cyI, 6, .inl a_f_lawPlace)), (a_lawOther, .inl (cyI, 6, .inl a_f_lawOther)), (a_lawEach, .inl (cyI, 6, .inl a_f_lawEach)), (a_lawFrom, .inl (cyI, 6, .inl a_f_lawFrom)), (a_foes, .inl (cyI, 7, .inl a_f_foes)), (a_suitTable, .inl (cyI, 49, .inl a_f_suitTable)), (a_acts, .inl (cyI, 40, .inl a_f_acts))] → va_S A s.heap H locs → lv_has ls 4 [(2, .int u_3), (0, .ref gm0), (1, .ref h0)] → (u_3.toInt - 0).toNat < nkey_5 → W p l e ({ frames := 3, cells := 0, slots := 0, locals := 106 }) s m ([.ref gm0, .ref h0] : List Value).toArray below meth c H locs 0 0 Q9 (F0 m 14 ls []) := by
    intro nkey_5
    induction nkey_5 with
    | zero => intro u_3 f_4 H locs ls hu_3 hP hD hS hl hnkey_5; exact absurd hnkey_5 (Nat.not_lt_zero _)
    | succ nkey_5 ihkey_5 =>
      intro u_3 f_4 H locs ls hu_3 hP hD hS hl hnkey_5
      refine lv_iload_n hx hb dX1_prepare_14 rfl (lv_at hl 0 rfl) ?_
      refine lv_if_le (tgt := 77) hx hb dX1_prepare_15 (by decide) (fun c_6 => ?_) (fun c_6 => ?_)
      · have c_6 : u_3.toInt ≤ 0 := cv_le c_6
        rw [hQ9]
        have hP9 := hP.sub (ws' := [(gm0, .inr (1, [.ref g_won, .ref h0])), (g_won, .inl (cyI, 128, .inl f_4)), (h0, .inr (2, [.int a_pl, .int a_li, .int a_le, .int a_lc, .int a_ac, .int a_ng, .ref a_first, .ref a_now, .ref a_lawPlace, .ref a_lawOther, .ref a_lawEach, .ref a_lawFrom, .ref a_foes, .ref a_suitTable, .ref a_acts])), (a_first, .inl (cyI, 7, .inl a_f_first)), (a_now, .inl (cyI, 7, .inl a_f_now)), (a_lawPlace, .inl (cyI, 6, .inl a_f_lawPlace)), (a_lawOther, .inl (cyI, 6, .inl a_f_lawOther)), (a_lawEach, .inl (cyI, 6, .inl a_f_lawEach)), (a_lawFrom, .inl (cyI, 6, .inl a_f_lawFrom)), (a_foes, .inl (cyI, 7, .inl a_f_foes)), (a_suitTable, .inl (cyI, 49, .inl a_f_suitTable)), (a_acts, .inl (cyI, 40, .inl a_f_acts))]) [0, 1, 2, 3, 4, 5, 6, 7, 8, 9, 10, 11] rfl
        have hD9 := hD.sub (ws' := [(gm0, .inr (1, [.ref g_won, .ref h0])), (g_won, .inl (cyI, 128, .inl f_4)), (h0, .inr (2, [.int a_pl, .int a_li, .int a_le, .int a_lc, .int a_ac, .int a_ng, .ref a_first, .ref a_now, .ref a_lawPlace, .ref a_lawOther, .ref a_lawEach, .ref a_lawFrom, .ref a_foes, .ref a_suitTable, .ref a_acts])), (a_first, .inl (cyI, 7, .inl a_f_first)), (a_now, .inl (cyI, 7, .inl a_f_now)), (a_lawPlace, .inl (cyI, 6, .inl a_f_lawPlace)), (a_lawOther, .inl (cyI, 6, .inl a_f_lawOther)), (a_lawEach, .inl (cyI, 6, .inl a_f_lawEach)), (a_lawFrom, .inl (cyI, 6, .inl a_f_lawFrom)), (a_foes, .inl (cyI, 7, .inl a_f_foes)), (a_suitTable, .inl (cyI, 49, .inl a_f_suitTable)), (a_acts, .inl (cyI, 40, .inl a_f_acts))]) [0, 1, 2, 3, 4, 5, 6, 7, 8, 9, 10, 11] (by decide) rfl
        exact W.vret hx hb hr (fun t ht hW => ⟨⟨(), rfl, trivial, ⟨f_4, by rw [ht]; exact hP9, hD9⟩⟩, hS.F ht⟩) hS.2.2 dX1_prepare_77
      · have c_6 : 0 < u_3.toInt := cv_nle c_6
        refine lv_aload_n hx hb dX1_prepare_18 rfl (lv_at hl 1 rfl) ?_
        refine va_get (D := (dC, dI)) (ci := 1) (v := .ref g_won) (C := RX1) (T := TX1) (N := 2) hx hb hts uinX1 hown hK hP 0 rfl rfl 0 (by decide) (hts _ wd_2_40) (fun _ h9 => h9) rfl dX1_prepare_19 ?_
        refine lv_iload_n hx hb dX1_prepare_22 rfl (lv_at hl 0 rfl) ?_
        refine lv_iconst (v := 0) hx hb dX1_prepare_23 (by decide) ?_
        refine va_iast hx hb hK hP hD hS 1 0 rfl rfl (vp_in_iff.mpr (by omega)) dX1_prepare_24 (fun H locs hP hD hS => ?_)
        obtain ⟨f_7, ef_7⟩ : ∃ z9 : Nat → Int32, z9 = upd f_4 u_3.toNatClampNeg 0 := ⟨_, rfl⟩
        rw [← ef_7] at hP hD
        have hP : va_P (dC, dI) vwCl [(gm0, .inr (1, [.ref g_won, .ref h0])), (g_won, .inl (cyI, 128, .inl f_7)), (h0, .inr (2, [.int a_pl, .int a_li, .int a_le, .int a_lc, .int a_ac, .int a_ng, .ref a_first, .ref a_now, .ref a_lawPlace, .ref a_lawOther, .ref a_lawEach, .ref a_lawFrom, .ref a_foes, .ref a_suitTable, .ref a_acts])), (a_first, .inl (cyI, 7, .inl a_f_first)), (a_now, .inl (cyI, 7, .inl a_f_now)), (a_lawPlace, .inl (cyI, 6, .inl a_f_lawPlace)), (a_lawOther, .inl (cyI, 6, .inl a_f_lawOther)), (a_lawEach, .inl (cyI, 6, .inl a_f_lawEach)), (a_lawFrom, .inl (cyI, 6, .inl a_f_lawFrom)), (a_foes, .inl (cyI, 7, .inl a_f_foes)), (a_suitTable, .inl (cyI, 49, .inl a_f_suitTable)), (a_acts, .inl (cyI, 40, .inl a_f_acts))] H := hP
        have hD : va_D A [(gm0, .inr (1, [.ref g_won, .ref h0])), (g_won, .inl (cyI, 128, .inl f_7)), (h0, .inr (2, [.int a_pl, .int a_li, .int a_le, .int a_lc, .int a_ac, .int a_ng, .ref a_first, .ref a_now, .ref a_lawPlace, .ref a_lawOther, .ref a_lawEach, .ref a_lawFrom, .ref a_foes, .ref a_suitTable, .ref a_acts])), (a_first, .inl (cyI, 7, .inl a_f_first)), (a_now, .inl (cyI, 7, .inl a_f_now)), (a_lawPlace, .inl (cyI, 6, .inl a_f_lawPlace)), (a_lawOther, .inl (cyI, 6, .inl a_f_lawOther)), (a_lawEach, .inl (cyI, 6, .inl a_f_lawEach)), (a_lawFrom, .inl (cyI, 6, .inl a_f_lawFrom)), (a_foes, .inl (cyI, 7, .inl a_f_foes)), (a_suitTable, .inl (cyI, 49, .inl a_f_suitTable)), (a_acts, .inl (cyI, 40, .inl a_f_acts))] := hD
        refine lv_iconst (v := 0) hx hb dX1_prepare_25 (by decide) ?_
        refine lv_istore_n (lv' := [(3, .int 0), (2, .int u_3), (0, .ref gm0), (1, .ref h0)]) hx hb dX1_prepare_26 rfl hl (by decide) rfl (fun ls hl => ?_)
        have key_10 : ∀ (nkey_10 : Nat) (u_8 : Int32) (f_9 : Nat → Int32) (H : Heap) (locs : List Loc) (ls : Array Slot), (0 ≤ u_8.toInt ∧ u_8.toInt ≤ 7) → va_P (dC, dI) vwCl [(gm0, .inr (1, [.ref g_won, .ref h0])), (g_won, .inl (cyI, 128, .inl f_9)), (h0, .inr (2, [.int a_pl, .int a_li, .int a_le, .int a_lc, .int a_ac, .int a_ng, .ref a_first, .ref a_now, .ref a_lawPlace, .ref a_lawOther, .ref a_lawEach, .ref a_lawFrom, .ref a_foes, .ref a_suitTable, .ref a_acts])), (a_first, .inl (cyI, 7, .inl a_f_first)), (a_now, .inl (cyI, 7, .inl a_f_now)), (a_lawPlace, .inl (cyI, 6, .inl a_f_lawPlace)), (a_lawOther, .inl (cyI, 6, .inl a_f_lawOther)), (a_lawEach, .inl (cyI, 6, .inl a_f_lawEach)), (a_lawFrom, .inl (cyI, 6, .inl a_f_lawFrom)), (a_foes, .inl (cyI, 7, .inl a_f_foes)), (a_suitTable, .inl (cyI, 49, .inl a_f_suitTable)), (a_acts, .inl (cyI, 40, .inl a_f_acts))] H → va_D A [(gm0, .inr (1, [.ref g_won, .ref h0])), (g_won, .inl (cyI, 128, .inl f_9)), (h0, .inr (2, [.int a_pl, .int a_li, .int a_le, .int a_lc, .int a_ac, .int a_ng, .ref a_first, .ref a_now, .ref a_lawPlace, .ref a_lawOther, .ref a_lawEach, .ref a_lawFrom, .ref a_foes, .ref a_suitTable, .ref a_acts])), (a_first, .inl (cyI, 7, .inl a_f_first)), (a_now, .inl (cyI, 7, .inl a_f_now)), (a_lawPlace, .inl (cyI, 6, .inl a_f_lawPlace)), (a_lawOther, .inl (cyI, 6, .inl a_f_lawOther)), (a_lawEach, .inl (cyI, 6, .inl a_f_lawEach)), (a_lawFrom, .inl (cyI, 6, .inl a_f_lawFrom)), (a_foes, .inl (cyI, 7, .inl a_f_foes)), (a_suitTable, .inl (cyI, 49, .inl a_f_suitTable)), (a_acts, .inl (cyI, 40, .inl a_f_acts))] → va_S A s.heap H locs → lv_has ls 4 [(3, .int u_8), (2, .int u_3), (0, .ref gm0), (1, .ref h0)] → (a_pl.toInt - u_8.toInt).toNat < nkey_10 → W p l e ({ frames := 3, cells := 0, slots := 0, locals := 106 }) s m ([.ref gm0, .ref h0] : List Value).toArray below meth c H locs 0 0 Q9 (F0 m 27 ls []) := by
          intro nkey_10
          induction nkey_10 with
          | zero => intro u_8 f_9 H locs ls hu_8 hP hD hS hl hnkey_10; exact absurd hnkey_10 (Nat.not_lt_zero _)
          | succ nkey_10 ihkey_10 =>
            intro u_8 f_9 H locs ls hu_8 hP hD hS hl hnkey_10
            refine lv_iload_n hx hb dX1_prepare_27 rfl (lv_at hl 0 rfl) ?_
            refine lv_aload_n hx hb dX1_prepare_28 rfl (lv_at hl 3 rfl) ?_
            refine va_get (D := (dC, dI)) (ci := 2) (v := .int a_pl) (C := RX2) (T := TX2) (N := 15) hx hb hts uinX2 hown hK hP 2 rfl rfl 0 (by decide) (hts _ wd_1_81) (fun _ h9 => h9) rfl dX1_prepare_29 ?_
            refine lv_icmp_ge (tgt := 71) hx hb dX1_prepare_32 (by decide) (fun c_11 => ?_) (fun c_11 => ?_)
            · have c_11 : a_pl.toInt ≤ u_8.toInt := cv_le c_11
              obtain ⟨x_12, ex_12⟩ : ∃ y : Int32, y = u_3 + (-1) := ⟨_, rfl⟩
              refine lv_iinc (v := x_12) (lv' := [(2, .int x_12), (3, .int u_8), (0, .ref gm0), (1, .ref h0)]) hx hb dX1_prepare_71 hl (k := 1) rfl (by rw [ex_12]; rfl) (by decide) rfl (fun ls hl => ?_)
              have fx_12 : x_12.toInt = u_3.toInt + (-1) := by rw [ex_12]; exact cv_addI (by have : ((-1) : Int32).toInt = (-1) := rfl; omega) (by have : ((-1) : Int32).toInt = (-1) := rfl; omega)
              refine lv_goto (tgt := 14) hx hb dX1_prepare_74 (by decide) ?_
              exact ihkey_5 x_12 f_9 _ _ _ (by omega) hP hD hS (lv_sub hl [0, 2, 3] rfl) (by omega)
            · have c_11 : u_8.toInt < a_pl.toInt := cv_nle c_11
              refine lv_iload_n hx hb dX1_prepare_35 rfl (lv_at hl 1 rfl) ?_
              refine lv_iload_n hx hb dX1_prepare_36 rfl (lv_at hl 0 rfl) ?_
              refine lv_ishr hx hb dX1_prepare_37 ?_
              refine lv_topi (fun x_13 ex_13 => ?_)
              have fx_13 : 0 ≤ x_13.toInt ∧ x_13.toInt ≤ u_3.toInt := by rw [ex_13]; exact cv_shr (by omega)
              refine lv_iconst (v := 1) hx hb dX1_prepare_38 (by decide) ?_
              refine lv_iand hx hb dX1_prepare_39 ?_
              refine lv_topi (fun x_14 ex_14 => ?_)
              have fx_14 : 0 ≤ x_14.toInt ∧ x_14.toInt ≤ 1 := by rw [ex_14]; exact cv_andR (by decide) (by decide)
              have join_16 : ∀ (f_15 : Nat → Int32) (H : Heap) (locs : List Loc) (ls : Array Slot), va_P (dC, dI) vwCl [(gm0, .inr (1, [.ref g_won, .ref h0])), (g_won, .inl (cyI, 128, .inl f_15)), (h0, .inr (2, [.int a_pl, .int a_li, .int a_le, .int a_lc, .int a_ac, .int a_ng, .ref a_first, .ref a_now, .ref a_lawPlace, .ref a_lawOther, .ref a_lawEach, .ref a_lawFrom, .ref a_foes, .ref a_suitTable, .ref a_acts])), (a_first, .inl (cyI, 7, .inl a_f_first)), (a_now, .inl (cyI, 7, .inl a_f_now)), (a_lawPlace, .inl (cyI, 6, .inl a_f_lawPlace)), (a_lawOther, .inl (cyI, 6, .inl a_f_lawOther)), (a_lawEach, .inl (cyI, 6, .inl a_f_lawEach)), (a_lawFrom, .inl (cyI, 6, .inl a_f_lawFrom)), (a_foes, .inl (cyI, 7, .inl a_f_foes)), (a_suitTable, .inl (cyI, 49, .inl a_f_suitTable)), (a_acts, .inl (cyI, 40, .inl a_f_acts))] H → va_D A [(gm0, .inr (1, [.ref g_won, .ref h0])), (g_won, .inl (cyI, 128, .inl f_15)), (h0, .inr (2, [.int a_pl, .int a_li, .int a_le, .int a_lc, .int a_ac, .int a_ng, .ref a_first, .ref a_now, .ref a_lawPlace, .ref a_lawOther, .ref a_lawEach, .ref a_lawFrom, .ref a_foes, .ref a_suitTable, .ref a_acts])), (a_first, .inl (cyI, 7, .inl a_f_first)), (a_now, .inl (cyI, 7, .inl a_f_now)), (a_lawPlace, .inl (cyI, 6, .inl a_f_lawPlace)), (a_lawOther, .inl (cyI, 6, .inl a_f_lawOther)), (a_lawEach, .inl (cyI, 6, .inl a_f_lawEach)), (a_lawFrom, .inl (cyI, 6, .inl a_f_lawFrom)), (a_foes, .inl (cyI, 7, .inl a_f_foes)), (a_suitTable, .inl (cyI, 49, .inl a_f_suitTable)), (a_acts, .inl (cyI, 40, .inl a_f_acts))] → va_S A s.heap H locs → lv_has ls 4 [(3, .int u_8), (2, .int u_3), (0, .ref gm0), (1, .ref h0)] → W p l e ({ frames := 3, cells := 0, slots := 0, locals := 106 }) s m ([.ref gm0, .ref h0] : List Value).toArray below meth c H locs 0 0 Q9 (F0 m 65 ls []) := by
                intro f_15 H locs ls hP hD hS hl
                obtain ⟨x_17, ex_17⟩ : ∃ y : Int32, y = u_8 + 1 := ⟨_, rfl⟩
                refine lv_iinc (v := x_17) (lv' := [(3, .int x_17), (2, .int u_3), (0, .ref gm0), (1, .ref h0)]) hx hb dX1_prepare_65 hl (k := 0) rfl (by rw [ex_17]; rfl) (by decide) rfl (fun ls hl => ?_)
                have fx_17 : x_17.toInt = u_8.toInt + 1 := by rw [ex_17]; exact cv_addI (by have : (1 : Int32).toInt = 1 := rfl; omega) (by have : (1 : Int32).toInt = 1 := rfl; omega)
                refine lv_goto (tgt := 27) hx hb dX1_prepare_68 (by decide) ?_
                exact ihkey_10 x_17 f_15 _ _ _ (by omega) hP hD hS (lv_sub hl [0, 1, 2, 3] rfl) (by omega)
              refine lv_if_eq (tgt := 65) hx hb dX1_prepare_40 (by decide) (fun c_18 => ?_) (fun c_18 => ?_)
              · have c_18 : x_14.toInt = 0 := cv_eq c_18
                exact join_16 f_9 _ _ _ hP hD hS (lv_sub hl [0, 1, 2, 3] rfl)
              · have c_18 : x_14.toInt ≠ 0 := cv_ne c_18
                refine lv_aload_n hx hb dX1_prepare_43 rfl (lv_at hl 2 rfl) ?_
                refine lv_iload_n hx hb dX1_prepare_44 rfl (lv_at hl 1 rfl) ?_
                refine lv_iload_n hx hb dX1_prepare_45 rfl (lv_at hl 0 rfl) ?_
                have hPc := hP.sub (ws' := [(gm0, .inr (1, [.ref g_won, .ref h0])), (g_won, .inl (cyI, 128, .inl f_9)), (h0, .inr (2, [.int a_pl, .int a_li, .int a_le, .int a_lc, .int a_ac, .int a_ng, .ref a_first, .ref a_now, .ref a_lawPlace, .ref a_lawOther, .ref a_lawEach, .ref a_lawFrom, .ref a_foes, .ref a_suitTable, .ref a_acts])), (a_first, .inl (cyI, 7, .inl a_f_first)), (a_now, .inl (cyI, 7, .inl a_f_now)), (a_lawPlace, .inl (cyI, 6, .inl a_f_lawPlace)), (a_lawOther, .inl (cyI, 6, .inl a_f_lawOther)), (a_lawEach, .inl (cyI, 6, .inl a_f_lawEach)), (a_lawFrom, .inl (cyI, 6, .inl a_f_lawFrom)), (a_foes, .inl (cyI, 7, .inl a_f_foes)), (a_suitTable, .inl (cyI, 49, .inl a_f_suitTable)), (a_acts, .inl (cyI, 40, .inl a_f_acts))]) [0, 1, 2, 3, 4, 5, 6, 7, 8, 9, 10, 11] rfl
                have hKc := hK.sub (tys' := [(cyI, .int), (cyB, .byte), (cyJ, .long), (cyZ, .boolean), (cyH, .object RX2), (cyN, .array .long)]) [0, 1, 2, 3, 4, 5] rfl
                refine vp_callSi (va_Run.run (va_runV (As := [.int u_3, .int u_8]) (rest := []) ⟨hx, hb, hml, hown, hts⟩ (n_leastWinning l dC dI cyI cyB cyJ cyZ cyH cyN gm0 g_won f_9 h0 a_first a_now a_lawPlace a_lawOther a_lawEach a_lawFrom a_foes a_suitTable a_acts a_pl a_li a_le a_lc a_ac a_ng a_f_first a_f_now a_f_lawPlace a_f_lawOther a_f_lawEach a_f_lawFrom a_f_foes a_f_suitTable a_f_acts u_3 u_8 g0 g1 g2 g3 g4 (by omega) (by omega) (by omega) (by omega) (by omega)) (cwV 2 hts (gdV wd_5_107 wd_5_109 wd_s3_4 wd_1_9 wd_5_110) rfl rfl rfl (by decide +kernel) ⟨Nat.le_of_ble_eq_true rfl, Nat.le_of_ble_eq_true rfl⟩) ⟨fun a U g mk q => by obtain ⟨q0, qP, qK⟩ := q; exact ⟨q0, qP, va_K.moved (u := U) (U := U.calling g mk a) (Vm.Alike.refl U.vm) qK⟩, va_recv hKc hPc (ci := 1) (q0 := 0) rfl rfl, fun U hU hW => ⟨rfl, by rw [hU]; exact hPc, va_K.moved hW.alike hKc⟩⟩ rfl rfl hl.1 rfl (lv_room (Nat.le_of_ble_eq_true rfl)) dX1_prepare_46 ⟨Nat.le_of_ble_eq_true rfl, Nat.le_of_ble_eq_true rfl⟩)) (fun r_19 hw => ?_)
                have hrr_19 := hw
                refine lv_iconst (v := (-1)) hx hb dX1_prepare_49 (by decide) ?_
                refine lv_icmp_eq (tgt := 65) hx hb dX1_prepare_50 (by decide) (fun c_20 => ?_) (fun c_20 => ?_)
                · have c_20 : r_19.toInt = (-1) := cv_eq c_20
                  exact join_16 f_9 _ _ _ hP hD hS (lv_sub hl [0, 1, 2, 3] rfl)
                · have c_20 : r_19.toInt ≠ (-1) := cv_ne c_20
                  refine lv_aload_n hx hb dX1_prepare_53 rfl (lv_at hl 2 rfl) ?_
                  refine va_get (D := (dC, dI)) (ci := 1) (v := .ref g_won) (C := RX1) (T := TX1) (N := 2) hx hb hts uinX1 hown hK hP 0 rfl rfl 0 (by decide) (hts _ wd_2_40) (fun _ h9 => h9) rfl dX1_prepare_54 ?_
                  refine lv_iload_n hx hb dX1_prepare_57 rfl (lv_at hl 1 rfl) ?_
                  refine lv_dup2_11 hx hb dX1_prepare_58 rfl rfl ?_
                  refine va_iald hx hb hK hP 1 0 rfl rfl (vp_in_iff.mpr (by omega)) dX1_prepare_59 ?_
                  refine lv_topi (fun x_21 ex_21 => ?_)
                  refine lv_iconst (v := 1) hx hb dX1_prepare_60 (by decide) ?_
                  refine lv_iload_n hx hb dX1_prepare_61 rfl (lv_at hl 0 rfl) ?_
                  refine lv_ishl hx hb dX1_prepare_62 ?_
                  refine lv_topi (fun x_22 ex_22 => ?_)
                  have fx_22 : 1 ≤ x_22.toInt ∧ x_22.toInt ≤ 64 := by rw [ex_22]; have q := cv_shl1 (y := u_8) 0 6 (by decide) (by decide) (by omega) (by omega); omega
                  refine lv_ior hx hb dX1_prepare_63 ?_
                  refine lv_topi (fun x_23 ex_23 => ?_)
                  refine va_iast hx hb hK hP hD hS 1 0 rfl rfl (vp_in_iff.mpr (by omega)) dX1_prepare_64 (fun H locs hP hD hS => ?_)
                  obtain ⟨f_24, ef_24⟩ : ∃ z9 : Nat → Int32, z9 = upd f_9 u_3.toNatClampNeg x_23 := ⟨_, rfl⟩
                  rw [← ef_24] at hP hD
                  have hP : va_P (dC, dI) vwCl [(gm0, .inr (1, [.ref g_won, .ref h0])), (g_won, .inl (cyI, 128, .inl f_24)), (h0, .inr (2, [.int a_pl, .int a_li, .int a_le, .int a_lc, .int a_ac, .int a_ng, .ref a_first, .ref a_now, .ref a_lawPlace, .ref a_lawOther, .ref a_lawEach, .ref a_lawFrom, .ref a_foes, .ref a_suitTable, .ref a_acts])), (a_first, .inl (cyI, 7, .inl a_f_first)), (a_now, .inl (cyI, 7, .inl a_f_now)), (a_lawPlace, .inl (cyI, 6, .inl a_f_lawPlace)), (a_lawOther, .inl (cyI, 6, .inl a_f_lawOther)), (a_lawEach, .inl (cyI, 6, .inl a_f_lawEach)), (a_lawFrom, .inl (cyI, 6, .inl a_f_lawFrom)), (a_foes, .inl (cyI, 7, .inl a_f_foes)), (a_suitTable, .inl (cyI, 49, .inl a_f_suitTable)), (a_acts, .inl (cyI, 40, .inl a_f_acts))] H := hP
                  have hD : va_D A [(gm0, .inr (1, [.ref g_won, .ref h0])), (g_won, .inl (cyI, 128, .inl f_24)), (h0, .inr (2, [.int a_pl, .int a_li, .int a_le, .int a_lc, .int a_ac, .int a_ng, .ref a_first, .ref a_now, .ref a_lawPlace, .ref a_lawOther, .ref a_lawEach, .ref a_lawFrom, .ref a_foes, .ref a_suitTable, .ref a_acts])), (a_first, .inl (cyI, 7, .inl a_f_first)), (a_now, .inl (cyI, 7, .inl a_f_now)), (a_lawPlace, .inl (cyI, 6, .inl a_f_lawPlace)), (a_lawOther, .inl (cyI, 6, .inl a_f_lawOther)), (a_lawEach, .inl (cyI, 6, .inl a_f_lawEach)), (a_lawFrom, .inl (cyI, 6, .inl a_f_lawFrom)), (a_foes, .inl (cyI, 7, .inl a_f_foes)), (a_suitTable, .inl (cyI, 49, .inl a_f_suitTable)), (a_acts, .inl (cyI, 40, .inl a_f_acts))] := hD
                  exact join_16 f_24 _ _ _ hP hD hS (lv_sub hl [0, 1, 2, 3] rfl)
        exact key_10 _ 0 f_7 _ _ _ (by decide) hP hD hS (lv_sub hl [0, 1, 2, 3] rfl) (Nat.lt_succ_self _)
  exact key_5 _ x_2 g_f _ _ _ (by omega) hP hD hS (lv_sub hl [0, 1, 2] rfl) (Nat.lt_succ_self _)

/- X3_spreadOneNight -/
set_option maxHeartbeats 4000000 in
set_option maxRecDepth 100000 in
theorem n_spreadOne (l : Launch) (dC : Nat → ClassId) (dI : Nat → Nat → Nat) (cyI cyB cyJ cyZ cyH cyN : ClassId) (sz : Nat) (l0 l_cases l_before : Nat) (l_all : Int64) (l_fc l_fb : Nat → Int64) (p0 : Int32) (g0 : 0 ≤ p0.toInt ∧ p0.toInt ≤ 7) : Met l yX3_spreadOneNight (wk yX3_spreadOneNight cX3_spreadOneNight 6 none) ({ frames := 1, cells := 0, slots := 0, locals := 60 }) (va_Pc [.ref l0, .int p0] (fun U => U.heap.size = sz ∧ va_P (dC, dI) vwCl [(l0, .inr (3, [.ref l_cases, .long l_all, .ref l_before])), (l_cases, .inl (cyJ, 7, .inr (.inl l_fc))), (l_before, .inl (cyJ, 7, .inr (.inl l_fb)))] U.heap ∧ va_K (dC, dI) vwCl [(cyI, .int), (cyB, .byte), (cyJ, .long), (cyZ, .boolean), (cyH, .object RX2), (cyN, .array .long)] U ∧ va_D (fun _ => True) [(l0, .inr (3, [.ref l_cases, .long l_all, .ref l_before])), (l_cases, .inl (cyJ, 7, .inr (.inl l_fc))), (l_before, .inl (cyJ, 7, .inr (.inl l_fb)))])) (va_Qv (fun _ : Unit => True) (fun (_ : Unit) (t : State) => ∃ y0 : Nat → Int64, ∃ y1 : Nat → Int64, va_P (dC, dI) vwCl [(l0, .inr (3, [.ref l_cases, .long l_all, .ref l_before])), (l_cases, .inl (cyJ, 7, .inr (.inl y0))), (l_before, .inl (cyJ, 7, .inr (.inl y1)))] t.heap ∧ va_D (va_A [(l0, .inr (3, [.ref l_cases, .long l_all, .ref l_before])), (l_cases, .inl (cyJ, 7, .inr (.inl l_fc))), (l_before, .inl (cyJ, 7, .inr (.inl l_fb)))] sz) [(l0, .inr (3, [.ref l_cases, .long l_all, .ref l_before])), (l_cases, .inl (cyJ, 7, .inr (.inl y0))), (l_before, .inl (cyJ, 7, .inr (.inl y1)))]) (va_A [(l0, .inr (3, [.ref l_cases, .long l_all, .ref l_before])), (l_cases, .inl (cyJ, 7, .inr (.inl l_fc))), (l_before, .inl (cyJ, 7, .inr (.inl l_fb)))] sz)) 0 0 (va_A [(l0, .inr (3, [.ref l_cases, .long l_all, .ref l_before])), (l_cases, .inl (cyJ, 7, .inr (.inl l_fc))), (l_before, .inl (cyJ, 7, .inr (.inl l_fb)))] sz) := by
  refine Met.ofW (cc := cX3_spreadOneNight) (maxL := 6) (ret := none) (by decide) rfl ?_
  intro p e s m args below meth c s₁ B hml hv
  obtain ⟨rfl, hsz, hP, hK, hD0⟩ := hv
  have hx := B.exec
  have hb := B.bytes
  have hr := B.returns
  have hts : ∀ w ∈ uU, w.before ([.ref l0, .int p0] : List Value).toArray s = true := fun w h => atoms_spec (ws := wk yX3_spreadOneNight cX3_spreadOneNight 6 none) B.pre w (List.mem_cons_of_mem _ h)
  have hown : s.vm.findClass RX3 = some m.cls := findClass_of_methodNamed B.named
  have hlocks := B.notSynchronized
  subst hsz
  have hD := hD0.self (sz := s.heap.size)
  generalize hAe : va_A [(l0, .inr (3, [.ref l_cases, .long l_all, .ref l_before])), (l_cases, .inl (cyJ, 7, .inr (.inl l_fc))), (l_before, .inl (cyJ, 7, .inr (.inl l_fb)))] s.heap.size = A at hD ⊢
  have hA : ∀ q : Nat, s.heap.size ≤ q → A q := fun q h => by rw [← hAe]; exact Or.inr h
  have hS : va_S A s.heap s.heap [] := va_S.rf
  have hP : va_P (dC, dI) vwCl [(l0, .inr (3, [.ref l_cases, .long l_all, .ref l_before])), (l_cases, .inl (cyJ, 7, .inr (.inl l_fc))), (l_before, .inl (cyJ, 7, .inr (.inl l_fb)))] s.heap := hP
  have hl := lv_entry ([.ref l0, .int p0]) (n := 6) (Nat.le_of_ble_eq_true rfl)
  rw [lg_entry_eq]
  generalize (lg_sl ([.ref l0, .int p0]) ++ List.replicate (6 - (lg_sl ([.ref l0, .int p0])).length) Slot.unset).toArray = ls at hl ⊢
  have hl : lv_has ls 6 [(0, .ref l0), (1, .int p0)] := hl
  obtain ⟨H, hHe⟩ : ∃ H, H = s.heap := ⟨_, rfl⟩
  have hP : va_P (dC, dI) vwCl [(l0, .inr (3, [.ref l_cases, .long l_all, .ref l_before])), (l_cases, .inl (cyJ, 7, .inr (.inl l_fc))), (l_before, .inl (cyJ, 7, .inr (.inl l_fb)))] H := by rw [hHe]; exact hP
  have hS : va_S A s.heap H [] := by rw [hHe]; exact hS
  refine cv_heap hHe ?_
  obtain ⟨Q9, hQ9⟩ : ∃ Q9 : State → Prop, Q9 = MQ below (va_Qv (fun _ : Unit => True) (fun (_ : Unit) (t : State) => ∃ y0 : Nat → Int64, ∃ y1 : Nat → Int64, va_P (dC, dI) vwCl [(l0, .inr (3, [.ref l_cases, .long l_all, .ref l_before])), (l_cases, .inl (cyJ, 7, .inr (.inl y0))), (l_before, .inl (cyJ, 7, .inr (.inl y1)))] t.heap ∧ va_D A [(l0, .inr (3, [.ref l_cases, .long l_all, .ref l_before])), (l_cases, .inl (cyJ, 7, .inr (.inl y0))), (l_before, .inl (cyJ, 7, .inr (.inl y1)))]) A) ([.ref l0, .int p0] : List Value).toArray s 0 0 A := ⟨_, rfl⟩
  rw [← hQ9]
  refine lv_aload_n hx hb dX3_spreadOneNight_0 rfl (lv_at hl 0 rfl) ?_
  refine va_get (D := (dC, dI)) (ci := 3) (v := .ref l_cases) (C := RX3) (T := TX3) (N := 3) hx hb hts uinX3 hown hK hP 0 rfl rfl 0 (by decide) (hts _ wd_2_53) (fun _ h9 => h9) rfl dX3_spreadOneNight_1 ?_
  refine lv_iconst (v := 0) hx hb dX3_spreadOneNight_4 (by decide) ?_
  refine lv_aload_n hx hb dX3_spreadOneNight_5 rfl (lv_at hl 0 rfl) ?_
  refine va_get (D := (dC, dI)) (ci := 3) (v := .ref l_before) (C := RX3) (T := TX3) (N := 3) hx hb hts uinX3 hown hK hP 0 rfl rfl 2 (by decide) (hts _ wd_2_57) (fun _ h9 => h9) rfl dX3_spreadOneNight_6 ?_
  refine lv_iconst (v := 0) hx hb dX3_spreadOneNight_9 (by decide) ?_
  refine lv_bipush (v := 7) hx hb dX3_spreadOneNight_10 (by decide) ?_
  refine va_copyl (ty := .long) hx hb (by rw [hml]; exact hl.1.symm) hown (hts _ wd_5_147) (hts _ wd_3_43) (hts _ wd_3_42) (hts _ wd_1_18) hK hP hD hS 1 2 2 2 rfl rfl rfl rfl rfl (by decide) (by decide) (by decide) (by decide) (by decide) (fun _ _ => rfl) (Nat.le_of_ble_eq_true rfl) (Nat.le_of_ble_eq_true rfl) dX3_spreadOneNight_12 (fun H locs hP hD hS => ?_)
  obtain ⟨f_1, ef_1⟩ : ∃ z9 : Nat → Int64, z9 = va_cpy l_fc l_fb (0 : Int32).toNatClampNeg (0 : Int32).toNatClampNeg (7 : Int32).toNatClampNeg := ⟨_, rfl⟩
  rw [← ef_1] at hP hD
  have hP : va_P (dC, dI) vwCl [(l0, .inr (3, [.ref l_cases, .long l_all, .ref l_before])), (l_cases, .inl (cyJ, 7, .inr (.inl l_fc))), (l_before, .inl (cyJ, 7, .inr (.inl f_1)))] H := hP
  have hD : va_D A [(l0, .inr (3, [.ref l_cases, .long l_all, .ref l_before])), (l_cases, .inl (cyJ, 7, .inr (.inl l_fc))), (l_before, .inl (cyJ, 7, .inr (.inl f_1)))] := hD
  refine lv_iconst (v := 0) hx hb dX3_spreadOneNight_15 (by decide) ?_
  refine lv_istore_n (lv' := [(2, .int 0), (0, .ref l0), (1, .int p0)]) hx hb dX3_spreadOneNight_16 rfl hl (by decide) rfl (fun ls hl => ?_)
  have key_4 : ∀ (nkey_4 : Nat) (u_2 : Int32) (f_3 : Nat → Int64) (H : Heap) (locs : List Loc) (ls : Array Slot), (0 ≤ u_2.toInt ∧ u_2.toInt ≤ 7) → va_P (dC, dI) vwCl [(l0, .inr (3, [.ref l_cases, .long l_all, .ref l_before])), (l_cases, .inl (cyJ, 7, .inr (.inl f_3))), (l_before, .inl (cyJ, 7, .inr (.inl f_1)))] H → va_D A [(l0, .inr (3, [.ref l_cases, .long l_all, .ref l_before])), (l_cases, .inl (cyJ, 7, .inr (.inl f_3))), (l_before, .inl (cyJ, 7, .inr (.inl f_1)))] → va_S A s.heap H locs → lv_has ls 6 [(2, .int u_2), (0, .ref l0), (1, .int p0)] → (p0.toInt - u_2.toInt).toNat < nkey_4 → W p l e ({ frames := 1, cells := 0, slots := 0, locals := 60 }) s m ([.ref l0, .int p0] : List Value).toArray below meth c H locs 0 0 Q9 (F0 m 17 ls []) := by
    intro nkey_4
    induction nkey_4 with
    | zero => intro u_2 f_3 H locs ls hu_2 hP hD hS hl hnkey_4; exact absurd hnkey_4 (Nat.not_lt_zero _)
    | succ nkey_4 ihkey_4 =>
      intro u_2 f_3 H locs ls hu_2 hP hD hS hl hnkey_4
      refine lv_iload_n hx hb dX3_spreadOneNight_17 rfl (lv_at hl 0 rfl) ?_
      refine lv_iload_n hx hb dX3_spreadOneNight_18 rfl (lv_at hl 2 rfl) ?_
      refine lv_icmp_ge (tgt := 96) hx hb dX3_spreadOneNight_19 (by decide) (fun c_5 => ?_) (fun c_5 => ?_)
      · have c_5 : p0.toInt ≤ u_2.toInt := cv_le c_5
        rw [hQ9]
        have hP9 := hP.sub (ws' := [(l0, .inr (3, [.ref l_cases, .long l_all, .ref l_before])), (l_cases, .inl (cyJ, 7, .inr (.inl f_3))), (l_before, .inl (cyJ, 7, .inr (.inl f_1)))]) [0, 1, 2] rfl
        have hD9 := hD.sub (ws' := [(l0, .inr (3, [.ref l_cases, .long l_all, .ref l_before])), (l_cases, .inl (cyJ, 7, .inr (.inl f_3))), (l_before, .inl (cyJ, 7, .inr (.inl f_1)))]) [0, 1, 2] (by decide) rfl
        exact W.vret hx hb hr (fun t ht hW => ⟨⟨(), rfl, trivial, ⟨f_3, f_1, by rw [ht]; exact hP9, hD9⟩⟩, hS.F ht⟩) hS.2.2 dX3_spreadOneNight_96
      · have c_5 : u_2.toInt < p0.toInt := cv_nle c_5
        refine lv_iload_n hx hb dX3_spreadOneNight_22 rfl (lv_at hl 2 rfl) ?_
        refine lv_iconst (v := 1) hx hb dX3_spreadOneNight_23 (by decide) ?_
        refine lv_isub hx hb dX3_spreadOneNight_24 ?_
        refine lv_topi (fun x_6 ex_6 => ?_)
        have fx_6 : x_6.toInt = p0.toInt - 1 := by rw [ex_6]; exact cv_subI (by have : (1 : Int32).toInt = 1 := rfl; omega) (by have : (1 : Int32).toInt = 1 := rfl; omega)
        refine lv_istore_n (lv' := [(3, .int x_6), (2, .int u_2), (0, .ref l0), (1, .int p0)]) hx hb dX3_spreadOneNight_25 rfl hl (by decide) rfl (fun ls hl => ?_)
        refine lv_lconst (v := 0) hx hb dX3_spreadOneNight_26 (by decide) ?_
        refine lv_lstore (lv' := [(4, .long 0), (3, .int x_6), (2, .int u_2), (0, .ref l0), (1, .int p0)]) hx hb dX3_spreadOneNight_27 hl (by decide) rfl (fun ls hl => ?_)
        refine lv_iload_n hx hb dX3_spreadOneNight_29 rfl (lv_at hl 2 rfl) ?_
        have join_9 : ∀ (u_7 : Int64) (u_8 : Int32) (H : Heap) (locs : List Loc) (ls : Array Slot), ((-1) ≤ u_8.toInt ∧ u_8.toInt ≤ 6) → va_P (dC, dI) vwCl [(l0, .inr (3, [.ref l_cases, .long l_all, .ref l_before])), (l_cases, .inl (cyJ, 7, .inr (.inl f_3))), (l_before, .inl (cyJ, 7, .inr (.inl f_1)))] H → va_D A [(l0, .inr (3, [.ref l_cases, .long l_all, .ref l_before])), (l_cases, .inl (cyJ, 7, .inr (.inl f_3))), (l_before, .inl (cyJ, 7, .inr (.inl f_1)))] → va_S A s.heap H locs → lv_has ls 6 [(4, .long u_7), (3, .int u_8), (2, .int u_2), (0, .ref l0), (1, .int p0)] → W p l e ({ frames := 1, cells := 0, slots := 0, locals := 60 }) s m ([.ref l0, .int p0] : List Value).toArray below meth c H locs 0 0 Q9 (F0 m 49 ls []) := by
          intro u_7 u_8 H locs ls hu_8 hP hD hS hl
          refine lv_iload_n hx hb dX3_spreadOneNight_49 rfl (lv_at hl 2 rfl) ?_
          refine lv_iload_n hx hb dX3_spreadOneNight_50 rfl (lv_at hl 4 rfl) ?_
          refine lv_iconst (v := 1) hx hb dX3_spreadOneNight_51 (by decide) ?_
          refine lv_isub hx hb dX3_spreadOneNight_52 ?_
          refine lv_topi (fun x_10 ex_10 => ?_)
          have fx_10 : x_10.toInt = p0.toInt - 1 := by rw [ex_10]; exact cv_subI (by have : (1 : Int32).toInt = 1 := rfl; omega) (by have : (1 : Int32).toInt = 1 := rfl; omega)
          have join_13 : ∀ (u_11 : Int64) (u_12 : Int32) (H : Heap) (locs : List Loc) (ls : Array Slot), ((-2) ≤ u_12.toInt ∧ u_12.toInt ≤ 6) → va_P (dC, dI) vwCl [(l0, .inr (3, [.ref l_cases, .long l_all, .ref l_before])), (l_cases, .inl (cyJ, 7, .inr (.inl f_3))), (l_before, .inl (cyJ, 7, .inr (.inl f_1)))] H → va_D A [(l0, .inr (3, [.ref l_cases, .long l_all, .ref l_before])), (l_cases, .inl (cyJ, 7, .inr (.inl f_3))), (l_before, .inl (cyJ, 7, .inr (.inl f_1)))] → va_S A s.heap H locs → lv_has ls 6 [(4, .long u_11), (3, .int u_12), (2, .int u_2), (0, .ref l0), (1, .int p0)] → W p l e ({ frames := 1, cells := 0, slots := 0, locals := 60 }) s m ([.ref l0, .int p0] : List Value).toArray below meth c H locs 0 0 Q9 (F0 m 72 ls []) := by
            intro u_11 u_12 H locs ls hu_12 hP hD hS hl
            refine lv_aload_n hx hb dX3_spreadOneNight_72 rfl (lv_at hl 3 rfl) ?_
            refine va_get (D := (dC, dI)) (ci := 3) (v := .ref l_cases) (C := RX3) (T := TX3) (N := 3) hx hb hts uinX3 hown hK hP 0 rfl rfl 0 (by decide) (hts _ wd_2_53) (fun _ h9 => h9) rfl dX3_spreadOneNight_73 ?_
            refine lv_iload_n hx hb dX3_spreadOneNight_76 rfl (lv_at hl 2 rfl) ?_
            refine lv_lload hx hb dX3_spreadOneNight_77 (lv_at hl 0 rfl) ?_
            refine lv_iload_n hx hb dX3_spreadOneNight_79 rfl (lv_at hl 1 rfl) ?_
            obtain ⟨y_14, ey_14⟩ : ∃ z : Int64, z = u_12.toInt64 := ⟨_, rfl⟩
            have fy_14 : y_14.toInt = u_12.toInt := by rw [ey_14]; exact Int32.toInt_toInt64 _
            refine lv_i2l (v := y_14) hx hb dX3_spreadOneNight_80 ey_14.symm ?_
            refine lv_aload_n hx hb dX3_spreadOneNight_81 rfl (lv_at hl 3 rfl) ?_
            refine va_get (D := (dC, dI)) (ci := 3) (v := .ref l_before) (C := RX3) (T := TX3) (N := 3) hx hb hts uinX3 hown hK hP 0 rfl rfl 2 (by decide) (hts _ wd_2_57) (fun _ h9 => h9) rfl dX3_spreadOneNight_82 ?_
            refine lv_iload_n hx hb dX3_spreadOneNight_85 rfl (lv_at hl 2 rfl) ?_
            refine va_lald hx hb hK hP 2 2 rfl rfl (vp_in_iff.mpr (by omega)) dX3_spreadOneNight_86 ?_
            refine lv_topl (fun x_15 ex_15 => ?_)
            refine lv_lmul hx hb dX3_spreadOneNight_87 ?_
            refine lv_topl (fun y_16 ey_16 => ?_)
            refine lv_ladd hx hb dX3_spreadOneNight_88 ?_
            refine lv_topl (fun y_17 ey_17 => ?_)
            refine va_last hx hb hK hP hD hS 1 2 rfl rfl (vp_in_iff.mpr (by omega)) dX3_spreadOneNight_89 (fun H locs hP hD hS => ?_)
            obtain ⟨f_18, ef_18⟩ : ∃ z9 : Nat → Int64, z9 = vp_updL f_3 u_2.toNatClampNeg y_17 := ⟨_, rfl⟩
            rw [← ef_18] at hP hD
            have hP : va_P (dC, dI) vwCl [(l0, .inr (3, [.ref l_cases, .long l_all, .ref l_before])), (l_cases, .inl (cyJ, 7, .inr (.inl f_18))), (l_before, .inl (cyJ, 7, .inr (.inl f_1)))] H := hP
            have hD : va_D A [(l0, .inr (3, [.ref l_cases, .long l_all, .ref l_before])), (l_cases, .inl (cyJ, 7, .inr (.inl f_18))), (l_before, .inl (cyJ, 7, .inr (.inl f_1)))] := hD
            obtain ⟨x_19, ex_19⟩ : ∃ y : Int32, y = u_2 + 1 := ⟨_, rfl⟩
            refine lv_iinc (v := x_19) (lv' := [(2, .int x_19), (4, .long u_11), (3, .int u_12), (0, .ref l0), (1, .int p0)]) hx hb dX3_spreadOneNight_90 hl (k := 2) rfl (by rw [ex_19]; rfl) (by decide) rfl (fun ls hl => ?_)
            have fx_19 : x_19.toInt = u_2.toInt + 1 := by rw [ex_19]; exact cv_addI (by have : (1 : Int32).toInt = 1 := rfl; omega) (by have : (1 : Int32).toInt = 1 := rfl; omega)
            refine lv_goto (tgt := 17) hx hb dX3_spreadOneNight_93 (by decide) ?_
            exact ihkey_4 x_19 f_18 _ _ _ (by omega) hP hD hS (lv_sub hl [0, 3, 4] rfl) (by omega)
          refine lv_icmp_ge (tgt := 72) hx hb dX3_spreadOneNight_53 (by decide) (fun c_20 => ?_) (fun c_20 => ?_)
          · have c_20 : x_10.toInt ≤ u_2.toInt := cv_le c_20
            exact join_13 u_7 u_8 _ _ _ (by omega) hP hD hS (lv_sub hl [0, 1, 2, 3, 4] rfl)
          · have c_20 : u_2.toInt < x_10.toInt := cv_nle c_20
            refine lv_lload hx hb dX3_spreadOneNight_56 (lv_at hl 0 rfl) ?_
            refine lv_aload_n hx hb dX3_spreadOneNight_58 rfl (lv_at hl 3 rfl) ?_
            refine va_get (D := (dC, dI)) (ci := 3) (v := .ref l_before) (C := RX3) (T := TX3) (N := 3) hx hb hts uinX3 hown hK hP 0 rfl rfl 2 (by decide) (hts _ wd_2_57) (fun _ h9 => h9) rfl dX3_spreadOneNight_59 ?_
            refine lv_iload_n hx hb dX3_spreadOneNight_62 rfl (lv_at hl 2 rfl) ?_
            refine lv_iconst (v := 1) hx hb dX3_spreadOneNight_63 (by decide) ?_
            refine lv_iadd hx hb dX3_spreadOneNight_64 ?_
            refine lv_topi (fun x_21 ex_21 => ?_)
            have fx_21 : x_21.toInt = u_2.toInt + 1 := by rw [ex_21]; exact cv_addI (by have : (1 : Int32).toInt = 1 := rfl; omega) (by have : (1 : Int32).toInt = 1 := rfl; omega)
            refine va_lald hx hb hK hP 2 2 rfl rfl (vp_in_iff.mpr (by omega)) dX3_spreadOneNight_65 ?_
            refine lv_topl (fun x_22 ex_22 => ?_)
            refine lv_ladd hx hb dX3_spreadOneNight_66 ?_
            refine lv_topl (fun y_23 ey_23 => ?_)
            refine lv_lstore (lv' := [(4, .long y_23), (3, .int u_8), (2, .int u_2), (0, .ref l0), (1, .int p0)]) hx hb dX3_spreadOneNight_67 hl (by decide) rfl (fun ls hl => ?_)
            obtain ⟨x_24, ex_24⟩ : ∃ y : Int32, y = u_8 + (-1) := ⟨_, rfl⟩
            refine lv_iinc (v := x_24) (lv' := [(3, .int x_24), (4, .long y_23), (2, .int u_2), (0, .ref l0), (1, .int p0)]) hx hb dX3_spreadOneNight_69 hl (k := 1) rfl (by rw [ex_24]; rfl) (by decide) rfl (fun ls hl => ?_)
            have fx_24 : x_24.toInt = u_8.toInt + (-1) := by rw [ex_24]; exact cv_addI (by have : ((-1) : Int32).toInt = (-1) := rfl; omega) (by have : ((-1) : Int32).toInt = (-1) := rfl; omega)
            exact join_13 y_23 x_24 _ _ _ (by omega) hP hD hS (lv_sub hl [1, 0, 2, 3, 4] rfl)
        refine lv_if_le (tgt := 49) hx hb dX3_spreadOneNight_30 (by decide) (fun c_25 => ?_) (fun c_25 => ?_)
        · have c_25 : u_2.toInt ≤ 0 := cv_le c_25
          exact join_9 0 x_6 _ _ _ (by omega) hP hD hS (lv_sub hl [0, 1, 2, 3, 4] rfl)
        · have c_25 : 0 < u_2.toInt := cv_nle c_25
          refine lv_lload hx hb dX3_spreadOneNight_33 (lv_at hl 0 rfl) ?_
          refine lv_aload_n hx hb dX3_spreadOneNight_35 rfl (lv_at hl 3 rfl) ?_
          refine va_get (D := (dC, dI)) (ci := 3) (v := .ref l_before) (C := RX3) (T := TX3) (N := 3) hx hb hts uinX3 hown hK hP 0 rfl rfl 2 (by decide) (hts _ wd_2_57) (fun _ h9 => h9) rfl dX3_spreadOneNight_36 ?_
          refine lv_iload_n hx hb dX3_spreadOneNight_39 rfl (lv_at hl 2 rfl) ?_
          refine lv_iconst (v := 1) hx hb dX3_spreadOneNight_40 (by decide) ?_
          refine lv_isub hx hb dX3_spreadOneNight_41 ?_
          refine lv_topi (fun x_26 ex_26 => ?_)
          have fx_26 : x_26.toInt = u_2.toInt - 1 := by rw [ex_26]; exact cv_subI (by have : (1 : Int32).toInt = 1 := rfl; omega) (by have : (1 : Int32).toInt = 1 := rfl; omega)
          refine va_lald hx hb hK hP 2 2 rfl rfl (vp_in_iff.mpr (by omega)) dX3_spreadOneNight_42 ?_
          refine lv_topl (fun x_27 ex_27 => ?_)
          refine lv_ladd hx hb dX3_spreadOneNight_43 ?_
          refine lv_topl (fun y_28 ey_28 => ?_)
          refine lv_lstore (lv' := [(4, .long y_28), (3, .int x_6), (2, .int u_2), (0, .ref l0), (1, .int p0)]) hx hb dX3_spreadOneNight_44 hl (by decide) rfl (fun ls hl => ?_)
          obtain ⟨x_29, ex_29⟩ : ∃ y : Int32, y = x_6 + (-1) := ⟨_, rfl⟩
          refine lv_iinc (v := x_29) (lv' := [(3, .int x_29), (4, .long y_28), (2, .int u_2), (0, .ref l0), (1, .int p0)]) hx hb dX3_spreadOneNight_46 hl (k := 1) rfl (by rw [ex_29]; rfl) (by decide) rfl (fun ls hl => ?_)
          have fx_29 : x_29.toInt = x_6.toInt + (-1) := by rw [ex_29]; exact cv_addI (by have : ((-1) : Int32).toInt = (-1) := rfl; omega) (by have : ((-1) : Int32).toInt = (-1) := rfl; omega)
          exact join_9 y_28 x_29 _ _ _ (by omega) hP hD hS (lv_sub hl [1, 0, 2, 3, 4] rfl)
  exact key_4 _ 0 l_fc _ _ _ (by decide) hP hD hS (lv_sub hl [0, 1, 2] rfl) (Nat.lt_succ_self _)

/- X3_spread -/
set_option maxHeartbeats 4000000 in
set_option maxRecDepth 100000 in
theorem n_spread (l : Launch) (dC : Nat → ClassId) (dI : Nat → Nat → Nat) (cyI cyB cyJ cyZ cyH cyN : ClassId) (sz : Nat) (l0 l_cases l_before : Nat) (l_all : Int64) (l_fc l_fb : Nat → Int64) (h0 a_first a_now a_lawPlace a_lawOther a_lawEach a_lawFrom a_foes a_suitTable a_acts : Nat) (a_pl a_li a_le a_lc a_ac a_ng : Int32) (a_f_first a_f_now a_f_lawPlace a_f_lawOther a_f_lawEach a_f_lawFrom a_f_foes a_f_suitTable a_f_acts : Nat → Int32) (p0 : Int32) (g0 : rg 0 6 7 a_f_first) (g1 : rg 0 6 7 a_f_now) (g2 : rg 0 6 6 a_f_lawPlace) (g3 : rg 0 6 6 a_f_lawOther) (g4 : ra 40 a_f_acts) (g5 : 0 ≤ a_pl.toInt ∧ a_pl.toInt ≤ 7) (g6 : 0 ≤ a_lc.toInt ∧ a_lc.toInt ≤ 6) (g7 : 0 ≤ a_ac.toInt ∧ a_ac.toInt ≤ 40) (g8 : 0 ≤ p0.toInt ∧ p0.toInt ≤ 12) : Met l yX3_spread (wk yX3_spread cX3_spread 5 none) ({ frames := 3, cells := 0, slots := 0, locals := 104 }) (va_Pc [.ref l0, .ref h0, .int p0] (fun U => U.heap.size = sz ∧ va_P (dC, dI) vwCl [(l0, .inr (3, [.ref l_cases, .long l_all, .ref l_before])), (l_cases, .inl (cyJ, 7, .inr (.inl l_fc))), (l_before, .inl (cyJ, 7, .inr (.inl l_fb))), (h0, .inr (2, [.int a_pl, .int a_li, .int a_le, .int a_lc, .int a_ac, .int a_ng, .ref a_first, .ref a_now, .ref a_lawPlace, .ref a_lawOther, .ref a_lawEach, .ref a_lawFrom, .ref a_foes, .ref a_suitTable, .ref a_acts])), (a_first, .inl (cyI, 7, .inl a_f_first)), (a_now, .inl (cyI, 7, .inl a_f_now)), (a_lawPlace, .inl (cyI, 6, .inl a_f_lawPlace)), (a_lawOther, .inl (cyI, 6, .inl a_f_lawOther)), (a_lawEach, .inl (cyI, 6, .inl a_f_lawEach)), (a_lawFrom, .inl (cyI, 6, .inl a_f_lawFrom)), (a_foes, .inl (cyI, 7, .inl a_f_foes)), (a_suitTable, .inl (cyI, 49, .inl a_f_suitTable)), (a_acts, .inl (cyI, 40, .inl a_f_acts))] U.heap ∧ va_K (dC, dI) vwCl [(cyI, .int), (cyB, .byte), (cyJ, .long), (cyZ, .boolean), (cyH, .object RX2), (cyN, .array .long)] U ∧ va_D (fun _ => True) [(l0, .inr (3, [.ref l_cases, .long l_all, .ref l_before])), (l_cases, .inl (cyJ, 7, .inr (.inl l_fc))), (l_before, .inl (cyJ, 7, .inr (.inl l_fb))), (h0, .inr (2, [.int a_pl, .int a_li, .int a_le, .int a_lc, .int a_ac, .int a_ng, .ref a_first, .ref a_now, .ref a_lawPlace, .ref a_lawOther, .ref a_lawEach, .ref a_lawFrom, .ref a_foes, .ref a_suitTable, .ref a_acts])), (a_first, .inl (cyI, 7, .inl a_f_first)), (a_now, .inl (cyI, 7, .inl a_f_now)), (a_lawPlace, .inl (cyI, 6, .inl a_f_lawPlace)), (a_lawOther, .inl (cyI, 6, .inl a_f_lawOther)), (a_lawEach, .inl (cyI, 6, .inl a_f_lawEach)), (a_lawFrom, .inl (cyI, 6, .inl a_f_lawFrom)), (a_foes, .inl (cyI, 7, .inl a_f_foes)), (a_suitTable, .inl (cyI, 49, .inl a_f_suitTable)), (a_acts, .inl (cyI, 40, .inl a_f_acts))])) (va_Qv (fun _ : Unit => True) (fun (_ : Unit) (t : State) => ∃ z0 : Int64, ∃ y1 : Nat → Int64, ∃ y2 : Nat → Int64, va_P (dC, dI) vwCl [(l0, .inr (3, [.ref l_cases, .long z0, .ref l_before])), (l_cases, .inl (cyJ, 7, .inr (.inl y1))), (l_before, .inl (cyJ, 7, .inr (.inl y2))), (h0, .inr (2, [.int a_pl, .int a_li, .int a_le, .int a_lc, .int a_ac, .int a_ng, .ref a_first, .ref a_now, .ref a_lawPlace, .ref a_lawOther, .ref a_lawEach, .ref a_lawFrom, .ref a_foes, .ref a_suitTable, .ref a_acts])), (a_first, .inl (cyI, 7, .inl a_f_first)), (a_now, .inl (cyI, 7, .inl a_f_now)), (a_lawPlace, .inl (cyI, 6, .inl a_f_lawPlace)), (a_lawOther, .inl (cyI, 6, .inl a_f_lawOther)), (a_lawEach, .inl (cyI, 6, .inl a_f_lawEach)), (a_lawFrom, .inl (cyI, 6, .inl a_f_lawFrom)), (a_foes, .inl (cyI, 7, .inl a_f_foes)), (a_suitTable, .inl (cyI, 49, .inl a_f_suitTable)), (a_acts, .inl (cyI, 40, .inl a_f_acts))] t.heap ∧ va_D (va_A [(l0, .inr (3, [.ref l_cases, .long l_all, .ref l_before])), (l_cases, .inl (cyJ, 7, .inr (.inl l_fc))), (l_before, .inl (cyJ, 7, .inr (.inl l_fb))), (h0, .inr (2, [.int a_pl, .int a_li, .int a_le, .int a_lc, .int a_ac, .int a_ng, .ref a_first, .ref a_now, .ref a_lawPlace, .ref a_lawOther, .ref a_lawEach, .ref a_lawFrom, .ref a_foes, .ref a_suitTable, .ref a_acts])), (a_first, .inl (cyI, 7, .inl a_f_first)), (a_now, .inl (cyI, 7, .inl a_f_now)), (a_lawPlace, .inl (cyI, 6, .inl a_f_lawPlace)), (a_lawOther, .inl (cyI, 6, .inl a_f_lawOther)), (a_lawEach, .inl (cyI, 6, .inl a_f_lawEach)), (a_lawFrom, .inl (cyI, 6, .inl a_f_lawFrom)), (a_foes, .inl (cyI, 7, .inl a_f_foes)), (a_suitTable, .inl (cyI, 49, .inl a_f_suitTable)), (a_acts, .inl (cyI, 40, .inl a_f_acts))] sz) [(l0, .inr (3, [.ref l_cases, .long z0, .ref l_before])), (l_cases, .inl (cyJ, 7, .inr (.inl y1))), (l_before, .inl (cyJ, 7, .inr (.inl y2))), (h0, .inr (2, [.int a_pl, .int a_li, .int a_le, .int a_lc, .int a_ac, .int a_ng, .ref a_first, .ref a_now, .ref a_lawPlace, .ref a_lawOther, .ref a_lawEach, .ref a_lawFrom, .ref a_foes, .ref a_suitTable, .ref a_acts])), (a_first, .inl (cyI, 7, .inl a_f_first)), (a_now, .inl (cyI, 7, .inl a_f_now)), (a_lawPlace, .inl (cyI, 6, .inl a_f_lawPlace)), (a_lawOther, .inl (cyI, 6, .inl a_f_lawOther)), (a_lawEach, .inl (cyI, 6, .inl a_f_lawEach)), (a_lawFrom, .inl (cyI, 6, .inl a_f_lawFrom)), (a_foes, .inl (cyI, 7, .inl a_f_foes)), (a_suitTable, .inl (cyI, 49, .inl a_f_suitTable)), (a_acts, .inl (cyI, 40, .inl a_f_acts))]) (va_A [(l0, .inr (3, [.ref l_cases, .long l_all, .ref l_before])), (l_cases, .inl (cyJ, 7, .inr (.inl l_fc))), (l_before, .inl (cyJ, 7, .inr (.inl l_fb))), (h0, .inr (2, [.int a_pl, .int a_li, .int a_le, .int a_lc, .int a_ac, .int a_ng, .ref a_first, .ref a_now, .ref a_lawPlace, .ref a_lawOther, .ref a_lawEach, .ref a_lawFrom, .ref a_foes, .ref a_suitTable, .ref a_acts])), (a_first, .inl (cyI, 7, .inl a_f_first)), (a_now, .inl (cyI, 7, .inl a_f_now)), (a_lawPlace, .inl (cyI, 6, .inl a_f_lawPlace)), (a_lawOther, .inl (cyI, 6, .inl a_f_lawOther)), (a_lawEach, .inl (cyI, 6, .inl a_f_lawEach)), (a_lawFrom, .inl (cyI, 6, .inl a_f_lawFrom)), (a_foes, .inl (cyI, 7, .inl a_f_foes)), (a_suitTable, .inl (cyI, 49, .inl a_f_suitTable)), (a_acts, .inl (cyI, 40, .inl a_f_acts))] sz)) 0 0 (va_A [(l0, .inr (3, [.ref l_cases, .long l_all, .ref l_before])), (l_cases, .inl (cyJ, 7, .inr (.inl l_fc))), (l_before, .inl (cyJ, 7, .inr (.inl l_fb))), (h0, .inr (2, [.int a_pl, .int a_li, .int a_le, .int a_lc, .int a_ac, .int a_ng, .ref a_first, .ref a_now, .ref a_lawPlace, .ref a_lawOther, .ref a_lawEach, .ref a_lawFrom, .ref a_foes, .ref a_suitTable, .ref a_acts])), (a_first, .inl (cyI, 7, .inl a_f_first)), (a_now, .inl (cyI, 7, .inl a_f_now)), (a_lawPlace, .inl (cyI, 6, .inl a_f_lawPlace)), (a_lawOther, .inl (cyI, 6, .inl a_f_lawOther)), (a_lawEach, .inl (cyI, 6, .inl a_f_lawEach)), (a_lawFrom, .inl (cyI, 6, .inl a_f_lawFrom)), (a_foes, .inl (cyI, 7, .inl a_f_foes)), (a_suitTable, .inl (cyI, 49, .inl a_f_suitTable)), (a_acts, .inl (cyI, 40, .inl a_f_acts))] sz) := by
  refine Met.ofW (cc := cX3_spread) (maxL := 5) (ret := none) (by decide) rfl ?_
  intro p e s m args below meth c s₁ B hml hv
  obtain ⟨rfl, hsz, hP, hK, hD0⟩ := hv
  have hx := B.exec
  have hb := B.bytes
  have hr := B.returns
  have hts : ∀ w ∈ uU, w.before ([.ref l0, .ref h0, .int p0] : List Value).toArray s = true := fun w h => atoms_spec (ws := wk yX3_spread cX3_spread 5 none) B.pre w (List.mem_cons_of_mem _ h)
  have hown : s.vm.findClass RX3 = some m.cls := findClass_of_methodNamed B.named
  have hlocks := B.notSynchronized
  subst hsz
  have hD := hD0.self (sz := s.heap.size)
  generalize hAe : va_A [(l0, .inr (3, [.ref l_cases, .long l_all, .ref l_before])), (l_cases, .inl (cyJ, 7, .inr (.inl l_fc))), (l_before, .inl (cyJ, 7, .inr (.inl l_fb))), (h0, .inr (2, [.int a_pl, .int a_li, .int a_le, .int a_lc, .int a_ac, .int a_ng, .ref a_first, .ref a_now, .ref a_lawPlace, .ref a_lawOther, .ref a_lawEach, .ref a_lawFrom, .ref a_foes, .ref a_suitTable, .ref a_acts])), (a_first, .inl (cyI, 7, .inl a_f_first)), (a_now, .inl (cyI, 7, .inl a_f_now)), (a_lawPlace, .inl (cyI, 6, .inl a_f_lawPlace)), (a_lawOther, .inl (cyI, 6, .inl a_f_lawOther)), (a_lawEach, .inl (cyI, 6, .inl a_f_lawEach)), (a_lawFrom, .inl (cyI, 6, .inl a_f_lawFrom)), (a_foes, .inl (cyI, 7, .inl a_f_foes)), (a_suitTable, .inl (cyI, 49, .inl a_f_suitTable)), (a_acts, .inl (cyI, 40, .inl a_f_acts))] s.heap.size = A at hD ⊢
  have hA : ∀ q : Nat, s.heap.size ≤ q → A q := fun q h => by rw [← hAe]; exact Or.inr h
  have hS : va_S A s.heap s.heap [] := va_S.rf
  have hP : va_P (dC, dI) vwCl [(l0, .inr (3, [.ref l_cases, .long l_all, .ref l_before])), (l_cases, .inl (cyJ, 7, .inr (.inl l_fc))), (l_before, .inl (cyJ, 7, .inr (.inl l_fb))), (h0, .inr (2, [.int a_pl, .int a_li, .int a_le, .int a_lc, .int a_ac, .int a_ng, .ref a_first, .ref a_now, .ref a_lawPlace, .ref a_lawOther, .ref a_lawEach, .ref a_lawFrom, .ref a_foes, .ref a_suitTable, .ref a_acts])), (a_first, .inl (cyI, 7, .inl a_f_first)), (a_now, .inl (cyI, 7, .inl a_f_now)), (a_lawPlace, .inl (cyI, 6, .inl a_f_lawPlace)), (a_lawOther, .inl (cyI, 6, .inl a_f_lawOther)), (a_lawEach, .inl (cyI, 6, .inl a_f_lawEach)), (a_lawFrom, .inl (cyI, 6, .inl a_f_lawFrom)), (a_foes, .inl (cyI, 7, .inl a_f_foes)), (a_suitTable, .inl (cyI, 49, .inl a_f_suitTable)), (a_acts, .inl (cyI, 40, .inl a_f_acts))] s.heap := hP
  have hl := lv_entry ([.ref l0, .ref h0, .int p0]) (n := 5) (Nat.le_of_ble_eq_true rfl)
  rw [lg_entry_eq]
  generalize (lg_sl ([.ref l0, .ref h0, .int p0]) ++ List.replicate (5 - (lg_sl ([.ref l0, .ref h0, .int p0])).length) Slot.unset).toArray = ls at hl ⊢
  have hl : lv_has ls 5 [(0, .ref l0), (1, .ref h0), (2, .int p0)] := hl
  obtain ⟨H, hHe⟩ : ∃ H, H = s.heap := ⟨_, rfl⟩
  have hP : va_P (dC, dI) vwCl [(l0, .inr (3, [.ref l_cases, .long l_all, .ref l_before])), (l_cases, .inl (cyJ, 7, .inr (.inl l_fc))), (l_before, .inl (cyJ, 7, .inr (.inl l_fb))), (h0, .inr (2, [.int a_pl, .int a_li, .int a_le, .int a_lc, .int a_ac, .int a_ng, .ref a_first, .ref a_now, .ref a_lawPlace, .ref a_lawOther, .ref a_lawEach, .ref a_lawFrom, .ref a_foes, .ref a_suitTable, .ref a_acts])), (a_first, .inl (cyI, 7, .inl a_f_first)), (a_now, .inl (cyI, 7, .inl a_f_now)), (a_lawPlace, .inl (cyI, 6, .inl a_f_lawPlace)), (a_lawOther, .inl (cyI, 6, .inl a_f_lawOther)), (a_lawEach, .inl (cyI, 6, .inl a_f_lawEach)), (a_lawFrom, .inl (cyI, 6, .inl a_f_lawFrom)), (a_foes, .inl (cyI, 7, .inl a_f_foes)), (a_suitTable, .inl (cyI, 49, .inl a_f_suitTable)), (a_acts, .inl (cyI, 40, .inl a_f_acts))] H := by rw [hHe]; exact hP
  have hS : va_S A s.heap H [] := by rw [hHe]; exact hS
  refine cv_heap hHe ?_
  obtain ⟨Q9, hQ9⟩ : ∃ Q9 : State → Prop, Q9 = MQ below (va_Qv (fun _ : Unit => True) (fun (_ : Unit) (t : State) => ∃ z0 : Int64, ∃ y1 : Nat → Int64, ∃ y2 : Nat → Int64, va_P (dC, dI) vwCl [(l0, .inr (3, [.ref l_cases, .long z0, .ref l_before])), (l_cases, .inl (cyJ, 7, .inr (.inl y1))), (l_before, .inl (cyJ, 7, .inr (.inl y2))), (h0, .inr (2, [.int a_pl, .int a_li, .int a_le, .int a_lc, .int a_ac, .int a_ng, .ref a_first, .ref a_now, .ref a_lawPlace, .ref a_lawOther, .ref a_lawEach, .ref a_lawFrom, .ref a_foes, .ref a_suitTable, .ref a_acts])), (a_first, .inl (cyI, 7, .inl a_f_first)), (a_now, .inl (cyI, 7, .inl a_f_now)), (a_lawPlace, .inl (cyI, 6, .inl a_f_lawPlace)), (a_lawOther, .inl (cyI, 6, .inl a_f_lawOther)), (a_lawEach, .inl (cyI, 6, .inl a_f_lawEach)), (a_lawFrom, .inl (cyI, 6, .inl a_f_lawFrom)), (a_foes, .inl (cyI, 7, .inl a_f_foes)), (a_suitTable, .inl (cyI, 49, .inl a_f_suitTable)), (a_acts, .inl (cyI, 40, .inl a_f_acts))] t.heap ∧ va_D A [(l0, .inr (3, [.ref l_cases, .long z0, .ref l_before])), (l_cases, .inl (cyJ, 7, .inr (.inl y1))), (l_before, .inl (cyJ, 7, .inr (.inl y2))), (h0, .inr (2, [.int a_pl, .int a_li, .int a_le, .int a_lc, .int a_ac, .int a_ng, .ref a_first, .ref a_now, .ref a_lawPlace, .ref a_lawOther, .ref a_lawEach, .ref a_lawFrom, .ref a_foes, .ref a_suitTable, .ref a_acts])), (a_first, .inl (cyI, 7, .inl a_f_first)), (a_now, .inl (cyI, 7, .inl a_f_now)), (a_lawPlace, .inl (cyI, 6, .inl a_f_lawPlace)), (a_lawOther, .inl (cyI, 6, .inl a_f_lawOther)), (a_lawEach, .inl (cyI, 6, .inl a_f_lawEach)), (a_lawFrom, .inl (cyI, 6, .inl a_f_lawFrom)), (a_foes, .inl (cyI, 7, .inl a_f_foes)), (a_suitTable, .inl (cyI, 49, .inl a_f_suitTable)), (a_acts, .inl (cyI, 40, .inl a_f_acts))]) A) ([.ref l0, .ref h0, .int p0] : List Value).toArray s 0 0 A := ⟨_, rfl⟩
  rw [← hQ9]
  refine lv_aload_n hx hb dX3_spread_0 rfl (lv_at hl 0 rfl) ?_
  refine va_get (D := (dC, dI)) (ci := 3) (v := .ref l_cases) (C := RX3) (T := TX3) (N := 3) hx hb hts uinX3 hown hK hP 0 rfl rfl 0 (by decide) (hts _ wd_2_53) (fun _ h9 => h9) rfl dX3_spread_1 ?_
  refine lv_lconst (v := 0) hx hb dX3_spread_4 (by decide) ?_
  have hPc := hP.sub (ws' := [(l_cases, .inl (cyJ, 7, .inr (.inl l_fc)))]) [1] rfl
  have hKc := hK.sub (tys' := [(cyI, .int), (cyB, .byte), (cyJ, .long), (cyZ, .boolean), (cyH, .object RX2), (cyN, .array .long)]) [0, 1, 2, 3, 4, 5] rfl
  have hDc := hD.sub (ws' := [(l_cases, .inl (cyJ, 7, .inr (.inl l_fc)))]) [1] (by decide) rfl
  have hFc := va_free (wc := [(l_cases, .inl (cyJ, 7, .inr (.inl l_fc)))]) hD hS hA [1] rfl
  refine va_callv (va_runS (As := [.ref l_cases, .long 0]) (rest := []) ⟨hx, hb, hml, hown, hts⟩ (n_fillL7 l dC dI cyI cyB cyJ cyZ cyH cyN H.size l_cases l_fc 0) (va_cwS 2 hts (gdS wd_5_138 wd_5_139 wd_1_12 wd_5_140) rfl rfl rfl (by decide +kernel) ⟨Nat.le_of_ble_eq_true rfl, Nat.le_of_ble_eq_true rfl⟩) ⟨fun a U g mk q => by obtain ⟨q0, q1, qP, qK, qD⟩ := q; exact ⟨q0, q1, qP, va_K.moved (u := U) (U := U.calling g mk a) (Vm.Alike.refl U.vm) qK, qD⟩, fun U hU hW => ⟨rfl, by rw [hU], by rw [hU]; exact hPc, va_K.moved hW.alike hKc, hDc.weaken (fun _ _ _ _ => trivial)⟩⟩ rfl rfl hl.1 rfl (lv_room (Nat.le_of_ble_eq_true rfl)) dX3_spread_5 ⟨Nat.le_of_ble_eq_true rfl, Nat.le_of_ble_eq_true rfl⟩) hS (fun q _ h => hFc q h) hFc (fun  u t H1 locs ht hvm hw hB hz1 hk1 hS => ?_)
  obtain ⟨y0_1, hP1, hD1⟩ := hB
  rw [ht] at hP1
  obtain ⟨hP, hD⟩ := va_join (wr := [(l0, .inr (3, [.ref l_cases, .long l_all, .ref l_before])), (l_before, .inl (cyJ, 7, .inr (.inl l_fb))), (h0, .inr (2, [.int a_pl, .int a_li, .int a_le, .int a_lc, .int a_ac, .int a_ng, .ref a_first, .ref a_now, .ref a_lawPlace, .ref a_lawOther, .ref a_lawEach, .ref a_lawFrom, .ref a_foes, .ref a_suitTable, .ref a_acts])), (a_first, .inl (cyI, 7, .inl a_f_first)), (a_now, .inl (cyI, 7, .inl a_f_now)), (a_lawPlace, .inl (cyI, 6, .inl a_f_lawPlace)), (a_lawOther, .inl (cyI, 6, .inl a_f_lawOther)), (a_lawEach, .inl (cyI, 6, .inl a_f_lawEach)), (a_lawFrom, .inl (cyI, 6, .inl a_f_lawFrom)), (a_foes, .inl (cyI, 7, .inl a_f_foes)), (a_suitTable, .inl (cyI, 49, .inl a_f_suitTable)), (a_acts, .inl (cyI, 40, .inl a_f_acts))]) (w1 := [(l_cases, .inl (cyJ, 7, .inr (.inl y0_1)))]) hP hD [1] [0, 2, 3, 4, 5, 6, 7, 8, 9, 10, 11, 12] rfl rfl (by decide) (by decide) hk1 hFc hP1 hD1
  generalize H1 = H at hP hS ⊢
  have hP : va_P (dC, dI) vwCl [(l0, .inr (3, [.ref l_cases, .long l_all, .ref l_before])), (l_before, .inl (cyJ, 7, .inr (.inl l_fb))), (h0, .inr (2, [.int a_pl, .int a_li, .int a_le, .int a_lc, .int a_ac, .int a_ng, .ref a_first, .ref a_now, .ref a_lawPlace, .ref a_lawOther, .ref a_lawEach, .ref a_lawFrom, .ref a_foes, .ref a_suitTable, .ref a_acts])), (a_first, .inl (cyI, 7, .inl a_f_first)), (a_now, .inl (cyI, 7, .inl a_f_now)), (a_lawPlace, .inl (cyI, 6, .inl a_f_lawPlace)), (a_lawOther, .inl (cyI, 6, .inl a_f_lawOther)), (a_lawEach, .inl (cyI, 6, .inl a_f_lawEach)), (a_lawFrom, .inl (cyI, 6, .inl a_f_lawFrom)), (a_foes, .inl (cyI, 7, .inl a_f_foes)), (a_suitTable, .inl (cyI, 49, .inl a_f_suitTable)), (a_acts, .inl (cyI, 40, .inl a_f_acts)), (l_cases, .inl (cyJ, 7, .inr (.inl y0_1)))] H := hP
  have hD : va_D A [(l0, .inr (3, [.ref l_cases, .long l_all, .ref l_before])), (l_before, .inl (cyJ, 7, .inr (.inl l_fb))), (h0, .inr (2, [.int a_pl, .int a_li, .int a_le, .int a_lc, .int a_ac, .int a_ng, .ref a_first, .ref a_now, .ref a_lawPlace, .ref a_lawOther, .ref a_lawEach, .ref a_lawFrom, .ref a_foes, .ref a_suitTable, .ref a_acts])), (a_first, .inl (cyI, 7, .inl a_f_first)), (a_now, .inl (cyI, 7, .inl a_f_now)), (a_lawPlace, .inl (cyI, 6, .inl a_f_lawPlace)), (a_lawOther, .inl (cyI, 6, .inl a_f_lawOther)), (a_lawEach, .inl (cyI, 6, .inl a_f_lawEach)), (a_lawFrom, .inl (cyI, 6, .inl a_f_lawFrom)), (a_foes, .inl (cyI, 7, .inl a_f_foes)), (a_suitTable, .inl (cyI, 49, .inl a_f_suitTable)), (a_acts, .inl (cyI, 40, .inl a_f_acts)), (l_cases, .inl (cyJ, 7, .inr (.inl y0_1)))] := hD
  have hP := hP.sub (ws' := [(l0, .inr (3, [.ref l_cases, .long l_all, .ref l_before])), (l_cases, .inl (cyJ, 7, .inr (.inl y0_1))), (l_before, .inl (cyJ, 7, .inr (.inl l_fb))), (h0, .inr (2, [.int a_pl, .int a_li, .int a_le, .int a_lc, .int a_ac, .int a_ng, .ref a_first, .ref a_now, .ref a_lawPlace, .ref a_lawOther, .ref a_lawEach, .ref a_lawFrom, .ref a_foes, .ref a_suitTable, .ref a_acts])), (a_first, .inl (cyI, 7, .inl a_f_first)), (a_now, .inl (cyI, 7, .inl a_f_now)), (a_lawPlace, .inl (cyI, 6, .inl a_f_lawPlace)), (a_lawOther, .inl (cyI, 6, .inl a_f_lawOther)), (a_lawEach, .inl (cyI, 6, .inl a_f_lawEach)), (a_lawFrom, .inl (cyI, 6, .inl a_f_lawFrom)), (a_foes, .inl (cyI, 7, .inl a_f_foes)), (a_suitTable, .inl (cyI, 49, .inl a_f_suitTable)), (a_acts, .inl (cyI, 40, .inl a_f_acts))]) [0, 12, 1, 2, 3, 4, 5, 6, 7, 8, 9, 10, 11] rfl
  have hD := hD.sub (ws' := [(l0, .inr (3, [.ref l_cases, .long l_all, .ref l_before])), (l_cases, .inl (cyJ, 7, .inr (.inl y0_1))), (l_before, .inl (cyJ, 7, .inr (.inl l_fb))), (h0, .inr (2, [.int a_pl, .int a_li, .int a_le, .int a_lc, .int a_ac, .int a_ng, .ref a_first, .ref a_now, .ref a_lawPlace, .ref a_lawOther, .ref a_lawEach, .ref a_lawFrom, .ref a_foes, .ref a_suitTable, .ref a_acts])), (a_first, .inl (cyI, 7, .inl a_f_first)), (a_now, .inl (cyI, 7, .inl a_f_now)), (a_lawPlace, .inl (cyI, 6, .inl a_f_lawPlace)), (a_lawOther, .inl (cyI, 6, .inl a_f_lawOther)), (a_lawEach, .inl (cyI, 6, .inl a_f_lawEach)), (a_lawFrom, .inl (cyI, 6, .inl a_f_lawFrom)), (a_foes, .inl (cyI, 7, .inl a_f_foes)), (a_suitTable, .inl (cyI, 49, .inl a_f_suitTable)), (a_acts, .inl (cyI, 40, .inl a_f_acts))]) [0, 12, 1, 2, 3, 4, 5, 6, 7, 8, 9, 10, 11] (by decide) rfl
  refine lv_aload_n hx hb dX3_spread_8 rfl (lv_at hl 1 rfl) ?_
  refine lv_aload_n hx hb dX3_spread_9 rfl (lv_at hl 1 rfl) ?_
  have hPc := hP.sub (ws' := [(h0, .inr (2, [.int a_pl, .int a_li, .int a_le, .int a_lc, .int a_ac, .int a_ng, .ref a_first, .ref a_now, .ref a_lawPlace, .ref a_lawOther, .ref a_lawEach, .ref a_lawFrom, .ref a_foes, .ref a_suitTable, .ref a_acts])), (a_first, .inl (cyI, 7, .inl a_f_first)), (a_now, .inl (cyI, 7, .inl a_f_now)), (a_lawPlace, .inl (cyI, 6, .inl a_f_lawPlace)), (a_lawOther, .inl (cyI, 6, .inl a_f_lawOther)), (a_lawEach, .inl (cyI, 6, .inl a_f_lawEach)), (a_lawFrom, .inl (cyI, 6, .inl a_f_lawFrom)), (a_foes, .inl (cyI, 7, .inl a_f_foes)), (a_suitTable, .inl (cyI, 49, .inl a_f_suitTable)), (a_acts, .inl (cyI, 40, .inl a_f_acts))]) [3, 4, 5, 6, 7, 8, 9, 10, 11, 12] rfl
  have hKc := hK.sub (tys' := [(cyI, .int), (cyB, .byte), (cyJ, .long), (cyZ, .boolean), (cyH, .object RX2), (cyN, .array .long)]) [0, 1, 2, 3, 4, 5] rfl
  refine vp_callSi (va_Run.run (va_runV (As := []) (rest := [.ref h0]) ⟨hx, hb, hml, hown, hts⟩ (n_blank l dC dI cyI cyB cyJ cyZ cyH cyN h0 a_first a_now a_lawPlace a_lawOther a_lawEach a_lawFrom a_foes a_suitTable a_acts a_pl a_li a_le a_lc a_ac a_ng a_f_first a_f_now a_f_lawPlace a_f_lawOther a_f_lawEach a_f_lawFrom a_f_foes a_f_suitTable a_f_acts g0 g1 g2 g3 g4 (by omega) (by omega) (by omega)) (cwV 0 hts (gdV wd_5_141 wd_4_99 wd_4_100 wd_1_3 wd_4_101) rfl rfl rfl (by decide +kernel) ⟨Nat.le_of_ble_eq_true rfl, Nat.le_of_ble_eq_true rfl⟩) ⟨fun a U g mk q => by obtain ⟨q0, qP, qK⟩ := q; exact ⟨q0, qP, va_K.moved (u := U) (U := U.calling g mk a) (Vm.Alike.refl U.vm) qK⟩, va_recv hKc hPc (ci := 2) (q0 := 0) rfl rfl, fun U hU hW => ⟨rfl, by rw [hU]; exact hPc, va_K.moved hW.alike hKc⟩⟩ rfl rfl hl.1 rfl (lv_room (Nat.le_of_ble_eq_true rfl)) dX3_spread_10 ⟨Nat.le_of_ble_eq_true rfl, Nat.le_of_ble_eq_true rfl⟩)) (fun r_2 hw => ?_)
  have hrr_2 := hw
  have hPc := hP.sub (ws' := [(h0, .inr (2, [.int a_pl, .int a_li, .int a_le, .int a_lc, .int a_ac, .int a_ng, .ref a_first, .ref a_now, .ref a_lawPlace, .ref a_lawOther, .ref a_lawEach, .ref a_lawFrom, .ref a_foes, .ref a_suitTable, .ref a_acts])), (a_first, .inl (cyI, 7, .inl a_f_first)), (a_now, .inl (cyI, 7, .inl a_f_now)), (a_lawPlace, .inl (cyI, 6, .inl a_f_lawPlace)), (a_lawOther, .inl (cyI, 6, .inl a_f_lawOther)), (a_lawEach, .inl (cyI, 6, .inl a_f_lawEach)), (a_lawFrom, .inl (cyI, 6, .inl a_f_lawFrom)), (a_foes, .inl (cyI, 7, .inl a_f_foes)), (a_suitTable, .inl (cyI, 49, .inl a_f_suitTable)), (a_acts, .inl (cyI, 40, .inl a_f_acts))]) [3, 4, 5, 6, 7, 8, 9, 10, 11, 12] rfl
  have hKc := hK.sub (tys' := [(cyI, .int), (cyB, .byte), (cyJ, .long), (cyZ, .boolean), (cyH, .object RX2), (cyN, .array .long)]) [0, 1, 2, 3, 4, 5] rfl
  refine vp_callSi (va_Run.run (va_runV (As := [.int r_2]) (rest := []) ⟨hx, hb, hml, hown, hts⟩ (n_placeOf l dC dI cyI cyB cyJ cyZ cyH cyN h0 a_first a_now a_lawPlace a_lawOther a_lawEach a_lawFrom a_foes a_suitTable a_acts a_pl a_li a_le a_lc a_ac a_ng a_f_first a_f_now a_f_lawPlace a_f_lawOther a_f_lawEach a_f_lawFrom a_f_foes a_f_suitTable a_f_acts r_2 g0 g1 g2 g3 g4 (by omega) (by omega) (by omega)) (cwV 1 hts (gdV wd_5_142 wd_3_77 wd_3_78 wd_1_3 wd_3_79) rfl rfl rfl (by decide +kernel) ⟨Nat.le_of_ble_eq_true rfl, Nat.le_of_ble_eq_true rfl⟩) ⟨fun a U g mk q => by obtain ⟨q0, qP, qK⟩ := q; exact ⟨q0, qP, va_K.moved (u := U) (U := U.calling g mk a) (Vm.Alike.refl U.vm) qK⟩, va_recv hKc hPc (ci := 2) (q0 := 0) rfl rfl, fun U hU hW => ⟨rfl, by rw [hU]; exact hPc, va_K.moved hW.alike hKc⟩⟩ rfl rfl hl.1 rfl (lv_room (Nat.le_of_ble_eq_true rfl)) dX3_spread_13 ⟨Nat.le_of_ble_eq_true rfl, Nat.le_of_ble_eq_true rfl⟩)) (fun r_3 hw => ?_)
  have hrr_3 := hw
  refine lv_istore_n (lv' := [(3, .int r_3), (0, .ref l0), (1, .ref h0), (2, .int p0)]) hx hb dX3_spread_16 rfl hl (by decide) rfl (fun ls hl => ?_)
  refine lv_iload_n hx hb dX3_spread_17 rfl (lv_at hl 0 rfl) ?_
  have join_5 : ∀ (f_4 : Nat → Int64) (H : Heap) (locs : List Loc) (ls : Array Slot), va_P (dC, dI) vwCl [(l0, .inr (3, [.ref l_cases, .long l_all, .ref l_before])), (l_cases, .inl (cyJ, 7, .inr (.inl f_4))), (l_before, .inl (cyJ, 7, .inr (.inl l_fb))), (h0, .inr (2, [.int a_pl, .int a_li, .int a_le, .int a_lc, .int a_ac, .int a_ng, .ref a_first, .ref a_now, .ref a_lawPlace, .ref a_lawOther, .ref a_lawEach, .ref a_lawFrom, .ref a_foes, .ref a_suitTable, .ref a_acts])), (a_first, .inl (cyI, 7, .inl a_f_first)), (a_now, .inl (cyI, 7, .inl a_f_now)), (a_lawPlace, .inl (cyI, 6, .inl a_f_lawPlace)), (a_lawOther, .inl (cyI, 6, .inl a_f_lawOther)), (a_lawEach, .inl (cyI, 6, .inl a_f_lawEach)), (a_lawFrom, .inl (cyI, 6, .inl a_f_lawFrom)), (a_foes, .inl (cyI, 7, .inl a_f_foes)), (a_suitTable, .inl (cyI, 49, .inl a_f_suitTable)), (a_acts, .inl (cyI, 40, .inl a_f_acts))] H → va_D A [(l0, .inr (3, [.ref l_cases, .long l_all, .ref l_before])), (l_cases, .inl (cyJ, 7, .inr (.inl f_4))), (l_before, .inl (cyJ, 7, .inr (.inl l_fb))), (h0, .inr (2, [.int a_pl, .int a_li, .int a_le, .int a_lc, .int a_ac, .int a_ng, .ref a_first, .ref a_now, .ref a_lawPlace, .ref a_lawOther, .ref a_lawEach, .ref a_lawFrom, .ref a_foes, .ref a_suitTable, .ref a_acts])), (a_first, .inl (cyI, 7, .inl a_f_first)), (a_now, .inl (cyI, 7, .inl a_f_now)), (a_lawPlace, .inl (cyI, 6, .inl a_f_lawPlace)), (a_lawOther, .inl (cyI, 6, .inl a_f_lawOther)), (a_lawEach, .inl (cyI, 6, .inl a_f_lawEach)), (a_lawFrom, .inl (cyI, 6, .inl a_f_lawFrom)), (a_foes, .inl (cyI, 7, .inl a_f_foes)), (a_suitTable, .inl (cyI, 49, .inl a_f_suitTable)), (a_acts, .inl (cyI, 40, .inl a_f_acts))] → va_S A s.heap H locs → lv_has ls 5 [(3, .int r_3), (0, .ref l0), (1, .ref h0), (2, .int p0)] → W p l e ({ frames := 3, cells := 0, slots := 0, locals := 104 }) s m ([.ref l0, .ref h0, .int p0] : List Value).toArray below meth c H locs 0 0 Q9 (F0 m 28 ls []) := by
    intro f_4 H locs ls hP hD hS hl
    refine lv_aload_n hx hb dX3_spread_28 rfl (lv_at hl 1 rfl) ?_
    refine lv_lconst (v := 1) hx hb dX3_spread_29 (by decide) ?_
    refine va_put (D := (dC, dI)) (ci := 3) (v := .long 1) (ty := .long) (C := RX3) (T := TX3) (N := 3) hx hb hts uinX3 tyX3 tyX3_ok nmX3 hown hK hP hD hS 0 rfl rfl 1 (by decide) (hts _ wd_2_55) (fun _ h9 => h9) rfl (by decide +kernel) rfl rfl (Nat.le_of_ble_eq_true rfl) dX3_spread_30 (fun H locs hP hD hS => ?_)
    have hP : va_P (dC, dI) vwCl [(l0, .inr (3, [.ref l_cases, .long 1, .ref l_before])), (l_cases, .inl (cyJ, 7, .inr (.inl f_4))), (l_before, .inl (cyJ, 7, .inr (.inl l_fb))), (h0, .inr (2, [.int a_pl, .int a_li, .int a_le, .int a_lc, .int a_ac, .int a_ng, .ref a_first, .ref a_now, .ref a_lawPlace, .ref a_lawOther, .ref a_lawEach, .ref a_lawFrom, .ref a_foes, .ref a_suitTable, .ref a_acts])), (a_first, .inl (cyI, 7, .inl a_f_first)), (a_now, .inl (cyI, 7, .inl a_f_now)), (a_lawPlace, .inl (cyI, 6, .inl a_f_lawPlace)), (a_lawOther, .inl (cyI, 6, .inl a_f_lawOther)), (a_lawEach, .inl (cyI, 6, .inl a_f_lawEach)), (a_lawFrom, .inl (cyI, 6, .inl a_f_lawFrom)), (a_foes, .inl (cyI, 7, .inl a_f_foes)), (a_suitTable, .inl (cyI, 49, .inl a_f_suitTable)), (a_acts, .inl (cyI, 40, .inl a_f_acts))] H := hP
    have hD : va_D A [(l0, .inr (3, [.ref l_cases, .long 1, .ref l_before])), (l_cases, .inl (cyJ, 7, .inr (.inl f_4))), (l_before, .inl (cyJ, 7, .inr (.inl l_fb))), (h0, .inr (2, [.int a_pl, .int a_li, .int a_le, .int a_lc, .int a_ac, .int a_ng, .ref a_first, .ref a_now, .ref a_lawPlace, .ref a_lawOther, .ref a_lawEach, .ref a_lawFrom, .ref a_foes, .ref a_suitTable, .ref a_acts])), (a_first, .inl (cyI, 7, .inl a_f_first)), (a_now, .inl (cyI, 7, .inl a_f_now)), (a_lawPlace, .inl (cyI, 6, .inl a_f_lawPlace)), (a_lawOther, .inl (cyI, 6, .inl a_f_lawOther)), (a_lawEach, .inl (cyI, 6, .inl a_f_lawEach)), (a_lawFrom, .inl (cyI, 6, .inl a_f_lawFrom)), (a_foes, .inl (cyI, 7, .inl a_f_foes)), (a_suitTable, .inl (cyI, 49, .inl a_f_suitTable)), (a_acts, .inl (cyI, 40, .inl a_f_acts))] := hD
    refine lv_iconst (v := 0) hx hb dX3_spread_33 (by decide) ?_
    refine lv_istore (lv' := [(4, .int 0), (3, .int r_3), (0, .ref l0), (1, .ref h0), (2, .int p0)]) hx hb dX3_spread_34 hl (by decide) rfl (fun ls hl => ?_)
    have key_10 : ∀ (nkey_10 : Nat) (u_6 : Int32) (w_7 : Int64) (f_8 : Nat → Int64) (f_9 : Nat → Int64) (H : Heap) (locs : List Loc) (ls : Array Slot), (0 ≤ u_6.toInt ∧ u_6.toInt ≤ 12) → va_P (dC, dI) vwCl [(l0, .inr (3, [.ref l_cases, .long w_7, .ref l_before])), (l_cases, .inl (cyJ, 7, .inr (.inl f_8))), (l_before, .inl (cyJ, 7, .inr (.inl f_9))), (h0, .inr (2, [.int a_pl, .int a_li, .int a_le, .int a_lc, .int a_ac, .int a_ng, .ref a_first, .ref a_now, .ref a_lawPlace, .ref a_lawOther, .ref a_lawEach, .ref a_lawFrom, .ref a_foes, .ref a_suitTable, .ref a_acts])), (a_first, .inl (cyI, 7, .inl a_f_first)), (a_now, .inl (cyI, 7, .inl a_f_now)), (a_lawPlace, .inl (cyI, 6, .inl a_f_lawPlace)), (a_lawOther, .inl (cyI, 6, .inl a_f_lawOther)), (a_lawEach, .inl (cyI, 6, .inl a_f_lawEach)), (a_lawFrom, .inl (cyI, 6, .inl a_f_lawFrom)), (a_foes, .inl (cyI, 7, .inl a_f_foes)), (a_suitTable, .inl (cyI, 49, .inl a_f_suitTable)), (a_acts, .inl (cyI, 40, .inl a_f_acts))] H → va_D A [(l0, .inr (3, [.ref l_cases, .long w_7, .ref l_before])), (l_cases, .inl (cyJ, 7, .inr (.inl f_8))), (l_before, .inl (cyJ, 7, .inr (.inl f_9))), (h0, .inr (2, [.int a_pl, .int a_li, .int a_le, .int a_lc, .int a_ac, .int a_ng, .ref a_first, .ref a_now, .ref a_lawPlace, .ref a_lawOther, .ref a_lawEach, .ref a_lawFrom, .ref a_foes, .ref a_suitTable, .ref a_acts])), (a_first, .inl (cyI, 7, .inl a_f_first)), (a_now, .inl (cyI, 7, .inl a_f_now)), (a_lawPlace, .inl (cyI, 6, .inl a_f_lawPlace)), (a_lawOther, .inl (cyI, 6, .inl a_f_lawOther)), (a_lawEach, .inl (cyI, 6, .inl a_f_lawEach)), (a_lawFrom, .inl (cyI, 6, .inl a_f_lawFrom)), (a_foes, .inl (cyI, 7, .inl a_f_foes)), (a_suitTable, .inl (cyI, 49, .inl a_f_suitTable)), (a_acts, .inl (cyI, 40, .inl a_f_acts))] → va_S A s.heap H locs → lv_has ls 5 [(4, .int u_6), (3, .int r_3), (0, .ref l0), (1, .ref h0), (2, .int p0)] → (p0.toInt - u_6.toInt).toNat < nkey_10 → W p l e ({ frames := 3, cells := 0, slots := 0, locals := 104 }) s m ([.ref l0, .ref h0, .int p0] : List Value).toArray below meth c H locs 0 0 Q9 (F0 m 36 ls []) := by
      intro nkey_10
      induction nkey_10 with
      | zero => intro u_6 w_7 f_8 f_9 H locs ls hu_6 hP hD hS hl hnkey_10; exact absurd hnkey_10 (Nat.not_lt_zero _)
      | succ nkey_10 ihkey_10 =>
        intro u_6 w_7 f_8 f_9 H locs ls hu_6 hP hD hS hl hnkey_10
        refine lv_iload hx hb dX3_spread_36 (lv_at hl 0 rfl) ?_
        refine lv_iload_n hx hb dX3_spread_38 rfl (lv_at hl 4 rfl) ?_
        refine lv_icmp_ge (tgt := 72) hx hb dX3_spread_39 (by decide) (fun c_11 => ?_) (fun c_11 => ?_)
        · have c_11 : p0.toInt ≤ u_6.toInt := cv_le c_11
          rw [hQ9]
          have hP9 := hP.sub (ws' := [(l0, .inr (3, [.ref l_cases, .long w_7, .ref l_before])), (l_cases, .inl (cyJ, 7, .inr (.inl f_8))), (l_before, .inl (cyJ, 7, .inr (.inl f_9))), (h0, .inr (2, [.int a_pl, .int a_li, .int a_le, .int a_lc, .int a_ac, .int a_ng, .ref a_first, .ref a_now, .ref a_lawPlace, .ref a_lawOther, .ref a_lawEach, .ref a_lawFrom, .ref a_foes, .ref a_suitTable, .ref a_acts])), (a_first, .inl (cyI, 7, .inl a_f_first)), (a_now, .inl (cyI, 7, .inl a_f_now)), (a_lawPlace, .inl (cyI, 6, .inl a_f_lawPlace)), (a_lawOther, .inl (cyI, 6, .inl a_f_lawOther)), (a_lawEach, .inl (cyI, 6, .inl a_f_lawEach)), (a_lawFrom, .inl (cyI, 6, .inl a_f_lawFrom)), (a_foes, .inl (cyI, 7, .inl a_f_foes)), (a_suitTable, .inl (cyI, 49, .inl a_f_suitTable)), (a_acts, .inl (cyI, 40, .inl a_f_acts))]) [0, 1, 2, 3, 4, 5, 6, 7, 8, 9, 10, 11, 12] rfl
          have hD9 := hD.sub (ws' := [(l0, .inr (3, [.ref l_cases, .long w_7, .ref l_before])), (l_cases, .inl (cyJ, 7, .inr (.inl f_8))), (l_before, .inl (cyJ, 7, .inr (.inl f_9))), (h0, .inr (2, [.int a_pl, .int a_li, .int a_le, .int a_lc, .int a_ac, .int a_ng, .ref a_first, .ref a_now, .ref a_lawPlace, .ref a_lawOther, .ref a_lawEach, .ref a_lawFrom, .ref a_foes, .ref a_suitTable, .ref a_acts])), (a_first, .inl (cyI, 7, .inl a_f_first)), (a_now, .inl (cyI, 7, .inl a_f_now)), (a_lawPlace, .inl (cyI, 6, .inl a_f_lawPlace)), (a_lawOther, .inl (cyI, 6, .inl a_f_lawOther)), (a_lawEach, .inl (cyI, 6, .inl a_f_lawEach)), (a_lawFrom, .inl (cyI, 6, .inl a_f_lawFrom)), (a_foes, .inl (cyI, 7, .inl a_f_foes)), (a_suitTable, .inl (cyI, 49, .inl a_f_suitTable)), (a_acts, .inl (cyI, 40, .inl a_f_acts))]) [0, 1, 2, 3, 4, 5, 6, 7, 8, 9, 10, 11, 12] (by decide) rfl
          exact W.vret hx hb hr (fun t ht hW => ⟨⟨(), rfl, trivial, ⟨w_7, f_8, f_9, by rw [ht]; exact hP9, hD9⟩⟩, hS.F ht⟩) hS.2.2 dX3_spread_72
        · have c_11 : u_6.toInt < p0.toInt := cv_nle c_11
          refine lv_aload_n hx hb dX3_spread_42 rfl (lv_at hl 2 rfl) ?_
          refine lv_aload_n hx hb dX3_spread_43 rfl (lv_at hl 3 rfl) ?_
          refine va_get (D := (dC, dI)) (ci := 2) (v := .int a_pl) (C := RX2) (T := TX2) (N := 15) hx hb hts uinX2 hown hK hP 3 rfl rfl 0 (by decide) (hts _ wd_1_83) (fun _ h9 => h9) rfl dX3_spread_44 ?_
          have hPc := hP.sub (ws' := [(l0, .inr (3, [.ref l_cases, .long w_7, .ref l_before])), (l_cases, .inl (cyJ, 7, .inr (.inl f_8))), (l_before, .inl (cyJ, 7, .inr (.inl f_9)))]) [0, 1, 2] rfl
          have hKc := hK.sub (tys' := [(cyI, .int), (cyB, .byte), (cyJ, .long), (cyZ, .boolean), (cyH, .object RX2), (cyN, .array .long)]) [0, 1, 2, 3, 4, 5] rfl
          have hDc := hD.sub (ws' := [(l0, .inr (3, [.ref l_cases, .long w_7, .ref l_before])), (l_cases, .inl (cyJ, 7, .inr (.inl f_8))), (l_before, .inl (cyJ, 7, .inr (.inl f_9)))]) [0, 1, 2] (by decide) rfl
          have hFc := va_free (wc := [(l0, .inr (3, [.ref l_cases, .long w_7, .ref l_before])), (l_cases, .inl (cyJ, 7, .inr (.inl f_8))), (l_before, .inl (cyJ, 7, .inr (.inl f_9)))]) hD hS hA [0, 1, 2] rfl
          refine va_callv (va_runV (As := [.int a_pl]) (rest := []) ⟨hx, hb, hml, hown, hts⟩ (n_spreadOne l dC dI cyI cyB cyJ cyZ cyH cyN H.size l0 l_cases l_before w_7 f_8 f_9 a_pl (by omega)) (cwV 1 hts (gdV wd_5_143 wd_5_145 wd_s3_5 wd_1_10 wd_5_146) rfl rfl rfl (by decide +kernel) ⟨Nat.le_of_ble_eq_true rfl, Nat.le_of_ble_eq_true rfl⟩) ⟨fun a U g mk q => by obtain ⟨q0, q1, qP, qK, qD⟩ := q; exact ⟨q0, q1, qP, va_K.moved (u := U) (U := U.calling g mk a) (Vm.Alike.refl U.vm) qK, qD⟩, va_recv hKc hPc (ci := 3) (q0 := 0) rfl rfl, fun U hU hW => ⟨rfl, by rw [hU], by rw [hU]; exact hPc, va_K.moved hW.alike hKc, hDc.weaken (fun _ _ _ _ => trivial)⟩⟩ rfl rfl hl.1 rfl (lv_room (Nat.le_of_ble_eq_true rfl)) dX3_spread_47 ⟨Nat.le_of_ble_eq_true rfl, Nat.le_of_ble_eq_true rfl⟩) hS (fun q _ h => hFc q h) hFc (fun  u t H1 locs ht hvm hw hB hz1 hk1 hS => ?_)
          obtain ⟨y0_12, y1_13, hP1, hD1⟩ := hB
          rw [ht] at hP1
          obtain ⟨hP, hD⟩ := va_join (wr := [(h0, .inr (2, [.int a_pl, .int a_li, .int a_le, .int a_lc, .int a_ac, .int a_ng, .ref a_first, .ref a_now, .ref a_lawPlace, .ref a_lawOther, .ref a_lawEach, .ref a_lawFrom, .ref a_foes, .ref a_suitTable, .ref a_acts])), (a_first, .inl (cyI, 7, .inl a_f_first)), (a_now, .inl (cyI, 7, .inl a_f_now)), (a_lawPlace, .inl (cyI, 6, .inl a_f_lawPlace)), (a_lawOther, .inl (cyI, 6, .inl a_f_lawOther)), (a_lawEach, .inl (cyI, 6, .inl a_f_lawEach)), (a_lawFrom, .inl (cyI, 6, .inl a_f_lawFrom)), (a_foes, .inl (cyI, 7, .inl a_f_foes)), (a_suitTable, .inl (cyI, 49, .inl a_f_suitTable)), (a_acts, .inl (cyI, 40, .inl a_f_acts))]) (w1 := [(l0, .inr (3, [.ref l_cases, .long w_7, .ref l_before])), (l_cases, .inl (cyJ, 7, .inr (.inl y0_12))), (l_before, .inl (cyJ, 7, .inr (.inl y1_13)))]) hP hD [0, 1, 2] [3, 4, 5, 6, 7, 8, 9, 10, 11, 12] rfl rfl (by decide) (by decide) hk1 hFc hP1 hD1
          generalize H1 = H at hP hS ⊢
          have hP : va_P (dC, dI) vwCl [(h0, .inr (2, [.int a_pl, .int a_li, .int a_le, .int a_lc, .int a_ac, .int a_ng, .ref a_first, .ref a_now, .ref a_lawPlace, .ref a_lawOther, .ref a_lawEach, .ref a_lawFrom, .ref a_foes, .ref a_suitTable, .ref a_acts])), (a_first, .inl (cyI, 7, .inl a_f_first)), (a_now, .inl (cyI, 7, .inl a_f_now)), (a_lawPlace, .inl (cyI, 6, .inl a_f_lawPlace)), (a_lawOther, .inl (cyI, 6, .inl a_f_lawOther)), (a_lawEach, .inl (cyI, 6, .inl a_f_lawEach)), (a_lawFrom, .inl (cyI, 6, .inl a_f_lawFrom)), (a_foes, .inl (cyI, 7, .inl a_f_foes)), (a_suitTable, .inl (cyI, 49, .inl a_f_suitTable)), (a_acts, .inl (cyI, 40, .inl a_f_acts)), (l0, .inr (3, [.ref l_cases, .long w_7, .ref l_before])), (l_cases, .inl (cyJ, 7, .inr (.inl y0_12))), (l_before, .inl (cyJ, 7, .inr (.inl y1_13)))] H := hP
          have hD : va_D A [(h0, .inr (2, [.int a_pl, .int a_li, .int a_le, .int a_lc, .int a_ac, .int a_ng, .ref a_first, .ref a_now, .ref a_lawPlace, .ref a_lawOther, .ref a_lawEach, .ref a_lawFrom, .ref a_foes, .ref a_suitTable, .ref a_acts])), (a_first, .inl (cyI, 7, .inl a_f_first)), (a_now, .inl (cyI, 7, .inl a_f_now)), (a_lawPlace, .inl (cyI, 6, .inl a_f_lawPlace)), (a_lawOther, .inl (cyI, 6, .inl a_f_lawOther)), (a_lawEach, .inl (cyI, 6, .inl a_f_lawEach)), (a_lawFrom, .inl (cyI, 6, .inl a_f_lawFrom)), (a_foes, .inl (cyI, 7, .inl a_f_foes)), (a_suitTable, .inl (cyI, 49, .inl a_f_suitTable)), (a_acts, .inl (cyI, 40, .inl a_f_acts)), (l0, .inr (3, [.ref l_cases, .long w_7, .ref l_before])), (l_cases, .inl (cyJ, 7, .inr (.inl y0_12))), (l_before, .inl (cyJ, 7, .inr (.inl y1_13)))] := hD
          have hP := hP.sub (ws' := [(l0, .inr (3, [.ref l_cases, .long w_7, .ref l_before])), (l_cases, .inl (cyJ, 7, .inr (.inl y0_12))), (l_before, .inl (cyJ, 7, .inr (.inl y1_13))), (h0, .inr (2, [.int a_pl, .int a_li, .int a_le, .int a_lc, .int a_ac, .int a_ng, .ref a_first, .ref a_now, .ref a_lawPlace, .ref a_lawOther, .ref a_lawEach, .ref a_lawFrom, .ref a_foes, .ref a_suitTable, .ref a_acts])), (a_first, .inl (cyI, 7, .inl a_f_first)), (a_now, .inl (cyI, 7, .inl a_f_now)), (a_lawPlace, .inl (cyI, 6, .inl a_f_lawPlace)), (a_lawOther, .inl (cyI, 6, .inl a_f_lawOther)), (a_lawEach, .inl (cyI, 6, .inl a_f_lawEach)), (a_lawFrom, .inl (cyI, 6, .inl a_f_lawFrom)), (a_foes, .inl (cyI, 7, .inl a_f_foes)), (a_suitTable, .inl (cyI, 49, .inl a_f_suitTable)), (a_acts, .inl (cyI, 40, .inl a_f_acts))]) [10, 11, 12, 0, 1, 2, 3, 4, 5, 6, 7, 8, 9] rfl
          have hD := hD.sub (ws' := [(l0, .inr (3, [.ref l_cases, .long w_7, .ref l_before])), (l_cases, .inl (cyJ, 7, .inr (.inl y0_12))), (l_before, .inl (cyJ, 7, .inr (.inl y1_13))), (h0, .inr (2, [.int a_pl, .int a_li, .int a_le, .int a_lc, .int a_ac, .int a_ng, .ref a_first, .ref a_now, .ref a_lawPlace, .ref a_lawOther, .ref a_lawEach, .ref a_lawFrom, .ref a_foes, .ref a_suitTable, .ref a_acts])), (a_first, .inl (cyI, 7, .inl a_f_first)), (a_now, .inl (cyI, 7, .inl a_f_now)), (a_lawPlace, .inl (cyI, 6, .inl a_f_lawPlace)), (a_lawOther, .inl (cyI, 6, .inl a_f_lawOther)), (a_lawEach, .inl (cyI, 6, .inl a_f_lawEach)), (a_lawFrom, .inl (cyI, 6, .inl a_f_lawFrom)), (a_foes, .inl (cyI, 7, .inl a_f_foes)), (a_suitTable, .inl (cyI, 49, .inl a_f_suitTable)), (a_acts, .inl (cyI, 40, .inl a_f_acts))]) [10, 11, 12, 0, 1, 2, 3, 4, 5, 6, 7, 8, 9] (by decide) rfl
          refine lv_aload_n hx hb dX3_spread_50 rfl (lv_at hl 2 rfl) ?_
          refine lv_dup hx hb dX3_spread_51 rfl ?_
          refine va_get (D := (dC, dI)) (ci := 3) (v := .long w_7) (C := RX3) (T := TX3) (N := 3) hx hb hts uinX3 hown hK hP 0 rfl rfl 1 (by decide) (hts _ wd_2_55) (fun _ h9 => h9) rfl dX3_spread_52 ?_
          refine lv_aload_n hx hb dX3_spread_55 rfl (lv_at hl 3 rfl) ?_
          refine va_get (D := (dC, dI)) (ci := 2) (v := .int a_pl) (C := RX2) (T := TX2) (N := 15) hx hb hts uinX2 hown hK hP 3 rfl rfl 0 (by decide) (hts _ wd_1_83) (fun _ h9 => h9) rfl dX3_spread_56 ?_
          refine lv_iconst (v := 1) hx hb dX3_spread_59 (by decide) ?_
          refine lv_isub hx hb dX3_spread_60 ?_
          refine lv_topi (fun x_14 ex_14 => ?_)
          have fx_14 : x_14.toInt = a_pl.toInt - 1 := by rw [ex_14]; exact cv_subI (by have : (1 : Int32).toInt = 1 := rfl; omega) (by have : (1 : Int32).toInt = 1 := rfl; omega)
          obtain ⟨y_15, ey_15⟩ : ∃ z : Int64, z = x_14.toInt64 := ⟨_, rfl⟩
          have fy_15 : y_15.toInt = x_14.toInt := by rw [ey_15]; exact Int32.toInt_toInt64 _
          refine lv_i2l (v := y_15) hx hb dX3_spread_61 ey_15.symm ?_
          refine lv_lmul hx hb dX3_spread_62 ?_
          refine lv_topl (fun y_16 ey_16 => ?_)
          refine va_put (D := (dC, dI)) (ci := 3) (v := .long y_16) (ty := .long) (C := RX3) (T := TX3) (N := 3) hx hb hts uinX3 tyX3 tyX3_ok nmX3 hown hK hP hD hS 0 rfl rfl 1 (by decide) (hts _ wd_2_55) (fun _ h9 => h9) rfl (by decide +kernel) rfl rfl (Nat.le_of_ble_eq_true rfl) dX3_spread_63 (fun H locs hP hD hS => ?_)
          have hP : va_P (dC, dI) vwCl [(l0, .inr (3, [.ref l_cases, .long y_16, .ref l_before])), (l_cases, .inl (cyJ, 7, .inr (.inl y0_12))), (l_before, .inl (cyJ, 7, .inr (.inl y1_13))), (h0, .inr (2, [.int a_pl, .int a_li, .int a_le, .int a_lc, .int a_ac, .int a_ng, .ref a_first, .ref a_now, .ref a_lawPlace, .ref a_lawOther, .ref a_lawEach, .ref a_lawFrom, .ref a_foes, .ref a_suitTable, .ref a_acts])), (a_first, .inl (cyI, 7, .inl a_f_first)), (a_now, .inl (cyI, 7, .inl a_f_now)), (a_lawPlace, .inl (cyI, 6, .inl a_f_lawPlace)), (a_lawOther, .inl (cyI, 6, .inl a_f_lawOther)), (a_lawEach, .inl (cyI, 6, .inl a_f_lawEach)), (a_lawFrom, .inl (cyI, 6, .inl a_f_lawFrom)), (a_foes, .inl (cyI, 7, .inl a_f_foes)), (a_suitTable, .inl (cyI, 49, .inl a_f_suitTable)), (a_acts, .inl (cyI, 40, .inl a_f_acts))] H := hP
          have hD : va_D A [(l0, .inr (3, [.ref l_cases, .long y_16, .ref l_before])), (l_cases, .inl (cyJ, 7, .inr (.inl y0_12))), (l_before, .inl (cyJ, 7, .inr (.inl y1_13))), (h0, .inr (2, [.int a_pl, .int a_li, .int a_le, .int a_lc, .int a_ac, .int a_ng, .ref a_first, .ref a_now, .ref a_lawPlace, .ref a_lawOther, .ref a_lawEach, .ref a_lawFrom, .ref a_foes, .ref a_suitTable, .ref a_acts])), (a_first, .inl (cyI, 7, .inl a_f_first)), (a_now, .inl (cyI, 7, .inl a_f_now)), (a_lawPlace, .inl (cyI, 6, .inl a_f_lawPlace)), (a_lawOther, .inl (cyI, 6, .inl a_f_lawOther)), (a_lawEach, .inl (cyI, 6, .inl a_f_lawEach)), (a_lawFrom, .inl (cyI, 6, .inl a_f_lawFrom)), (a_foes, .inl (cyI, 7, .inl a_f_foes)), (a_suitTable, .inl (cyI, 49, .inl a_f_suitTable)), (a_acts, .inl (cyI, 40, .inl a_f_acts))] := hD
          obtain ⟨x_17, ex_17⟩ : ∃ y : Int32, y = u_6 + 1 := ⟨_, rfl⟩
          refine lv_iinc (v := x_17) (lv' := [(4, .int x_17), (3, .int r_3), (0, .ref l0), (1, .ref h0), (2, .int p0)]) hx hb dX3_spread_66 hl (k := 0) rfl (by rw [ex_17]; rfl) (by decide) rfl (fun ls hl => ?_)
          have fx_17 : x_17.toInt = u_6.toInt + 1 := by rw [ex_17]; exact cv_addI (by have : (1 : Int32).toInt = 1 := rfl; omega) (by have : (1 : Int32).toInt = 1 := rfl; omega)
          refine lv_goto (tgt := 36) hx hb dX3_spread_69 (by decide) ?_
          exact ihkey_10 x_17 y_16 y0_12 y1_13 _ _ _ (by omega) hP hD hS (lv_sub hl [0, 1, 2, 3, 4] rfl) (by omega)
    exact key_10 _ 0 1 f_4 l_fb _ _ _ (by decide) hP hD hS (lv_sub hl [0, 1, 2, 3, 4] rfl) (Nat.lt_succ_self _)
  refine lv_if_lt (tgt := 28) hx hb dX3_spread_18 (by decide) (fun c_18 => ?_) (fun c_18 => ?_)
  · have c_18 : r_3.toInt < 0 := cv_lt c_18
    exact join_5 y0_1 _ _ _ hP hD hS (lv_sub hl [0, 1, 2, 3] rfl)
  · have c_18 : 0 ≤ r_3.toInt := cv_nlt c_18
    refine lv_aload_n hx hb dX3_spread_21 rfl (lv_at hl 1 rfl) ?_
    refine va_get (D := (dC, dI)) (ci := 3) (v := .ref l_cases) (C := RX3) (T := TX3) (N := 3) hx hb hts uinX3 hown hK hP 0 rfl rfl 0 (by decide) (hts _ wd_2_53) (fun _ h9 => h9) rfl dX3_spread_22 ?_
    refine lv_iload_n hx hb dX3_spread_25 rfl (lv_at hl 0 rfl) ?_
    refine lv_lconst (v := 1) hx hb dX3_spread_26 (by decide) ?_
    refine va_last hx hb hK hP hD hS 1 2 rfl rfl (vp_in_iff.mpr (by omega)) dX3_spread_27 (fun H locs hP hD hS => ?_)
    obtain ⟨f_19, ef_19⟩ : ∃ z9 : Nat → Int64, z9 = vp_updL y0_1 r_3.toNatClampNeg 1 := ⟨_, rfl⟩
    rw [← ef_19] at hP hD
    have hP : va_P (dC, dI) vwCl [(l0, .inr (3, [.ref l_cases, .long l_all, .ref l_before])), (l_cases, .inl (cyJ, 7, .inr (.inl f_19))), (l_before, .inl (cyJ, 7, .inr (.inl l_fb))), (h0, .inr (2, [.int a_pl, .int a_li, .int a_le, .int a_lc, .int a_ac, .int a_ng, .ref a_first, .ref a_now, .ref a_lawPlace, .ref a_lawOther, .ref a_lawEach, .ref a_lawFrom, .ref a_foes, .ref a_suitTable, .ref a_acts])), (a_first, .inl (cyI, 7, .inl a_f_first)), (a_now, .inl (cyI, 7, .inl a_f_now)), (a_lawPlace, .inl (cyI, 6, .inl a_f_lawPlace)), (a_lawOther, .inl (cyI, 6, .inl a_f_lawOther)), (a_lawEach, .inl (cyI, 6, .inl a_f_lawEach)), (a_lawFrom, .inl (cyI, 6, .inl a_f_lawFrom)), (a_foes, .inl (cyI, 7, .inl a_f_foes)), (a_suitTable, .inl (cyI, 49, .inl a_f_suitTable)), (a_acts, .inl (cyI, 40, .inl a_f_acts))] H := hP
    have hD : va_D A [(l0, .inr (3, [.ref l_cases, .long l_all, .ref l_before])), (l_cases, .inl (cyJ, 7, .inr (.inl f_19))), (l_before, .inl (cyJ, 7, .inr (.inl l_fb))), (h0, .inr (2, [.int a_pl, .int a_li, .int a_le, .int a_lc, .int a_ac, .int a_ng, .ref a_first, .ref a_now, .ref a_lawPlace, .ref a_lawOther, .ref a_lawEach, .ref a_lawFrom, .ref a_foes, .ref a_suitTable, .ref a_acts])), (a_first, .inl (cyI, 7, .inl a_f_first)), (a_now, .inl (cyI, 7, .inl a_f_now)), (a_lawPlace, .inl (cyI, 6, .inl a_f_lawPlace)), (a_lawOther, .inl (cyI, 6, .inl a_f_lawOther)), (a_lawEach, .inl (cyI, 6, .inl a_f_lawEach)), (a_lawFrom, .inl (cyI, 6, .inl a_f_lawFrom)), (a_foes, .inl (cyI, 7, .inl a_f_foes)), (a_suitTable, .inl (cyI, 49, .inl a_f_suitTable)), (a_acts, .inl (cyI, 40, .inl a_f_acts))] := hD
    exact join_5 f_19 _ _ _ hP hD hS (lv_sub hl [0, 1, 2, 3] rfl)

/- X9_leastNext -/
set_option maxHeartbeats 4000000 in
set_option maxRecDepth 100000 in
theorem n_sleastNext (l : Launch) (dC : Nat → ClassId) (dI : Nat → Nat → Nat) (cyI cyB cyJ cyZ cyH cyN : ClassId) (s0 s_sums s_counts : Nat) (s_f0 s_f1 : Nat → Int32) (h0 a_first a_now a_lawPlace a_lawOther a_lawEach a_lawFrom a_foes a_suitTable a_acts : Nat) (a_pl a_li a_le a_lc a_ac a_ng : Int32) (a_f_first a_f_now a_f_lawPlace a_f_lawOther a_f_lawEach a_f_lawFrom a_f_foes a_f_suitTable a_f_acts : Nat → Int32) (p0 p1 : Int32) (g0 : rg 0 6 7 a_f_first) (g1 : rg 0 6 7 a_f_now) (g2 : rg 0 6 6 a_f_lawPlace) (g3 : rg 0 6 6 a_f_lawOther) (g4 : ra 40 a_f_acts) (g5 : 0 ≤ a_pl.toInt ∧ a_pl.toInt ≤ 7) (g6 : 0 ≤ a_lc.toInt ∧ a_lc.toInt ≤ 6) (g7 : 0 ≤ a_ac.toInt ∧ a_ac.toInt ≤ 40) (g8 : 0 ≤ p0.toInt ∧ p0.toInt ≤ 127) (g9 : 0 ≤ p1.toInt ∧ p1.toInt ≤ 6) : Met l yX9_leastNext (wk yX9_leastNext cX9_leastNext 5 (some .int)) ({ frames := 2, cells := 0, slots := 0, locals := 82 }) (va_Pc [.ref s0, .int p0, .int p1] (fun U => va_P (dC, dI) vwCl [(s0, .inr (8, [.ref s_sums, .ref s_counts, .ref h0])), (s_sums, .inl (cyI, 128, .inl s_f0)), (s_counts, .inl (cyI, 128, .inl s_f1)), (h0, .inr (2, [.int a_pl, .int a_li, .int a_le, .int a_lc, .int a_ac, .int a_ng, .ref a_first, .ref a_now, .ref a_lawPlace, .ref a_lawOther, .ref a_lawEach, .ref a_lawFrom, .ref a_foes, .ref a_suitTable, .ref a_acts])), (a_first, .inl (cyI, 7, .inl a_f_first)), (a_now, .inl (cyI, 7, .inl a_f_now)), (a_lawPlace, .inl (cyI, 6, .inl a_f_lawPlace)), (a_lawOther, .inl (cyI, 6, .inl a_f_lawOther)), (a_lawEach, .inl (cyI, 6, .inl a_f_lawEach)), (a_lawFrom, .inl (cyI, 6, .inl a_f_lawFrom)), (a_foes, .inl (cyI, 7, .inl a_f_foes)), (a_suitTable, .inl (cyI, 49, .inl a_f_suitTable)), (a_acts, .inl (cyI, 40, .inl a_f_acts))] U.heap ∧ va_K (dC, dI) vwCl [(cyI, .int), (cyB, .byte), (cyJ, .long), (cyZ, .boolean), (cyH, .object RX2), (cyN, .array .long)] U)) (vp_Si (fun r : Int32 => (-1) ≤ r.toInt ∧ r.toInt ≤ 6)) 0 0 (fun _ => False) := by
  refine Met.ofW (cc := cX9_leastNext) (maxL := 5) (ret := (some .int)) (by decide) rfl ?_
  intro p e s m args below meth c s₁ B hml hv
  obtain ⟨rfl, hP, hK⟩ := hv
  have hx := B.exec
  have hb := B.bytes
  have hr := B.returns
  have hts : ∀ w ∈ uU, w.before ([.ref s0, .int p0, .int p1] : List Value).toArray s = true := fun w h => atoms_spec (ws := wk yX9_leastNext cX9_leastNext 5 (some .int)) B.pre w (List.mem_cons_of_mem _ h)
  have hown : s.vm.findClass RX9 = some m.cls := findClass_of_methodNamed B.named
  have hlocks := B.notSynchronized
  have hl := lv_entry ([.ref s0, .int p0, .int p1]) (n := 5) (Nat.le_of_ble_eq_true rfl)
  rw [lg_entry_eq]
  generalize (lg_sl ([.ref s0, .int p0, .int p1]) ++ List.replicate (5 - (lg_sl ([.ref s0, .int p0, .int p1])).length) Slot.unset).toArray = ls at hl ⊢
  have hl : lv_has ls 5 [(0, .ref s0), (1, .int p0), (2, .int p1)] := hl
  obtain ⟨Q9, hQ9⟩ : ∃ Q9 : State → Prop, Q9 = MQ below (vp_Si (fun r : Int32 => (-1) ≤ r.toInt ∧ r.toInt ≤ 6)) ([.ref s0, .int p0, .int p1] : List Value).toArray s 0 0 (fun _ => False) := ⟨_, rfl⟩
  rw [← hQ9]
  refine lv_aload_n hx hb dX9_leastNext_0 rfl (lv_at hl 0 rfl) ?_
  refine va_get (D := (dC, dI)) (ci := 8) (v := .ref h0) (C := RX9) (T := TX9) (N := 3) hx hb hts uinX9 hown hK hP 0 rfl rfl 2 (by decide) (hts _ wd_2_26) (fun _ h9 => h9) rfl dX9_leastNext_1 ?_
  refine lv_ifnonnull (tgt := 9) hx hb dX9_leastNext_4 (by decide) ?_
  refine lv_iconst (v := 0) hx hb dX9_leastNext_9 (by decide) ?_
  refine lv_istore_n (lv' := [(3, .int 0), (0, .ref s0), (1, .int p0), (2, .int p1)]) hx hb dX9_leastNext_10 rfl hl (by decide) rfl (fun ls hl => ?_)
  have key_2 : ∀ (nkey_2 : Nat) (u_1 : Int32) (ls : Array Slot), (0 ≤ u_1.toInt ∧ u_1.toInt ≤ 7) → lv_has ls 5 [(3, .int u_1), (0, .ref s0), (1, .int p0), (2, .int p1)] → (a_pl.toInt - u_1.toInt).toNat < nkey_2 → W p l e ({ frames := 2, cells := 0, slots := 0, locals := 82 }) s m ([.ref s0, .int p0, .int p1] : List Value).toArray below meth c s.heap [] 0 0 Q9 (F0 m 11 ls []) := by
    intro nkey_2
    induction nkey_2 with
    | zero => intro u_1 ls hu_1 hl hnkey_2; exact absurd hnkey_2 (Nat.not_lt_zero _)
    | succ nkey_2 ihkey_2 =>
      intro u_1 ls hu_1 hl hnkey_2
      refine lv_iload_n hx hb dX9_leastNext_11 rfl (lv_at hl 0 rfl) ?_
      refine lv_aload_n hx hb dX9_leastNext_12 rfl (lv_at hl 1 rfl) ?_
      refine va_get (D := (dC, dI)) (ci := 8) (v := .ref h0) (C := RX9) (T := TX9) (N := 3) hx hb hts uinX9 hown hK hP 0 rfl rfl 2 (by decide) (hts _ wd_2_26) (fun _ h9 => h9) rfl dX9_leastNext_13 ?_
      refine va_get (D := (dC, dI)) (ci := 2) (v := .int a_pl) (C := RX2) (T := TX2) (N := 15) hx hb hts uinX2 hown hK hP 3 rfl rfl 0 (by decide) (hts _ wd_1_80) (fun _ h9 => h9) rfl dX9_leastNext_16 ?_
      refine lv_icmp_ge (tgt := 79) hx hb dX9_leastNext_19 (by decide) (fun c_3 => ?_) (fun c_3 => ?_)
      · have c_3 : a_pl.toInt ≤ u_1.toInt := cv_le c_3
        refine lv_iconst (v := (-1)) hx hb dX9_leastNext_79 (by decide) ?_
        rw [hQ9]
        exact W.iret (v := (-1)) hx hb hr (fun t ht hW => ⟨(-1), rfl, (by decide), ht⟩) (fun q h => by cases h) dX9_leastNext_80
      · have c_3 : u_1.toInt < a_pl.toInt := cv_nle c_3
        refine lv_iload_n hx hb dX9_leastNext_22 rfl (lv_at hl 2 rfl) ?_
        refine lv_iload_n hx hb dX9_leastNext_23 rfl (lv_at hl 0 rfl) ?_
        refine lv_ishr hx hb dX9_leastNext_24 ?_
        refine lv_topi (fun x_4 ex_4 => ?_)
        have fx_4 : 0 ≤ x_4.toInt ∧ x_4.toInt ≤ p0.toInt := by rw [ex_4]; exact cv_shr (by omega)
        refine lv_iconst (v := 1) hx hb dX9_leastNext_25 (by decide) ?_
        refine lv_iand hx hb dX9_leastNext_26 ?_
        refine lv_topi (fun x_5 ex_5 => ?_)
        have fx_5 : 0 ≤ x_5.toInt ∧ x_5.toInt ≤ 1 := by rw [ex_5]; exact cv_andR (by decide) (by decide)
        have join_7 : ∀ (u_6 : Int32) (ls : Array Slot), (0 ≤ u_6.toInt ∧ u_6.toInt ≤ 1) → lv_has ls 5 [(3, .int u_1), (0, .ref s0), (1, .int p0), (2, .int p1)] → W p l e ({ frames := 2, cells := 0, slots := 0, locals := 82 }) s m ([.ref s0, .int p0, .int p1] : List Value).toArray below meth c s.heap [] 0 0 Q9 (F0 m 35 ls [.int u_6]) := by
          intro u_6 ls hu_6 hl
          refine lv_istore (lv' := [(4, .int u_6), (3, .int u_1), (0, .ref s0), (1, .int p0), (2, .int p1)]) hx hb dX9_leastNext_35 hl (by decide) rfl (fun ls hl => ?_)
          refine lv_iload hx hb dX9_leastNext_37 (lv_at hl 0 rfl) ?_
          refine lv_if_eq (tgt := 73) hx hb dX9_leastNext_39 (by decide) (fun c_8 => ?_) (fun c_8 => ?_)
          · have c_8 : u_6.toInt = 0 := cv_eq c_8
            obtain ⟨x_9, ex_9⟩ : ∃ y : Int32, y = u_1 + 1 := ⟨_, rfl⟩
            refine lv_iinc (v := x_9) (lv' := [(3, .int x_9), (4, .int u_6), (0, .ref s0), (1, .int p0), (2, .int p1)]) hx hb dX9_leastNext_73 hl (k := 1) rfl (by rw [ex_9]; rfl) (by decide) rfl (fun ls hl => ?_)
            have fx_9 : x_9.toInt = u_1.toInt + 1 := by rw [ex_9]; exact cv_addI (by have : (1 : Int32).toInt = 1 := rfl; omega) (by have : (1 : Int32).toInt = 1 := rfl; omega)
            refine lv_goto (tgt := 11) hx hb dX9_leastNext_76 (by decide) ?_
            exact ihkey_2 x_9 _ (by omega) (lv_sub hl [0, 2, 3, 4] rfl) (by omega)
          · have c_8 : u_6.toInt ≠ 0 := cv_ne c_8
            refine lv_aload_n hx hb dX9_leastNext_42 rfl (lv_at hl 2 rfl) ?_
            refine va_get (D := (dC, dI)) (ci := 8) (v := .ref h0) (C := RX9) (T := TX9) (N := 3) hx hb hts uinX9 hown hK hP 0 rfl rfl 2 (by decide) (hts _ wd_2_26) (fun _ h9 => h9) rfl dX9_leastNext_43 ?_
            refine lv_iload_n hx hb dX9_leastNext_46 rfl (lv_at hl 1 rfl) ?_
            refine lv_iload_n hx hb dX9_leastNext_47 rfl (lv_at hl 4 rfl) ?_
            have hPc := hP.sub (ws' := [(h0, .inr (2, [.int a_pl, .int a_li, .int a_le, .int a_lc, .int a_ac, .int a_ng, .ref a_first, .ref a_now, .ref a_lawPlace, .ref a_lawOther, .ref a_lawEach, .ref a_lawFrom, .ref a_foes, .ref a_suitTable, .ref a_acts])), (a_first, .inl (cyI, 7, .inl a_f_first)), (a_now, .inl (cyI, 7, .inl a_f_now)), (a_lawPlace, .inl (cyI, 6, .inl a_f_lawPlace)), (a_lawOther, .inl (cyI, 6, .inl a_f_lawOther)), (a_lawEach, .inl (cyI, 6, .inl a_f_lawEach)), (a_lawFrom, .inl (cyI, 6, .inl a_f_lawFrom)), (a_foes, .inl (cyI, 7, .inl a_f_foes)), (a_suitTable, .inl (cyI, 49, .inl a_f_suitTable)), (a_acts, .inl (cyI, 40, .inl a_f_acts))]) [3, 4, 5, 6, 7, 8, 9, 10, 11, 12] rfl
            have hKc := hK.sub (tys' := [(cyI, .int), (cyB, .byte), (cyJ, .long), (cyZ, .boolean), (cyH, .object RX2), (cyN, .array .long)]) [0, 1, 2, 3, 4, 5] rfl
            refine vp_callSi (va_Run.run (va_runV (As := [.int u_1, .int p1]) (rest := []) ⟨hx, hb, hml, hown, hts⟩ (n_suitOf l dC dI cyI cyB cyJ cyZ cyH cyN h0 a_first a_now a_lawPlace a_lawOther a_lawEach a_lawFrom a_foes a_suitTable a_acts a_pl a_li a_le a_lc a_ac a_ng a_f_first a_f_now a_f_lawPlace a_f_lawOther a_f_lawEach a_f_lawFrom a_f_foes a_f_suitTable a_f_acts u_1 p1 g0 g1 g2 g3 g4 (by omega) (by omega) (by omega) (by omega) (by omega)) (cwV 2 hts (gdV wd_5_65 wd_3_61 wd_3_62 wd_1_3 wd_3_63) rfl rfl rfl (by decide +kernel) ⟨Nat.le_of_ble_eq_true rfl, Nat.le_of_ble_eq_true rfl⟩) ⟨fun a U g mk q => by obtain ⟨q0, qP, qK⟩ := q; exact ⟨q0, qP, va_K.moved (u := U) (U := U.calling g mk a) (Vm.Alike.refl U.vm) qK⟩, va_recv hKc hPc (ci := 2) (q0 := 0) rfl rfl, fun U hU hW => ⟨rfl, by rw [hU]; exact hPc, va_K.moved hW.alike hKc⟩⟩ rfl rfl hl.1 rfl (lv_room (Nat.le_of_ble_eq_true rfl)) dX9_leastNext_48 ⟨Nat.le_of_ble_eq_true rfl, Nat.le_of_ble_eq_true rfl⟩)) (fun r_10 hw => ?_)
            refine lv_aload_n hx hb dX9_leastNext_51 rfl (lv_at hl 2 rfl) ?_
            refine va_get (D := (dC, dI)) (ci := 8) (v := .ref s_sums) (C := RX9) (T := TX9) (N := 3) hx hb hts uinX9 hown hK hP 0 rfl rfl 0 (by decide) (hts _ wd_2_22) (fun _ h9 => h9) rfl dX9_leastNext_52 ?_
            refine lv_iload_n hx hb dX9_leastNext_55 rfl (lv_at hl 3 rfl) ?_
            refine lv_iconst (v := 1) hx hb dX9_leastNext_56 (by decide) ?_
            refine lv_iload_n hx hb dX9_leastNext_57 rfl (lv_at hl 1 rfl) ?_
            refine lv_ishl hx hb dX9_leastNext_58 ?_
            refine lv_topi (fun x_11 ex_11 => ?_)
            have fx_11 : 1 ≤ x_11.toInt ∧ x_11.toInt ≤ 64 := by rw [ex_11]; have q := cv_shl1 (y := u_1) 0 6 (by decide) (by decide) (by omega) (by omega); omega
            refine lv_ior hx hb dX9_leastNext_59 ?_
            refine lv_topi (fun x_12 ex_12 => ?_)
            have fx_12 : 0 ≤ x_12.toInt ∧ x_12.toInt ≤ 127 := by rw [ex_12]; have q := cv_or (x := p0) (y := x_11) 7 (by decide) (by omega) (by omega) (by omega) (by omega); omega
            refine va_iald hx hb hK hP 1 0 rfl rfl (vp_in_iff.mpr (by omega)) dX9_leastNext_60 ?_
            refine lv_topi (fun x_13 ex_13 => ?_)
            refine lv_iadd hx hb dX9_leastNext_61 ?_
            refine lv_topi (fun x_14 ex_14 => ?_)
            refine lv_aload_n hx hb dX9_leastNext_62 rfl (lv_at hl 2 rfl) ?_
            refine va_get (D := (dC, dI)) (ci := 8) (v := .ref s_sums) (C := RX9) (T := TX9) (N := 3) hx hb hts uinX9 hown hK hP 0 rfl rfl 0 (by decide) (hts _ wd_2_22) (fun _ h9 => h9) rfl dX9_leastNext_63 ?_
            refine lv_iload_n hx hb dX9_leastNext_66 rfl (lv_at hl 3 rfl) ?_
            refine va_iald hx hb hK hP 1 0 rfl rfl (vp_in_iff.mpr (by omega)) dX9_leastNext_67 ?_
            refine lv_topi (fun x_15 ex_15 => ?_)
            refine lv_icmp_ne (tgt := 73) hx hb dX9_leastNext_68 (by decide) (fun c_16 => ?_) (fun c_16 => ?_)
            · have c_16 : x_14.toInt ≠ x_15.toInt := cv_ne c_16
              obtain ⟨x_17, ex_17⟩ : ∃ y : Int32, y = u_1 + 1 := ⟨_, rfl⟩
              refine lv_iinc (v := x_17) (lv' := [(3, .int x_17), (4, .int u_6), (0, .ref s0), (1, .int p0), (2, .int p1)]) hx hb dX9_leastNext_73 hl (k := 1) rfl (by rw [ex_17]; rfl) (by decide) rfl (fun ls hl => ?_)
              have fx_17 : x_17.toInt = u_1.toInt + 1 := by rw [ex_17]; exact cv_addI (by have : (1 : Int32).toInt = 1 := rfl; omega) (by have : (1 : Int32).toInt = 1 := rfl; omega)
              refine lv_goto (tgt := 11) hx hb dX9_leastNext_76 (by decide) ?_
              exact ihkey_2 x_17 _ (by omega) (lv_sub hl [0, 2, 3, 4] rfl) (by omega)
            · have c_16 : x_14.toInt = x_15.toInt := cv_eq c_16
              refine lv_iload_n hx hb dX9_leastNext_71 rfl (lv_at hl 1 rfl) ?_
              rw [hQ9]
              exact W.iret (v := u_1) hx hb hr (fun t ht hW => ⟨u_1, rfl, (by omega), ht⟩) (fun q h => by cases h) dX9_leastNext_72
        refine lv_if_ne (tgt := 34) hx hb dX9_leastNext_27 (by decide) (fun c_18 => ?_) (fun c_18 => ?_)
        · have c_18 : x_5.toInt ≠ 0 := cv_ne c_18
          refine lv_iconst (v := 0) hx hb dX9_leastNext_34 (by decide) ?_
          exact join_7 0 _ (by decide) (lv_sub hl [0, 1, 2, 3] rfl)
        · have c_18 : x_5.toInt = 0 := cv_eq c_18
          refine lv_iconst (v := 1) hx hb dX9_leastNext_30 (by decide) ?_
          refine lv_goto (tgt := 35) hx hb dX9_leastNext_31 (by decide) ?_
          exact join_7 1 _ (by decide) (lv_sub hl [0, 1, 2, 3] rfl)
  exact key_2 _ 0 _ (by decide) (lv_sub hl [0, 1, 2, 3] rfl) (Nat.lt_succ_self _)

/- X9_leastRowHead -/
set_option maxHeartbeats 4000000 in
set_option maxRecDepth 100000 in
theorem n_sleastRowHead (l : Launch) (dC : Nat → ClassId) (dI : Nat → Nat → Nat) (cyI cyB cyJ cyZ cyH cyN : ClassId) (s0 s_sums s_counts : Nat) (s_f0 s_f1 : Nat → Int32) (h0 a_first a_now a_lawPlace a_lawOther a_lawEach a_lawFrom a_foes a_suitTable a_acts : Nat) (a_pl a_li a_le a_lc a_ac a_ng : Int32) (a_f_first a_f_now a_f_lawPlace a_f_lawOther a_f_lawEach a_f_lawFrom a_f_foes a_f_suitTable a_f_acts : Nat → Int32) (p0 : Int32) (g0 : rg 0 6 7 a_f_first) (g1 : rg 0 6 7 a_f_now) (g2 : rg 0 6 6 a_f_lawPlace) (g3 : rg 0 6 6 a_f_lawOther) (g4 : ra 40 a_f_acts) (g5 : 0 ≤ a_pl.toInt ∧ a_pl.toInt ≤ 7) (g6 : 0 ≤ a_lc.toInt ∧ a_lc.toInt ≤ 6) (g7 : 0 ≤ a_ac.toInt ∧ a_ac.toInt ≤ 40) (g8 : 0 ≤ p0.toInt ∧ p0.toInt ≤ 6) : Met l yX9_leastRowHead (wk yX9_leastRowHead cX9_leastRowHead 5 (some .int)) ({ frames := 3, cells := 0, slots := 0, locals := 106 }) (va_Pc [.ref s0, .int p0] (fun U => va_P (dC, dI) vwCl [(s0, .inr (8, [.ref s_sums, .ref s_counts, .ref h0])), (s_sums, .inl (cyI, 128, .inl s_f0)), (s_counts, .inl (cyI, 128, .inl s_f1)), (h0, .inr (2, [.int a_pl, .int a_li, .int a_le, .int a_lc, .int a_ac, .int a_ng, .ref a_first, .ref a_now, .ref a_lawPlace, .ref a_lawOther, .ref a_lawEach, .ref a_lawFrom, .ref a_foes, .ref a_suitTable, .ref a_acts])), (a_first, .inl (cyI, 7, .inl a_f_first)), (a_now, .inl (cyI, 7, .inl a_f_now)), (a_lawPlace, .inl (cyI, 6, .inl a_f_lawPlace)), (a_lawOther, .inl (cyI, 6, .inl a_f_lawOther)), (a_lawEach, .inl (cyI, 6, .inl a_f_lawEach)), (a_lawFrom, .inl (cyI, 6, .inl a_f_lawFrom)), (a_foes, .inl (cyI, 7, .inl a_f_foes)), (a_suitTable, .inl (cyI, 49, .inl a_f_suitTable)), (a_acts, .inl (cyI, 40, .inl a_f_acts))] U.heap ∧ va_K (dC, dI) vwCl [(cyI, .int), (cyB, .byte), (cyJ, .long), (cyZ, .boolean), (cyH, .object RX2), (cyN, .array .long)] U)) (vp_Si (fun r : Int32 => True)) 0 0 (fun _ => False) := by
  refine Met.ofW (cc := cX9_leastRowHead) (maxL := 5) (ret := (some .int)) (by decide) rfl ?_
  intro p e s m args below meth c s₁ B hml hv
  obtain ⟨rfl, hP, hK⟩ := hv
  have hx := B.exec
  have hb := B.bytes
  have hr := B.returns
  have hts : ∀ w ∈ uU, w.before ([.ref s0, .int p0] : List Value).toArray s = true := fun w h => atoms_spec (ws := wk yX9_leastRowHead cX9_leastRowHead 5 (some .int)) B.pre w (List.mem_cons_of_mem _ h)
  have hown : s.vm.findClass RX9 = some m.cls := findClass_of_methodNamed B.named
  have hlocks := B.notSynchronized
  have hl := lv_entry ([.ref s0, .int p0]) (n := 5) (Nat.le_of_ble_eq_true rfl)
  rw [lg_entry_eq]
  generalize (lg_sl ([.ref s0, .int p0]) ++ List.replicate (5 - (lg_sl ([.ref s0, .int p0])).length) Slot.unset).toArray = ls at hl ⊢
  have hl : lv_has ls 5 [(0, .ref s0), (1, .int p0)] := hl
  obtain ⟨Q9, hQ9⟩ : ∃ Q9 : State → Prop, Q9 = MQ below (vp_Si (fun r : Int32 => True)) ([.ref s0, .int p0] : List Value).toArray s 0 0 (fun _ => False) := ⟨_, rfl⟩
  rw [← hQ9]
  refine lv_iconst (v := 0) hx hb dX9_leastRowHead_0 (by decide) ?_
  refine lv_istore_n (lv' := [(2, .int 0), (0, .ref s0), (1, .int p0)]) hx hb dX9_leastRowHead_1 rfl hl (by decide) rfl (fun ls hl => ?_)
  refine lv_iconst (v := (-1)) hx hb dX9_leastRowHead_2 (by decide) ?_
  refine lv_istore_n (lv' := [(3, .int (-1)), (2, .int 0), (0, .ref s0), (1, .int p0)]) hx hb dX9_leastRowHead_3 rfl hl (by decide) rfl (fun ls hl => ?_)
  refine lv_iconst (v := 0) hx hb dX9_leastRowHead_4 (by decide) ?_
  refine lv_istore (lv' := [(4, .int 0), (3, .int (-1)), (2, .int 0), (0, .ref s0), (1, .int p0)]) hx hb dX9_leastRowHead_5 hl (by decide) rfl (fun ls hl => ?_)
  have key_4 : ∀ (nkey_4 : Nat) (u_1 : Int32) (u_2 : Int32) (u_3 : Int32) (ls : Array Slot), (0 ≤ u_1.toInt ∧ u_1.toInt ≤ 7) → ((-1) ≤ u_2.toInt ∧ u_2.toInt ≤ 6) → (0 ≤ u_3.toInt ∧ u_3.toInt ≤ 127) → lv_has ls 5 [(4, .int u_1), (3, .int u_2), (2, .int u_3), (0, .ref s0), (1, .int p0)] → (p0.toInt - u_1.toInt + 1).toNat < nkey_4 → W p l e ({ frames := 3, cells := 0, slots := 0, locals := 106 }) s m ([.ref s0, .int p0] : List Value).toArray below meth c s.heap [] 0 0 Q9 (F0 m 7 ls []) := by
    intro nkey_4
    induction nkey_4 with
    | zero => intro u_1 u_2 u_3 ls hu_1 hu_2 hu_3 hl hnkey_4; exact absurd hnkey_4 (Nat.not_lt_zero _)
    | succ nkey_4 ihkey_4 =>
      intro u_1 u_2 u_3 ls hu_1 hu_2 hu_3 hl hnkey_4
      refine lv_iload hx hb dX9_leastRowHead_7 (lv_at hl 0 rfl) ?_
      refine lv_iload_n hx hb dX9_leastRowHead_9 rfl (lv_at hl 4 rfl) ?_
      refine lv_icmp_gt (tgt := 40) hx hb dX9_leastRowHead_10 (by decide) (fun c_5 => ?_) (fun c_5 => ?_)
      · have c_5 : p0.toInt < u_1.toInt := cv_lt c_5
        refine lv_iload_n hx hb dX9_leastRowHead_40 rfl (lv_at hl 1 rfl) ?_
        rw [hQ9]
        exact W.iret (v := u_2) hx hb hr (fun t ht hW => ⟨u_2, rfl, trivial, ht⟩) (fun q h => by cases h) dX9_leastRowHead_41
      · have c_5 : u_1.toInt ≤ p0.toInt := cv_nlt c_5
        refine lv_aload_n hx hb dX9_leastRowHead_13 rfl (lv_at hl 3 rfl) ?_
        refine lv_iload_n hx hb dX9_leastRowHead_14 rfl (lv_at hl 2 rfl) ?_
        refine lv_iload hx hb dX9_leastRowHead_15 (lv_at hl 0 rfl) ?_
        have hPc := hP.sub (ws' := [(s0, .inr (8, [.ref s_sums, .ref s_counts, .ref h0])), (s_sums, .inl (cyI, 128, .inl s_f0)), (s_counts, .inl (cyI, 128, .inl s_f1)), (h0, .inr (2, [.int a_pl, .int a_li, .int a_le, .int a_lc, .int a_ac, .int a_ng, .ref a_first, .ref a_now, .ref a_lawPlace, .ref a_lawOther, .ref a_lawEach, .ref a_lawFrom, .ref a_foes, .ref a_suitTable, .ref a_acts])), (a_first, .inl (cyI, 7, .inl a_f_first)), (a_now, .inl (cyI, 7, .inl a_f_now)), (a_lawPlace, .inl (cyI, 6, .inl a_f_lawPlace)), (a_lawOther, .inl (cyI, 6, .inl a_f_lawOther)), (a_lawEach, .inl (cyI, 6, .inl a_f_lawEach)), (a_lawFrom, .inl (cyI, 6, .inl a_f_lawFrom)), (a_foes, .inl (cyI, 7, .inl a_f_foes)), (a_suitTable, .inl (cyI, 49, .inl a_f_suitTable)), (a_acts, .inl (cyI, 40, .inl a_f_acts))]) [0, 1, 2, 3, 4, 5, 6, 7, 8, 9, 10, 11, 12] rfl
        have hKc := hK.sub (tys' := [(cyI, .int), (cyB, .byte), (cyJ, .long), (cyZ, .boolean), (cyH, .object RX2), (cyN, .array .long)]) [0, 1, 2, 3, 4, 5] rfl
        refine vp_callSi (va_Run.run (va_runV (As := [.int u_3, .int u_1]) (rest := []) ⟨hx, hb, hml, hown, hts⟩ (n_sleastNext l dC dI cyI cyB cyJ cyZ cyH cyN s0 s_sums s_counts s_f0 s_f1 h0 a_first a_now a_lawPlace a_lawOther a_lawEach a_lawFrom a_foes a_suitTable a_acts a_pl a_li a_le a_lc a_ac a_ng a_f_first a_f_now a_f_lawPlace a_f_lawOther a_f_lawEach a_f_lawFrom a_f_foes a_f_suitTable a_f_acts u_3 u_1 g0 g1 g2 g3 g4 (by omega) (by omega) (by omega) (by omega) (by omega)) (cwV 2 hts (gdV wd_5_74 wd_5_76 wd_s3_3 wd_1_8 wd_5_77) rfl rfl rfl (by decide +kernel) ⟨Nat.le_of_ble_eq_true rfl, Nat.le_of_ble_eq_true rfl⟩) ⟨fun a U g mk q => by obtain ⟨q0, qP, qK⟩ := q; exact ⟨q0, qP, va_K.moved (u := U) (U := U.calling g mk a) (Vm.Alike.refl U.vm) qK⟩, va_recv hKc hPc (ci := 8) (q0 := 0) rfl rfl, fun U hU hW => ⟨rfl, by rw [hU]; exact hPc, va_K.moved hW.alike hKc⟩⟩ rfl rfl hl.1 rfl (lv_room (Nat.le_of_ble_eq_true rfl)) dX9_leastRowHead_17 ⟨Nat.le_of_ble_eq_true rfl, Nat.le_of_ble_eq_true rfl⟩)) (fun r_6 hw => ?_)
        have hrr_6 := hw
        refine lv_istore_n (lv' := [(3, .int r_6), (4, .int u_1), (2, .int u_3), (0, .ref s0), (1, .int p0)]) hx hb dX9_leastRowHead_20 rfl hl (by decide) rfl (fun ls hl => ?_)
        refine lv_iload_n hx hb dX9_leastRowHead_21 rfl (lv_at hl 0 rfl) ?_
        refine lv_iconst (v := (-1)) hx hb dX9_leastRowHead_22 (by decide) ?_
        refine lv_icmp_ne (tgt := 28) hx hb dX9_leastRowHead_23 (by decide) (fun c_7 => ?_) (fun c_7 => ?_)
        · have c_7 : r_6.toInt ≠ (-1) := cv_ne c_7
          refine lv_iload_n hx hb dX9_leastRowHead_28 rfl (lv_at hl 2 rfl) ?_
          refine lv_iconst (v := 1) hx hb dX9_leastRowHead_29 (by decide) ?_
          refine lv_iload_n hx hb dX9_leastRowHead_30 rfl (lv_at hl 0 rfl) ?_
          refine lv_ishl hx hb dX9_leastRowHead_31 ?_
          refine lv_topi (fun x_8 ex_8 => ?_)
          have fx_8 : 1 ≤ x_8.toInt ∧ x_8.toInt ≤ 64 := by rw [ex_8]; have q := cv_shl1 (y := r_6) 0 6 (by decide) (by decide) (by omega) (by omega); omega
          refine lv_ior hx hb dX9_leastRowHead_32 ?_
          refine lv_topi (fun x_9 ex_9 => ?_)
          have fx_9 : 0 ≤ x_9.toInt ∧ x_9.toInt ≤ 127 := by rw [ex_9]; have q := cv_or (x := u_3) (y := x_8) 7 (by decide) (by omega) (by omega) (by omega) (by omega); omega
          refine lv_istore_n (lv' := [(2, .int x_9), (3, .int r_6), (4, .int u_1), (0, .ref s0), (1, .int p0)]) hx hb dX9_leastRowHead_33 rfl hl (by decide) rfl (fun ls hl => ?_)
          obtain ⟨x_10, ex_10⟩ : ∃ y : Int32, y = u_1 + 1 := ⟨_, rfl⟩
          refine lv_iinc (v := x_10) (lv' := [(4, .int x_10), (2, .int x_9), (3, .int r_6), (0, .ref s0), (1, .int p0)]) hx hb dX9_leastRowHead_34 hl (k := 2) rfl (by rw [ex_10]; rfl) (by decide) rfl (fun ls hl => ?_)
          have fx_10 : x_10.toInt = u_1.toInt + 1 := by rw [ex_10]; exact cv_addI (by have : (1 : Int32).toInt = 1 := rfl; omega) (by have : (1 : Int32).toInt = 1 := rfl; omega)
          refine lv_goto (tgt := 7) hx hb dX9_leastRowHead_37 (by decide) ?_
          exact ihkey_4 x_10 r_6 x_9 _ (by omega) (by omega) (by omega) (lv_sub hl [0, 2, 1, 3, 4] rfl) (by omega)
        · have c_7 : r_6.toInt = (-1) := cv_eq c_7
          refine lv_iconst (v := (-1)) hx hb dX9_leastRowHead_26 (by decide) ?_
          rw [hQ9]
          exact W.iret (v := (-1)) hx hb hr (fun t ht hW => ⟨(-1), rfl, trivial, ht⟩) (fun q h => by cases h) dX9_leastRowHead_27
  exact key_4 _ 0 (-1) 0 _ (by decide) (by decide) (by decide) (lv_sub hl [0, 1, 2, 3, 4] rfl) (Nat.lt_succ_self _)

/- X4_sumBehind -/
set_option maxHeartbeats 4000000 in
set_option maxRecDepth 100000 in
theorem n_sumBehind (l : Launch) (dC : Nat → ClassId) (dI : Nat → Nat → Nat) (cyI cyB cyJ cyZ cyH cyN : ClassId) (q0 q_on q_row q_scr : Nat) (q_pl : Int32) (q_f0 q_f1 q_f2 : Nat → Int32) (h0 a_first a_now a_lawPlace a_lawOther a_lawEach a_lawFrom a_foes a_suitTable a_acts : Nat) (a_pl a_li a_le a_lc a_ac a_ng : Int32) (a_f_first a_f_now a_f_lawPlace a_f_lawOther a_f_lawEach a_f_lawFrom a_f_foes a_f_suitTable a_f_acts : Nat → Int32) (p0 p1 : Int32) (g0 : rg 0 6 7 q_f1) (g1 : rg 0 6 7 q_f2) (g2 : rg 0 6 7 a_f_first) (g3 : rg 0 6 7 a_f_now) (g4 : rg 0 6 6 a_f_lawPlace) (g5 : rg 0 6 6 a_f_lawOther) (g6 : ra 40 a_f_acts) (g7 : 0 ≤ a_pl.toInt ∧ a_pl.toInt ≤ 7) (g8 : 0 ≤ a_lc.toInt ∧ a_lc.toInt ≤ 6) (g9 : 0 ≤ a_ac.toInt ∧ a_ac.toInt ≤ 40) (g10 : 0 ≤ q_pl.toInt ∧ q_pl.toInt ≤ 7) (g11 : 0 ≤ p0.toInt ∧ p0.toInt ≤ 127) (g12 : 0 ≤ p1.toInt ∧ p1.toInt ≤ 6) : Met l yX4_sumBehind (wk yX4_sumBehind cX4_sumBehind 7 (some .int)) ({ frames := 1, cells := 0, slots := 0, locals := 60 }) (va_Pc [.ref q0, .ref h0, .int p0, .int p1] (fun U => va_P (dC, dI) vwCl [(q0, .inr (4, [.ref q_on, .ref q_row, .ref q_scr, .ref h0, .int q_pl])), (q_on, .inl (cyI, 1024, .inl q_f0)), (q_row, .inl (cyI, 7, .inl q_f1)), (q_scr, .inl (cyI, 7, .inl q_f2)), (h0, .inr (2, [.int a_pl, .int a_li, .int a_le, .int a_lc, .int a_ac, .int a_ng, .ref a_first, .ref a_now, .ref a_lawPlace, .ref a_lawOther, .ref a_lawEach, .ref a_lawFrom, .ref a_foes, .ref a_suitTable, .ref a_acts])), (a_first, .inl (cyI, 7, .inl a_f_first)), (a_now, .inl (cyI, 7, .inl a_f_now)), (a_lawPlace, .inl (cyI, 6, .inl a_f_lawPlace)), (a_lawOther, .inl (cyI, 6, .inl a_f_lawOther)), (a_lawEach, .inl (cyI, 6, .inl a_f_lawEach)), (a_lawFrom, .inl (cyI, 6, .inl a_f_lawFrom)), (a_foes, .inl (cyI, 7, .inl a_f_foes)), (a_suitTable, .inl (cyI, 49, .inl a_f_suitTable)), (a_acts, .inl (cyI, 40, .inl a_f_acts))] U.heap ∧ va_K (dC, dI) vwCl [(cyI, .int), (cyB, .byte), (cyJ, .long), (cyZ, .boolean), (cyH, .object RX2), (cyN, .array .long)] U)) (vp_Si (fun r : Int32 => True)) 0 0 (fun _ => False) := by
  refine Met.ofW (cc := cX4_sumBehind) (maxL := 7) (ret := (some .int)) (by decide) rfl ?_
  intro p e s m args below meth c s₁ B hml hv
  obtain ⟨rfl, hP, hK⟩ := hv
  have hx := B.exec
  have hb := B.bytes
  have hr := B.returns
  have hts : ∀ w ∈ uU, w.before ([.ref q0, .ref h0, .int p0, .int p1] : List Value).toArray s = true := fun w h => atoms_spec (ws := wk yX4_sumBehind cX4_sumBehind 7 (some .int)) B.pre w (List.mem_cons_of_mem _ h)
  have hown : s.vm.findClass RX4 = some m.cls := findClass_of_methodNamed B.named
  have hlocks := B.notSynchronized
  have hl := lv_entry ([.ref q0, .ref h0, .int p0, .int p1]) (n := 7) (Nat.le_of_ble_eq_true rfl)
  rw [lg_entry_eq]
  generalize (lg_sl ([.ref q0, .ref h0, .int p0, .int p1]) ++ List.replicate (7 - (lg_sl ([.ref q0, .ref h0, .int p0, .int p1])).length) Slot.unset).toArray = ls at hl ⊢
  have hl : lv_has ls 7 [(0, .ref q0), (1, .ref h0), (2, .int p0), (3, .int p1)] := hl
  obtain ⟨Q9, hQ9⟩ : ∃ Q9 : State → Prop, Q9 = MQ below (vp_Si (fun r : Int32 => True)) ([.ref q0, .ref h0, .int p0, .int p1] : List Value).toArray s 0 0 (fun _ => False) := ⟨_, rfl⟩
  rw [← hQ9]
  refine lv_iload_n hx hb dX4_sumBehind_0 rfl (lv_at hl 2 rfl) ?_
  refine lv_aload_n hx hb dX4_sumBehind_1 rfl (lv_at hl 1 rfl) ?_
  refine va_get (D := (dC, dI)) (ci := 2) (v := .ref a_foes) (C := RX2) (T := TX2) (N := 15) hx hb hts uinX2 hown hK hP 4 rfl rfl 12 (by decide) (hts _ wd_1_120) (fun _ h9 => h9) rfl dX4_sumBehind_2 ?_
  refine lv_iload_n hx hb dX4_sumBehind_5 rfl (lv_at hl 3 rfl) ?_
  refine va_iald hx hb hK hP 11 0 rfl rfl (vp_in_iff.mpr (by omega)) dX4_sumBehind_6 ?_
  refine lv_topi (fun x_1 ex_1 => ?_)
  refine lv_ior hx hb dX4_sumBehind_7 ?_
  refine lv_topi (fun x_2 ex_2 => ?_)
  refine lv_istore (lv' := [(4, .int x_2), (0, .ref q0), (1, .ref h0), (2, .int p0), (3, .int p1)]) hx hb dX4_sumBehind_8 hl (by decide) rfl (fun ls hl => ?_)
  refine lv_iconst (v := 0) hx hb dX4_sumBehind_10 (by decide) ?_
  refine lv_istore (lv' := [(5, .int 0), (4, .int x_2), (0, .ref q0), (1, .ref h0), (2, .int p0), (3, .int p1)]) hx hb dX4_sumBehind_11 hl (by decide) rfl (fun ls hl => ?_)
  refine lv_iconst (v := 0) hx hb dX4_sumBehind_13 (by decide) ?_
  refine lv_istore (lv' := [(6, .int 0), (5, .int 0), (4, .int x_2), (0, .ref q0), (1, .ref h0), (2, .int p0), (3, .int p1)]) hx hb dX4_sumBehind_14 hl (by decide) rfl (fun ls hl => ?_)
  have key_5 : ∀ (nkey_5 : Nat) (u_3 : Int32) (u_4 : Int32) (ls : Array Slot), (0 ≤ u_3.toInt ∧ u_3.toInt ≤ 7) → lv_has ls 7 [(6, .int u_3), (5, .int u_4), (4, .int x_2), (0, .ref q0), (1, .ref h0), (2, .int p0), (3, .int p1)] → (q_pl.toInt - u_3.toInt).toNat < nkey_5 → W p l e ({ frames := 1, cells := 0, slots := 0, locals := 60 }) s m ([.ref q0, .ref h0, .int p0, .int p1] : List Value).toArray below meth c s.heap [] 0 0 Q9 (F0 m 16 ls []) := by
    intro nkey_5
    induction nkey_5 with
    | zero => intro u_3 u_4 ls hu_3 hl hnkey_5; exact absurd hnkey_5 (Nat.not_lt_zero _)
    | succ nkey_5 ihkey_5 =>
      intro u_3 u_4 ls hu_3 hl hnkey_5
      refine lv_iload hx hb dX4_sumBehind_16 (lv_at hl 0 rfl) ?_
      refine lv_aload_n hx hb dX4_sumBehind_18 rfl (lv_at hl 3 rfl) ?_
      refine va_get (D := (dC, dI)) (ci := 4) (v := .int q_pl) (C := RX4) (T := TX4) (N := 5) hx hb hts uinX4 hown hK hP 0 rfl rfl 4 (by decide) (hts _ wd_2_4) (fun _ h9 => h9) rfl dX4_sumBehind_19 ?_
      refine lv_icmp_ge (tgt := 62) hx hb dX4_sumBehind_22 (by decide) (fun c_6 => ?_) (fun c_6 => ?_)
      · have c_6 : q_pl.toInt ≤ u_3.toInt := cv_le c_6
        refine lv_iload hx hb dX4_sumBehind_62 (lv_at hl 1 rfl) ?_
        rw [hQ9]
        exact W.iret (v := u_4) hx hb hr (fun t ht hW => ⟨u_4, rfl, trivial, ht⟩) (fun q h => by cases h) dX4_sumBehind_64
      · have c_6 : u_3.toInt < q_pl.toInt := cv_nle c_6
        refine lv_iload hx hb dX4_sumBehind_25 (lv_at hl 2 rfl) ?_
        refine lv_iload hx hb dX4_sumBehind_27 (lv_at hl 0 rfl) ?_
        refine lv_ishr hx hb dX4_sumBehind_29 ?_
        refine lv_topi (fun x_7 ex_7 => ?_)
        refine lv_iconst (v := 1) hx hb dX4_sumBehind_30 (by decide) ?_
        refine lv_iand hx hb dX4_sumBehind_31 ?_
        refine lv_topi (fun x_8 ex_8 => ?_)
        have fx_8 : 0 ≤ x_8.toInt ∧ x_8.toInt ≤ 1 := by rw [ex_8]; exact cv_andR (by decide) (by decide)
        have join_10 : ∀ (u_9 : Int32) (ls : Array Slot), lv_has ls 7 [(6, .int u_3), (5, .int u_9), (4, .int x_2), (0, .ref q0), (1, .ref h0), (2, .int p0), (3, .int p1)] → W p l e ({ frames := 1, cells := 0, slots := 0, locals := 60 }) s m ([.ref q0, .ref h0, .int p0, .int p1] : List Value).toArray below meth c s.heap [] 0 0 Q9 (F0 m 56 ls []) := by
          intro u_9 ls hl
          obtain ⟨x_11, ex_11⟩ : ∃ y : Int32, y = u_3 + 1 := ⟨_, rfl⟩
          refine lv_iinc (v := x_11) (lv' := [(6, .int x_11), (5, .int u_9), (4, .int x_2), (0, .ref q0), (1, .ref h0), (2, .int p0), (3, .int p1)]) hx hb dX4_sumBehind_56 hl (k := 0) rfl (by rw [ex_11]; rfl) (by decide) rfl (fun ls hl => ?_)
          have fx_11 : x_11.toInt = u_3.toInt + 1 := by rw [ex_11]; exact cv_addI (by have : (1 : Int32).toInt = 1 := rfl; omega) (by have : (1 : Int32).toInt = 1 := rfl; omega)
          refine lv_goto (tgt := 16) hx hb dX4_sumBehind_59 (by decide) ?_
          exact ihkey_5 x_11 u_9 _ (by omega) (lv_sub hl [0, 1, 2, 3, 4, 5, 6] rfl) (by omega)
        refine lv_if_ne (tgt := 56) hx hb dX4_sumBehind_32 (by decide) (fun c_12 => ?_) (fun c_12 => ?_)
        · have c_12 : x_8.toInt ≠ 0 := cv_ne c_12
          exact join_10 u_4 _ (lv_sub hl [0, 1, 2, 3, 4, 5, 6] rfl)
        · have c_12 : x_8.toInt = 0 := cv_eq c_12
          refine lv_iload hx hb dX4_sumBehind_35 (lv_at hl 1 rfl) ?_
          refine lv_aload_n hx hb dX4_sumBehind_37 rfl (lv_at hl 3 rfl) ?_
          refine va_get (D := (dC, dI)) (ci := 4) (v := .ref q_on) (C := RX4) (T := TX4) (N := 5) hx hb hts uinX4 hown hK hP 0 rfl rfl 0 (by decide) (hts _ wd_2_0) (fun _ h9 => h9) rfl dX4_sumBehind_38 ?_
          refine lv_iload_n hx hb dX4_sumBehind_41 rfl (lv_at hl 5 rfl) ?_
          refine lv_iconst (v := 1) hx hb dX4_sumBehind_42 (by decide) ?_
          refine lv_iload hx hb dX4_sumBehind_43 (lv_at hl 0 rfl) ?_
          refine lv_ishl hx hb dX4_sumBehind_45 ?_
          refine lv_topi (fun x_13 ex_13 => ?_)
          have fx_13 : 1 ≤ x_13.toInt ∧ x_13.toInt ≤ 64 := by rw [ex_13]; have q := cv_shl1 (y := u_3) 0 6 (by decide) (by decide) (by omega) (by omega); omega
          refine lv_ior hx hb dX4_sumBehind_46 ?_
          refine lv_topi (fun x_14 ex_14 => ?_)
          have fx_14 : 0 ≤ x_14.toInt ∧ x_14.toInt ≤ 127 := by rw [ex_14]; have q := cv_or (x := p0) (y := x_13) 7 (by decide) (by omega) (by omega) (by omega) (by omega); omega
          refine lv_iconst (v := 3) hx hb dX4_sumBehind_47 (by decide) ?_
          refine lv_ishl hx hb dX4_sumBehind_48 ?_
          refine lv_topi (fun x_15 ex_15 => ?_)
          have fx_15 : x_15.toInt = x_14.toInt * 8 := by rw [ex_15]; have q := cv_shlc (x := x_14) (s := 3) 3 (by decide) (by omega) (by omega); omega
          refine lv_iload hx hb dX4_sumBehind_49 (lv_at hl 0 rfl) ?_
          refine lv_ior hx hb dX4_sumBehind_51 ?_
          refine lv_topi (fun x_16 ex_16 => ?_)
          have fx_16 : 0 ≤ x_16.toInt ∧ x_16.toInt ≤ 1023 := by rw [ex_16]; have q := cv_or (x := x_15) (y := u_3) 10 (by decide) (by omega) (by omega) (by omega) (by omega); omega
          refine va_iald hx hb hK hP 1 0 rfl rfl (vp_in_iff.mpr (by omega)) dX4_sumBehind_52 ?_
          refine lv_topi (fun x_17 ex_17 => ?_)
          refine lv_iadd hx hb dX4_sumBehind_53 ?_
          refine lv_topi (fun x_18 ex_18 => ?_)
          refine lv_istore (lv' := [(5, .int x_18), (6, .int u_3), (4, .int x_2), (0, .ref q0), (1, .ref h0), (2, .int p0), (3, .int p1)]) hx hb dX4_sumBehind_54 hl (by decide) rfl (fun ls hl => ?_)
          exact join_10 x_18 _ (lv_sub hl [1, 0, 2, 3, 4, 5, 6] rfl)
  exact key_5 _ 0 0 _ (by decide) (lv_sub hl [0, 1, 2, 3, 4, 5, 6] rfl) (Nat.lt_succ_self _)

/- X4_prepare -/
set_option maxHeartbeats 4000000 in
set_option maxRecDepth 100000 in
theorem n_qprepare0 (l : Launch) (dC : Nat → ClassId) (dI : Nat → Nat → Nat) (cyI cyB cyJ cyZ cyH cyN : ClassId) (sz : Nat) (q0 q_on q_row q_scr : Nat) (q_pl : Int32) (q_f0 q_f1 q_f2 : Nat → Int32) (h0 a_first a_now a_lawPlace a_lawOther a_lawEach a_lawFrom a_foes a_suitTable a_acts : Nat) (a_pl a_li a_le a_lc a_ac a_ng : Int32) (a_f_first a_f_now a_f_lawPlace a_f_lawOther a_f_lawEach a_f_lawFrom a_f_foes a_f_suitTable a_f_acts : Nat → Int32) (g0 : rg 0 6 7 q_f1) (g1 : rg 0 6 7 q_f2) (g2 : rg 0 6 7 a_f_first) (g3 : rg 0 6 7 a_f_now) (g4 : rg 0 6 6 a_f_lawPlace) (g5 : rg 0 6 6 a_f_lawOther) (g6 : ra 40 a_f_acts) (g7 : 0 ≤ a_pl.toInt ∧ a_pl.toInt ≤ 7) (g8 : 0 ≤ a_lc.toInt ∧ a_lc.toInt ≤ 6) (g9 : 0 ≤ a_ac.toInt ∧ a_ac.toInt ≤ 40) (g10 : 0 ≤ q_pl.toInt ∧ q_pl.toInt ≤ 7) : Met l yX4_prepare (wk yX4_prepare cX4_prepare 5 none) ({ frames := 2, cells := 0, slots := 0, locals := 86 }) (va_Pc [.ref q0, .ref h0] (fun U => U.heap.size = sz ∧ va_P (dC, dI) vwCl [(q0, .inr (4, [.ref q_on, .ref q_row, .ref q_scr, .null, .int q_pl])), (q_on, .inl (cyI, 1024, .inl q_f0)), (q_row, .inl (cyI, 7, .inl q_f1)), (q_scr, .inl (cyI, 7, .inl q_f2)), (h0, .inr (2, [.int a_pl, .int a_li, .int a_le, .int a_lc, .int a_ac, .int a_ng, .ref a_first, .ref a_now, .ref a_lawPlace, .ref a_lawOther, .ref a_lawEach, .ref a_lawFrom, .ref a_foes, .ref a_suitTable, .ref a_acts])), (a_first, .inl (cyI, 7, .inl a_f_first)), (a_now, .inl (cyI, 7, .inl a_f_now)), (a_lawPlace, .inl (cyI, 6, .inl a_f_lawPlace)), (a_lawOther, .inl (cyI, 6, .inl a_f_lawOther)), (a_lawEach, .inl (cyI, 6, .inl a_f_lawEach)), (a_lawFrom, .inl (cyI, 6, .inl a_f_lawFrom)), (a_foes, .inl (cyI, 7, .inl a_f_foes)), (a_suitTable, .inl (cyI, 49, .inl a_f_suitTable)), (a_acts, .inl (cyI, 40, .inl a_f_acts))] U.heap ∧ va_K (dC, dI) vwCl [(cyI, .int), (cyB, .byte), (cyJ, .long), (cyZ, .boolean), (cyH, .object RX2), (cyN, .array .long)] U ∧ va_D (fun _ => True) [(q0, .inr (4, [.ref q_on, .ref q_row, .ref q_scr, .null, .int q_pl])), (q_on, .inl (cyI, 1024, .inl q_f0)), (q_row, .inl (cyI, 7, .inl q_f1)), (q_scr, .inl (cyI, 7, .inl q_f2)), (h0, .inr (2, [.int a_pl, .int a_li, .int a_le, .int a_lc, .int a_ac, .int a_ng, .ref a_first, .ref a_now, .ref a_lawPlace, .ref a_lawOther, .ref a_lawEach, .ref a_lawFrom, .ref a_foes, .ref a_suitTable, .ref a_acts])), (a_first, .inl (cyI, 7, .inl a_f_first)), (a_now, .inl (cyI, 7, .inl a_f_now)), (a_lawPlace, .inl (cyI, 6, .inl a_f_lawPlace)), (a_lawOther, .inl (cyI, 6, .inl a_f_lawOther)), (a_lawEach, .inl (cyI, 6, .inl a_f_lawEach)), (a_lawFrom, .inl (cyI, 6, .inl a_f_lawFrom)), (a_foes, .inl (cyI, 7, .inl a_f_foes)), (a_suitTable, .inl (cyI, 49, .inl a_f_suitTable)), (a_acts, .inl (cyI, 40, .inl a_f_acts))])) (va_Qv (fun _ : Unit => True) (fun (_ : Unit) (t : State) => ∃ z0 : Int32, ∃ y1 : Nat → Int32, (0 ≤ z0.toInt ∧ z0.toInt ≤ 7) ∧ va_P (dC, dI) vwCl [(q0, .inr (4, [.ref q_on, .ref q_row, .ref q_scr, .ref h0, .int z0])), (q_on, .inl (cyI, 1024, .inl y1)), (q_row, .inl (cyI, 7, .inl q_f1)), (q_scr, .inl (cyI, 7, .inl q_f2)), (h0, .inr (2, [.int a_pl, .int a_li, .int a_le, .int a_lc, .int a_ac, .int a_ng, .ref a_first, .ref a_now, .ref a_lawPlace, .ref a_lawOther, .ref a_lawEach, .ref a_lawFrom, .ref a_foes, .ref a_suitTable, .ref a_acts])), (a_first, .inl (cyI, 7, .inl a_f_first)), (a_now, .inl (cyI, 7, .inl a_f_now)), (a_lawPlace, .inl (cyI, 6, .inl a_f_lawPlace)), (a_lawOther, .inl (cyI, 6, .inl a_f_lawOther)), (a_lawEach, .inl (cyI, 6, .inl a_f_lawEach)), (a_lawFrom, .inl (cyI, 6, .inl a_f_lawFrom)), (a_foes, .inl (cyI, 7, .inl a_f_foes)), (a_suitTable, .inl (cyI, 49, .inl a_f_suitTable)), (a_acts, .inl (cyI, 40, .inl a_f_acts))] t.heap ∧ va_D (va_A [(q0, .inr (4, [.ref q_on, .ref q_row, .ref q_scr, .null, .int q_pl])), (q_on, .inl (cyI, 1024, .inl q_f0)), (q_row, .inl (cyI, 7, .inl q_f1)), (q_scr, .inl (cyI, 7, .inl q_f2)), (h0, .inr (2, [.int a_pl, .int a_li, .int a_le, .int a_lc, .int a_ac, .int a_ng, .ref a_first, .ref a_now, .ref a_lawPlace, .ref a_lawOther, .ref a_lawEach, .ref a_lawFrom, .ref a_foes, .ref a_suitTable, .ref a_acts])), (a_first, .inl (cyI, 7, .inl a_f_first)), (a_now, .inl (cyI, 7, .inl a_f_now)), (a_lawPlace, .inl (cyI, 6, .inl a_f_lawPlace)), (a_lawOther, .inl (cyI, 6, .inl a_f_lawOther)), (a_lawEach, .inl (cyI, 6, .inl a_f_lawEach)), (a_lawFrom, .inl (cyI, 6, .inl a_f_lawFrom)), (a_foes, .inl (cyI, 7, .inl a_f_foes)), (a_suitTable, .inl (cyI, 49, .inl a_f_suitTable)), (a_acts, .inl (cyI, 40, .inl a_f_acts))] sz) [(q0, .inr (4, [.ref q_on, .ref q_row, .ref q_scr, .ref h0, .int z0])), (q_on, .inl (cyI, 1024, .inl y1)), (q_row, .inl (cyI, 7, .inl q_f1)), (q_scr, .inl (cyI, 7, .inl q_f2)), (h0, .inr (2, [.int a_pl, .int a_li, .int a_le, .int a_lc, .int a_ac, .int a_ng, .ref a_first, .ref a_now, .ref a_lawPlace, .ref a_lawOther, .ref a_lawEach, .ref a_lawFrom, .ref a_foes, .ref a_suitTable, .ref a_acts])), (a_first, .inl (cyI, 7, .inl a_f_first)), (a_now, .inl (cyI, 7, .inl a_f_now)), (a_lawPlace, .inl (cyI, 6, .inl a_f_lawPlace)), (a_lawOther, .inl (cyI, 6, .inl a_f_lawOther)), (a_lawEach, .inl (cyI, 6, .inl a_f_lawEach)), (a_lawFrom, .inl (cyI, 6, .inl a_f_lawFrom)), (a_foes, .inl (cyI, 7, .inl a_f_foes)), (a_suitTable, .inl (cyI, 49, .inl a_f_suitTable)), (a_acts, .inl (cyI, 40, .inl a_f_acts))]) (va_A [(q0, .inr (4, [.ref q_on, .ref q_row, .ref q_scr, .null, .int q_pl])), (q_on, .inl (cyI, 1024, .inl q_f0)), (q_row, .inl (cyI, 7, .inl q_f1)), (q_scr, .inl (cyI, 7, .inl q_f2)), (h0, .inr (2, [.int a_pl, .int a_li, .int a_le, .int a_lc, .int a_ac, .int a_ng, .ref a_first, .ref a_now, .ref a_lawPlace, .ref a_lawOther, .ref a_lawEach, .ref a_lawFrom, .ref a_foes, .ref a_suitTable, .ref a_acts])), (a_first, .inl (cyI, 7, .inl a_f_first)), (a_now, .inl (cyI, 7, .inl a_f_now)), (a_lawPlace, .inl (cyI, 6, .inl a_f_lawPlace)), (a_lawOther, .inl (cyI, 6, .inl a_f_lawOther)), (a_lawEach, .inl (cyI, 6, .inl a_f_lawEach)), (a_lawFrom, .inl (cyI, 6, .inl a_f_lawFrom)), (a_foes, .inl (cyI, 7, .inl a_f_foes)), (a_suitTable, .inl (cyI, 49, .inl a_f_suitTable)), (a_acts, .inl (cyI, 40, .inl a_f_acts))] sz)) 0 0 (va_A [(q0, .inr (4, [.ref q_on, .ref q_row, .ref q_scr, .null, .int q_pl])), (q_on, .inl (cyI, 1024, .inl q_f0)), (q_row, .inl (cyI, 7, .inl q_f1)), (q_scr, .inl (cyI, 7, .inl q_f2)), (h0, .inr (2, [.int a_pl, .int a_li, .int a_le, .int a_lc, .int a_ac, .int a_ng, .ref a_first, .ref a_now, .ref a_lawPlace, .ref a_lawOther, .ref a_lawEach, .ref a_lawFrom, .ref a_foes, .ref a_suitTable, .ref a_acts])), (a_first, .inl (cyI, 7, .inl a_f_first)), (a_now, .inl (cyI, 7, .inl a_f_now)), (a_lawPlace, .inl (cyI, 6, .inl a_f_lawPlace)), (a_lawOther, .inl (cyI, 6, .inl a_f_lawOther)), (a_lawEach, .inl (cyI, 6, .inl a_f_lawEach)), (a_lawFrom, .inl (cyI, 6, .inl a_f_lawFrom)), (a_foes, .inl (cyI, 7, .inl a_f_foes)), (a_suitTable, .inl (cyI, 49, .inl a_f_suitTable)), (a_acts, .inl (cyI, 40, .inl a_f_acts))] sz) := by
  refine Met.ofW (cc := cX4_prepare) (maxL := 5) (ret := none) (by decide) rfl ?_
  intro p e s m args below meth c s₁ B hml hv
  obtain ⟨rfl, hsz, hP, hK, hD0⟩ := hv
  have hx := B.exec
  have hb := B.bytes
  have hr := B.returns
  have hts : ∀ w ∈ uU, w.before ([.ref q0, .ref h0] : List Value).toArray s = true := fun w h => atoms_spec (ws := wk yX4_prepare cX4_prepare 5 none) B.pre w (List.mem_cons_of_mem _ h)
  have hown : s.vm.findClass RX4 = some m.cls := findClass_of_methodNamed B.named
  have hlocks := B.notSynchronized
  subst hsz
  have hD := hD0.self (sz := s.heap.size)
  generalize hAe : va_A [(q0, .inr (4, [.ref q_on, .ref q_row, .ref q_scr, .null, .int q_pl])), (q_on, .inl (cyI, 1024, .inl q_f0)), (q_row, .inl (cyI, 7, .inl q_f1)), (q_scr, .inl (cyI, 7, .inl q_f2)), (h0, .inr (2, [.int a_pl, .int a_li, .int a_le, .int a_lc, .int a_ac, .int a_ng, .ref a_first, .ref a_now, .ref a_lawPlace, .ref a_lawOther, .ref a_lawEach, .ref a_lawFrom, .ref a_foes, .ref a_suitTable, .ref a_acts])), (a_first, .inl (cyI, 7, .inl a_f_first)), (a_now, .inl (cyI, 7, .inl a_f_now)), (a_lawPlace, .inl (cyI, 6, .inl a_f_lawPlace)), (a_lawOther, .inl (cyI, 6, .inl a_f_lawOther)), (a_lawEach, .inl (cyI, 6, .inl a_f_lawEach)), (a_lawFrom, .inl (cyI, 6, .inl a_f_lawFrom)), (a_foes, .inl (cyI, 7, .inl a_f_foes)), (a_suitTable, .inl (cyI, 49, .inl a_f_suitTable)), (a_acts, .inl (cyI, 40, .inl a_f_acts))] s.heap.size = A at hD ⊢
  have hA : ∀ q : Nat, s.heap.size ≤ q → A q := fun q h => by rw [← hAe]; exact Or.inr h
  have hS : va_S A s.heap s.heap [] := va_S.rf
  have hP : va_P (dC, dI) vwCl [(q0, .inr (4, [.ref q_on, .ref q_row, .ref q_scr, .null, .int q_pl])), (q_on, .inl (cyI, 1024, .inl q_f0)), (q_row, .inl (cyI, 7, .inl q_f1)), (q_scr, .inl (cyI, 7, .inl q_f2)), (h0, .inr (2, [.int a_pl, .int a_li, .int a_le, .int a_lc, .int a_ac, .int a_ng, .ref a_first, .ref a_now, .ref a_lawPlace, .ref a_lawOther, .ref a_lawEach, .ref a_lawFrom, .ref a_foes, .ref a_suitTable, .ref a_acts])), (a_first, .inl (cyI, 7, .inl a_f_first)), (a_now, .inl (cyI, 7, .inl a_f_now)), (a_lawPlace, .inl (cyI, 6, .inl a_f_lawPlace)), (a_lawOther, .inl (cyI, 6, .inl a_f_lawOther)), (a_lawEach, .inl (cyI, 6, .inl a_f_lawEach)), (a_lawFrom, .inl (cyI, 6, .inl a_f_lawFrom)), (a_foes, .inl (cyI, 7, .inl a_f_foes)), (a_suitTable, .inl (cyI, 49, .inl a_f_suitTable)), (a_acts, .inl (cyI, 40, .inl a_f_acts))] s.heap := hP
  have hl := lv_entry ([.ref q0, .ref h0]) (n := 5) (Nat.le_of_ble_eq_true rfl)
  rw [lg_entry_eq]
  generalize (lg_sl ([.ref q0, .ref h0]) ++ List.replicate (5 - (lg_sl ([.ref q0, .ref h0])).length) Slot.unset).toArray = ls at hl ⊢
  have hl : lv_has ls 5 [(0, .ref q0), (1, .ref h0)] := hl
  obtain ⟨H, hHe⟩ : ∃ H, H = s.heap := ⟨_, rfl⟩
  have hP : va_P (dC, dI) vwCl [(q0, .inr (4, [.ref q_on, .ref q_row, .ref q_scr, .null, .int q_pl])), (q_on, .inl (cyI, 1024, .inl q_f0)), (q_row, .inl (cyI, 7, .inl q_f1)), (q_scr, .inl (cyI, 7, .inl q_f2)), (h0, .inr (2, [.int a_pl, .int a_li, .int a_le, .int a_lc, .int a_ac, .int a_ng, .ref a_first, .ref a_now, .ref a_lawPlace, .ref a_lawOther, .ref a_lawEach, .ref a_lawFrom, .ref a_foes, .ref a_suitTable, .ref a_acts])), (a_first, .inl (cyI, 7, .inl a_f_first)), (a_now, .inl (cyI, 7, .inl a_f_now)), (a_lawPlace, .inl (cyI, 6, .inl a_f_lawPlace)), (a_lawOther, .inl (cyI, 6, .inl a_f_lawOther)), (a_lawEach, .inl (cyI, 6, .inl a_f_lawEach)), (a_lawFrom, .inl (cyI, 6, .inl a_f_lawFrom)), (a_foes, .inl (cyI, 7, .inl a_f_foes)), (a_suitTable, .inl (cyI, 49, .inl a_f_suitTable)), (a_acts, .inl (cyI, 40, .inl a_f_acts))] H := by rw [hHe]; exact hP
  have hS : va_S A s.heap H [] := by rw [hHe]; exact hS
  refine cv_heap hHe ?_
  obtain ⟨Q9, hQ9⟩ : ∃ Q9 : State → Prop, Q9 = MQ below (va_Qv (fun _ : Unit => True) (fun (_ : Unit) (t : State) => ∃ z0 : Int32, ∃ y1 : Nat → Int32, (0 ≤ z0.toInt ∧ z0.toInt ≤ 7) ∧ va_P (dC, dI) vwCl [(q0, .inr (4, [.ref q_on, .ref q_row, .ref q_scr, .ref h0, .int z0])), (q_on, .inl (cyI, 1024, .inl y1)), (q_row, .inl (cyI, 7, .inl q_f1)), (q_scr, .inl (cyI, 7, .inl q_f2)), (h0, .inr (2, [.int a_pl, .int a_li, .int a_le, .int a_lc, .int a_ac, .int a_ng, .ref a_first, .ref a_now, .ref a_lawPlace, .ref a_lawOther, .ref a_lawEach, .ref a_lawFrom, .ref a_foes, .ref a_suitTable, .ref a_acts])), (a_first, .inl (cyI, 7, .inl a_f_first)), (a_now, .inl (cyI, 7, .inl a_f_now)), (a_lawPlace, .inl (cyI, 6, .inl a_f_lawPlace)), (a_lawOther, .inl (cyI, 6, .inl a_f_lawOther)), (a_lawEach, .inl (cyI, 6, .inl a_f_lawEach)), (a_lawFrom, .inl (cyI, 6, .inl a_f_lawFrom)), (a_foes, .inl (cyI, 7, .inl a_f_foes)), (a_suitTable, .inl (cyI, 49, .inl a_f_suitTable)), (a_acts, .inl (cyI, 40, .inl a_f_acts))] t.heap ∧ va_D A [(q0, .inr (4, [.ref q_on, .ref q_row, .ref q_scr, .ref h0, .int z0])), (q_on, .inl (cyI, 1024, .inl y1)), (q_row, .inl (cyI, 7, .inl q_f1)), (q_scr, .inl (cyI, 7, .inl q_f2)), (h0, .inr (2, [.int a_pl, .int a_li, .int a_le, .int a_lc, .int a_ac, .int a_ng, .ref a_first, .ref a_now, .ref a_lawPlace, .ref a_lawOther, .ref a_lawEach, .ref a_lawFrom, .ref a_foes, .ref a_suitTable, .ref a_acts])), (a_first, .inl (cyI, 7, .inl a_f_first)), (a_now, .inl (cyI, 7, .inl a_f_now)), (a_lawPlace, .inl (cyI, 6, .inl a_f_lawPlace)), (a_lawOther, .inl (cyI, 6, .inl a_f_lawOther)), (a_lawEach, .inl (cyI, 6, .inl a_f_lawEach)), (a_lawFrom, .inl (cyI, 6, .inl a_f_lawFrom)), (a_foes, .inl (cyI, 7, .inl a_f_foes)), (a_suitTable, .inl (cyI, 49, .inl a_f_suitTable)), (a_acts, .inl (cyI, 40, .inl a_f_acts))]) A) ([.ref q0, .ref h0] : List Value).toArray s 0 0 A := ⟨_, rfl⟩
  rw [← hQ9]
  refine lv_aload_n hx hb dX4_prepare_0 rfl (lv_at hl 0 rfl) ?_
  refine lv_aload_n hx hb dX4_prepare_1 rfl (lv_at hl 1 rfl) ?_
  refine va_put (D := (dC, dI)) (ci := 4) (v := .ref h0) (ty := (.object "SwapTrophies$Hall")) (C := RX4) (T := TX4) (N := 5) hx hb hts uinX4 tyX4 tyX4_ok nmX4 hown hK hP hD hS 0 rfl rfl 3 (by decide) (hts _ wd_2_3) (fun _ h9 => h9) rfl (by decide +kernel) rfl rfl (Nat.le_of_ble_eq_true rfl) dX4_prepare_2 (fun H locs hP hD hS => ?_)
  have hP : va_P (dC, dI) vwCl [(q0, .inr (4, [.ref q_on, .ref q_row, .ref q_scr, .ref h0, .int q_pl])), (q_on, .inl (cyI, 1024, .inl q_f0)), (q_row, .inl (cyI, 7, .inl q_f1)), (q_scr, .inl (cyI, 7, .inl q_f2)), (h0, .inr (2, [.int a_pl, .int a_li, .int a_le, .int a_lc, .int a_ac, .int a_ng, .ref a_first, .ref a_now, .ref a_lawPlace, .ref a_lawOther, .ref a_lawEach, .ref a_lawFrom, .ref a_foes, .ref a_suitTable, .ref a_acts])), (a_first, .inl (cyI, 7, .inl a_f_first)), (a_now, .inl (cyI, 7, .inl a_f_now)), (a_lawPlace, .inl (cyI, 6, .inl a_f_lawPlace)), (a_lawOther, .inl (cyI, 6, .inl a_f_lawOther)), (a_lawEach, .inl (cyI, 6, .inl a_f_lawEach)), (a_lawFrom, .inl (cyI, 6, .inl a_f_lawFrom)), (a_foes, .inl (cyI, 7, .inl a_f_foes)), (a_suitTable, .inl (cyI, 49, .inl a_f_suitTable)), (a_acts, .inl (cyI, 40, .inl a_f_acts))] H := hP
  have hD : va_D A [(q0, .inr (4, [.ref q_on, .ref q_row, .ref q_scr, .ref h0, .int q_pl])), (q_on, .inl (cyI, 1024, .inl q_f0)), (q_row, .inl (cyI, 7, .inl q_f1)), (q_scr, .inl (cyI, 7, .inl q_f2)), (h0, .inr (2, [.int a_pl, .int a_li, .int a_le, .int a_lc, .int a_ac, .int a_ng, .ref a_first, .ref a_now, .ref a_lawPlace, .ref a_lawOther, .ref a_lawEach, .ref a_lawFrom, .ref a_foes, .ref a_suitTable, .ref a_acts])), (a_first, .inl (cyI, 7, .inl a_f_first)), (a_now, .inl (cyI, 7, .inl a_f_now)), (a_lawPlace, .inl (cyI, 6, .inl a_f_lawPlace)), (a_lawOther, .inl (cyI, 6, .inl a_f_lawOther)), (a_lawEach, .inl (cyI, 6, .inl a_f_lawEach)), (a_lawFrom, .inl (cyI, 6, .inl a_f_lawFrom)), (a_foes, .inl (cyI, 7, .inl a_f_foes)), (a_suitTable, .inl (cyI, 49, .inl a_f_suitTable)), (a_acts, .inl (cyI, 40, .inl a_f_acts))] := hD
  refine lv_aload_n hx hb dX4_prepare_5 rfl (lv_at hl 0 rfl) ?_
  refine lv_aload_n hx hb dX4_prepare_6 rfl (lv_at hl 1 rfl) ?_
  refine va_get (D := (dC, dI)) (ci := 2) (v := .int a_pl) (C := RX2) (T := TX2) (N := 15) hx hb hts uinX2 hown hK hP 4 rfl rfl 0 (by decide) (hts _ wd_1_79) (fun _ h9 => h9) rfl dX4_prepare_7 ?_
  refine va_put (D := (dC, dI)) (ci := 4) (v := .int a_pl) (ty := .int) (C := RX4) (T := TX4) (N := 5) hx hb hts uinX4 tyX4 tyX4_ok nmX4 hown hK hP hD hS 0 rfl rfl 4 (by decide) (hts _ wd_2_4) (fun _ h9 => h9) rfl (by decide +kernel) rfl rfl (Nat.le_of_ble_eq_true rfl) dX4_prepare_10 (fun H locs hP hD hS => ?_)
  have hP : va_P (dC, dI) vwCl [(q0, .inr (4, [.ref q_on, .ref q_row, .ref q_scr, .ref h0, .int a_pl])), (q_on, .inl (cyI, 1024, .inl q_f0)), (q_row, .inl (cyI, 7, .inl q_f1)), (q_scr, .inl (cyI, 7, .inl q_f2)), (h0, .inr (2, [.int a_pl, .int a_li, .int a_le, .int a_lc, .int a_ac, .int a_ng, .ref a_first, .ref a_now, .ref a_lawPlace, .ref a_lawOther, .ref a_lawEach, .ref a_lawFrom, .ref a_foes, .ref a_suitTable, .ref a_acts])), (a_first, .inl (cyI, 7, .inl a_f_first)), (a_now, .inl (cyI, 7, .inl a_f_now)), (a_lawPlace, .inl (cyI, 6, .inl a_f_lawPlace)), (a_lawOther, .inl (cyI, 6, .inl a_f_lawOther)), (a_lawEach, .inl (cyI, 6, .inl a_f_lawEach)), (a_lawFrom, .inl (cyI, 6, .inl a_f_lawFrom)), (a_foes, .inl (cyI, 7, .inl a_f_foes)), (a_suitTable, .inl (cyI, 49, .inl a_f_suitTable)), (a_acts, .inl (cyI, 40, .inl a_f_acts))] H := hP
  have hD : va_D A [(q0, .inr (4, [.ref q_on, .ref q_row, .ref q_scr, .ref h0, .int a_pl])), (q_on, .inl (cyI, 1024, .inl q_f0)), (q_row, .inl (cyI, 7, .inl q_f1)), (q_scr, .inl (cyI, 7, .inl q_f2)), (h0, .inr (2, [.int a_pl, .int a_li, .int a_le, .int a_lc, .int a_ac, .int a_ng, .ref a_first, .ref a_now, .ref a_lawPlace, .ref a_lawOther, .ref a_lawEach, .ref a_lawFrom, .ref a_foes, .ref a_suitTable, .ref a_acts])), (a_first, .inl (cyI, 7, .inl a_f_first)), (a_now, .inl (cyI, 7, .inl a_f_now)), (a_lawPlace, .inl (cyI, 6, .inl a_f_lawPlace)), (a_lawOther, .inl (cyI, 6, .inl a_f_lawOther)), (a_lawEach, .inl (cyI, 6, .inl a_f_lawEach)), (a_lawFrom, .inl (cyI, 6, .inl a_f_lawFrom)), (a_foes, .inl (cyI, 7, .inl a_f_foes)), (a_suitTable, .inl (cyI, 49, .inl a_f_suitTable)), (a_acts, .inl (cyI, 40, .inl a_f_acts))] := hD
  refine lv_iconst (v := 1) hx hb dX4_prepare_13 (by decide) ?_
  refine lv_aload_n hx hb dX4_prepare_14 rfl (lv_at hl 0 rfl) ?_
  refine va_get (D := (dC, dI)) (ci := 4) (v := .int a_pl) (C := RX4) (T := TX4) (N := 5) hx hb hts uinX4 hown hK hP 0 rfl rfl 4 (by decide) (hts _ wd_2_4) (fun _ h9 => h9) rfl dX4_prepare_15 ?_
  refine lv_ishl hx hb dX4_prepare_18 ?_
  refine lv_topi (fun x_1 ex_1 => ?_)
  have fx_1 : 1 ≤ x_1.toInt ∧ x_1.toInt ≤ 128 := by rw [ex_1]; have q := cv_shl1 (y := a_pl) 0 7 (by decide) (by decide) (by omega) (by omega); omega
  refine lv_iconst (v := 1) hx hb dX4_prepare_19 (by decide) ?_
  refine lv_isub hx hb dX4_prepare_20 ?_
  refine lv_topi (fun x_2 ex_2 => ?_)
  have fx_2 : x_2.toInt = x_1.toInt - 1 := by rw [ex_2]; exact cv_subI (by have : (1 : Int32).toInt = 1 := rfl; omega) (by have : (1 : Int32).toInt = 1 := rfl; omega)
  refine lv_istore_n (lv' := [(2, .int x_2), (0, .ref q0), (1, .ref h0)]) hx hb dX4_prepare_21 rfl hl (by decide) rfl (fun ls hl => ?_)
  refine lv_iconst (v := 0) hx hb dX4_prepare_22 (by decide) ?_
  refine lv_istore_n (lv' := [(3, .int 0), (2, .int x_2), (0, .ref q0), (1, .ref h0)]) hx hb dX4_prepare_23 rfl hl (by decide) rfl (fun ls hl => ?_)
  have key_5 : ∀ (nkey_5 : Nat) (u_3 : Int32) (f_4 : Nat → Int32) (H : Heap) (locs : List Loc) (ls : Array Slot), (0 ≤ u_3.toInt ∧ u_3.toInt ≤ 7) → va_P (dC, dI) vwCl [(q0, .inr (4, [.ref q_on, .ref q_row, .ref q_scr, .ref h0, .int a_pl])), (q_on, .inl (cyI, 1024, .inl f_4)), (q_row, .inl (cyI, 7, .inl q_f1)), (q_scr, .inl (cyI, 7, .inl q_f2)), (h0, .inr (2, [.int a_pl, .int a_li, .int a_le, .int a_lc, .int a_ac, .int a_ng, .ref a_first, .ref a_now, .ref a_lawPlace, .ref a_lawOther, .ref a_lawEach, .ref a_lawFrom, .ref a_foes, .ref a_suitTable, .ref a_acts])), (a_first, .inl (cyI, 7, .inl a_f_first)), (a_now, .inl (cyI, 7, .inl a_f_now)), (a_lawPlace, .inl (cyI, 6, .inl a_f_lawPlace)), (a_lawOther, .inl (cyI, 6, .inl a_f_lawOther)), (a_lawEach, .inl (cyI, 6, .inl a_f_lawEach)), (a_lawFrom, .inl (cyI, 6, .inl a_f_lawFrom)), (a_foes, .inl (cyI, 7, .inl a_f_foes)), (a_suitTable, .inl (cyI, 49, .inl a_f_suitTable)), (a_acts, .inl (cyI, 40, .inl a_f_acts))] H → va_D A [(q0, .inr (4, [.ref q_on, .ref q_row, .ref q_scr, .ref h0, .int a_pl])), (q_on, .inl (cyI, 1024, .inl f_4)), (q_row, .inl (cyI, 7, .inl q_f1)), (q_scr, .inl (cyI, 7, .inl q_f2)), (h0, .inr (2, [.int a_pl, .int a_li, .int a_le, .int a_lc, .int a_ac, .int a_ng, .ref a_first, .ref a_now, .ref a_lawPlace, .ref a_lawOther, .ref a_lawEach, .ref a_lawFrom, .ref a_foes, .ref a_suitTable, .ref a_acts])), (a_first, .inl (cyI, 7, .inl a_f_first)), (a_now, .inl (cyI, 7, .inl a_f_now)), (a_lawPlace, .inl (cyI, 6, .inl a_f_lawPlace)), (a_lawOther, .inl (cyI, 6, .inl a_f_lawOther)), (a_lawEach, .inl (cyI, 6, .inl a_f_lawEach)), (a_lawFrom, .inl (cyI, 6, .inl a_f_lawFrom)), (a_foes, .inl (cyI, 7, .inl a_f_foes)), (a_suitTable, .inl (cyI, 49, .inl a_f_suitTable)), (a_acts, .inl (cyI, 40, .inl a_f_acts))] → va_S A s.heap H locs → lv_has ls 5 [(3, .int u_3), (2, .int x_2), (0, .ref q0), (1, .ref h0)] → (a_pl.toInt - u_3.toInt).toNat < nkey_5 → W p l e ({ frames := 2, cells := 0, slots := 0, locals := 86 }) s m ([.ref q0, .ref h0] : List Value).toArray below meth c H locs 0 0 Q9 (F0 m 24 ls []) := by
    intro nkey_5
    induction nkey_5 with
    | zero => intro u_3 f_4 H locs ls hu_3 hP hD hS hl hnkey_5; exact absurd hnkey_5 (Nat.not_lt_zero _)
    | succ nkey_5 ihkey_5 =>
      intro u_3 f_4 H locs ls hu_3 hP hD hS hl hnkey_5
      refine lv_iload_n hx hb dX4_prepare_24 rfl (lv_at hl 0 rfl) ?_
      refine lv_aload_n hx hb dX4_prepare_25 rfl (lv_at hl 2 rfl) ?_
      refine va_get (D := (dC, dI)) (ci := 4) (v := .int a_pl) (C := RX4) (T := TX4) (N := 5) hx hb hts uinX4 hown hK hP 0 rfl rfl 4 (by decide) (hts _ wd_2_4) (fun _ h9 => h9) rfl dX4_prepare_26 ?_
      refine lv_icmp_ge (tgt := 49) hx hb dX4_prepare_29 (by decide) (fun c_6 => ?_) (fun c_6 => ?_)
      · have c_6 : a_pl.toInt ≤ u_3.toInt := cv_le c_6
        refine lv_iload_n hx hb dX4_prepare_49 rfl (lv_at hl 1 rfl) ?_
        refine lv_iconst (v := 1) hx hb dX4_prepare_50 (by decide) ?_
        refine lv_isub hx hb dX4_prepare_51 ?_
        refine lv_topi (fun x_7 ex_7 => ?_)
        have fx_7 : x_7.toInt = x_2.toInt - 1 := by rw [ex_7]; exact cv_subI (by have : (1 : Int32).toInt = 1 := rfl; omega) (by have : (1 : Int32).toInt = 1 := rfl; omega)
        refine lv_istore_n (lv' := [(3, .int x_7), (2, .int x_2), (0, .ref q0), (1, .ref h0)]) hx hb dX4_prepare_52 rfl hl (by decide) rfl (fun ls hl => ?_)
        have key_10 : ∀ (nkey_10 : Nat) (u_8 : Int32) (f_9 : Nat → Int32) (H : Heap) (locs : List Loc) (ls : Array Slot), ((-1) ≤ u_8.toInt ∧ u_8.toInt ≤ 126) → va_P (dC, dI) vwCl [(q0, .inr (4, [.ref q_on, .ref q_row, .ref q_scr, .ref h0, .int a_pl])), (q_on, .inl (cyI, 1024, .inl f_9)), (q_row, .inl (cyI, 7, .inl q_f1)), (q_scr, .inl (cyI, 7, .inl q_f2)), (h0, .inr (2, [.int a_pl, .int a_li, .int a_le, .int a_lc, .int a_ac, .int a_ng, .ref a_first, .ref a_now, .ref a_lawPlace, .ref a_lawOther, .ref a_lawEach, .ref a_lawFrom, .ref a_foes, .ref a_suitTable, .ref a_acts])), (a_first, .inl (cyI, 7, .inl a_f_first)), (a_now, .inl (cyI, 7, .inl a_f_now)), (a_lawPlace, .inl (cyI, 6, .inl a_f_lawPlace)), (a_lawOther, .inl (cyI, 6, .inl a_f_lawOther)), (a_lawEach, .inl (cyI, 6, .inl a_f_lawEach)), (a_lawFrom, .inl (cyI, 6, .inl a_f_lawFrom)), (a_foes, .inl (cyI, 7, .inl a_f_foes)), (a_suitTable, .inl (cyI, 49, .inl a_f_suitTable)), (a_acts, .inl (cyI, 40, .inl a_f_acts))] H → va_D A [(q0, .inr (4, [.ref q_on, .ref q_row, .ref q_scr, .ref h0, .int a_pl])), (q_on, .inl (cyI, 1024, .inl f_9)), (q_row, .inl (cyI, 7, .inl q_f1)), (q_scr, .inl (cyI, 7, .inl q_f2)), (h0, .inr (2, [.int a_pl, .int a_li, .int a_le, .int a_lc, .int a_ac, .int a_ng, .ref a_first, .ref a_now, .ref a_lawPlace, .ref a_lawOther, .ref a_lawEach, .ref a_lawFrom, .ref a_foes, .ref a_suitTable, .ref a_acts])), (a_first, .inl (cyI, 7, .inl a_f_first)), (a_now, .inl (cyI, 7, .inl a_f_now)), (a_lawPlace, .inl (cyI, 6, .inl a_f_lawPlace)), (a_lawOther, .inl (cyI, 6, .inl a_f_lawOther)), (a_lawEach, .inl (cyI, 6, .inl a_f_lawEach)), (a_lawFrom, .inl (cyI, 6, .inl a_f_lawFrom)), (a_foes, .inl (cyI, 7, .inl a_f_foes)), (a_suitTable, .inl (cyI, 49, .inl a_f_suitTable)), (a_acts, .inl (cyI, 40, .inl a_f_acts))] → va_S A s.heap H locs → lv_has ls 5 [(3, .int u_8), (2, .int x_2), (0, .ref q0), (1, .ref h0)] → (u_8.toInt - 0).toNat < nkey_10 → W p l e ({ frames := 2, cells := 0, slots := 0, locals := 86 }) s m ([.ref q0, .ref h0] : List Value).toArray below meth c H locs 0 0 Q9 (F0 m 53 ls []) := by
          intro nkey_10
          induction nkey_10 with
          | zero => intro u_8 f_9 H locs ls hu_8 hP hD hS hl hnkey_10; exact absurd hnkey_10 (Nat.not_lt_zero _)
          | succ nkey_10 ihkey_10 =>
            intro u_8 f_9 H locs ls hu_8 hP hD hS hl hnkey_10
            refine lv_iload_n hx hb dX4_prepare_53 rfl (lv_at hl 0 rfl) ?_
            refine lv_if_le (tgt := 109) hx hb dX4_prepare_54 (by decide) (fun c_11 => ?_) (fun c_11 => ?_)
            · have c_11 : u_8.toInt ≤ 0 := cv_le c_11
              rw [hQ9]
              have hP9 := hP.sub (ws' := [(q0, .inr (4, [.ref q_on, .ref q_row, .ref q_scr, .ref h0, .int a_pl])), (q_on, .inl (cyI, 1024, .inl f_9)), (q_row, .inl (cyI, 7, .inl q_f1)), (q_scr, .inl (cyI, 7, .inl q_f2)), (h0, .inr (2, [.int a_pl, .int a_li, .int a_le, .int a_lc, .int a_ac, .int a_ng, .ref a_first, .ref a_now, .ref a_lawPlace, .ref a_lawOther, .ref a_lawEach, .ref a_lawFrom, .ref a_foes, .ref a_suitTable, .ref a_acts])), (a_first, .inl (cyI, 7, .inl a_f_first)), (a_now, .inl (cyI, 7, .inl a_f_now)), (a_lawPlace, .inl (cyI, 6, .inl a_f_lawPlace)), (a_lawOther, .inl (cyI, 6, .inl a_f_lawOther)), (a_lawEach, .inl (cyI, 6, .inl a_f_lawEach)), (a_lawFrom, .inl (cyI, 6, .inl a_f_lawFrom)), (a_foes, .inl (cyI, 7, .inl a_f_foes)), (a_suitTable, .inl (cyI, 49, .inl a_f_suitTable)), (a_acts, .inl (cyI, 40, .inl a_f_acts))]) [0, 1, 2, 3, 4, 5, 6, 7, 8, 9, 10, 11, 12, 13] rfl
              have hD9 := hD.sub (ws' := [(q0, .inr (4, [.ref q_on, .ref q_row, .ref q_scr, .ref h0, .int a_pl])), (q_on, .inl (cyI, 1024, .inl f_9)), (q_row, .inl (cyI, 7, .inl q_f1)), (q_scr, .inl (cyI, 7, .inl q_f2)), (h0, .inr (2, [.int a_pl, .int a_li, .int a_le, .int a_lc, .int a_ac, .int a_ng, .ref a_first, .ref a_now, .ref a_lawPlace, .ref a_lawOther, .ref a_lawEach, .ref a_lawFrom, .ref a_foes, .ref a_suitTable, .ref a_acts])), (a_first, .inl (cyI, 7, .inl a_f_first)), (a_now, .inl (cyI, 7, .inl a_f_now)), (a_lawPlace, .inl (cyI, 6, .inl a_f_lawPlace)), (a_lawOther, .inl (cyI, 6, .inl a_f_lawOther)), (a_lawEach, .inl (cyI, 6, .inl a_f_lawEach)), (a_lawFrom, .inl (cyI, 6, .inl a_f_lawFrom)), (a_foes, .inl (cyI, 7, .inl a_f_foes)), (a_suitTable, .inl (cyI, 49, .inl a_f_suitTable)), (a_acts, .inl (cyI, 40, .inl a_f_acts))]) [0, 1, 2, 3, 4, 5, 6, 7, 8, 9, 10, 11, 12, 13] (by decide) rfl
              exact W.vret hx hb hr (fun t ht hW => ⟨⟨(), rfl, trivial, ⟨a_pl, f_9, (by omega), by rw [ht]; exact hP9, hD9⟩⟩, hS.F ht⟩) hS.2.2 dX4_prepare_109
            · have c_11 : 0 < u_8.toInt := cv_nle c_11
              refine lv_iconst (v := 0) hx hb dX4_prepare_57 (by decide) ?_
              refine lv_istore (lv' := [(4, .int 0), (3, .int u_8), (2, .int x_2), (0, .ref q0), (1, .ref h0)]) hx hb dX4_prepare_58 hl (by decide) rfl (fun ls hl => ?_)
              have key_14 : ∀ (nkey_14 : Nat) (u_12 : Int32) (f_13 : Nat → Int32) (H : Heap) (locs : List Loc) (ls : Array Slot), (0 ≤ u_12.toInt ∧ u_12.toInt ≤ 7) → va_P (dC, dI) vwCl [(q0, .inr (4, [.ref q_on, .ref q_row, .ref q_scr, .ref h0, .int a_pl])), (q_on, .inl (cyI, 1024, .inl f_13)), (q_row, .inl (cyI, 7, .inl q_f1)), (q_scr, .inl (cyI, 7, .inl q_f2)), (h0, .inr (2, [.int a_pl, .int a_li, .int a_le, .int a_lc, .int a_ac, .int a_ng, .ref a_first, .ref a_now, .ref a_lawPlace, .ref a_lawOther, .ref a_lawEach, .ref a_lawFrom, .ref a_foes, .ref a_suitTable, .ref a_acts])), (a_first, .inl (cyI, 7, .inl a_f_first)), (a_now, .inl (cyI, 7, .inl a_f_now)), (a_lawPlace, .inl (cyI, 6, .inl a_f_lawPlace)), (a_lawOther, .inl (cyI, 6, .inl a_f_lawOther)), (a_lawEach, .inl (cyI, 6, .inl a_f_lawEach)), (a_lawFrom, .inl (cyI, 6, .inl a_f_lawFrom)), (a_foes, .inl (cyI, 7, .inl a_f_foes)), (a_suitTable, .inl (cyI, 49, .inl a_f_suitTable)), (a_acts, .inl (cyI, 40, .inl a_f_acts))] H → va_D A [(q0, .inr (4, [.ref q_on, .ref q_row, .ref q_scr, .ref h0, .int a_pl])), (q_on, .inl (cyI, 1024, .inl f_13)), (q_row, .inl (cyI, 7, .inl q_f1)), (q_scr, .inl (cyI, 7, .inl q_f2)), (h0, .inr (2, [.int a_pl, .int a_li, .int a_le, .int a_lc, .int a_ac, .int a_ng, .ref a_first, .ref a_now, .ref a_lawPlace, .ref a_lawOther, .ref a_lawEach, .ref a_lawFrom, .ref a_foes, .ref a_suitTable, .ref a_acts])), (a_first, .inl (cyI, 7, .inl a_f_first)), (a_now, .inl (cyI, 7, .inl a_f_now)), (a_lawPlace, .inl (cyI, 6, .inl a_f_lawPlace)), (a_lawOther, .inl (cyI, 6, .inl a_f_lawOther)), (a_lawEach, .inl (cyI, 6, .inl a_f_lawEach)), (a_lawFrom, .inl (cyI, 6, .inl a_f_lawFrom)), (a_foes, .inl (cyI, 7, .inl a_f_foes)), (a_suitTable, .inl (cyI, 49, .inl a_f_suitTable)), (a_acts, .inl (cyI, 40, .inl a_f_acts))] → va_S A s.heap H locs → lv_has ls 5 [(4, .int u_12), (3, .int u_8), (2, .int x_2), (0, .ref q0), (1, .ref h0)] → (a_pl.toInt - u_12.toInt).toNat < nkey_14 → W p l e ({ frames := 2, cells := 0, slots := 0, locals := 86 }) s m ([.ref q0, .ref h0] : List Value).toArray below meth c H locs 0 0 Q9 (F0 m 60 ls []) := by
                intro nkey_14
                induction nkey_14 with
                | zero => intro u_12 f_13 H locs ls hu_12 hP hD hS hl hnkey_14; exact absurd hnkey_14 (Nat.not_lt_zero _)
                | succ nkey_14 ihkey_14 =>
                  intro u_12 f_13 H locs ls hu_12 hP hD hS hl hnkey_14
                  refine lv_iload hx hb dX4_prepare_60 (lv_at hl 0 rfl) ?_
                  refine lv_aload_n hx hb dX4_prepare_62 rfl (lv_at hl 3 rfl) ?_
                  refine va_get (D := (dC, dI)) (ci := 4) (v := .int a_pl) (C := RX4) (T := TX4) (N := 5) hx hb hts uinX4 hown hK hP 0 rfl rfl 4 (by decide) (hts _ wd_2_4) (fun _ h9 => h9) rfl dX4_prepare_63 ?_
                  refine lv_icmp_ge (tgt := 103) hx hb dX4_prepare_66 (by decide) (fun c_15 => ?_) (fun c_15 => ?_)
                  · have c_15 : a_pl.toInt ≤ u_12.toInt := cv_le c_15
                    obtain ⟨x_16, ex_16⟩ : ∃ y : Int32, y = u_8 + (-1) := ⟨_, rfl⟩
                    refine lv_iinc (v := x_16) (lv' := [(3, .int x_16), (4, .int u_12), (2, .int x_2), (0, .ref q0), (1, .ref h0)]) hx hb dX4_prepare_103 hl (k := 1) rfl (by rw [ex_16]; rfl) (by decide) rfl (fun ls hl => ?_)
                    have fx_16 : x_16.toInt = u_8.toInt + (-1) := by rw [ex_16]; exact cv_addI (by have : ((-1) : Int32).toInt = (-1) := rfl; omega) (by have : ((-1) : Int32).toInt = (-1) := rfl; omega)
                    refine lv_goto (tgt := 53) hx hb dX4_prepare_106 (by decide) ?_
                    exact ihkey_10 x_16 f_13 _ _ _ (by omega) hP hD hS (lv_sub hl [0, 2, 3, 4] rfl) (by omega)
                  · have c_15 : u_12.toInt < a_pl.toInt := cv_nle c_15
                    refine lv_iload_n hx hb dX4_prepare_69 rfl (lv_at hl 1 rfl) ?_
                    refine lv_iload hx hb dX4_prepare_70 (lv_at hl 0 rfl) ?_
                    refine lv_ishr hx hb dX4_prepare_72 ?_
                    refine lv_topi (fun x_17 ex_17 => ?_)
                    have fx_17 : 0 ≤ x_17.toInt ∧ x_17.toInt ≤ u_8.toInt := by rw [ex_17]; exact cv_shr (by omega)
                    refine lv_iconst (v := 1) hx hb dX4_prepare_73 (by decide) ?_
                    refine lv_iand hx hb dX4_prepare_74 ?_
                    refine lv_topi (fun x_18 ex_18 => ?_)
                    have fx_18 : 0 ≤ x_18.toInt ∧ x_18.toInt ≤ 1 := by rw [ex_18]; exact cv_andR (by decide) (by decide)
                    have join_20 : ∀ (f_19 : Nat → Int32) (H : Heap) (locs : List Loc) (ls : Array Slot), va_P (dC, dI) vwCl [(q0, .inr (4, [.ref q_on, .ref q_row, .ref q_scr, .ref h0, .int a_pl])), (q_on, .inl (cyI, 1024, .inl f_19)), (q_row, .inl (cyI, 7, .inl q_f1)), (q_scr, .inl (cyI, 7, .inl q_f2)), (h0, .inr (2, [.int a_pl, .int a_li, .int a_le, .int a_lc, .int a_ac, .int a_ng, .ref a_first, .ref a_now, .ref a_lawPlace, .ref a_lawOther, .ref a_lawEach, .ref a_lawFrom, .ref a_foes, .ref a_suitTable, .ref a_acts])), (a_first, .inl (cyI, 7, .inl a_f_first)), (a_now, .inl (cyI, 7, .inl a_f_now)), (a_lawPlace, .inl (cyI, 6, .inl a_f_lawPlace)), (a_lawOther, .inl (cyI, 6, .inl a_f_lawOther)), (a_lawEach, .inl (cyI, 6, .inl a_f_lawEach)), (a_lawFrom, .inl (cyI, 6, .inl a_f_lawFrom)), (a_foes, .inl (cyI, 7, .inl a_f_foes)), (a_suitTable, .inl (cyI, 49, .inl a_f_suitTable)), (a_acts, .inl (cyI, 40, .inl a_f_acts))] H → va_D A [(q0, .inr (4, [.ref q_on, .ref q_row, .ref q_scr, .ref h0, .int a_pl])), (q_on, .inl (cyI, 1024, .inl f_19)), (q_row, .inl (cyI, 7, .inl q_f1)), (q_scr, .inl (cyI, 7, .inl q_f2)), (h0, .inr (2, [.int a_pl, .int a_li, .int a_le, .int a_lc, .int a_ac, .int a_ng, .ref a_first, .ref a_now, .ref a_lawPlace, .ref a_lawOther, .ref a_lawEach, .ref a_lawFrom, .ref a_foes, .ref a_suitTable, .ref a_acts])), (a_first, .inl (cyI, 7, .inl a_f_first)), (a_now, .inl (cyI, 7, .inl a_f_now)), (a_lawPlace, .inl (cyI, 6, .inl a_f_lawPlace)), (a_lawOther, .inl (cyI, 6, .inl a_f_lawOther)), (a_lawEach, .inl (cyI, 6, .inl a_f_lawEach)), (a_lawFrom, .inl (cyI, 6, .inl a_f_lawFrom)), (a_foes, .inl (cyI, 7, .inl a_f_foes)), (a_suitTable, .inl (cyI, 49, .inl a_f_suitTable)), (a_acts, .inl (cyI, 40, .inl a_f_acts))] → va_S A s.heap H locs → lv_has ls 5 [(4, .int u_12), (3, .int u_8), (2, .int x_2), (0, .ref q0), (1, .ref h0)] → W p l e ({ frames := 2, cells := 0, slots := 0, locals := 86 }) s m ([.ref q0, .ref h0] : List Value).toArray below meth c H locs 0 0 Q9 (F0 m 97 ls []) := by
                      intro f_19 H locs ls hP hD hS hl
                      obtain ⟨x_21, ex_21⟩ : ∃ y : Int32, y = u_12 + 1 := ⟨_, rfl⟩
                      refine lv_iinc (v := x_21) (lv' := [(4, .int x_21), (3, .int u_8), (2, .int x_2), (0, .ref q0), (1, .ref h0)]) hx hb dX4_prepare_97 hl (k := 0) rfl (by rw [ex_21]; rfl) (by decide) rfl (fun ls hl => ?_)
                      have fx_21 : x_21.toInt = u_12.toInt + 1 := by rw [ex_21]; exact cv_addI (by have : (1 : Int32).toInt = 1 := rfl; omega) (by have : (1 : Int32).toInt = 1 := rfl; omega)
                      refine lv_goto (tgt := 60) hx hb dX4_prepare_100 (by decide) ?_
                      exact ihkey_14 x_21 f_19 _ _ _ (by omega) hP hD hS (lv_sub hl [0, 1, 2, 3, 4] rfl) (by omega)
                    refine lv_if_eq (tgt := 97) hx hb dX4_prepare_75 (by decide) (fun c_22 => ?_) (fun c_22 => ?_)
                    · have c_22 : x_18.toInt = 0 := cv_eq c_22
                      exact join_20 f_13 _ _ _ hP hD hS (lv_sub hl [0, 1, 2, 3, 4] rfl)
                    · have c_22 : x_18.toInt ≠ 0 := cv_ne c_22
                      refine lv_aload_n hx hb dX4_prepare_78 rfl (lv_at hl 3 rfl) ?_
                      refine va_get (D := (dC, dI)) (ci := 4) (v := .ref q_on) (C := RX4) (T := TX4) (N := 5) hx hb hts uinX4 hown hK hP 0 rfl rfl 0 (by decide) (hts _ wd_2_0) (fun _ h9 => h9) rfl dX4_prepare_79 ?_
                      refine lv_iload_n hx hb dX4_prepare_82 rfl (lv_at hl 1 rfl) ?_
                      refine lv_iconst (v := 3) hx hb dX4_prepare_83 (by decide) ?_
                      refine lv_ishl hx hb dX4_prepare_84 ?_
                      refine lv_topi (fun x_23 ex_23 => ?_)
                      have fx_23 : x_23.toInt = u_8.toInt * 8 := by rw [ex_23]; have q := cv_shlc (x := u_8) (s := 3) 3 (by decide) (by omega) (by omega); omega
                      refine lv_iload hx hb dX4_prepare_85 (lv_at hl 0 rfl) ?_
                      refine lv_ior hx hb dX4_prepare_87 ?_
                      refine lv_topi (fun x_24 ex_24 => ?_)
                      have fx_24 : 0 ≤ x_24.toInt ∧ x_24.toInt ≤ 1023 := by rw [ex_24]; have q := cv_or (x := x_23) (y := u_12) 10 (by decide) (by omega) (by omega) (by omega) (by omega); omega
                      refine lv_aload_n hx hb dX4_prepare_88 rfl (lv_at hl 3 rfl) ?_
                      refine lv_aload_n hx hb dX4_prepare_89 rfl (lv_at hl 4 rfl) ?_
                      refine lv_iload_n hx hb dX4_prepare_90 rfl (lv_at hl 1 rfl) ?_
                      refine lv_iload hx hb dX4_prepare_91 (lv_at hl 0 rfl) ?_
                      have hPc := hP.sub (ws' := [(q0, .inr (4, [.ref q_on, .ref q_row, .ref q_scr, .ref h0, .int a_pl])), (q_on, .inl (cyI, 1024, .inl f_13)), (q_row, .inl (cyI, 7, .inl q_f1)), (q_scr, .inl (cyI, 7, .inl q_f2)), (h0, .inr (2, [.int a_pl, .int a_li, .int a_le, .int a_lc, .int a_ac, .int a_ng, .ref a_first, .ref a_now, .ref a_lawPlace, .ref a_lawOther, .ref a_lawEach, .ref a_lawFrom, .ref a_foes, .ref a_suitTable, .ref a_acts])), (a_first, .inl (cyI, 7, .inl a_f_first)), (a_now, .inl (cyI, 7, .inl a_f_now)), (a_lawPlace, .inl (cyI, 6, .inl a_f_lawPlace)), (a_lawOther, .inl (cyI, 6, .inl a_f_lawOther)), (a_lawEach, .inl (cyI, 6, .inl a_f_lawEach)), (a_lawFrom, .inl (cyI, 6, .inl a_f_lawFrom)), (a_foes, .inl (cyI, 7, .inl a_f_foes)), (a_suitTable, .inl (cyI, 49, .inl a_f_suitTable)), (a_acts, .inl (cyI, 40, .inl a_f_acts))]) [0, 1, 2, 3, 4, 5, 6, 7, 8, 9, 10, 11, 12, 13] rfl
                      have hKc := hK.sub (tys' := [(cyI, .int), (cyB, .byte), (cyJ, .long), (cyZ, .boolean), (cyH, .object RX2), (cyN, .array .long)]) [0, 1, 2, 3, 4, 5] rfl
                      refine vp_callSi (va_Run.run (va_runV (As := [.ref h0, .int u_8, .int u_12]) (rest := [.int x_24, .ref q_on]) ⟨hx, hb, hml, hown, hts⟩ (n_sumBehind l dC dI cyI cyB cyJ cyZ cyH cyN q0 q_on q_row q_scr a_pl f_13 q_f1 q_f2 h0 a_first a_now a_lawPlace a_lawOther a_lawEach a_lawFrom a_foes a_suitTable a_acts a_pl a_li a_le a_lc a_ac a_ng a_f_first a_f_now a_f_lawPlace a_f_lawOther a_f_lawEach a_f_lawFrom a_f_foes a_f_suitTable a_f_acts u_8 u_12 g0 g1 g2 g3 g4 g5 g6 (by omega) (by omega) (by omega) (by omega) (by omega) (by omega)) (cwV 3 hts (gdV wd_5_14 wd_5_16 wd_s2_15 wd_1_7 wd_5_17) rfl rfl rfl (by decide +kernel) ⟨Nat.le_of_ble_eq_true rfl, Nat.le_of_ble_eq_true rfl⟩) ⟨fun a U g mk q => by obtain ⟨q0, qP, qK⟩ := q; exact ⟨q0, qP, va_K.moved (u := U) (U := U.calling g mk a) (Vm.Alike.refl U.vm) qK⟩, va_recv hKc hPc (ci := 4) (q0 := 0) rfl rfl, fun U hU hW => ⟨rfl, by rw [hU]; exact hPc, va_K.moved hW.alike hKc⟩⟩ rfl rfl hl.1 rfl (lv_room (Nat.le_of_ble_eq_true rfl)) dX4_prepare_93 ⟨Nat.le_of_ble_eq_true rfl, Nat.le_of_ble_eq_true rfl⟩)) (fun r_25 hw => ?_)
                      refine va_iast hx hb hK hP hD hS 1 0 rfl rfl (vp_in_iff.mpr (by omega)) dX4_prepare_96 (fun H locs hP hD hS => ?_)
                      obtain ⟨f_26, ef_26⟩ : ∃ z9 : Nat → Int32, z9 = upd f_13 x_24.toNatClampNeg r_25 := ⟨_, rfl⟩
                      rw [← ef_26] at hP hD
                      have hP : va_P (dC, dI) vwCl [(q0, .inr (4, [.ref q_on, .ref q_row, .ref q_scr, .ref h0, .int a_pl])), (q_on, .inl (cyI, 1024, .inl f_26)), (q_row, .inl (cyI, 7, .inl q_f1)), (q_scr, .inl (cyI, 7, .inl q_f2)), (h0, .inr (2, [.int a_pl, .int a_li, .int a_le, .int a_lc, .int a_ac, .int a_ng, .ref a_first, .ref a_now, .ref a_lawPlace, .ref a_lawOther, .ref a_lawEach, .ref a_lawFrom, .ref a_foes, .ref a_suitTable, .ref a_acts])), (a_first, .inl (cyI, 7, .inl a_f_first)), (a_now, .inl (cyI, 7, .inl a_f_now)), (a_lawPlace, .inl (cyI, 6, .inl a_f_lawPlace)), (a_lawOther, .inl (cyI, 6, .inl a_f_lawOther)), (a_lawEach, .inl (cyI, 6, .inl a_f_lawEach)), (a_lawFrom, .inl (cyI, 6, .inl a_f_lawFrom)), (a_foes, .inl (cyI, 7, .inl a_f_foes)), (a_suitTable, .inl (cyI, 49, .inl a_f_suitTable)), (a_acts, .inl (cyI, 40, .inl a_f_acts))] H := hP
                      have hD : va_D A [(q0, .inr (4, [.ref q_on, .ref q_row, .ref q_scr, .ref h0, .int a_pl])), (q_on, .inl (cyI, 1024, .inl f_26)), (q_row, .inl (cyI, 7, .inl q_f1)), (q_scr, .inl (cyI, 7, .inl q_f2)), (h0, .inr (2, [.int a_pl, .int a_li, .int a_le, .int a_lc, .int a_ac, .int a_ng, .ref a_first, .ref a_now, .ref a_lawPlace, .ref a_lawOther, .ref a_lawEach, .ref a_lawFrom, .ref a_foes, .ref a_suitTable, .ref a_acts])), (a_first, .inl (cyI, 7, .inl a_f_first)), (a_now, .inl (cyI, 7, .inl a_f_now)), (a_lawPlace, .inl (cyI, 6, .inl a_f_lawPlace)), (a_lawOther, .inl (cyI, 6, .inl a_f_lawOther)), (a_lawEach, .inl (cyI, 6, .inl a_f_lawEach)), (a_lawFrom, .inl (cyI, 6, .inl a_f_lawFrom)), (a_foes, .inl (cyI, 7, .inl a_f_foes)), (a_suitTable, .inl (cyI, 49, .inl a_f_suitTable)), (a_acts, .inl (cyI, 40, .inl a_f_acts))] := hD
                      exact join_20 f_26 _ _ _ hP hD hS (lv_sub hl [0, 1, 2, 3, 4] rfl)
              exact key_14 _ 0 f_9 _ _ _ (by decide) hP hD hS (lv_sub hl [0, 1, 2, 3, 4] rfl) (Nat.lt_succ_self _)
        exact key_10 _ x_7 f_4 _ _ _ (by omega) hP hD hS (lv_sub hl [0, 1, 2, 3] rfl) (Nat.lt_succ_self _)
      · have c_6 : u_3.toInt < a_pl.toInt := cv_nle c_6
        refine lv_aload_n hx hb dX4_prepare_32 rfl (lv_at hl 2 rfl) ?_
        refine va_get (D := (dC, dI)) (ci := 4) (v := .ref q_on) (C := RX4) (T := TX4) (N := 5) hx hb hts uinX4 hown hK hP 0 rfl rfl 0 (by decide) (hts _ wd_2_0) (fun _ h9 => h9) rfl dX4_prepare_33 ?_
        refine lv_iload_n hx hb dX4_prepare_36 rfl (lv_at hl 1 rfl) ?_
        refine lv_iconst (v := 3) hx hb dX4_prepare_37 (by decide) ?_
        refine lv_ishl hx hb dX4_prepare_38 ?_
        refine lv_topi (fun x_27 ex_27 => ?_)
        have fx_27 : x_27.toInt = x_2.toInt * 8 := by rw [ex_27]; have q := cv_shlc (x := x_2) (s := 3) 3 (by decide) (by omega) (by omega); omega
        refine lv_iload_n hx hb dX4_prepare_39 rfl (lv_at hl 0 rfl) ?_
        refine lv_ior hx hb dX4_prepare_40 ?_
        refine lv_topi (fun x_28 ex_28 => ?_)
        have fx_28 : 0 ≤ x_28.toInt ∧ x_28.toInt ≤ 1023 := by rw [ex_28]; have q := cv_or (x := x_27) (y := u_3) 10 (by decide) (by omega) (by omega) (by omega) (by omega); omega
        refine lv_iconst (v := 1) hx hb dX4_prepare_41 (by decide) ?_
        refine va_iast hx hb hK hP hD hS 1 0 rfl rfl (vp_in_iff.mpr (by omega)) dX4_prepare_42 (fun H locs hP hD hS => ?_)
        obtain ⟨f_29, ef_29⟩ : ∃ z9 : Nat → Int32, z9 = upd f_4 x_28.toNatClampNeg 1 := ⟨_, rfl⟩
        rw [← ef_29] at hP hD
        have hP : va_P (dC, dI) vwCl [(q0, .inr (4, [.ref q_on, .ref q_row, .ref q_scr, .ref h0, .int a_pl])), (q_on, .inl (cyI, 1024, .inl f_29)), (q_row, .inl (cyI, 7, .inl q_f1)), (q_scr, .inl (cyI, 7, .inl q_f2)), (h0, .inr (2, [.int a_pl, .int a_li, .int a_le, .int a_lc, .int a_ac, .int a_ng, .ref a_first, .ref a_now, .ref a_lawPlace, .ref a_lawOther, .ref a_lawEach, .ref a_lawFrom, .ref a_foes, .ref a_suitTable, .ref a_acts])), (a_first, .inl (cyI, 7, .inl a_f_first)), (a_now, .inl (cyI, 7, .inl a_f_now)), (a_lawPlace, .inl (cyI, 6, .inl a_f_lawPlace)), (a_lawOther, .inl (cyI, 6, .inl a_f_lawOther)), (a_lawEach, .inl (cyI, 6, .inl a_f_lawEach)), (a_lawFrom, .inl (cyI, 6, .inl a_f_lawFrom)), (a_foes, .inl (cyI, 7, .inl a_f_foes)), (a_suitTable, .inl (cyI, 49, .inl a_f_suitTable)), (a_acts, .inl (cyI, 40, .inl a_f_acts))] H := hP
        have hD : va_D A [(q0, .inr (4, [.ref q_on, .ref q_row, .ref q_scr, .ref h0, .int a_pl])), (q_on, .inl (cyI, 1024, .inl f_29)), (q_row, .inl (cyI, 7, .inl q_f1)), (q_scr, .inl (cyI, 7, .inl q_f2)), (h0, .inr (2, [.int a_pl, .int a_li, .int a_le, .int a_lc, .int a_ac, .int a_ng, .ref a_first, .ref a_now, .ref a_lawPlace, .ref a_lawOther, .ref a_lawEach, .ref a_lawFrom, .ref a_foes, .ref a_suitTable, .ref a_acts])), (a_first, .inl (cyI, 7, .inl a_f_first)), (a_now, .inl (cyI, 7, .inl a_f_now)), (a_lawPlace, .inl (cyI, 6, .inl a_f_lawPlace)), (a_lawOther, .inl (cyI, 6, .inl a_f_lawOther)), (a_lawEach, .inl (cyI, 6, .inl a_f_lawEach)), (a_lawFrom, .inl (cyI, 6, .inl a_f_lawFrom)), (a_foes, .inl (cyI, 7, .inl a_f_foes)), (a_suitTable, .inl (cyI, 49, .inl a_f_suitTable)), (a_acts, .inl (cyI, 40, .inl a_f_acts))] := hD
        obtain ⟨x_30, ex_30⟩ : ∃ y : Int32, y = u_3 + 1 := ⟨_, rfl⟩
        refine lv_iinc (v := x_30) (lv' := [(3, .int x_30), (2, .int x_2), (0, .ref q0), (1, .ref h0)]) hx hb dX4_prepare_43 hl (k := 0) rfl (by rw [ex_30]; rfl) (by decide) rfl (fun ls hl => ?_)
        have fx_30 : x_30.toInt = u_3.toInt + 1 := by rw [ex_30]; exact cv_addI (by have : (1 : Int32).toInt = 1 := rfl; omega) (by have : (1 : Int32).toInt = 1 := rfl; omega)
        refine lv_goto (tgt := 24) hx hb dX4_prepare_46 (by decide) ?_
        exact ihkey_5 x_30 f_29 _ _ _ (by omega) hP hD hS (lv_sub hl [0, 1, 2, 3] rfl) (by omega)
  exact key_5 _ 0 q_f0 _ _ _ (by decide) hP hD hS (lv_sub hl [0, 1, 2, 3] rfl) (Nat.lt_succ_self _)

/- X4_prepare -/
set_option maxHeartbeats 4000000 in
set_option maxRecDepth 100000 in
theorem n_qprepare1 (l : Launch) (dC : Nat → ClassId) (dI : Nat → Nat → Nat) (cyI cyB cyJ cyZ cyH cyN : ClassId) (sz : Nat) (q0 q_on q_row q_scr : Nat) (q_pl : Int32) (q_f0 q_f1 q_f2 : Nat → Int32) (h0 a_first a_now a_lawPlace a_lawOther a_lawEach a_lawFrom a_foes a_suitTable a_acts : Nat) (a_pl a_li a_le a_lc a_ac a_ng : Int32) (a_f_first a_f_now a_f_lawPlace a_f_lawOther a_f_lawEach a_f_lawFrom a_f_foes a_f_suitTable a_f_acts : Nat → Int32) (g0 : rg 0 6 7 q_f1) (g1 : rg 0 6 7 q_f2) (g2 : rg 0 6 7 a_f_first) (g3 : rg 0 6 7 a_f_now) (g4 : rg 0 6 6 a_f_lawPlace) (g5 : rg 0 6 6 a_f_lawOther) (g6 : ra 40 a_f_acts) (g7 : 0 ≤ a_pl.toInt ∧ a_pl.toInt ≤ 7) (g8 : 0 ≤ a_lc.toInt ∧ a_lc.toInt ≤ 6) (g9 : 0 ≤ a_ac.toInt ∧ a_ac.toInt ≤ 40) (g10 : 0 ≤ q_pl.toInt ∧ q_pl.toInt ≤ 7) : Met l yX4_prepare (wk yX4_prepare cX4_prepare 5 none) ({ frames := 2, cells := 0, slots := 0, locals := 86 }) (va_Pc [.ref q0, .ref h0] (fun U => U.heap.size = sz ∧ va_P (dC, dI) vwCl [(q0, .inr (4, [.ref q_on, .ref q_row, .ref q_scr, .ref h0, .int q_pl])), (q_on, .inl (cyI, 1024, .inl q_f0)), (q_row, .inl (cyI, 7, .inl q_f1)), (q_scr, .inl (cyI, 7, .inl q_f2)), (h0, .inr (2, [.int a_pl, .int a_li, .int a_le, .int a_lc, .int a_ac, .int a_ng, .ref a_first, .ref a_now, .ref a_lawPlace, .ref a_lawOther, .ref a_lawEach, .ref a_lawFrom, .ref a_foes, .ref a_suitTable, .ref a_acts])), (a_first, .inl (cyI, 7, .inl a_f_first)), (a_now, .inl (cyI, 7, .inl a_f_now)), (a_lawPlace, .inl (cyI, 6, .inl a_f_lawPlace)), (a_lawOther, .inl (cyI, 6, .inl a_f_lawOther)), (a_lawEach, .inl (cyI, 6, .inl a_f_lawEach)), (a_lawFrom, .inl (cyI, 6, .inl a_f_lawFrom)), (a_foes, .inl (cyI, 7, .inl a_f_foes)), (a_suitTable, .inl (cyI, 49, .inl a_f_suitTable)), (a_acts, .inl (cyI, 40, .inl a_f_acts))] U.heap ∧ va_K (dC, dI) vwCl [(cyI, .int), (cyB, .byte), (cyJ, .long), (cyZ, .boolean), (cyH, .object RX2), (cyN, .array .long)] U ∧ va_D (fun _ => True) [(q0, .inr (4, [.ref q_on, .ref q_row, .ref q_scr, .ref h0, .int q_pl])), (q_on, .inl (cyI, 1024, .inl q_f0)), (q_row, .inl (cyI, 7, .inl q_f1)), (q_scr, .inl (cyI, 7, .inl q_f2)), (h0, .inr (2, [.int a_pl, .int a_li, .int a_le, .int a_lc, .int a_ac, .int a_ng, .ref a_first, .ref a_now, .ref a_lawPlace, .ref a_lawOther, .ref a_lawEach, .ref a_lawFrom, .ref a_foes, .ref a_suitTable, .ref a_acts])), (a_first, .inl (cyI, 7, .inl a_f_first)), (a_now, .inl (cyI, 7, .inl a_f_now)), (a_lawPlace, .inl (cyI, 6, .inl a_f_lawPlace)), (a_lawOther, .inl (cyI, 6, .inl a_f_lawOther)), (a_lawEach, .inl (cyI, 6, .inl a_f_lawEach)), (a_lawFrom, .inl (cyI, 6, .inl a_f_lawFrom)), (a_foes, .inl (cyI, 7, .inl a_f_foes)), (a_suitTable, .inl (cyI, 49, .inl a_f_suitTable)), (a_acts, .inl (cyI, 40, .inl a_f_acts))])) (va_Qv (fun _ : Unit => True) (fun (_ : Unit) (t : State) => ∃ z0 : Int32, ∃ y1 : Nat → Int32, (0 ≤ z0.toInt ∧ z0.toInt ≤ 7) ∧ va_P (dC, dI) vwCl [(q0, .inr (4, [.ref q_on, .ref q_row, .ref q_scr, .ref h0, .int z0])), (q_on, .inl (cyI, 1024, .inl y1)), (q_row, .inl (cyI, 7, .inl q_f1)), (q_scr, .inl (cyI, 7, .inl q_f2)), (h0, .inr (2, [.int a_pl, .int a_li, .int a_le, .int a_lc, .int a_ac, .int a_ng, .ref a_first, .ref a_now, .ref a_lawPlace, .ref a_lawOther, .ref a_lawEach, .ref a_lawFrom, .ref a_foes, .ref a_suitTable, .ref a_acts])), (a_first, .inl (cyI, 7, .inl a_f_first)), (a_now, .inl (cyI, 7, .inl a_f_now)), (a_lawPlace, .inl (cyI, 6, .inl a_f_lawPlace)), (a_lawOther, .inl (cyI, 6, .inl a_f_lawOther)), (a_lawEach, .inl (cyI, 6, .inl a_f_lawEach)), (a_lawFrom, .inl (cyI, 6, .inl a_f_lawFrom)), (a_foes, .inl (cyI, 7, .inl a_f_foes)), (a_suitTable, .inl (cyI, 49, .inl a_f_suitTable)), (a_acts, .inl (cyI, 40, .inl a_f_acts))] t.heap ∧ va_D (va_A [(q0, .inr (4, [.ref q_on, .ref q_row, .ref q_scr, .ref h0, .int q_pl])), (q_on, .inl (cyI, 1024, .inl q_f0)), (q_row, .inl (cyI, 7, .inl q_f1)), (q_scr, .inl (cyI, 7, .inl q_f2)), (h0, .inr (2, [.int a_pl, .int a_li, .int a_le, .int a_lc, .int a_ac, .int a_ng, .ref a_first, .ref a_now, .ref a_lawPlace, .ref a_lawOther, .ref a_lawEach, .ref a_lawFrom, .ref a_foes, .ref a_suitTable, .ref a_acts])), (a_first, .inl (cyI, 7, .inl a_f_first)), (a_now, .inl (cyI, 7, .inl a_f_now)), (a_lawPlace, .inl (cyI, 6, .inl a_f_lawPlace)), (a_lawOther, .inl (cyI, 6, .inl a_f_lawOther)), (a_lawEach, .inl (cyI, 6, .inl a_f_lawEach)), (a_lawFrom, .inl (cyI, 6, .inl a_f_lawFrom)), (a_foes, .inl (cyI, 7, .inl a_f_foes)), (a_suitTable, .inl (cyI, 49, .inl a_f_suitTable)), (a_acts, .inl (cyI, 40, .inl a_f_acts))] sz) [(q0, .inr (4, [.ref q_on, .ref q_row, .ref q_scr, .ref h0, .int z0])), (q_on, .inl (cyI, 1024, .inl y1)), (q_row, .inl (cyI, 7, .inl q_f1)), (q_scr, .inl (cyI, 7, .inl q_f2)), (h0, .inr (2, [.int a_pl, .int a_li, .int a_le, .int a_lc, .int a_ac, .int a_ng, .ref a_first, .ref a_now, .ref a_lawPlace, .ref a_lawOther, .ref a_lawEach, .ref a_lawFrom, .ref a_foes, .ref a_suitTable, .ref a_acts])), (a_first, .inl (cyI, 7, .inl a_f_first)), (a_now, .inl (cyI, 7, .inl a_f_now)), (a_lawPlace, .inl (cyI, 6, .inl a_f_lawPlace)), (a_lawOther, .inl (cyI, 6, .inl a_f_lawOther)), (a_lawEach, .inl (cyI, 6, .inl a_f_lawEach)), (a_lawFrom, .inl (cyI, 6, .inl a_f_lawFrom)), (a_foes, .inl (cyI, 7, .inl a_f_foes)), (a_suitTable, .inl (cyI, 49, .inl a_f_suitTable)), (a_acts, .inl (cyI, 40, .inl a_f_acts))]) (va_A [(q0, .inr (4, [.ref q_on, .ref q_row, .ref q_scr, .ref h0, .int q_pl])), (q_on, .inl (cyI, 1024, .inl q_f0)), (q_row, .inl (cyI, 7, .inl q_f1)), (q_scr, .inl (cyI, 7, .inl q_f2)), (h0, .inr (2, [.int a_pl, .int a_li, .int a_le, .int a_lc, .int a_ac, .int a_ng, .ref a_first, .ref a_now, .ref a_lawPlace, .ref a_lawOther, .ref a_lawEach, .ref a_lawFrom, .ref a_foes, .ref a_suitTable, .ref a_acts])), (a_first, .inl (cyI, 7, .inl a_f_first)), (a_now, .inl (cyI, 7, .inl a_f_now)), (a_lawPlace, .inl (cyI, 6, .inl a_f_lawPlace)), (a_lawOther, .inl (cyI, 6, .inl a_f_lawOther)), (a_lawEach, .inl (cyI, 6, .inl a_f_lawEach)), (a_lawFrom, .inl (cyI, 6, .inl a_f_lawFrom)), (a_foes, .inl (cyI, 7, .inl a_f_foes)), (a_suitTable, .inl (cyI, 49, .inl a_f_suitTable)), (a_acts, .inl (cyI, 40, .inl a_f_acts))] sz)) 0 0 (va_A [(q0, .inr (4, [.ref q_on, .ref q_row, .ref q_scr, .ref h0, .int q_pl])), (q_on, .inl (cyI, 1024, .inl q_f0)), (q_row, .inl (cyI, 7, .inl q_f1)), (q_scr, .inl (cyI, 7, .inl q_f2)), (h0, .inr (2, [.int a_pl, .int a_li, .int a_le, .int a_lc, .int a_ac, .int a_ng, .ref a_first, .ref a_now, .ref a_lawPlace, .ref a_lawOther, .ref a_lawEach, .ref a_lawFrom, .ref a_foes, .ref a_suitTable, .ref a_acts])), (a_first, .inl (cyI, 7, .inl a_f_first)), (a_now, .inl (cyI, 7, .inl a_f_now)), (a_lawPlace, .inl (cyI, 6, .inl a_f_lawPlace)), (a_lawOther, .inl (cyI, 6, .inl a_f_lawOther)), (a_lawEach, .inl (cyI, 6, .inl a_f_lawEach)), (a_lawFrom, .inl (cyI, 6, .inl a_f_lawFrom)), (a_foes, .inl (cyI, 7, .inl a_f_foes)), (a_suitTable, .inl (cyI, 49, .inl a_f_suitTable)), (a_acts, .inl (cyI, 40, .inl a_f_acts))] sz) := by
  refine Met.ofW (cc := cX4_prepare) (maxL := 5) (ret := none) (by decide) rfl ?_
  intro p e s m args below meth c s₁ B hml hv
  obtain ⟨rfl, hsz, hP, hK, hD0⟩ := hv
  have hx := B.exec
  have hb := B.bytes
  have hr := B.returns
  have hts : ∀ w ∈ uU, w.before ([.ref q0, .ref h0] : List Value).toArray s = true := fun w h => atoms_spec (ws := wk yX4_prepare cX4_prepare 5 none) B.pre w (List.mem_cons_of_mem _ h)
  have hown : s.vm.findClass RX4 = some m.cls := findClass_of_methodNamed B.named
  have hlocks := B.notSynchronized
  subst hsz
  have hD := hD0.self (sz := s.heap.size)
  generalize hAe : va_A [(q0, .inr (4, [.ref q_on, .ref q_row, .ref q_scr, .ref h0, .int q_pl])), (q_on, .inl (cyI, 1024, .inl q_f0)), (q_row, .inl (cyI, 7, .inl q_f1)), (q_scr, .inl (cyI, 7, .inl q_f2)), (h0, .inr (2, [.int a_pl, .int a_li, .int a_le, .int a_lc, .int a_ac, .int a_ng, .ref a_first, .ref a_now, .ref a_lawPlace, .ref a_lawOther, .ref a_lawEach, .ref a_lawFrom, .ref a_foes, .ref a_suitTable, .ref a_acts])), (a_first, .inl (cyI, 7, .inl a_f_first)), (a_now, .inl (cyI, 7, .inl a_f_now)), (a_lawPlace, .inl (cyI, 6, .inl a_f_lawPlace)), (a_lawOther, .inl (cyI, 6, .inl a_f_lawOther)), (a_lawEach, .inl (cyI, 6, .inl a_f_lawEach)), (a_lawFrom, .inl (cyI, 6, .inl a_f_lawFrom)), (a_foes, .inl (cyI, 7, .inl a_f_foes)), (a_suitTable, .inl (cyI, 49, .inl a_f_suitTable)), (a_acts, .inl (cyI, 40, .inl a_f_acts))] s.heap.size = A at hD ⊢
  have hA : ∀ q : Nat, s.heap.size ≤ q → A q := fun q h => by rw [← hAe]; exact Or.inr h
  have hS : va_S A s.heap s.heap [] := va_S.rf
  have hP : va_P (dC, dI) vwCl [(q0, .inr (4, [.ref q_on, .ref q_row, .ref q_scr, .ref h0, .int q_pl])), (q_on, .inl (cyI, 1024, .inl q_f0)), (q_row, .inl (cyI, 7, .inl q_f1)), (q_scr, .inl (cyI, 7, .inl q_f2)), (h0, .inr (2, [.int a_pl, .int a_li, .int a_le, .int a_lc, .int a_ac, .int a_ng, .ref a_first, .ref a_now, .ref a_lawPlace, .ref a_lawOther, .ref a_lawEach, .ref a_lawFrom, .ref a_foes, .ref a_suitTable, .ref a_acts])), (a_first, .inl (cyI, 7, .inl a_f_first)), (a_now, .inl (cyI, 7, .inl a_f_now)), (a_lawPlace, .inl (cyI, 6, .inl a_f_lawPlace)), (a_lawOther, .inl (cyI, 6, .inl a_f_lawOther)), (a_lawEach, .inl (cyI, 6, .inl a_f_lawEach)), (a_lawFrom, .inl (cyI, 6, .inl a_f_lawFrom)), (a_foes, .inl (cyI, 7, .inl a_f_foes)), (a_suitTable, .inl (cyI, 49, .inl a_f_suitTable)), (a_acts, .inl (cyI, 40, .inl a_f_acts))] s.heap := hP
  have hl := lv_entry ([.ref q0, .ref h0]) (n := 5) (Nat.le_of_ble_eq_true rfl)
  rw [lg_entry_eq]
  generalize (lg_sl ([.ref q0, .ref h0]) ++ List.replicate (5 - (lg_sl ([.ref q0, .ref h0])).length) Slot.unset).toArray = ls at hl ⊢
  have hl : lv_has ls 5 [(0, .ref q0), (1, .ref h0)] := hl
  obtain ⟨H, hHe⟩ : ∃ H, H = s.heap := ⟨_, rfl⟩
  have hP : va_P (dC, dI) vwCl [(q0, .inr (4, [.ref q_on, .ref q_row, .ref q_scr, .ref h0, .int q_pl])), (q_on, .inl (cyI, 1024, .inl q_f0)), (q_row, .inl (cyI, 7, .inl q_f1)), (q_scr, .inl (cyI, 7, .inl q_f2)), (h0, .inr (2, [.int a_pl, .int a_li, .int a_le, .int a_lc, .int a_ac, .int a_ng, .ref a_first, .ref a_now, .ref a_lawPlace, .ref a_lawOther, .ref a_lawEach, .ref a_lawFrom, .ref a_foes, .ref a_suitTable, .ref a_acts])), (a_first, .inl (cyI, 7, .inl a_f_first)), (a_now, .inl (cyI, 7, .inl a_f_now)), (a_lawPlace, .inl (cyI, 6, .inl a_f_lawPlace)), (a_lawOther, .inl (cyI, 6, .inl a_f_lawOther)), (a_lawEach, .inl (cyI, 6, .inl a_f_lawEach)), (a_lawFrom, .inl (cyI, 6, .inl a_f_lawFrom)), (a_foes, .inl (cyI, 7, .inl a_f_foes)), (a_suitTable, .inl (cyI, 49, .inl a_f_suitTable)), (a_acts, .inl (cyI, 40, .inl a_f_acts))] H := by rw [hHe]; exact hP
  have hS : va_S A s.heap H [] := by rw [hHe]; exact hS
  refine cv_heap hHe ?_
  obtain ⟨Q9, hQ9⟩ : ∃ Q9 : State → Prop, Q9 = MQ below (va_Qv (fun _ : Unit => True) (fun (_ : Unit) (t : State) => ∃ z0 : Int32, ∃ y1 : Nat → Int32, (0 ≤ z0.toInt ∧ z0.toInt ≤ 7) ∧ va_P (dC, dI) vwCl [(q0, .inr (4, [.ref q_on, .ref q_row, .ref q_scr, .ref h0, .int z0])), (q_on, .inl (cyI, 1024, .inl y1)), (q_row, .inl (cyI, 7, .inl q_f1)), (q_scr, .inl (cyI, 7, .inl q_f2)), (h0, .inr (2, [.int a_pl, .int a_li, .int a_le, .int a_lc, .int a_ac, .int a_ng, .ref a_first, .ref a_now, .ref a_lawPlace, .ref a_lawOther, .ref a_lawEach, .ref a_lawFrom, .ref a_foes, .ref a_suitTable, .ref a_acts])), (a_first, .inl (cyI, 7, .inl a_f_first)), (a_now, .inl (cyI, 7, .inl a_f_now)), (a_lawPlace, .inl (cyI, 6, .inl a_f_lawPlace)), (a_lawOther, .inl (cyI, 6, .inl a_f_lawOther)), (a_lawEach, .inl (cyI, 6, .inl a_f_lawEach)), (a_lawFrom, .inl (cyI, 6, .inl a_f_lawFrom)), (a_foes, .inl (cyI, 7, .inl a_f_foes)), (a_suitTable, .inl (cyI, 49, .inl a_f_suitTable)), (a_acts, .inl (cyI, 40, .inl a_f_acts))] t.heap ∧ va_D A [(q0, .inr (4, [.ref q_on, .ref q_row, .ref q_scr, .ref h0, .int z0])), (q_on, .inl (cyI, 1024, .inl y1)), (q_row, .inl (cyI, 7, .inl q_f1)), (q_scr, .inl (cyI, 7, .inl q_f2)), (h0, .inr (2, [.int a_pl, .int a_li, .int a_le, .int a_lc, .int a_ac, .int a_ng, .ref a_first, .ref a_now, .ref a_lawPlace, .ref a_lawOther, .ref a_lawEach, .ref a_lawFrom, .ref a_foes, .ref a_suitTable, .ref a_acts])), (a_first, .inl (cyI, 7, .inl a_f_first)), (a_now, .inl (cyI, 7, .inl a_f_now)), (a_lawPlace, .inl (cyI, 6, .inl a_f_lawPlace)), (a_lawOther, .inl (cyI, 6, .inl a_f_lawOther)), (a_lawEach, .inl (cyI, 6, .inl a_f_lawEach)), (a_lawFrom, .inl (cyI, 6, .inl a_f_lawFrom)), (a_foes, .inl (cyI, 7, .inl a_f_foes)), (a_suitTable, .inl (cyI, 49, .inl a_f_suitTable)), (a_acts, .inl (cyI, 40, .inl a_f_acts))]) A) ([.ref q0, .ref h0] : List Value).toArray s 0 0 A := ⟨_, rfl⟩
  rw [← hQ9]
  refine lv_aload_n hx hb dX4_prepare_0 rfl (lv_at hl 0 rfl) ?_
  refine lv_aload_n hx hb dX4_prepare_1 rfl (lv_at hl 1 rfl) ?_
  refine va_put (D := (dC, dI)) (ci := 4) (v := .ref h0) (ty := (.object "SwapTrophies$Hall")) (C := RX4) (T := TX4) (N := 5) hx hb hts uinX4 tyX4 tyX4_ok nmX4 hown hK hP hD hS 0 rfl rfl 3 (by decide) (hts _ wd_2_3) (fun _ h9 => h9) rfl (by decide +kernel) rfl rfl (Nat.le_of_ble_eq_true rfl) dX4_prepare_2 (fun H locs hP hD hS => ?_)
  have hP : va_P (dC, dI) vwCl [(q0, .inr (4, [.ref q_on, .ref q_row, .ref q_scr, .ref h0, .int q_pl])), (q_on, .inl (cyI, 1024, .inl q_f0)), (q_row, .inl (cyI, 7, .inl q_f1)), (q_scr, .inl (cyI, 7, .inl q_f2)), (h0, .inr (2, [.int a_pl, .int a_li, .int a_le, .int a_lc, .int a_ac, .int a_ng, .ref a_first, .ref a_now, .ref a_lawPlace, .ref a_lawOther, .ref a_lawEach, .ref a_lawFrom, .ref a_foes, .ref a_suitTable, .ref a_acts])), (a_first, .inl (cyI, 7, .inl a_f_first)), (a_now, .inl (cyI, 7, .inl a_f_now)), (a_lawPlace, .inl (cyI, 6, .inl a_f_lawPlace)), (a_lawOther, .inl (cyI, 6, .inl a_f_lawOther)), (a_lawEach, .inl (cyI, 6, .inl a_f_lawEach)), (a_lawFrom, .inl (cyI, 6, .inl a_f_lawFrom)), (a_foes, .inl (cyI, 7, .inl a_f_foes)), (a_suitTable, .inl (cyI, 49, .inl a_f_suitTable)), (a_acts, .inl (cyI, 40, .inl a_f_acts))] H := hP
  have hD : va_D A [(q0, .inr (4, [.ref q_on, .ref q_row, .ref q_scr, .ref h0, .int q_pl])), (q_on, .inl (cyI, 1024, .inl q_f0)), (q_row, .inl (cyI, 7, .inl q_f1)), (q_scr, .inl (cyI, 7, .inl q_f2)), (h0, .inr (2, [.int a_pl, .int a_li, .int a_le, .int a_lc, .int a_ac, .int a_ng, .ref a_first, .ref a_now, .ref a_lawPlace, .ref a_lawOther, .ref a_lawEach, .ref a_lawFrom, .ref a_foes, .ref a_suitTable, .ref a_acts])), (a_first, .inl (cyI, 7, .inl a_f_first)), (a_now, .inl (cyI, 7, .inl a_f_now)), (a_lawPlace, .inl (cyI, 6, .inl a_f_lawPlace)), (a_lawOther, .inl (cyI, 6, .inl a_f_lawOther)), (a_lawEach, .inl (cyI, 6, .inl a_f_lawEach)), (a_lawFrom, .inl (cyI, 6, .inl a_f_lawFrom)), (a_foes, .inl (cyI, 7, .inl a_f_foes)), (a_suitTable, .inl (cyI, 49, .inl a_f_suitTable)), (a_acts, .inl (cyI, 40, .inl a_f_acts))] := hD
  refine lv_aload_n hx hb dX4_prepare_5 rfl (lv_at hl 0 rfl) ?_
  refine lv_aload_n hx hb dX4_prepare_6 rfl (lv_at hl 1 rfl) ?_
  refine va_get (D := (dC, dI)) (ci := 2) (v := .int a_pl) (C := RX2) (T := TX2) (N := 15) hx hb hts uinX2 hown hK hP 4 rfl rfl 0 (by decide) (hts _ wd_1_79) (fun _ h9 => h9) rfl dX4_prepare_7 ?_
  refine va_put (D := (dC, dI)) (ci := 4) (v := .int a_pl) (ty := .int) (C := RX4) (T := TX4) (N := 5) hx hb hts uinX4 tyX4 tyX4_ok nmX4 hown hK hP hD hS 0 rfl rfl 4 (by decide) (hts _ wd_2_4) (fun _ h9 => h9) rfl (by decide +kernel) rfl rfl (Nat.le_of_ble_eq_true rfl) dX4_prepare_10 (fun H locs hP hD hS => ?_)
  have hP : va_P (dC, dI) vwCl [(q0, .inr (4, [.ref q_on, .ref q_row, .ref q_scr, .ref h0, .int a_pl])), (q_on, .inl (cyI, 1024, .inl q_f0)), (q_row, .inl (cyI, 7, .inl q_f1)), (q_scr, .inl (cyI, 7, .inl q_f2)), (h0, .inr (2, [.int a_pl, .int a_li, .int a_le, .int a_lc, .int a_ac, .int a_ng, .ref a_first, .ref a_now, .ref a_lawPlace, .ref a_lawOther, .ref a_lawEach, .ref a_lawFrom, .ref a_foes, .ref a_suitTable, .ref a_acts])), (a_first, .inl (cyI, 7, .inl a_f_first)), (a_now, .inl (cyI, 7, .inl a_f_now)), (a_lawPlace, .inl (cyI, 6, .inl a_f_lawPlace)), (a_lawOther, .inl (cyI, 6, .inl a_f_lawOther)), (a_lawEach, .inl (cyI, 6, .inl a_f_lawEach)), (a_lawFrom, .inl (cyI, 6, .inl a_f_lawFrom)), (a_foes, .inl (cyI, 7, .inl a_f_foes)), (a_suitTable, .inl (cyI, 49, .inl a_f_suitTable)), (a_acts, .inl (cyI, 40, .inl a_f_acts))] H := hP
  have hD : va_D A [(q0, .inr (4, [.ref q_on, .ref q_row, .ref q_scr, .ref h0, .int a_pl])), (q_on, .inl (cyI, 1024, .inl q_f0)), (q_row, .inl (cyI, 7, .inl q_f1)), (q_scr, .inl (cyI, 7, .inl q_f2)), (h0, .inr (2, [.int a_pl, .int a_li, .int a_le, .int a_lc, .int a_ac, .int a_ng, .ref a_first, .ref a_now, .ref a_lawPlace, .ref a_lawOther, .ref a_lawEach, .ref a_lawFrom, .ref a_foes, .ref a_suitTable, .ref a_acts])), (a_first, .inl (cyI, 7, .inl a_f_first)), (a_now, .inl (cyI, 7, .inl a_f_now)), (a_lawPlace, .inl (cyI, 6, .inl a_f_lawPlace)), (a_lawOther, .inl (cyI, 6, .inl a_f_lawOther)), (a_lawEach, .inl (cyI, 6, .inl a_f_lawEach)), (a_lawFrom, .inl (cyI, 6, .inl a_f_lawFrom)), (a_foes, .inl (cyI, 7, .inl a_f_foes)), (a_suitTable, .inl (cyI, 49, .inl a_f_suitTable)), (a_acts, .inl (cyI, 40, .inl a_f_acts))] := hD
  refine lv_iconst (v := 1) hx hb dX4_prepare_13 (by decide) ?_
  refine lv_aload_n hx hb dX4_prepare_14 rfl (lv_at hl 0 rfl) ?_
  refine va_get (D := (dC, dI)) (ci := 4) (v := .int a_pl) (C := RX4) (T := TX4) (N := 5) hx hb hts uinX4 hown hK hP 0 rfl rfl 4 (by decide) (hts _ wd_2_4) (fun _ h9 => h9) rfl dX4_prepare_15 ?_
  refine lv_ishl hx hb dX4_prepare_18 ?_
  refine lv_topi (fun x_1 ex_1 => ?_)
  have fx_1 : 1 ≤ x_1.toInt ∧ x_1.toInt ≤ 128 := by rw [ex_1]; have q := cv_shl1 (y := a_pl) 0 7 (by decide) (by decide) (by omega) (by omega); omega
  refine lv_iconst (v := 1) hx hb dX4_prepare_19 (by decide) ?_
  refine lv_isub hx hb dX4_prepare_20 ?_
  refine lv_topi (fun x_2 ex_2 => ?_)
  have fx_2 : x_2.toInt = x_1.toInt - 1 := by rw [ex_2]; exact cv_subI (by have : (1 : Int32).toInt = 1 := rfl; omega) (by have : (1 : Int32).toInt = 1 := rfl; omega)
  refine lv_istore_n (lv' := [(2, .int x_2), (0, .ref q0), (1, .ref h0)]) hx hb dX4_prepare_21 rfl hl (by decide) rfl (fun ls hl => ?_)
  refine lv_iconst (v := 0) hx hb dX4_prepare_22 (by decide) ?_
  refine lv_istore_n (lv' := [(3, .int 0), (2, .int x_2), (0, .ref q0), (1, .ref h0)]) hx hb dX4_prepare_23 rfl hl (by decide) rfl (fun ls hl => ?_)
  have key_5 : ∀ (nkey_5 : Nat) (u_3 : Int32) (f_4 : Nat → Int32) (H : Heap) (locs : List Loc) (ls : Array Slot), (0 ≤ u_3.toInt ∧ u_3.toInt ≤ 7) → va_P (dC, dI) vwCl [(q0, .inr (4, [.ref q_on, .ref q_row, .ref q_scr, .ref h0, .int a_pl])), (q_on, .inl (cyI, 1024, .inl f_4)), (q_row, .inl (cyI, 7, .inl q_f1)), (q_scr, .inl (cyI, 7, .inl q_f2)), (h0, .inr (2, [.int a_pl, .int a_li, .int a_le, .int a_lc, .int a_ac, .int a_ng, .ref a_first, .ref a_now, .ref a_lawPlace, .ref a_lawOther, .ref a_lawEach, .ref a_lawFrom, .ref a_foes, .ref a_suitTable, .ref a_acts])), (a_first, .inl (cyI, 7, .inl a_f_first)), (a_now, .inl (cyI, 7, .inl a_f_now)), (a_lawPlace, .inl (cyI, 6, .inl a_f_lawPlace)), (a_lawOther, .inl (cyI, 6, .inl a_f_lawOther)), (a_lawEach, .inl (cyI, 6, .inl a_f_lawEach)), (a_lawFrom, .inl (cyI, 6, .inl a_f_lawFrom)), (a_foes, .inl (cyI, 7, .inl a_f_foes)), (a_suitTable, .inl (cyI, 49, .inl a_f_suitTable)), (a_acts, .inl (cyI, 40, .inl a_f_acts))] H → va_D A [(q0, .inr (4, [.ref q_on, .ref q_row, .ref q_scr, .ref h0, .int a_pl])), (q_on, .inl (cyI, 1024, .inl f_4)), (q_row, .inl (cyI, 7, .inl q_f1)), (q_scr, .inl (cyI, 7, .inl q_f2)), (h0, .inr (2, [.int a_pl, .int a_li, .int a_le, .int a_lc, .int a_ac, .int a_ng, .ref a_first, .ref a_now, .ref a_lawPlace, .ref a_lawOther, .ref a_lawEach, .ref a_lawFrom, .ref a_foes, .ref a_suitTable, .ref a_acts])), (a_first, .inl (cyI, 7, .inl a_f_first)), (a_now, .inl (cyI, 7, .inl a_f_now)), (a_lawPlace, .inl (cyI, 6, .inl a_f_lawPlace)), (a_lawOther, .inl (cyI, 6, .inl a_f_lawOther)), (a_lawEach, .inl (cyI, 6, .inl a_f_lawEach)), (a_lawFrom, .inl (cyI, 6, .inl a_f_lawFrom)), (a_foes, .inl (cyI, 7, .inl a_f_foes)), (a_suitTable, .inl (cyI, 49, .inl a_f_suitTable)), (a_acts, .inl (cyI, 40, .inl a_f_acts))] → va_S A s.heap H locs → lv_has ls 5 [(3, .int u_3), (2, .int x_2), (0, .ref q0), (1, .ref h0)] → (a_pl.toInt - u_3.toInt).toNat < nkey_5 → W p l e ({ frames := 2, cells := 0, slots := 0, locals := 86 }) s m ([.ref q0, .ref h0] : List Value).toArray below meth c H locs 0 0 Q9 (F0 m 24 ls []) := by
    intro nkey_5
    induction nkey_5 with
    | zero => intro u_3 f_4 H locs ls hu_3 hP hD hS hl hnkey_5; exact absurd hnkey_5 (Nat.not_lt_zero _)
    | succ nkey_5 ihkey_5 =>
      intro u_3 f_4 H locs ls hu_3 hP hD hS hl hnkey_5
      refine lv_iload_n hx hb dX4_prepare_24 rfl (lv_at hl 0 rfl) ?_
      refine lv_aload_n hx hb dX4_prepare_25 rfl (lv_at hl 2 rfl) ?_
      refine va_get (D := (dC, dI)) (ci := 4) (v := .int a_pl) (C := RX4) (T := TX4) (N := 5) hx hb hts uinX4 hown hK hP 0 rfl rfl 4 (by decide) (hts _ wd_2_4) (fun _ h9 => h9) rfl dX4_prepare_26 ?_
      refine lv_icmp_ge (tgt := 49) hx hb dX4_prepare_29 (by decide) (fun c_6 => ?_) (fun c_6 => ?_)
      · have c_6 : a_pl.toInt ≤ u_3.toInt := cv_le c_6
        refine lv_iload_n hx hb dX4_prepare_49 rfl (lv_at hl 1 rfl) ?_
        refine lv_iconst (v := 1) hx hb dX4_prepare_50 (by decide) ?_
        refine lv_isub hx hb dX4_prepare_51 ?_
        refine lv_topi (fun x_7 ex_7 => ?_)
        have fx_7 : x_7.toInt = x_2.toInt - 1 := by rw [ex_7]; exact cv_subI (by have : (1 : Int32).toInt = 1 := rfl; omega) (by have : (1 : Int32).toInt = 1 := rfl; omega)
        refine lv_istore_n (lv' := [(3, .int x_7), (2, .int x_2), (0, .ref q0), (1, .ref h0)]) hx hb dX4_prepare_52 rfl hl (by decide) rfl (fun ls hl => ?_)
        have key_10 : ∀ (nkey_10 : Nat) (u_8 : Int32) (f_9 : Nat → Int32) (H : Heap) (locs : List Loc) (ls : Array Slot), ((-1) ≤ u_8.toInt ∧ u_8.toInt ≤ 126) → va_P (dC, dI) vwCl [(q0, .inr (4, [.ref q_on, .ref q_row, .ref q_scr, .ref h0, .int a_pl])), (q_on, .inl (cyI, 1024, .inl f_9)), (q_row, .inl (cyI, 7, .inl q_f1)), (q_scr, .inl (cyI, 7, .inl q_f2)), (h0, .inr (2, [.int a_pl, .int a_li, .int a_le, .int a_lc, .int a_ac, .int a_ng, .ref a_first, .ref a_now, .ref a_lawPlace, .ref a_lawOther, .ref a_lawEach, .ref a_lawFrom, .ref a_foes, .ref a_suitTable, .ref a_acts])), (a_first, .inl (cyI, 7, .inl a_f_first)), (a_now, .inl (cyI, 7, .inl a_f_now)), (a_lawPlace, .inl (cyI, 6, .inl a_f_lawPlace)), (a_lawOther, .inl (cyI, 6, .inl a_f_lawOther)), (a_lawEach, .inl (cyI, 6, .inl a_f_lawEach)), (a_lawFrom, .inl (cyI, 6, .inl a_f_lawFrom)), (a_foes, .inl (cyI, 7, .inl a_f_foes)), (a_suitTable, .inl (cyI, 49, .inl a_f_suitTable)), (a_acts, .inl (cyI, 40, .inl a_f_acts))] H → va_D A [(q0, .inr (4, [.ref q_on, .ref q_row, .ref q_scr, .ref h0, .int a_pl])), (q_on, .inl (cyI, 1024, .inl f_9)), (q_row, .inl (cyI, 7, .inl q_f1)), (q_scr, .inl (cyI, 7, .inl q_f2)), (h0, .inr (2, [.int a_pl, .int a_li, .int a_le, .int a_lc, .int a_ac, .int a_ng, .ref a_first, .ref a_now, .ref a_lawPlace, .ref a_lawOther, .ref a_lawEach, .ref a_lawFrom, .ref a_foes, .ref a_suitTable, .ref a_acts])), (a_first, .inl (cyI, 7, .inl a_f_first)), (a_now, .inl (cyI, 7, .inl a_f_now)), (a_lawPlace, .inl (cyI, 6, .inl a_f_lawPlace)), (a_lawOther, .inl (cyI, 6, .inl a_f_lawOther)), (a_lawEach, .inl (cyI, 6, .inl a_f_lawEach)), (a_lawFrom, .inl (cyI, 6, .inl a_f_lawFrom)), (a_foes, .inl (cyI, 7, .inl a_f_foes)), (a_suitTable, .inl (cyI, 49, .inl a_f_suitTable)), (a_acts, .inl (cyI, 40, .inl a_f_acts))] → va_S A s.heap H locs → lv_has ls 5 [(3, .int u_8), (2, .int x_2), (0, .ref q0), (1, .ref h0)] → (u_8.toInt - 0).toNat < nkey_10 → W p l e ({ frames := 2, cells := 0, slots := 0, locals := 86 }) s m ([.ref q0, .ref h0] : List Value).toArray below meth c H locs 0 0 Q9 (F0 m 53 ls []) := by
          intro nkey_10
          induction nkey_10 with
          | zero => intro u_8 f_9 H locs ls hu_8 hP hD hS hl hnkey_10; exact absurd hnkey_10 (Nat.not_lt_zero _)
          | succ nkey_10 ihkey_10 =>
            intro u_8 f_9 H locs ls hu_8 hP hD hS hl hnkey_10
            refine lv_iload_n hx hb dX4_prepare_53 rfl (lv_at hl 0 rfl) ?_
            refine lv_if_le (tgt := 109) hx hb dX4_prepare_54 (by decide) (fun c_11 => ?_) (fun c_11 => ?_)
            · have c_11 : u_8.toInt ≤ 0 := cv_le c_11
              rw [hQ9]
              have hP9 := hP.sub (ws' := [(q0, .inr (4, [.ref q_on, .ref q_row, .ref q_scr, .ref h0, .int a_pl])), (q_on, .inl (cyI, 1024, .inl f_9)), (q_row, .inl (cyI, 7, .inl q_f1)), (q_scr, .inl (cyI, 7, .inl q_f2)), (h0, .inr (2, [.int a_pl, .int a_li, .int a_le, .int a_lc, .int a_ac, .int a_ng, .ref a_first, .ref a_now, .ref a_lawPlace, .ref a_lawOther, .ref a_lawEach, .ref a_lawFrom, .ref a_foes, .ref a_suitTable, .ref a_acts])), (a_first, .inl (cyI, 7, .inl a_f_first)), (a_now, .inl (cyI, 7, .inl a_f_now)), (a_lawPlace, .inl (cyI, 6, .inl a_f_lawPlace)), (a_lawOther, .inl (cyI, 6, .inl a_f_lawOther)), (a_lawEach, .inl (cyI, 6, .inl a_f_lawEach)), (a_lawFrom, .inl (cyI, 6, .inl a_f_lawFrom)), (a_foes, .inl (cyI, 7, .inl a_f_foes)), (a_suitTable, .inl (cyI, 49, .inl a_f_suitTable)), (a_acts, .inl (cyI, 40, .inl a_f_acts))]) [0, 1, 2, 3, 4, 5, 6, 7, 8, 9, 10, 11, 12, 13] rfl
              have hD9 := hD.sub (ws' := [(q0, .inr (4, [.ref q_on, .ref q_row, .ref q_scr, .ref h0, .int a_pl])), (q_on, .inl (cyI, 1024, .inl f_9)), (q_row, .inl (cyI, 7, .inl q_f1)), (q_scr, .inl (cyI, 7, .inl q_f2)), (h0, .inr (2, [.int a_pl, .int a_li, .int a_le, .int a_lc, .int a_ac, .int a_ng, .ref a_first, .ref a_now, .ref a_lawPlace, .ref a_lawOther, .ref a_lawEach, .ref a_lawFrom, .ref a_foes, .ref a_suitTable, .ref a_acts])), (a_first, .inl (cyI, 7, .inl a_f_first)), (a_now, .inl (cyI, 7, .inl a_f_now)), (a_lawPlace, .inl (cyI, 6, .inl a_f_lawPlace)), (a_lawOther, .inl (cyI, 6, .inl a_f_lawOther)), (a_lawEach, .inl (cyI, 6, .inl a_f_lawEach)), (a_lawFrom, .inl (cyI, 6, .inl a_f_lawFrom)), (a_foes, .inl (cyI, 7, .inl a_f_foes)), (a_suitTable, .inl (cyI, 49, .inl a_f_suitTable)), (a_acts, .inl (cyI, 40, .inl a_f_acts))]) [0, 1, 2, 3, 4, 5, 6, 7, 8, 9, 10, 11, 12, 13] (by decide) rfl
              exact W.vret hx hb hr (fun t ht hW => ⟨⟨(), rfl, trivial, ⟨a_pl, f_9, (by omega), by rw [ht]; exact hP9, hD9⟩⟩, hS.F ht⟩) hS.2.2 dX4_prepare_109
            · have c_11 : 0 < u_8.toInt := cv_nle c_11
              refine lv_iconst (v := 0) hx hb dX4_prepare_57 (by decide) ?_
              refine lv_istore (lv' := [(4, .int 0), (3, .int u_8), (2, .int x_2), (0, .ref q0), (1, .ref h0)]) hx hb dX4_prepare_58 hl (by decide) rfl (fun ls hl => ?_)
              have key_14 : ∀ (nkey_14 : Nat) (u_12 : Int32) (f_13 : Nat → Int32) (H : Heap) (locs : List Loc) (ls : Array Slot), (0 ≤ u_12.toInt ∧ u_12.toInt ≤ 7) → va_P (dC, dI) vwCl [(q0, .inr (4, [.ref q_on, .ref q_row, .ref q_scr, .ref h0, .int a_pl])), (q_on, .inl (cyI, 1024, .inl f_13)), (q_row, .inl (cyI, 7, .inl q_f1)), (q_scr, .inl (cyI, 7, .inl q_f2)), (h0, .inr (2, [.int a_pl, .int a_li, .int a_le, .int a_lc, .int a_ac, .int a_ng, .ref a_first, .ref a_now, .ref a_lawPlace, .ref a_lawOther, .ref a_lawEach, .ref a_lawFrom, .ref a_foes, .ref a_suitTable, .ref a_acts])), (a_first, .inl (cyI, 7, .inl a_f_first)), (a_now, .inl (cyI, 7, .inl a_f_now)), (a_lawPlace, .inl (cyI, 6, .inl a_f_lawPlace)), (a_lawOther, .inl (cyI, 6, .inl a_f_lawOther)), (a_lawEach, .inl (cyI, 6, .inl a_f_lawEach)), (a_lawFrom, .inl (cyI, 6, .inl a_f_lawFrom)), (a_foes, .inl (cyI, 7, .inl a_f_foes)), (a_suitTable, .inl (cyI, 49, .inl a_f_suitTable)), (a_acts, .inl (cyI, 40, .inl a_f_acts))] H → va_D A [(q0, .inr (4, [.ref q_on, .ref q_row, .ref q_scr, .ref h0, .int a_pl])), (q_on, .inl (cyI, 1024, .inl f_13)), (q_row, .inl (cyI, 7, .inl q_f1)), (q_scr, .inl (cyI, 7, .inl q_f2)), (h0, .inr (2, [.int a_pl, .int a_li, .int a_le, .int a_lc, .int a_ac, .int a_ng, .ref a_first, .ref a_now, .ref a_lawPlace, .ref a_lawOther, .ref a_lawEach, .ref a_lawFrom, .ref a_foes, .ref a_suitTable, .ref a_acts])), (a_first, .inl (cyI, 7, .inl a_f_first)), (a_now, .inl (cyI, 7, .inl a_f_now)), (a_lawPlace, .inl (cyI, 6, .inl a_f_lawPlace)), (a_lawOther, .inl (cyI, 6, .inl a_f_lawOther)), (a_lawEach, .inl (cyI, 6, .inl a_f_lawEach)), (a_lawFrom, .inl (cyI, 6, .inl a_f_lawFrom)), (a_foes, .inl (cyI, 7, .inl a_f_foes)), (a_suitTable, .inl (cyI, 49, .inl a_f_suitTable)), (a_acts, .inl (cyI, 40, .inl a_f_acts))] → va_S A s.heap H locs → lv_has ls 5 [(4, .int u_12), (3, .int u_8), (2, .int x_2), (0, .ref q0), (1, .ref h0)] → (a_pl.toInt - u_12.toInt).toNat < nkey_14 → W p l e ({ frames := 2, cells := 0, slots := 0, locals := 86 }) s m ([.ref q0, .ref h0] : List Value).toArray below meth c H locs 0 0 Q9 (F0 m 60 ls []) := by
                intro nkey_14
                induction nkey_14 with
                | zero => intro u_12 f_13 H locs ls hu_12 hP hD hS hl hnkey_14; exact absurd hnkey_14 (Nat.not_lt_zero _)
                | succ nkey_14 ihkey_14 =>
                  intro u_12 f_13 H locs ls hu_12 hP hD hS hl hnkey_14
                  refine lv_iload hx hb dX4_prepare_60 (lv_at hl 0 rfl) ?_
                  refine lv_aload_n hx hb dX4_prepare_62 rfl (lv_at hl 3 rfl) ?_
                  refine va_get (D := (dC, dI)) (ci := 4) (v := .int a_pl) (C := RX4) (T := TX4) (N := 5) hx hb hts uinX4 hown hK hP 0 rfl rfl 4 (by decide) (hts _ wd_2_4) (fun _ h9 => h9) rfl dX4_prepare_63 ?_
                  refine lv_icmp_ge (tgt := 103) hx hb dX4_prepare_66 (by decide) (fun c_15 => ?_) (fun c_15 => ?_)
                  · have c_15 : a_pl.toInt ≤ u_12.toInt := cv_le c_15
                    obtain ⟨x_16, ex_16⟩ : ∃ y : Int32, y = u_8 + (-1) := ⟨_, rfl⟩
                    refine lv_iinc (v := x_16) (lv' := [(3, .int x_16), (4, .int u_12), (2, .int x_2), (0, .ref q0), (1, .ref h0)]) hx hb dX4_prepare_103 hl (k := 1) rfl (by rw [ex_16]; rfl) (by decide) rfl (fun ls hl => ?_)
                    have fx_16 : x_16.toInt = u_8.toInt + (-1) := by rw [ex_16]; exact cv_addI (by have : ((-1) : Int32).toInt = (-1) := rfl; omega) (by have : ((-1) : Int32).toInt = (-1) := rfl; omega)
                    refine lv_goto (tgt := 53) hx hb dX4_prepare_106 (by decide) ?_
                    exact ihkey_10 x_16 f_13 _ _ _ (by omega) hP hD hS (lv_sub hl [0, 2, 3, 4] rfl) (by omega)
                  · have c_15 : u_12.toInt < a_pl.toInt := cv_nle c_15
                    refine lv_iload_n hx hb dX4_prepare_69 rfl (lv_at hl 1 rfl) ?_
                    refine lv_iload hx hb dX4_prepare_70 (lv_at hl 0 rfl) ?_
                    refine lv_ishr hx hb dX4_prepare_72 ?_
                    refine lv_topi (fun x_17 ex_17 => ?_)
                    have fx_17 : 0 ≤ x_17.toInt ∧ x_17.toInt ≤ u_8.toInt := by rw [ex_17]; exact cv_shr (by omega)
                    refine lv_iconst (v := 1) hx hb dX4_prepare_73 (by decide) ?_
                    refine lv_iand hx hb dX4_prepare_74 ?_
                    refine lv_topi (fun x_18 ex_18 => ?_)
                    have fx_18 : 0 ≤ x_18.toInt ∧ x_18.toInt ≤ 1 := by rw [ex_18]; exact cv_andR (by decide) (by decide)
                    have join_20 : ∀ (f_19 : Nat → Int32) (H : Heap) (locs : List Loc) (ls : Array Slot), va_P (dC, dI) vwCl [(q0, .inr (4, [.ref q_on, .ref q_row, .ref q_scr, .ref h0, .int a_pl])), (q_on, .inl (cyI, 1024, .inl f_19)), (q_row, .inl (cyI, 7, .inl q_f1)), (q_scr, .inl (cyI, 7, .inl q_f2)), (h0, .inr (2, [.int a_pl, .int a_li, .int a_le, .int a_lc, .int a_ac, .int a_ng, .ref a_first, .ref a_now, .ref a_lawPlace, .ref a_lawOther, .ref a_lawEach, .ref a_lawFrom, .ref a_foes, .ref a_suitTable, .ref a_acts])), (a_first, .inl (cyI, 7, .inl a_f_first)), (a_now, .inl (cyI, 7, .inl a_f_now)), (a_lawPlace, .inl (cyI, 6, .inl a_f_lawPlace)), (a_lawOther, .inl (cyI, 6, .inl a_f_lawOther)), (a_lawEach, .inl (cyI, 6, .inl a_f_lawEach)), (a_lawFrom, .inl (cyI, 6, .inl a_f_lawFrom)), (a_foes, .inl (cyI, 7, .inl a_f_foes)), (a_suitTable, .inl (cyI, 49, .inl a_f_suitTable)), (a_acts, .inl (cyI, 40, .inl a_f_acts))] H → va_D A [(q0, .inr (4, [.ref q_on, .ref q_row, .ref q_scr, .ref h0, .int a_pl])), (q_on, .inl (cyI, 1024, .inl f_19)), (q_row, .inl (cyI, 7, .inl q_f1)), (q_scr, .inl (cyI, 7, .inl q_f2)), (h0, .inr (2, [.int a_pl, .int a_li, .int a_le, .int a_lc, .int a_ac, .int a_ng, .ref a_first, .ref a_now, .ref a_lawPlace, .ref a_lawOther, .ref a_lawEach, .ref a_lawFrom, .ref a_foes, .ref a_suitTable, .ref a_acts])), (a_first, .inl (cyI, 7, .inl a_f_first)), (a_now, .inl (cyI, 7, .inl a_f_now)), (a_lawPlace, .inl (cyI, 6, .inl a_f_lawPlace)), (a_lawOther, .inl (cyI, 6, .inl a_f_lawOther)), (a_lawEach, .inl (cyI, 6, .inl a_f_lawEach)), (a_lawFrom, .inl (cyI, 6, .inl a_f_lawFrom)), (a_foes, .inl (cyI, 7, .inl a_f_foes)), (a_suitTable, .inl (cyI, 49, .inl a_f_suitTable)), (a_acts, .inl (cyI, 40, .inl a_f_acts))] → va_S A s.heap H locs → lv_has ls 5 [(4, .int u_12), (3, .int u_8), (2, .int x_2), (0, .ref q0), (1, .ref h0)] → W p l e ({ frames := 2, cells := 0, slots := 0, locals := 86 }) s m ([.ref q0, .ref h0] : List Value).toArray below meth c H locs 0 0 Q9 (F0 m 97 ls []) := by
                      intro f_19 H locs ls hP hD hS hl
                      obtain ⟨x_21, ex_21⟩ : ∃ y : Int32, y = u_12 + 1 := ⟨_, rfl⟩
                      refine lv_iinc (v := x_21) (lv' := [(4, .int x_21), (3, .int u_8), (2, .int x_2), (0, .ref q0), (1, .ref h0)]) hx hb dX4_prepare_97 hl (k := 0) rfl (by rw [ex_21]; rfl) (by decide) rfl (fun ls hl => ?_)
                      have fx_21 : x_21.toInt = u_12.toInt + 1 := by rw [ex_21]; exact cv_addI (by have : (1 : Int32).toInt = 1 := rfl; omega) (by have : (1 : Int32).toInt = 1 := rfl; omega)
                      refine lv_goto (tgt := 60) hx hb dX4_prepare_100 (by decide) ?_
                      exact ihkey_14 x_21 f_19 _ _ _ (by omega) hP hD hS (lv_sub hl [0, 1, 2, 3, 4] rfl) (by omega)
                    refine lv_if_eq (tgt := 97) hx hb dX4_prepare_75 (by decide) (fun c_22 => ?_) (fun c_22 => ?_)
                    · have c_22 : x_18.toInt = 0 := cv_eq c_22
                      exact join_20 f_13 _ _ _ hP hD hS (lv_sub hl [0, 1, 2, 3, 4] rfl)
                    · have c_22 : x_18.toInt ≠ 0 := cv_ne c_22
                      refine lv_aload_n hx hb dX4_prepare_78 rfl (lv_at hl 3 rfl) ?_
                      refine va_get (D := (dC, dI)) (ci := 4) (v := .ref q_on) (C := RX4) (T := TX4) (N := 5) hx hb hts uinX4 hown hK hP 0 rfl rfl 0 (by decide) (hts _ wd_2_0) (fun _ h9 => h9) rfl dX4_prepare_79 ?_
                      refine lv_iload_n hx hb dX4_prepare_82 rfl (lv_at hl 1 rfl) ?_
                      refine lv_iconst (v := 3) hx hb dX4_prepare_83 (by decide) ?_
                      refine lv_ishl hx hb dX4_prepare_84 ?_
                      refine lv_topi (fun x_23 ex_23 => ?_)
                      have fx_23 : x_23.toInt = u_8.toInt * 8 := by rw [ex_23]; have q := cv_shlc (x := u_8) (s := 3) 3 (by decide) (by omega) (by omega); omega
                      refine lv_iload hx hb dX4_prepare_85 (lv_at hl 0 rfl) ?_
                      refine lv_ior hx hb dX4_prepare_87 ?_
                      refine lv_topi (fun x_24 ex_24 => ?_)
                      have fx_24 : 0 ≤ x_24.toInt ∧ x_24.toInt ≤ 1023 := by rw [ex_24]; have q := cv_or (x := x_23) (y := u_12) 10 (by decide) (by omega) (by omega) (by omega) (by omega); omega
                      refine lv_aload_n hx hb dX4_prepare_88 rfl (lv_at hl 3 rfl) ?_
                      refine lv_aload_n hx hb dX4_prepare_89 rfl (lv_at hl 4 rfl) ?_
                      refine lv_iload_n hx hb dX4_prepare_90 rfl (lv_at hl 1 rfl) ?_
                      refine lv_iload hx hb dX4_prepare_91 (lv_at hl 0 rfl) ?_
                      have hPc := hP.sub (ws' := [(q0, .inr (4, [.ref q_on, .ref q_row, .ref q_scr, .ref h0, .int a_pl])), (q_on, .inl (cyI, 1024, .inl f_13)), (q_row, .inl (cyI, 7, .inl q_f1)), (q_scr, .inl (cyI, 7, .inl q_f2)), (h0, .inr (2, [.int a_pl, .int a_li, .int a_le, .int a_lc, .int a_ac, .int a_ng, .ref a_first, .ref a_now, .ref a_lawPlace, .ref a_lawOther, .ref a_lawEach, .ref a_lawFrom, .ref a_foes, .ref a_suitTable, .ref a_acts])), (a_first, .inl (cyI, 7, .inl a_f_first)), (a_now, .inl (cyI, 7, .inl a_f_now)), (a_lawPlace, .inl (cyI, 6, .inl a_f_lawPlace)), (a_lawOther, .inl (cyI, 6, .inl a_f_lawOther)), (a_lawEach, .inl (cyI, 6, .inl a_f_lawEach)), (a_lawFrom, .inl (cyI, 6, .inl a_f_lawFrom)), (a_foes, .inl (cyI, 7, .inl a_f_foes)), (a_suitTable, .inl (cyI, 49, .inl a_f_suitTable)), (a_acts, .inl (cyI, 40, .inl a_f_acts))]) [0, 1, 2, 3, 4, 5, 6, 7, 8, 9, 10, 11, 12, 13] rfl
                      have hKc := hK.sub (tys' := [(cyI, .int), (cyB, .byte), (cyJ, .long), (cyZ, .boolean), (cyH, .object RX2), (cyN, .array .long)]) [0, 1, 2, 3, 4, 5] rfl
                      refine vp_callSi (va_Run.run (va_runV (As := [.ref h0, .int u_8, .int u_12]) (rest := [.int x_24, .ref q_on]) ⟨hx, hb, hml, hown, hts⟩ (n_sumBehind l dC dI cyI cyB cyJ cyZ cyH cyN q0 q_on q_row q_scr a_pl f_13 q_f1 q_f2 h0 a_first a_now a_lawPlace a_lawOther a_lawEach a_lawFrom a_foes a_suitTable a_acts a_pl a_li a_le a_lc a_ac a_ng a_f_first a_f_now a_f_lawPlace a_f_lawOther a_f_lawEach a_f_lawFrom a_f_foes a_f_suitTable a_f_acts u_8 u_12 g0 g1 g2 g3 g4 g5 g6 (by omega) (by omega) (by omega) (by omega) (by omega) (by omega)) (cwV 3 hts (gdV wd_5_14 wd_5_16 wd_s2_15 wd_1_7 wd_5_17) rfl rfl rfl (by decide +kernel) ⟨Nat.le_of_ble_eq_true rfl, Nat.le_of_ble_eq_true rfl⟩) ⟨fun a U g mk q => by obtain ⟨q0, qP, qK⟩ := q; exact ⟨q0, qP, va_K.moved (u := U) (U := U.calling g mk a) (Vm.Alike.refl U.vm) qK⟩, va_recv hKc hPc (ci := 4) (q0 := 0) rfl rfl, fun U hU hW => ⟨rfl, by rw [hU]; exact hPc, va_K.moved hW.alike hKc⟩⟩ rfl rfl hl.1 rfl (lv_room (Nat.le_of_ble_eq_true rfl)) dX4_prepare_93 ⟨Nat.le_of_ble_eq_true rfl, Nat.le_of_ble_eq_true rfl⟩)) (fun r_25 hw => ?_)
                      refine va_iast hx hb hK hP hD hS 1 0 rfl rfl (vp_in_iff.mpr (by omega)) dX4_prepare_96 (fun H locs hP hD hS => ?_)
                      obtain ⟨f_26, ef_26⟩ : ∃ z9 : Nat → Int32, z9 = upd f_13 x_24.toNatClampNeg r_25 := ⟨_, rfl⟩
                      rw [← ef_26] at hP hD
                      have hP : va_P (dC, dI) vwCl [(q0, .inr (4, [.ref q_on, .ref q_row, .ref q_scr, .ref h0, .int a_pl])), (q_on, .inl (cyI, 1024, .inl f_26)), (q_row, .inl (cyI, 7, .inl q_f1)), (q_scr, .inl (cyI, 7, .inl q_f2)), (h0, .inr (2, [.int a_pl, .int a_li, .int a_le, .int a_lc, .int a_ac, .int a_ng, .ref a_first, .ref a_now, .ref a_lawPlace, .ref a_lawOther, .ref a_lawEach, .ref a_lawFrom, .ref a_foes, .ref a_suitTable, .ref a_acts])), (a_first, .inl (cyI, 7, .inl a_f_first)), (a_now, .inl (cyI, 7, .inl a_f_now)), (a_lawPlace, .inl (cyI, 6, .inl a_f_lawPlace)), (a_lawOther, .inl (cyI, 6, .inl a_f_lawOther)), (a_lawEach, .inl (cyI, 6, .inl a_f_lawEach)), (a_lawFrom, .inl (cyI, 6, .inl a_f_lawFrom)), (a_foes, .inl (cyI, 7, .inl a_f_foes)), (a_suitTable, .inl (cyI, 49, .inl a_f_suitTable)), (a_acts, .inl (cyI, 40, .inl a_f_acts))] H := hP
                      have hD : va_D A [(q0, .inr (4, [.ref q_on, .ref q_row, .ref q_scr, .ref h0, .int a_pl])), (q_on, .inl (cyI, 1024, .inl f_26)), (q_row, .inl (cyI, 7, .inl q_f1)), (q_scr, .inl (cyI, 7, .inl q_f2)), (h0, .inr (2, [.int a_pl, .int a_li, .int a_le, .int a_lc, .int a_ac, .int a_ng, .ref a_first, .ref a_now, .ref a_lawPlace, .ref a_lawOther, .ref a_lawEach, .ref a_lawFrom, .ref a_foes, .ref a_suitTable, .ref a_acts])), (a_first, .inl (cyI, 7, .inl a_f_first)), (a_now, .inl (cyI, 7, .inl a_f_now)), (a_lawPlace, .inl (cyI, 6, .inl a_f_lawPlace)), (a_lawOther, .inl (cyI, 6, .inl a_f_lawOther)), (a_lawEach, .inl (cyI, 6, .inl a_f_lawEach)), (a_lawFrom, .inl (cyI, 6, .inl a_f_lawFrom)), (a_foes, .inl (cyI, 7, .inl a_f_foes)), (a_suitTable, .inl (cyI, 49, .inl a_f_suitTable)), (a_acts, .inl (cyI, 40, .inl a_f_acts))] := hD
                      exact join_20 f_26 _ _ _ hP hD hS (lv_sub hl [0, 1, 2, 3, 4] rfl)
              exact key_14 _ 0 f_9 _ _ _ (by decide) hP hD hS (lv_sub hl [0, 1, 2, 3, 4] rfl) (Nat.lt_succ_self _)
        exact key_10 _ x_7 f_4 _ _ _ (by omega) hP hD hS (lv_sub hl [0, 1, 2, 3] rfl) (Nat.lt_succ_self _)
      · have c_6 : u_3.toInt < a_pl.toInt := cv_nle c_6
        refine lv_aload_n hx hb dX4_prepare_32 rfl (lv_at hl 2 rfl) ?_
        refine va_get (D := (dC, dI)) (ci := 4) (v := .ref q_on) (C := RX4) (T := TX4) (N := 5) hx hb hts uinX4 hown hK hP 0 rfl rfl 0 (by decide) (hts _ wd_2_0) (fun _ h9 => h9) rfl dX4_prepare_33 ?_
        refine lv_iload_n hx hb dX4_prepare_36 rfl (lv_at hl 1 rfl) ?_
        refine lv_iconst (v := 3) hx hb dX4_prepare_37 (by decide) ?_
        refine lv_ishl hx hb dX4_prepare_38 ?_
        refine lv_topi (fun x_27 ex_27 => ?_)
        have fx_27 : x_27.toInt = x_2.toInt * 8 := by rw [ex_27]; have q := cv_shlc (x := x_2) (s := 3) 3 (by decide) (by omega) (by omega); omega
        refine lv_iload_n hx hb dX4_prepare_39 rfl (lv_at hl 0 rfl) ?_
        refine lv_ior hx hb dX4_prepare_40 ?_
        refine lv_topi (fun x_28 ex_28 => ?_)
        have fx_28 : 0 ≤ x_28.toInt ∧ x_28.toInt ≤ 1023 := by rw [ex_28]; have q := cv_or (x := x_27) (y := u_3) 10 (by decide) (by omega) (by omega) (by omega) (by omega); omega
        refine lv_iconst (v := 1) hx hb dX4_prepare_41 (by decide) ?_
        refine va_iast hx hb hK hP hD hS 1 0 rfl rfl (vp_in_iff.mpr (by omega)) dX4_prepare_42 (fun H locs hP hD hS => ?_)
        obtain ⟨f_29, ef_29⟩ : ∃ z9 : Nat → Int32, z9 = upd f_4 x_28.toNatClampNeg 1 := ⟨_, rfl⟩
        rw [← ef_29] at hP hD
        have hP : va_P (dC, dI) vwCl [(q0, .inr (4, [.ref q_on, .ref q_row, .ref q_scr, .ref h0, .int a_pl])), (q_on, .inl (cyI, 1024, .inl f_29)), (q_row, .inl (cyI, 7, .inl q_f1)), (q_scr, .inl (cyI, 7, .inl q_f2)), (h0, .inr (2, [.int a_pl, .int a_li, .int a_le, .int a_lc, .int a_ac, .int a_ng, .ref a_first, .ref a_now, .ref a_lawPlace, .ref a_lawOther, .ref a_lawEach, .ref a_lawFrom, .ref a_foes, .ref a_suitTable, .ref a_acts])), (a_first, .inl (cyI, 7, .inl a_f_first)), (a_now, .inl (cyI, 7, .inl a_f_now)), (a_lawPlace, .inl (cyI, 6, .inl a_f_lawPlace)), (a_lawOther, .inl (cyI, 6, .inl a_f_lawOther)), (a_lawEach, .inl (cyI, 6, .inl a_f_lawEach)), (a_lawFrom, .inl (cyI, 6, .inl a_f_lawFrom)), (a_foes, .inl (cyI, 7, .inl a_f_foes)), (a_suitTable, .inl (cyI, 49, .inl a_f_suitTable)), (a_acts, .inl (cyI, 40, .inl a_f_acts))] H := hP
        have hD : va_D A [(q0, .inr (4, [.ref q_on, .ref q_row, .ref q_scr, .ref h0, .int a_pl])), (q_on, .inl (cyI, 1024, .inl f_29)), (q_row, .inl (cyI, 7, .inl q_f1)), (q_scr, .inl (cyI, 7, .inl q_f2)), (h0, .inr (2, [.int a_pl, .int a_li, .int a_le, .int a_lc, .int a_ac, .int a_ng, .ref a_first, .ref a_now, .ref a_lawPlace, .ref a_lawOther, .ref a_lawEach, .ref a_lawFrom, .ref a_foes, .ref a_suitTable, .ref a_acts])), (a_first, .inl (cyI, 7, .inl a_f_first)), (a_now, .inl (cyI, 7, .inl a_f_now)), (a_lawPlace, .inl (cyI, 6, .inl a_f_lawPlace)), (a_lawOther, .inl (cyI, 6, .inl a_f_lawOther)), (a_lawEach, .inl (cyI, 6, .inl a_f_lawEach)), (a_lawFrom, .inl (cyI, 6, .inl a_f_lawFrom)), (a_foes, .inl (cyI, 7, .inl a_f_foes)), (a_suitTable, .inl (cyI, 49, .inl a_f_suitTable)), (a_acts, .inl (cyI, 40, .inl a_f_acts))] := hD
        obtain ⟨x_30, ex_30⟩ : ∃ y : Int32, y = u_3 + 1 := ⟨_, rfl⟩
        refine lv_iinc (v := x_30) (lv' := [(3, .int x_30), (2, .int x_2), (0, .ref q0), (1, .ref h0)]) hx hb dX4_prepare_43 hl (k := 0) rfl (by rw [ex_30]; rfl) (by decide) rfl (fun ls hl => ?_)
        have fx_30 : x_30.toInt = u_3.toInt + 1 := by rw [ex_30]; exact cv_addI (by have : (1 : Int32).toInt = 1 := rfl; omega) (by have : (1 : Int32).toInt = 1 := rfl; omega)
        refine lv_goto (tgt := 24) hx hb dX4_prepare_46 (by decide) ?_
        exact ihkey_5 x_30 f_29 _ _ _ (by omega) hP hD hS (lv_sub hl [0, 1, 2, 3] rfl) (by omega)
  exact key_5 _ 0 q_f0 _ _ _ (by decide) hP hD hS (lv_sub hl [0, 1, 2, 3] rfl) (Nat.lt_succ_self _)

/- X4_rowsInAll -/
set_option maxHeartbeats 4000000 in
set_option maxRecDepth 100000 in
theorem n_rowsInAll (l : Launch) (dC : Nat → ClassId) (dI : Nat → Nat → Nat) (cyI cyB cyJ cyZ cyH cyN : ClassId) (q0 q_on q_row q_scr : Nat) (q_pl : Int32) (q_f0 q_f1 q_f2 : Nat → Int32) (h0 a_first a_now a_lawPlace a_lawOther a_lawEach a_lawFrom a_foes a_suitTable a_acts : Nat) (a_pl a_li a_le a_lc a_ac a_ng : Int32) (a_f_first a_f_now a_f_lawPlace a_f_lawOther a_f_lawEach a_f_lawFrom a_f_foes a_f_suitTable a_f_acts : Nat → Int32) (g0 : rg 0 6 7 q_f1) (g1 : rg 0 6 7 q_f2) (g2 : rg 0 6 7 a_f_first) (g3 : rg 0 6 7 a_f_now) (g4 : rg 0 6 6 a_f_lawPlace) (g5 : rg 0 6 6 a_f_lawOther) (g6 : ra 40 a_f_acts) (g7 : 0 ≤ a_pl.toInt ∧ a_pl.toInt ≤ 7) (g8 : 0 ≤ a_lc.toInt ∧ a_lc.toInt ≤ 6) (g9 : 0 ≤ a_ac.toInt ∧ a_ac.toInt ≤ 40) (g10 : 0 ≤ q_pl.toInt ∧ q_pl.toInt ≤ 7) : Met l yX4_rowsInAll (wk yX4_rowsInAll cX4_rowsInAll 3 (some .int)) ({ frames := 1, cells := 0, slots := 0, locals := 60 }) (va_Pc [.ref q0] (fun U => va_P (dC, dI) vwCl [(q0, .inr (4, [.ref q_on, .ref q_row, .ref q_scr, .ref h0, .int q_pl])), (q_on, .inl (cyI, 1024, .inl q_f0)), (q_row, .inl (cyI, 7, .inl q_f1)), (q_scr, .inl (cyI, 7, .inl q_f2)), (h0, .inr (2, [.int a_pl, .int a_li, .int a_le, .int a_lc, .int a_ac, .int a_ng, .ref a_first, .ref a_now, .ref a_lawPlace, .ref a_lawOther, .ref a_lawEach, .ref a_lawFrom, .ref a_foes, .ref a_suitTable, .ref a_acts])), (a_first, .inl (cyI, 7, .inl a_f_first)), (a_now, .inl (cyI, 7, .inl a_f_now)), (a_lawPlace, .inl (cyI, 6, .inl a_f_lawPlace)), (a_lawOther, .inl (cyI, 6, .inl a_f_lawOther)), (a_lawEach, .inl (cyI, 6, .inl a_f_lawEach)), (a_lawFrom, .inl (cyI, 6, .inl a_f_lawFrom)), (a_foes, .inl (cyI, 7, .inl a_f_foes)), (a_suitTable, .inl (cyI, 49, .inl a_f_suitTable)), (a_acts, .inl (cyI, 40, .inl a_f_acts))] U.heap ∧ va_K (dC, dI) vwCl [(cyI, .int), (cyB, .byte), (cyJ, .long), (cyZ, .boolean), (cyH, .object RX2), (cyN, .array .long)] U)) (vp_Si (fun r : Int32 => True)) 0 0 (fun _ => False) := by
  refine Met.ofW (cc := cX4_rowsInAll) (maxL := 3) (ret := (some .int)) (by decide) rfl ?_
  intro p e s m args below meth c s₁ B hml hv
  obtain ⟨rfl, hP, hK⟩ := hv
  have hx := B.exec
  have hb := B.bytes
  have hr := B.returns
  have hts : ∀ w ∈ uU, w.before ([.ref q0] : List Value).toArray s = true := fun w h => atoms_spec (ws := wk yX4_rowsInAll cX4_rowsInAll 3 (some .int)) B.pre w (List.mem_cons_of_mem _ h)
  have hown : s.vm.findClass RX4 = some m.cls := findClass_of_methodNamed B.named
  have hlocks := B.notSynchronized
  have hl := lv_entry ([.ref q0]) (n := 3) (Nat.le_of_ble_eq_true rfl)
  rw [lg_entry_eq]
  generalize (lg_sl ([.ref q0]) ++ List.replicate (3 - (lg_sl ([.ref q0])).length) Slot.unset).toArray = ls at hl ⊢
  have hl : lv_has ls 3 [(0, .ref q0)] := hl
  obtain ⟨Q9, hQ9⟩ : ∃ Q9 : State → Prop, Q9 = MQ below (vp_Si (fun r : Int32 => True)) ([.ref q0] : List Value).toArray s 0 0 (fun _ => False) := ⟨_, rfl⟩
  rw [← hQ9]
  refine lv_iconst (v := 0) hx hb dX4_rowsInAll_0 (by decide) ?_
  refine lv_istore_n (lv' := [(1, .int 0), (0, .ref q0)]) hx hb dX4_rowsInAll_1 rfl hl (by decide) rfl (fun ls hl => ?_)
  refine lv_iconst (v := 0) hx hb dX4_rowsInAll_2 (by decide) ?_
  refine lv_istore_n (lv' := [(2, .int 0), (1, .int 0), (0, .ref q0)]) hx hb dX4_rowsInAll_3 rfl hl (by decide) rfl (fun ls hl => ?_)
  have key_3 : ∀ (nkey_3 : Nat) (u_1 : Int32) (u_2 : Int32) (ls : Array Slot), (0 ≤ u_1.toInt ∧ u_1.toInt ≤ 7) → lv_has ls 3 [(2, .int u_1), (1, .int u_2), (0, .ref q0)] → (q_pl.toInt - u_1.toInt).toNat < nkey_3 → W p l e ({ frames := 1, cells := 0, slots := 0, locals := 60 }) s m ([.ref q0] : List Value).toArray below meth c s.heap [] 0 0 Q9 (F0 m 4 ls []) := by
    intro nkey_3
    induction nkey_3 with
    | zero => intro u_1 u_2 ls hu_1 hl hnkey_3; exact absurd hnkey_3 (Nat.not_lt_zero _)
    | succ nkey_3 ihkey_3 =>
      intro u_1 u_2 ls hu_1 hl hnkey_3
      refine lv_iload_n hx hb dX4_rowsInAll_4 rfl (lv_at hl 0 rfl) ?_
      refine lv_aload_n hx hb dX4_rowsInAll_5 rfl (lv_at hl 2 rfl) ?_
      refine va_get (D := (dC, dI)) (ci := 4) (v := .int q_pl) (C := RX4) (T := TX4) (N := 5) hx hb hts uinX4 hown hK hP 0 rfl rfl 4 (by decide) (hts _ wd_2_4) (fun _ h9 => h9) rfl dX4_rowsInAll_6 ?_
      refine lv_icmp_ge (tgt := 33) hx hb dX4_rowsInAll_9 (by decide) (fun c_4 => ?_) (fun c_4 => ?_)
      · have c_4 : q_pl.toInt ≤ u_1.toInt := cv_le c_4
        refine lv_iload_n hx hb dX4_rowsInAll_33 rfl (lv_at hl 1 rfl) ?_
        rw [hQ9]
        exact W.iret (v := u_2) hx hb hr (fun t ht hW => ⟨u_2, rfl, trivial, ht⟩) (fun q h => by cases h) dX4_rowsInAll_34
      · have c_4 : u_1.toInt < q_pl.toInt := cv_nle c_4
        refine lv_iload_n hx hb dX4_rowsInAll_12 rfl (lv_at hl 1 rfl) ?_
        refine lv_aload_n hx hb dX4_rowsInAll_13 rfl (lv_at hl 2 rfl) ?_
        refine va_get (D := (dC, dI)) (ci := 4) (v := .ref q_on) (C := RX4) (T := TX4) (N := 5) hx hb hts uinX4 hown hK hP 0 rfl rfl 0 (by decide) (hts _ wd_2_0) (fun _ h9 => h9) rfl dX4_rowsInAll_14 ?_
        refine lv_iconst (v := 1) hx hb dX4_rowsInAll_17 (by decide) ?_
        refine lv_iload_n hx hb dX4_rowsInAll_18 rfl (lv_at hl 0 rfl) ?_
        refine lv_ishl hx hb dX4_rowsInAll_19 ?_
        refine lv_topi (fun x_5 ex_5 => ?_)
        have fx_5 : 1 ≤ x_5.toInt ∧ x_5.toInt ≤ 64 := by rw [ex_5]; have q := cv_shl1 (y := u_1) 0 6 (by decide) (by decide) (by omega) (by omega); omega
        refine lv_iconst (v := 3) hx hb dX4_rowsInAll_20 (by decide) ?_
        refine lv_ishl hx hb dX4_rowsInAll_21 ?_
        refine lv_topi (fun x_6 ex_6 => ?_)
        have fx_6 : x_6.toInt = x_5.toInt * 8 := by rw [ex_6]; have q := cv_shlc (x := x_5) (s := 3) 3 (by decide) (by omega) (by omega); omega
        refine lv_iload_n hx hb dX4_rowsInAll_22 rfl (lv_at hl 0 rfl) ?_
        refine lv_ior hx hb dX4_rowsInAll_23 ?_
        refine lv_topi (fun x_7 ex_7 => ?_)
        have fx_7 : 0 ≤ x_7.toInt ∧ x_7.toInt ≤ 1023 := by rw [ex_7]; have q := cv_or (x := x_6) (y := u_1) 10 (by decide) (by omega) (by omega) (by omega) (by omega); omega
        refine va_iald hx hb hK hP 1 0 rfl rfl (vp_in_iff.mpr (by omega)) dX4_rowsInAll_24 ?_
        refine lv_topi (fun x_8 ex_8 => ?_)
        refine lv_iadd hx hb dX4_rowsInAll_25 ?_
        refine lv_topi (fun x_9 ex_9 => ?_)
        refine lv_istore_n (lv' := [(1, .int x_9), (2, .int u_1), (0, .ref q0)]) hx hb dX4_rowsInAll_26 rfl hl (by decide) rfl (fun ls hl => ?_)
        obtain ⟨x_10, ex_10⟩ : ∃ y : Int32, y = u_1 + 1 := ⟨_, rfl⟩
        refine lv_iinc (v := x_10) (lv' := [(2, .int x_10), (1, .int x_9), (0, .ref q0)]) hx hb dX4_rowsInAll_27 hl (k := 1) rfl (by rw [ex_10]; rfl) (by decide) rfl (fun ls hl => ?_)
        have fx_10 : x_10.toInt = u_1.toInt + 1 := by rw [ex_10]; exact cv_addI (by have : (1 : Int32).toInt = 1 := rfl; omega) (by have : (1 : Int32).toInt = 1 := rfl; omega)
        refine lv_goto (tgt := 4) hx hb dX4_rowsInAll_30 (by decide) ?_
        exact ihkey_3 x_10 x_9 _ (by omega) (lv_sub hl [0, 1, 2] rfl) (by omega)
  exact key_3 _ 0 0 _ (by decide) (lv_sub hl [0, 1, 2] rfl) (Nat.lt_succ_self _)

/- X4_canFollow -/
set_option maxHeartbeats 4000000 in
set_option maxRecDepth 100000 in
theorem n_canFollow (l : Launch) (dC : Nat → ClassId) (dI : Nat → Nat → Nat) (cyI cyB cyJ cyZ cyH cyN : ClassId) (q0 q_on q_row q_scr : Nat) (q_pl : Int32) (q_f0 q_f1 q_f2 : Nat → Int32) (h0 a_first a_now a_lawPlace a_lawOther a_lawEach a_lawFrom a_foes a_suitTable a_acts : Nat) (a_pl a_li a_le a_lc a_ac a_ng : Int32) (a_f_first a_f_now a_f_lawPlace a_f_lawOther a_f_lawEach a_f_lawFrom a_f_foes a_f_suitTable a_f_acts : Nat → Int32) (p0 p1 p2 : Int32) (g0 : rg 0 6 7 q_f1) (g1 : rg 0 6 7 q_f2) (g2 : rg 0 6 7 a_f_first) (g3 : rg 0 6 7 a_f_now) (g4 : rg 0 6 6 a_f_lawPlace) (g5 : rg 0 6 6 a_f_lawOther) (g6 : ra 40 a_f_acts) (g7 : 0 ≤ a_pl.toInt ∧ a_pl.toInt ≤ 7) (g8 : 0 ≤ a_lc.toInt ∧ a_lc.toInt ≤ 6) (g9 : 0 ≤ a_ac.toInt ∧ a_ac.toInt ≤ 40) (g10 : 0 ≤ q_pl.toInt ∧ q_pl.toInt ≤ 7) (g11 : 0 ≤ p0.toInt ∧ p0.toInt ≤ 127) (g12 : (-1) ≤ p1.toInt ∧ p1.toInt ≤ 6) (g13 : 0 ≤ p2.toInt ∧ p2.toInt ≤ 6) : Met l yX4_canFollow (wk yX4_canFollow cX4_canFollow 4 (some .boolean)) ({ frames := 2, cells := 0, slots := 0, locals := 82 }) (va_Pc [.ref q0, .int p0, .int p1, .int p2] (fun U => va_P (dC, dI) vwCl [(q0, .inr (4, [.ref q_on, .ref q_row, .ref q_scr, .ref h0, .int q_pl])), (q_on, .inl (cyI, 1024, .inl q_f0)), (q_row, .inl (cyI, 7, .inl q_f1)), (q_scr, .inl (cyI, 7, .inl q_f2)), (h0, .inr (2, [.int a_pl, .int a_li, .int a_le, .int a_lc, .int a_ac, .int a_ng, .ref a_first, .ref a_now, .ref a_lawPlace, .ref a_lawOther, .ref a_lawEach, .ref a_lawFrom, .ref a_foes, .ref a_suitTable, .ref a_acts])), (a_first, .inl (cyI, 7, .inl a_f_first)), (a_now, .inl (cyI, 7, .inl a_f_now)), (a_lawPlace, .inl (cyI, 6, .inl a_f_lawPlace)), (a_lawOther, .inl (cyI, 6, .inl a_f_lawOther)), (a_lawEach, .inl (cyI, 6, .inl a_f_lawEach)), (a_lawFrom, .inl (cyI, 6, .inl a_f_lawFrom)), (a_foes, .inl (cyI, 7, .inl a_f_foes)), (a_suitTable, .inl (cyI, 49, .inl a_f_suitTable)), (a_acts, .inl (cyI, 40, .inl a_f_acts))] U.heap ∧ va_K (dC, dI) vwCl [(cyI, .int), (cyB, .byte), (cyJ, .long), (cyZ, .boolean), (cyH, .object RX2), (cyN, .array .long)] U)) (vp_Si (fun r : Int32 => 0 ≤ r.toInt ∧ r.toInt ≤ 1)) 0 0 (fun _ => False) := by
  refine Met.ofW (cc := cX4_canFollow) (maxL := 4) (ret := (some .boolean)) (by decide) rfl ?_
  intro p e s m args below meth c s₁ B hml hv
  obtain ⟨rfl, hP, hK⟩ := hv
  have hx := B.exec
  have hb := B.bytes
  have hr := B.returns
  have hts : ∀ w ∈ uU, w.before ([.ref q0, .int p0, .int p1, .int p2] : List Value).toArray s = true := fun w h => atoms_spec (ws := wk yX4_canFollow cX4_canFollow 4 (some .boolean)) B.pre w (List.mem_cons_of_mem _ h)
  have hown : s.vm.findClass RX4 = some m.cls := findClass_of_methodNamed B.named
  have hlocks := B.notSynchronized
  have hl := lv_entry ([.ref q0, .int p0, .int p1, .int p2]) (n := 4) (Nat.le_of_ble_eq_true rfl)
  rw [lg_entry_eq]
  generalize (lg_sl ([.ref q0, .int p0, .int p1, .int p2]) ++ List.replicate (4 - (lg_sl ([.ref q0, .int p0, .int p1, .int p2])).length) Slot.unset).toArray = ls at hl ⊢
  have hl : lv_has ls 4 [(0, .ref q0), (1, .int p0), (2, .int p1), (3, .int p2)] := hl
  obtain ⟨Q9, hQ9⟩ : ∃ Q9 : State → Prop, Q9 = MQ below (vp_Si (fun r : Int32 => 0 ≤ r.toInt ∧ r.toInt ≤ 1)) ([.ref q0, .int p0, .int p1, .int p2] : List Value).toArray s 0 0 (fun _ => False) := ⟨_, rfl⟩
  rw [← hQ9]
  refine lv_aload_n hx hb dX4_canFollow_0 rfl (lv_at hl 0 rfl) ?_
  refine va_get (D := (dC, dI)) (ci := 4) (v := .ref h0) (C := RX4) (T := TX4) (N := 5) hx hb hts uinX4 hown hK hP 0 rfl rfl 3 (by decide) (hts _ wd_2_3) (fun _ h9 => h9) rfl dX4_canFollow_1 ?_
  refine lv_ifnull hx hb dX4_canFollow_4 ?_
  refine lv_iload_n hx hb dX4_canFollow_7 rfl (lv_at hl 1 rfl) ?_
  refine lv_iload_n hx hb dX4_canFollow_8 rfl (lv_at hl 3 rfl) ?_
  refine lv_ishr hx hb dX4_canFollow_9 ?_
  refine lv_topi (fun x_1 ex_1 => ?_)
  have fx_1 : 0 ≤ x_1.toInt ∧ x_1.toInt ≤ p0.toInt := by rw [ex_1]; exact cv_shr (by omega)
  refine lv_iconst (v := 1) hx hb dX4_canFollow_10 (by decide) ?_
  refine lv_iand hx hb dX4_canFollow_11 ?_
  refine lv_topi (fun x_2 ex_2 => ?_)
  have fx_2 : 0 ≤ x_2.toInt ∧ x_2.toInt ≤ 1 := by rw [ex_2]; exact cv_andR (by decide) (by decide)
  refine lv_if_eq (tgt := 17) hx hb dX4_canFollow_12 (by decide) (fun c_3 => ?_) (fun c_3 => ?_)
  · have c_3 : x_2.toInt = 0 := cv_eq c_3
    refine lv_iload_n hx hb dX4_canFollow_17 rfl (lv_at hl 2 rfl) ?_
    refine lv_iconst (v := (-1)) hx hb dX4_canFollow_18 (by decide) ?_
    refine lv_icmp_eq (tgt := 36) hx hb dX4_canFollow_19 (by decide) (fun c_4 => ?_) (fun c_4 => ?_)
    · have c_4 : p1.toInt = (-1) := cv_eq c_4
      refine lv_aload_n hx hb dX4_canFollow_36 rfl (lv_at hl 0 rfl) ?_
      refine va_get (D := (dC, dI)) (ci := 4) (v := .ref q_on) (C := RX4) (T := TX4) (N := 5) hx hb hts uinX4 hown hK hP 0 rfl rfl 0 (by decide) (hts _ wd_2_0) (fun _ h9 => h9) rfl dX4_canFollow_37 ?_
      refine lv_iload_n hx hb dX4_canFollow_40 rfl (lv_at hl 1 rfl) ?_
      refine lv_iconst (v := 1) hx hb dX4_canFollow_41 (by decide) ?_
      refine lv_iload_n hx hb dX4_canFollow_42 rfl (lv_at hl 3 rfl) ?_
      refine lv_ishl hx hb dX4_canFollow_43 ?_
      refine lv_topi (fun x_5 ex_5 => ?_)
      have fx_5 : 1 ≤ x_5.toInt ∧ x_5.toInt ≤ 64 := by rw [ex_5]; have q := cv_shl1 (y := p2) 0 6 (by decide) (by decide) (by omega) (by omega); omega
      refine lv_ior hx hb dX4_canFollow_44 ?_
      refine lv_topi (fun x_6 ex_6 => ?_)
      have fx_6 : 0 ≤ x_6.toInt ∧ x_6.toInt ≤ 127 := by rw [ex_6]; have q := cv_or (x := p0) (y := x_5) 7 (by decide) (by omega) (by omega) (by omega) (by omega); omega
      refine lv_iconst (v := 3) hx hb dX4_canFollow_45 (by decide) ?_
      refine lv_ishl hx hb dX4_canFollow_46 ?_
      refine lv_topi (fun x_7 ex_7 => ?_)
      have fx_7 : x_7.toInt = x_6.toInt * 8 := by rw [ex_7]; have q := cv_shlc (x := x_6) (s := 3) 3 (by decide) (by omega) (by omega); omega
      refine lv_iload_n hx hb dX4_canFollow_47 rfl (lv_at hl 3 rfl) ?_
      refine lv_ior hx hb dX4_canFollow_48 ?_
      refine lv_topi (fun x_8 ex_8 => ?_)
      have fx_8 : 0 ≤ x_8.toInt ∧ x_8.toInt ≤ 1023 := by rw [ex_8]; have q := cv_or (x := x_7) (y := p2) 10 (by decide) (by omega) (by omega) (by omega) (by omega); omega
      refine va_iald hx hb hK hP 1 0 rfl rfl (vp_in_iff.mpr (by omega)) dX4_canFollow_49 ?_
      refine lv_topi (fun x_9 ex_9 => ?_)
      have join_11 : ∀ (u_10 : Int32) (ls : Array Slot), (0 ≤ u_10.toInt ∧ u_10.toInt ≤ 1) → lv_has ls 4 [(0, .ref q0), (1, .int p0), (2, .int p1), (3, .int p2)] → W p l e ({ frames := 2, cells := 0, slots := 0, locals := 82 }) s m ([.ref q0, .int p0, .int p1, .int p2] : List Value).toArray below meth c s.heap [] 0 0 Q9 (F0 m 58 ls [.int u_10]) := by
        intro u_10 ls hu_10 hl
        rw [hQ9]
        exact W.zret (v := u_10) (ty := .boolean) hx hb hr (cv_nz (by omega) (by omega)) (fun t ht hW => ⟨u_10, rfl, (by omega), ht⟩) (fun q h => by cases h) dX4_canFollow_58
      refine lv_if_le (tgt := 57) hx hb dX4_canFollow_50 (by decide) (fun c_12 => ?_) (fun c_12 => ?_)
      · have c_12 : x_9.toInt ≤ 0 := cv_le c_12
        refine lv_iconst (v := 0) hx hb dX4_canFollow_57 (by decide) ?_
        exact join_11 0 _ (by decide) (lv_sub hl [0, 1, 2, 3] rfl)
      · have c_12 : 0 < x_9.toInt := cv_nle c_12
        refine lv_iconst (v := 1) hx hb dX4_canFollow_53 (by decide) ?_
        refine lv_goto (tgt := 58) hx hb dX4_canFollow_54 (by decide) ?_
        exact join_11 1 _ (by decide) (lv_sub hl [0, 1, 2, 3] rfl)
    · have c_4 : p1.toInt ≠ (-1) := cv_ne c_4
      refine lv_aload_n hx hb dX4_canFollow_22 rfl (lv_at hl 0 rfl) ?_
      refine va_get (D := (dC, dI)) (ci := 4) (v := .ref h0) (C := RX4) (T := TX4) (N := 5) hx hb hts uinX4 hown hK hP 0 rfl rfl 3 (by decide) (hts _ wd_2_3) (fun _ h9 => h9) rfl dX4_canFollow_23 ?_
      refine lv_iload_n hx hb dX4_canFollow_26 rfl (lv_at hl 2 rfl) ?_
      refine lv_iload_n hx hb dX4_canFollow_27 rfl (lv_at hl 3 rfl) ?_
      have hPc := hP.sub (ws' := [(h0, .inr (2, [.int a_pl, .int a_li, .int a_le, .int a_lc, .int a_ac, .int a_ng, .ref a_first, .ref a_now, .ref a_lawPlace, .ref a_lawOther, .ref a_lawEach, .ref a_lawFrom, .ref a_foes, .ref a_suitTable, .ref a_acts])), (a_first, .inl (cyI, 7, .inl a_f_first)), (a_now, .inl (cyI, 7, .inl a_f_now)), (a_lawPlace, .inl (cyI, 6, .inl a_f_lawPlace)), (a_lawOther, .inl (cyI, 6, .inl a_f_lawOther)), (a_lawEach, .inl (cyI, 6, .inl a_f_lawEach)), (a_lawFrom, .inl (cyI, 6, .inl a_f_lawFrom)), (a_foes, .inl (cyI, 7, .inl a_f_foes)), (a_suitTable, .inl (cyI, 49, .inl a_f_suitTable)), (a_acts, .inl (cyI, 40, .inl a_f_acts))]) [4, 5, 6, 7, 8, 9, 10, 11, 12, 13] rfl
      have hKc := hK.sub (tys' := [(cyI, .int), (cyB, .byte), (cyJ, .long), (cyZ, .boolean), (cyH, .object RX2), (cyN, .array .long)]) [0, 1, 2, 3, 4, 5] rfl
      refine vp_callSi (va_Run.run (va_runV (As := [.int p1, .int p2]) (rest := []) ⟨hx, hb, hml, hown, hts⟩ (n_areFoes l dC dI cyI cyB cyJ cyZ cyH cyN h0 a_first a_now a_lawPlace a_lawOther a_lawEach a_lawFrom a_foes a_suitTable a_acts a_pl a_li a_le a_lc a_ac a_ng a_f_first a_f_now a_f_lawPlace a_f_lawOther a_f_lawEach a_f_lawFrom a_f_foes a_f_suitTable a_f_acts p1 p2 g2 g3 g4 g5 g6 (by omega) (by omega) (by omega) (by omega)) (cwV 2 hts (gdV wd_5_38 wd_4_13 wd_4_14 wd_1_3 wd_4_15) rfl rfl rfl (by decide +kernel) ⟨Nat.le_of_ble_eq_true rfl, Nat.le_of_ble_eq_true rfl⟩) ⟨fun a U g mk q => by obtain ⟨q0, qP, qK⟩ := q; exact ⟨q0, qP, va_K.moved (u := U) (U := U.calling g mk a) (Vm.Alike.refl U.vm) qK⟩, va_recv hKc hPc (ci := 2) (q0 := 0) rfl rfl, fun U hU hW => ⟨rfl, by rw [hU]; exact hPc, va_K.moved hW.alike hKc⟩⟩ rfl rfl hl.1 rfl (lv_room (Nat.le_of_ble_eq_true rfl)) dX4_canFollow_28 ⟨Nat.le_of_ble_eq_true rfl, Nat.le_of_ble_eq_true rfl⟩)) (fun r_13 hw => ?_)
      have hrr_13 := hw
      refine lv_if_eq (tgt := 36) hx hb dX4_canFollow_31 (by decide) (fun c_14 => ?_) (fun c_14 => ?_)
      · have c_14 : r_13.toInt = 0 := cv_eq c_14
        refine lv_aload_n hx hb dX4_canFollow_36 rfl (lv_at hl 0 rfl) ?_
        refine va_get (D := (dC, dI)) (ci := 4) (v := .ref q_on) (C := RX4) (T := TX4) (N := 5) hx hb hts uinX4 hown hK hP 0 rfl rfl 0 (by decide) (hts _ wd_2_0) (fun _ h9 => h9) rfl dX4_canFollow_37 ?_
        refine lv_iload_n hx hb dX4_canFollow_40 rfl (lv_at hl 1 rfl) ?_
        refine lv_iconst (v := 1) hx hb dX4_canFollow_41 (by decide) ?_
        refine lv_iload_n hx hb dX4_canFollow_42 rfl (lv_at hl 3 rfl) ?_
        refine lv_ishl hx hb dX4_canFollow_43 ?_
        refine lv_topi (fun x_15 ex_15 => ?_)
        have fx_15 : 1 ≤ x_15.toInt ∧ x_15.toInt ≤ 64 := by rw [ex_15]; have q := cv_shl1 (y := p2) 0 6 (by decide) (by decide) (by omega) (by omega); omega
        refine lv_ior hx hb dX4_canFollow_44 ?_
        refine lv_topi (fun x_16 ex_16 => ?_)
        have fx_16 : 0 ≤ x_16.toInt ∧ x_16.toInt ≤ 127 := by rw [ex_16]; have q := cv_or (x := p0) (y := x_15) 7 (by decide) (by omega) (by omega) (by omega) (by omega); omega
        refine lv_iconst (v := 3) hx hb dX4_canFollow_45 (by decide) ?_
        refine lv_ishl hx hb dX4_canFollow_46 ?_
        refine lv_topi (fun x_17 ex_17 => ?_)
        have fx_17 : x_17.toInt = x_16.toInt * 8 := by rw [ex_17]; have q := cv_shlc (x := x_16) (s := 3) 3 (by decide) (by omega) (by omega); omega
        refine lv_iload_n hx hb dX4_canFollow_47 rfl (lv_at hl 3 rfl) ?_
        refine lv_ior hx hb dX4_canFollow_48 ?_
        refine lv_topi (fun x_18 ex_18 => ?_)
        have fx_18 : 0 ≤ x_18.toInt ∧ x_18.toInt ≤ 1023 := by rw [ex_18]; have q := cv_or (x := x_17) (y := p2) 10 (by decide) (by omega) (by omega) (by omega) (by omega); omega
        refine va_iald hx hb hK hP 1 0 rfl rfl (vp_in_iff.mpr (by omega)) dX4_canFollow_49 ?_
        refine lv_topi (fun x_19 ex_19 => ?_)
        have join_21 : ∀ (u_20 : Int32) (ls : Array Slot), (0 ≤ u_20.toInt ∧ u_20.toInt ≤ 1) → lv_has ls 4 [(0, .ref q0), (1, .int p0), (2, .int p1), (3, .int p2)] → W p l e ({ frames := 2, cells := 0, slots := 0, locals := 82 }) s m ([.ref q0, .int p0, .int p1, .int p2] : List Value).toArray below meth c s.heap [] 0 0 Q9 (F0 m 58 ls [.int u_20]) := by
          intro u_20 ls hu_20 hl
          rw [hQ9]
          exact W.zret (v := u_20) (ty := .boolean) hx hb hr (cv_nz (by omega) (by omega)) (fun t ht hW => ⟨u_20, rfl, (by omega), ht⟩) (fun q h => by cases h) dX4_canFollow_58
        refine lv_if_le (tgt := 57) hx hb dX4_canFollow_50 (by decide) (fun c_22 => ?_) (fun c_22 => ?_)
        · have c_22 : x_19.toInt ≤ 0 := cv_le c_22
          refine lv_iconst (v := 0) hx hb dX4_canFollow_57 (by decide) ?_
          exact join_21 0 _ (by decide) (lv_sub hl [0, 1, 2, 3] rfl)
        · have c_22 : 0 < x_19.toInt := cv_nle c_22
          refine lv_iconst (v := 1) hx hb dX4_canFollow_53 (by decide) ?_
          refine lv_goto (tgt := 58) hx hb dX4_canFollow_54 (by decide) ?_
          exact join_21 1 _ (by decide) (lv_sub hl [0, 1, 2, 3] rfl)
      · have c_14 : r_13.toInt ≠ 0 := cv_ne c_14
        refine lv_iconst (v := 0) hx hb dX4_canFollow_34 (by decide) ?_
        rw [hQ9]
        exact W.zret (v := 0) (ty := .boolean) hx hb hr rfl (fun t ht hW => ⟨0, rfl, (by decide), ht⟩) (fun q h => by cases h) dX4_canFollow_35
  · have c_3 : x_2.toInt ≠ 0 := cv_ne c_3
    refine lv_iconst (v := 0) hx hb dX4_canFollow_15 (by decide) ?_
    rw [hQ9]
    exact W.zret (v := 0) (ty := .boolean) hx hb hr rfl (fun t ht hW => ⟨0, rfl, (by decide), ht⟩) (fun q h => by cases h) dX4_canFollow_16

/- X4_leastNext -/
set_option maxHeartbeats 4000000 in
set_option maxRecDepth 100000 in
theorem n_qleastNext (l : Launch) (dC : Nat → ClassId) (dI : Nat → Nat → Nat) (cyI cyB cyJ cyZ cyH cyN : ClassId) (q0 q_on q_row q_scr : Nat) (q_pl : Int32) (q_f0 q_f1 q_f2 : Nat → Int32) (h0 a_first a_now a_lawPlace a_lawOther a_lawEach a_lawFrom a_foes a_suitTable a_acts : Nat) (a_pl a_li a_le a_lc a_ac a_ng : Int32) (a_f_first a_f_now a_f_lawPlace a_f_lawOther a_f_lawEach a_f_lawFrom a_f_foes a_f_suitTable a_f_acts : Nat → Int32) (p0 p1 : Int32) (g0 : rg 0 6 7 q_f1) (g1 : rg 0 6 7 q_f2) (g2 : rg 0 6 7 a_f_first) (g3 : rg 0 6 7 a_f_now) (g4 : rg 0 6 6 a_f_lawPlace) (g5 : rg 0 6 6 a_f_lawOther) (g6 : ra 40 a_f_acts) (g7 : 0 ≤ a_pl.toInt ∧ a_pl.toInt ≤ 7) (g8 : 0 ≤ a_lc.toInt ∧ a_lc.toInt ≤ 6) (g9 : 0 ≤ a_ac.toInt ∧ a_ac.toInt ≤ 40) (g10 : 0 ≤ q_pl.toInt ∧ q_pl.toInt ≤ 7) (g11 : 0 ≤ p0.toInt ∧ p0.toInt ≤ 127) (g12 : (-1) ≤ p1.toInt ∧ p1.toInt ≤ 6) : Met l yX4_leastNext (wk yX4_leastNext cX4_leastNext 4 (some .int)) ({ frames := 3, cells := 0, slots := 0, locals := 105 }) (va_Pc [.ref q0, .int p0, .int p1] (fun U => va_P (dC, dI) vwCl [(q0, .inr (4, [.ref q_on, .ref q_row, .ref q_scr, .ref h0, .int q_pl])), (q_on, .inl (cyI, 1024, .inl q_f0)), (q_row, .inl (cyI, 7, .inl q_f1)), (q_scr, .inl (cyI, 7, .inl q_f2)), (h0, .inr (2, [.int a_pl, .int a_li, .int a_le, .int a_lc, .int a_ac, .int a_ng, .ref a_first, .ref a_now, .ref a_lawPlace, .ref a_lawOther, .ref a_lawEach, .ref a_lawFrom, .ref a_foes, .ref a_suitTable, .ref a_acts])), (a_first, .inl (cyI, 7, .inl a_f_first)), (a_now, .inl (cyI, 7, .inl a_f_now)), (a_lawPlace, .inl (cyI, 6, .inl a_f_lawPlace)), (a_lawOther, .inl (cyI, 6, .inl a_f_lawOther)), (a_lawEach, .inl (cyI, 6, .inl a_f_lawEach)), (a_lawFrom, .inl (cyI, 6, .inl a_f_lawFrom)), (a_foes, .inl (cyI, 7, .inl a_f_foes)), (a_suitTable, .inl (cyI, 49, .inl a_f_suitTable)), (a_acts, .inl (cyI, 40, .inl a_f_acts))] U.heap ∧ va_K (dC, dI) vwCl [(cyI, .int), (cyB, .byte), (cyJ, .long), (cyZ, .boolean), (cyH, .object RX2), (cyN, .array .long)] U)) (vp_Si (fun r : Int32 => (-1) ≤ r.toInt ∧ r.toInt ≤ 6)) 0 0 (fun _ => False) := by
  refine Met.ofW (cc := cX4_leastNext) (maxL := 4) (ret := (some .int)) (by decide) rfl ?_
  intro p e s m args below meth c s₁ B hml hv
  obtain ⟨rfl, hP, hK⟩ := hv
  have hx := B.exec
  have hb := B.bytes
  have hr := B.returns
  have hts : ∀ w ∈ uU, w.before ([.ref q0, .int p0, .int p1] : List Value).toArray s = true := fun w h => atoms_spec (ws := wk yX4_leastNext cX4_leastNext 4 (some .int)) B.pre w (List.mem_cons_of_mem _ h)
  have hown : s.vm.findClass RX4 = some m.cls := findClass_of_methodNamed B.named
  have hlocks := B.notSynchronized
  have hl := lv_entry ([.ref q0, .int p0, .int p1]) (n := 4) (Nat.le_of_ble_eq_true rfl)
  rw [lg_entry_eq]
  generalize (lg_sl ([.ref q0, .int p0, .int p1]) ++ List.replicate (4 - (lg_sl ([.ref q0, .int p0, .int p1])).length) Slot.unset).toArray = ls at hl ⊢
  have hl : lv_has ls 4 [(0, .ref q0), (1, .int p0), (2, .int p1)] := hl
  obtain ⟨Q9, hQ9⟩ : ∃ Q9 : State → Prop, Q9 = MQ below (vp_Si (fun r : Int32 => (-1) ≤ r.toInt ∧ r.toInt ≤ 6)) ([.ref q0, .int p0, .int p1] : List Value).toArray s 0 0 (fun _ => False) := ⟨_, rfl⟩
  rw [← hQ9]
  refine lv_iconst (v := 0) hx hb dX4_leastNext_0 (by decide) ?_
  refine lv_istore_n (lv' := [(3, .int 0), (0, .ref q0), (1, .int p0), (2, .int p1)]) hx hb dX4_leastNext_1 rfl hl (by decide) rfl (fun ls hl => ?_)
  have key_2 : ∀ (nkey_2 : Nat) (u_1 : Int32) (ls : Array Slot), (0 ≤ u_1.toInt ∧ u_1.toInt ≤ 7) → lv_has ls 4 [(3, .int u_1), (0, .ref q0), (1, .int p0), (2, .int p1)] → (q_pl.toInt - u_1.toInt).toNat < nkey_2 → W p l e ({ frames := 3, cells := 0, slots := 0, locals := 105 }) s m ([.ref q0, .int p0, .int p1] : List Value).toArray below meth c s.heap [] 0 0 Q9 (F0 m 2 ls []) := by
    intro nkey_2
    induction nkey_2 with
    | zero => intro u_1 ls hu_1 hl hnkey_2; exact absurd hnkey_2 (Nat.not_lt_zero _)
    | succ nkey_2 ihkey_2 =>
      intro u_1 ls hu_1 hl hnkey_2
      refine lv_iload_n hx hb dX4_leastNext_2 rfl (lv_at hl 0 rfl) ?_
      refine lv_aload_n hx hb dX4_leastNext_3 rfl (lv_at hl 1 rfl) ?_
      refine va_get (D := (dC, dI)) (ci := 4) (v := .int q_pl) (C := RX4) (T := TX4) (N := 5) hx hb hts uinX4 hown hK hP 0 rfl rfl 4 (by decide) (hts _ wd_2_4) (fun _ h9 => h9) rfl dX4_leastNext_4 ?_
      refine lv_icmp_ge (tgt := 28) hx hb dX4_leastNext_7 (by decide) (fun c_3 => ?_) (fun c_3 => ?_)
      · have c_3 : q_pl.toInt ≤ u_1.toInt := cv_le c_3
        refine lv_iconst (v := (-1)) hx hb dX4_leastNext_28 (by decide) ?_
        rw [hQ9]
        exact W.iret (v := (-1)) hx hb hr (fun t ht hW => ⟨(-1), rfl, (by decide), ht⟩) (fun q h => by cases h) dX4_leastNext_29
      · have c_3 : u_1.toInt < q_pl.toInt := cv_nle c_3
        refine lv_aload_n hx hb dX4_leastNext_10 rfl (lv_at hl 1 rfl) ?_
        refine lv_iload_n hx hb dX4_leastNext_11 rfl (lv_at hl 2 rfl) ?_
        refine lv_iload_n hx hb dX4_leastNext_12 rfl (lv_at hl 3 rfl) ?_
        refine lv_iload_n hx hb dX4_leastNext_13 rfl (lv_at hl 0 rfl) ?_
        have hPc := hP.sub (ws' := [(q0, .inr (4, [.ref q_on, .ref q_row, .ref q_scr, .ref h0, .int q_pl])), (q_on, .inl (cyI, 1024, .inl q_f0)), (q_row, .inl (cyI, 7, .inl q_f1)), (q_scr, .inl (cyI, 7, .inl q_f2)), (h0, .inr (2, [.int a_pl, .int a_li, .int a_le, .int a_lc, .int a_ac, .int a_ng, .ref a_first, .ref a_now, .ref a_lawPlace, .ref a_lawOther, .ref a_lawEach, .ref a_lawFrom, .ref a_foes, .ref a_suitTable, .ref a_acts])), (a_first, .inl (cyI, 7, .inl a_f_first)), (a_now, .inl (cyI, 7, .inl a_f_now)), (a_lawPlace, .inl (cyI, 6, .inl a_f_lawPlace)), (a_lawOther, .inl (cyI, 6, .inl a_f_lawOther)), (a_lawEach, .inl (cyI, 6, .inl a_f_lawEach)), (a_lawFrom, .inl (cyI, 6, .inl a_f_lawFrom)), (a_foes, .inl (cyI, 7, .inl a_f_foes)), (a_suitTable, .inl (cyI, 49, .inl a_f_suitTable)), (a_acts, .inl (cyI, 40, .inl a_f_acts))]) [0, 1, 2, 3, 4, 5, 6, 7, 8, 9, 10, 11, 12, 13] rfl
        have hKc := hK.sub (tys' := [(cyI, .int), (cyB, .byte), (cyJ, .long), (cyZ, .boolean), (cyH, .object RX2), (cyN, .array .long)]) [0, 1, 2, 3, 4, 5] rfl
        refine vp_callSi (va_Run.run (va_runV (As := [.int p0, .int p1, .int u_1]) (rest := []) ⟨hx, hb, hml, hown, hts⟩ (n_canFollow l dC dI cyI cyB cyJ cyZ cyH cyN q0 q_on q_row q_scr q_pl q_f0 q_f1 q_f2 h0 a_first a_now a_lawPlace a_lawOther a_lawEach a_lawFrom a_foes a_suitTable a_acts a_pl a_li a_le a_lc a_ac a_ng a_f_first a_f_now a_f_lawPlace a_f_lawOther a_f_lawEach a_f_lawFrom a_f_foes a_f_suitTable a_f_acts p0 p1 u_1 g0 g1 g2 g3 g4 g5 g6 (by omega) (by omega) (by omega) (by omega) (by omega) (by omega) (by omega)) (cwV 3 hts (gdV wd_5_34 wd_5_36 wd_s3_1 wd_1_7 wd_5_37) rfl rfl rfl (by decide +kernel) ⟨Nat.le_of_ble_eq_true rfl, Nat.le_of_ble_eq_true rfl⟩) ⟨fun a U g mk q => by obtain ⟨q0, qP, qK⟩ := q; exact ⟨q0, qP, va_K.moved (u := U) (U := U.calling g mk a) (Vm.Alike.refl U.vm) qK⟩, va_recv hKc hPc (ci := 4) (q0 := 0) rfl rfl, fun U hU hW => ⟨rfl, by rw [hU]; exact hPc, va_K.moved hW.alike hKc⟩⟩ rfl rfl hl.1 rfl (lv_room (Nat.le_of_ble_eq_true rfl)) dX4_leastNext_14 ⟨Nat.le_of_ble_eq_true rfl, Nat.le_of_ble_eq_true rfl⟩)) (fun r_4 hw => ?_)
        have hrr_4 := hw
        refine lv_if_eq (tgt := 22) hx hb dX4_leastNext_17 (by decide) (fun c_5 => ?_) (fun c_5 => ?_)
        · have c_5 : r_4.toInt = 0 := cv_eq c_5
          obtain ⟨x_6, ex_6⟩ : ∃ y : Int32, y = u_1 + 1 := ⟨_, rfl⟩
          refine lv_iinc (v := x_6) (lv' := [(3, .int x_6), (0, .ref q0), (1, .int p0), (2, .int p1)]) hx hb dX4_leastNext_22 hl (k := 0) rfl (by rw [ex_6]; rfl) (by decide) rfl (fun ls hl => ?_)
          have fx_6 : x_6.toInt = u_1.toInt + 1 := by rw [ex_6]; exact cv_addI (by have : (1 : Int32).toInt = 1 := rfl; omega) (by have : (1 : Int32).toInt = 1 := rfl; omega)
          refine lv_goto (tgt := 2) hx hb dX4_leastNext_25 (by decide) ?_
          exact ihkey_2 x_6 _ (by omega) (lv_sub hl [0, 1, 2, 3] rfl) (by omega)
        · have c_5 : r_4.toInt ≠ 0 := cv_ne c_5
          refine lv_iload_n hx hb dX4_leastNext_20 rfl (lv_at hl 0 rfl) ?_
          rw [hQ9]
          exact W.iret (v := u_1) hx hb hr (fun t ht hW => ⟨u_1, rfl, (by omega), ht⟩) (fun q h => by cases h) dX4_leastNext_21
  exact key_2 _ 0 _ (by decide) (lv_sub hl [0, 1, 2, 3] rfl) (Nat.lt_succ_self _)

/- X4_leastRowHead -/
set_option maxHeartbeats 4000000 in
set_option maxRecDepth 100000 in
theorem n_qleastRowHead (l : Launch) (dC : Nat → ClassId) (dI : Nat → Nat → Nat) (cyI cyB cyJ cyZ cyH cyN : ClassId) (q0 q_on q_row q_scr : Nat) (q_pl : Int32) (q_f0 q_f1 q_f2 : Nat → Int32) (h0 a_first a_now a_lawPlace a_lawOther a_lawEach a_lawFrom a_foes a_suitTable a_acts : Nat) (a_pl a_li a_le a_lc a_ac a_ng : Int32) (a_f_first a_f_now a_f_lawPlace a_f_lawOther a_f_lawEach a_f_lawFrom a_f_foes a_f_suitTable a_f_acts : Nat → Int32) (p0 : Int32) (g0 : rg 0 6 7 q_f1) (g1 : rg 0 6 7 q_f2) (g2 : rg 0 6 7 a_f_first) (g3 : rg 0 6 7 a_f_now) (g4 : rg 0 6 6 a_f_lawPlace) (g5 : rg 0 6 6 a_f_lawOther) (g6 : ra 40 a_f_acts) (g7 : 0 ≤ a_pl.toInt ∧ a_pl.toInt ≤ 7) (g8 : 0 ≤ a_lc.toInt ∧ a_lc.toInt ≤ 6) (g9 : 0 ≤ a_ac.toInt ∧ a_ac.toInt ≤ 40) (g10 : 0 ≤ q_pl.toInt ∧ q_pl.toInt ≤ 7) (g11 : 0 ≤ p0.toInt ∧ p0.toInt ≤ 6) : Met l yX4_leastRowHead (wk yX4_leastRowHead cX4_leastRowHead 5 (some .int)) ({ frames := 4, cells := 0, slots := 0, locals := 128 }) (va_Pc [.ref q0, .int p0] (fun U => va_P (dC, dI) vwCl [(q0, .inr (4, [.ref q_on, .ref q_row, .ref q_scr, .ref h0, .int q_pl])), (q_on, .inl (cyI, 1024, .inl q_f0)), (q_row, .inl (cyI, 7, .inl q_f1)), (q_scr, .inl (cyI, 7, .inl q_f2)), (h0, .inr (2, [.int a_pl, .int a_li, .int a_le, .int a_lc, .int a_ac, .int a_ng, .ref a_first, .ref a_now, .ref a_lawPlace, .ref a_lawOther, .ref a_lawEach, .ref a_lawFrom, .ref a_foes, .ref a_suitTable, .ref a_acts])), (a_first, .inl (cyI, 7, .inl a_f_first)), (a_now, .inl (cyI, 7, .inl a_f_now)), (a_lawPlace, .inl (cyI, 6, .inl a_f_lawPlace)), (a_lawOther, .inl (cyI, 6, .inl a_f_lawOther)), (a_lawEach, .inl (cyI, 6, .inl a_f_lawEach)), (a_lawFrom, .inl (cyI, 6, .inl a_f_lawFrom)), (a_foes, .inl (cyI, 7, .inl a_f_foes)), (a_suitTable, .inl (cyI, 49, .inl a_f_suitTable)), (a_acts, .inl (cyI, 40, .inl a_f_acts))] U.heap ∧ va_K (dC, dI) vwCl [(cyI, .int), (cyB, .byte), (cyJ, .long), (cyZ, .boolean), (cyH, .object RX2), (cyN, .array .long)] U)) (vp_Si (fun r : Int32 => True)) 0 0 (fun _ => False) := by
  refine Met.ofW (cc := cX4_leastRowHead) (maxL := 5) (ret := (some .int)) (by decide) rfl ?_
  intro p e s m args below meth c s₁ B hml hv
  obtain ⟨rfl, hP, hK⟩ := hv
  have hx := B.exec
  have hb := B.bytes
  have hr := B.returns
  have hts : ∀ w ∈ uU, w.before ([.ref q0, .int p0] : List Value).toArray s = true := fun w h => atoms_spec (ws := wk yX4_leastRowHead cX4_leastRowHead 5 (some .int)) B.pre w (List.mem_cons_of_mem _ h)
  have hown : s.vm.findClass RX4 = some m.cls := findClass_of_methodNamed B.named
  have hlocks := B.notSynchronized
  have hl := lv_entry ([.ref q0, .int p0]) (n := 5) (Nat.le_of_ble_eq_true rfl)
  rw [lg_entry_eq]
  generalize (lg_sl ([.ref q0, .int p0]) ++ List.replicate (5 - (lg_sl ([.ref q0, .int p0])).length) Slot.unset).toArray = ls at hl ⊢
  have hl : lv_has ls 5 [(0, .ref q0), (1, .int p0)] := hl
  obtain ⟨Q9, hQ9⟩ : ∃ Q9 : State → Prop, Q9 = MQ below (vp_Si (fun r : Int32 => True)) ([.ref q0, .int p0] : List Value).toArray s 0 0 (fun _ => False) := ⟨_, rfl⟩
  rw [← hQ9]
  refine lv_iconst (v := 0) hx hb dX4_leastRowHead_0 (by decide) ?_
  refine lv_istore_n (lv' := [(2, .int 0), (0, .ref q0), (1, .int p0)]) hx hb dX4_leastRowHead_1 rfl hl (by decide) rfl (fun ls hl => ?_)
  refine lv_iconst (v := (-1)) hx hb dX4_leastRowHead_2 (by decide) ?_
  refine lv_istore_n (lv' := [(3, .int (-1)), (2, .int 0), (0, .ref q0), (1, .int p0)]) hx hb dX4_leastRowHead_3 rfl hl (by decide) rfl (fun ls hl => ?_)
  refine lv_iconst (v := 0) hx hb dX4_leastRowHead_4 (by decide) ?_
  refine lv_istore (lv' := [(4, .int 0), (3, .int (-1)), (2, .int 0), (0, .ref q0), (1, .int p0)]) hx hb dX4_leastRowHead_5 hl (by decide) rfl (fun ls hl => ?_)
  have key_4 : ∀ (nkey_4 : Nat) (u_1 : Int32) (u_2 : Int32) (u_3 : Int32) (ls : Array Slot), (0 ≤ u_1.toInt ∧ u_1.toInt ≤ 7) → ((-1) ≤ u_2.toInt ∧ u_2.toInt ≤ 6) → (0 ≤ u_3.toInt ∧ u_3.toInt ≤ 127) → lv_has ls 5 [(4, .int u_1), (3, .int u_2), (2, .int u_3), (0, .ref q0), (1, .int p0)] → (p0.toInt - u_1.toInt + 1).toNat < nkey_4 → W p l e ({ frames := 4, cells := 0, slots := 0, locals := 128 }) s m ([.ref q0, .int p0] : List Value).toArray below meth c s.heap [] 0 0 Q9 (F0 m 7 ls []) := by
    intro nkey_4
    induction nkey_4 with
    | zero => intro u_1 u_2 u_3 ls hu_1 hu_2 hu_3 hl hnkey_4; exact absurd hnkey_4 (Nat.not_lt_zero _)
    | succ nkey_4 ihkey_4 =>
      intro u_1 u_2 u_3 ls hu_1 hu_2 hu_3 hl hnkey_4
      refine lv_iload hx hb dX4_leastRowHead_7 (lv_at hl 0 rfl) ?_
      refine lv_iload_n hx hb dX4_leastRowHead_9 rfl (lv_at hl 4 rfl) ?_
      refine lv_icmp_gt (tgt := 39) hx hb dX4_leastRowHead_10 (by decide) (fun c_5 => ?_) (fun c_5 => ?_)
      · have c_5 : p0.toInt < u_1.toInt := cv_lt c_5
        refine lv_iload_n hx hb dX4_leastRowHead_39 rfl (lv_at hl 1 rfl) ?_
        rw [hQ9]
        exact W.iret (v := u_2) hx hb hr (fun t ht hW => ⟨u_2, rfl, trivial, ht⟩) (fun q h => by cases h) dX4_leastRowHead_40
      · have c_5 : u_1.toInt ≤ p0.toInt := cv_nlt c_5
        refine lv_aload_n hx hb dX4_leastRowHead_13 rfl (lv_at hl 3 rfl) ?_
        refine lv_iload_n hx hb dX4_leastRowHead_14 rfl (lv_at hl 2 rfl) ?_
        refine lv_iload_n hx hb dX4_leastRowHead_15 rfl (lv_at hl 1 rfl) ?_
        have hPc := hP.sub (ws' := [(q0, .inr (4, [.ref q_on, .ref q_row, .ref q_scr, .ref h0, .int q_pl])), (q_on, .inl (cyI, 1024, .inl q_f0)), (q_row, .inl (cyI, 7, .inl q_f1)), (q_scr, .inl (cyI, 7, .inl q_f2)), (h0, .inr (2, [.int a_pl, .int a_li, .int a_le, .int a_lc, .int a_ac, .int a_ng, .ref a_first, .ref a_now, .ref a_lawPlace, .ref a_lawOther, .ref a_lawEach, .ref a_lawFrom, .ref a_foes, .ref a_suitTable, .ref a_acts])), (a_first, .inl (cyI, 7, .inl a_f_first)), (a_now, .inl (cyI, 7, .inl a_f_now)), (a_lawPlace, .inl (cyI, 6, .inl a_f_lawPlace)), (a_lawOther, .inl (cyI, 6, .inl a_f_lawOther)), (a_lawEach, .inl (cyI, 6, .inl a_f_lawEach)), (a_lawFrom, .inl (cyI, 6, .inl a_f_lawFrom)), (a_foes, .inl (cyI, 7, .inl a_f_foes)), (a_suitTable, .inl (cyI, 49, .inl a_f_suitTable)), (a_acts, .inl (cyI, 40, .inl a_f_acts))]) [0, 1, 2, 3, 4, 5, 6, 7, 8, 9, 10, 11, 12, 13] rfl
        have hKc := hK.sub (tys' := [(cyI, .int), (cyB, .byte), (cyJ, .long), (cyZ, .boolean), (cyH, .object RX2), (cyN, .array .long)]) [0, 1, 2, 3, 4, 5] rfl
        refine vp_callSi (va_Run.run (va_runV (As := [.int u_3, .int u_2]) (rest := []) ⟨hx, hb, hml, hown, hts⟩ (n_qleastNext l dC dI cyI cyB cyJ cyZ cyH cyN q0 q_on q_row q_scr q_pl q_f0 q_f1 q_f2 h0 a_first a_now a_lawPlace a_lawOther a_lawEach a_lawFrom a_foes a_suitTable a_acts a_pl a_li a_le a_lc a_ac a_ng a_f_first a_f_now a_f_lawPlace a_f_lawOther a_f_lawEach a_f_lawFrom a_f_foes a_f_suitTable a_f_acts u_3 u_2 g0 g1 g2 g3 g4 g5 g6 (by omega) (by omega) (by omega) (by omega) (by omega) (by omega)) (cwV 2 hts (gdV wd_5_30 wd_5_32 wd_s3_0 wd_1_7 wd_5_33) rfl rfl rfl (by decide +kernel) ⟨Nat.le_of_ble_eq_true rfl, Nat.le_of_ble_eq_true rfl⟩) ⟨fun a U g mk q => by obtain ⟨q0, qP, qK⟩ := q; exact ⟨q0, qP, va_K.moved (u := U) (U := U.calling g mk a) (Vm.Alike.refl U.vm) qK⟩, va_recv hKc hPc (ci := 4) (q0 := 0) rfl rfl, fun U hU hW => ⟨rfl, by rw [hU]; exact hPc, va_K.moved hW.alike hKc⟩⟩ rfl rfl hl.1 rfl (lv_room (Nat.le_of_ble_eq_true rfl)) dX4_leastRowHead_16 ⟨Nat.le_of_ble_eq_true rfl, Nat.le_of_ble_eq_true rfl⟩)) (fun r_6 hw => ?_)
        have hrr_6 := hw
        refine lv_istore_n (lv' := [(3, .int r_6), (4, .int u_1), (2, .int u_3), (0, .ref q0), (1, .int p0)]) hx hb dX4_leastRowHead_19 rfl hl (by decide) rfl (fun ls hl => ?_)
        refine lv_iload_n hx hb dX4_leastRowHead_20 rfl (lv_at hl 0 rfl) ?_
        refine lv_iconst (v := (-1)) hx hb dX4_leastRowHead_21 (by decide) ?_
        refine lv_icmp_ne (tgt := 27) hx hb dX4_leastRowHead_22 (by decide) (fun c_7 => ?_) (fun c_7 => ?_)
        · have c_7 : r_6.toInt ≠ (-1) := cv_ne c_7
          refine lv_iload_n hx hb dX4_leastRowHead_27 rfl (lv_at hl 2 rfl) ?_
          refine lv_iconst (v := 1) hx hb dX4_leastRowHead_28 (by decide) ?_
          refine lv_iload_n hx hb dX4_leastRowHead_29 rfl (lv_at hl 0 rfl) ?_
          refine lv_ishl hx hb dX4_leastRowHead_30 ?_
          refine lv_topi (fun x_8 ex_8 => ?_)
          have fx_8 : 1 ≤ x_8.toInt ∧ x_8.toInt ≤ 64 := by rw [ex_8]; have q := cv_shl1 (y := r_6) 0 6 (by decide) (by decide) (by omega) (by omega); omega
          refine lv_ior hx hb dX4_leastRowHead_31 ?_
          refine lv_topi (fun x_9 ex_9 => ?_)
          have fx_9 : 0 ≤ x_9.toInt ∧ x_9.toInt ≤ 127 := by rw [ex_9]; have q := cv_or (x := u_3) (y := x_8) 7 (by decide) (by omega) (by omega) (by omega) (by omega); omega
          refine lv_istore_n (lv' := [(2, .int x_9), (3, .int r_6), (4, .int u_1), (0, .ref q0), (1, .int p0)]) hx hb dX4_leastRowHead_32 rfl hl (by decide) rfl (fun ls hl => ?_)
          obtain ⟨x_10, ex_10⟩ : ∃ y : Int32, y = u_1 + 1 := ⟨_, rfl⟩
          refine lv_iinc (v := x_10) (lv' := [(4, .int x_10), (2, .int x_9), (3, .int r_6), (0, .ref q0), (1, .int p0)]) hx hb dX4_leastRowHead_33 hl (k := 2) rfl (by rw [ex_10]; rfl) (by decide) rfl (fun ls hl => ?_)
          have fx_10 : x_10.toInt = u_1.toInt + 1 := by rw [ex_10]; exact cv_addI (by have : (1 : Int32).toInt = 1 := rfl; omega) (by have : (1 : Int32).toInt = 1 := rfl; omega)
          refine lv_goto (tgt := 7) hx hb dX4_leastRowHead_36 (by decide) ?_
          exact ihkey_4 x_10 r_6 x_9 _ (by omega) (by omega) (by omega) (lv_sub hl [0, 2, 1, 3, 4] rfl) (by omega)
        · have c_7 : r_6.toInt = (-1) := cv_eq c_7
          refine lv_iconst (v := (-1)) hx hb dX4_leastRowHead_25 (by decide) ?_
          rw [hQ9]
          exact W.iret (v := (-1)) hx hb hr (fun t ht hW => ⟨(-1), rfl, trivial, ht⟩) (fun q h => by cases h) dX4_leastRowHead_26
  exact key_4 _ 0 (-1) 0 _ (by decide) (by decide) (by decide) (lv_sub hl [0, 1, 2, 3, 4] rfl) (Nat.lt_succ_self _)

/- X12_winsFrom -/
set_option maxHeartbeats 4000000 in
set_option maxRecDepth 100000 in
theorem m_wins0 (l : Launch) (dC : Nat → ClassId) (dI : Nat → Nat → Nat) (cyI cyB cyJ cyZ cyH cyN : ClassId) (m0 mwidth mmany mcells mmoved mtape mlines mhas mtold mlaw msuit mapart mact misKept mseen mhung mgoal mleaps mqueue mrow mwanted mfirst moften mlots mthen : Nat) (m_thrown m_taped m_at m_token m_place m_value : Int32) (m_word : Int64) (m_bad m_badPlace m_fault m_faultPlace m_gone m_reached m_fitMany m_fitFirst m_askBest m_askLeaves m_bestFirst m_bestWays : Int32) (m_lotsAll : Int64) (m_has : Nat → Int32) (p0 p1 : Int32) (g0 : 0 ≤ m_taped.toInt ∧ m_taped.toInt ≤ 800) (g1 : 0 ≤ m_at.toInt ∧ m_at.toInt ≤ 800) (g2 : 0 ≤ m_gone.toInt ∧ m_gone.toInt ≤ 40) (g3 : 0 ≤ p0.toInt ∧ p0.toInt ≤ 6) (g4 : 0 ≤ p1.toInt ∧ p1.toInt ≤ 127) (g5 : (m_has 0).toInt = 0 ∨ (2 ≤ (m_has 0).toInt ∧ (m_has 0).toInt ≤ 7)) (g6 : 0 ≤ (m_has 1).toInt ∧ (m_has 1).toInt ≤ 6) (g7 : 0 ≤ (m_has 3).toInt ∧ (m_has 3).toInt ≤ 40) (g8 : 7 ≤ cb p1 7) : Met l yX12_winsFrom (wk yX12_winsFrom cX12_winsFrom 4 (some .boolean)) ({ frames := 2, cells := 0, slots := 0, locals := 81 }) (va_Pc [.ref m0, .int p0, .int p1] (fun U => va_P (dC, dI) vwCl [(m0, .inr (11, [.int m_thrown, .ref mwidth, .ref mmany, .ref mcells, .ref mmoved, .ref mtape, .int m_taped, .int m_at, .int m_token, .int m_place, .int m_value, .long m_word, .int m_bad, .int m_badPlace, .int m_fault, .int m_faultPlace, .ref mlines, .ref mhas, .ref mtold, .ref mlaw, .ref msuit, .ref mapart, .ref mact, .ref misKept, .ref mseen, .ref mhung, .int m_gone, .ref mgoal, .ref mleaps, .ref mqueue, .ref mrow, .int m_reached, .ref mwanted, .ref mfirst, .ref moften, .int m_fitMany, .int m_fitFirst, .int m_askBest, .int m_askLeaves, .int m_bestFirst, .int m_bestWays, .ref mlots, .ref mthen, .long m_lotsAll])), (mhas, .inl (cyI, 20, .inl m_has))] U.heap ∧ va_K (dC, dI) vwCl [(cyI, .int), (cyB, .byte), (cyJ, .long), (cyZ, .boolean), (cyH, .object RX2), (cyN, .array .long)] U)) (vp_Si (fun r : Int32 => 0 ≤ r.toInt ∧ r.toInt ≤ 1)) 0 0 (fun _ => False) := by
  refine Met.ofW (cc := cX12_winsFrom) (maxL := 4) (ret := (some .boolean)) (by decide) rfl ?_
  intro p e s m args below meth c s₁ B hml hv
  obtain ⟨rfl, hP, hK⟩ := hv
  have hx := B.exec
  have hb := B.bytes
  have hr := B.returns
  have hts : ∀ w ∈ uU, w.before ([.ref m0, .int p0, .int p1] : List Value).toArray s = true := fun w h => atoms_spec (ws := wk yX12_winsFrom cX12_winsFrom 4 (some .boolean)) B.pre w (List.mem_cons_of_mem _ h)
  have hown : s.vm.findClass RX12 = some m.cls := findClass_of_methodNamed B.named
  have hlocks := B.notSynchronized
  have hl := lv_entry ([.ref m0, .int p0, .int p1]) (n := 4) (Nat.le_of_ble_eq_true rfl)
  rw [lg_entry_eq]
  generalize (lg_sl ([.ref m0, .int p0, .int p1]) ++ List.replicate (4 - (lg_sl ([.ref m0, .int p0, .int p1])).length) Slot.unset).toArray = ls at hl ⊢
  have hl : lv_has ls 4 [(0, .ref m0), (1, .int p0), (2, .int p1)] := hl
  obtain ⟨Q9, hQ9⟩ : ∃ Q9 : State → Prop, Q9 = MQ below (vp_Si (fun r : Int32 => 0 ≤ r.toInt ∧ r.toInt ≤ 1)) ([.ref m0, .int p0, .int p1] : List Value).toArray s 0 0 (fun _ => False) := ⟨_, rfl⟩
  rw [← hQ9]
  refine lv_iconst (v := 0) hx hb dX12_winsFrom_0 (by decide) ?_
  refine lv_istore_n (lv' := [(3, .int 0), (0, .ref m0), (1, .int p0), (2, .int p1)]) hx hb dX12_winsFrom_1 rfl hl (by decide) rfl (fun ls hl => ?_)
  have key_2 : ∀ (nkey_2 : Nat) (u_1 : Int32) (ls : Array Slot), (0 ≤ u_1.toInt ∧ u_1.toInt ≤ 7) → lv_has ls 4 [(3, .int u_1), (0, .ref m0), (1, .int p0), (2, .int p1)] → ((m_has 0).toInt - u_1.toInt).toNat < nkey_2 → W p l e ({ frames := 2, cells := 0, slots := 0, locals := 81 }) s m ([.ref m0, .int p0, .int p1] : List Value).toArray below meth c s.heap [] 0 0 Q9 (F0 m 2 ls []) := by
    intro nkey_2
    induction nkey_2 with
    | zero => intro u_1 ls hu_1 hl hnkey_2; exact absurd hnkey_2 (Nat.not_lt_zero _)
    | succ nkey_2 ihkey_2 =>
      intro u_1 ls hu_1 hl hnkey_2
      refine lv_iload_n hx hb dX12_winsFrom_2 rfl (lv_at hl 0 rfl) ?_
      refine lv_aload_n hx hb dX12_winsFrom_3 rfl (lv_at hl 1 rfl) ?_
      have hPc := hP.sub (ws' := [(m0, .inr (11, [.int m_thrown, .ref mwidth, .ref mmany, .ref mcells, .ref mmoved, .ref mtape, .int m_taped, .int m_at, .int m_token, .int m_place, .int m_value, .long m_word, .int m_bad, .int m_badPlace, .int m_fault, .int m_faultPlace, .ref mlines, .ref mhas, .ref mtold, .ref mlaw, .ref msuit, .ref mapart, .ref mact, .ref misKept, .ref mseen, .ref mhung, .int m_gone, .ref mgoal, .ref mleaps, .ref mqueue, .ref mrow, .int m_reached, .ref mwanted, .ref mfirst, .ref moften, .int m_fitMany, .int m_fitFirst, .int m_askBest, .int m_askLeaves, .int m_bestFirst, .int m_bestWays, .ref mlots, .ref mthen, .long m_lotsAll])), (mhas, .inl (cyI, 20, .inl m_has))]) [0, 1] rfl
      have hKc := hK.sub (tys' := [(cyI, .int), (cyB, .byte), (cyJ, .long), (cyZ, .boolean), (cyH, .object RX2), (cyN, .array .long)]) [0, 1, 2, 3, 4, 5] rfl
      refine vp_callSi (va_Run.run (va_runV (As := []) (rest := [.int u_1]) ⟨hx, hb, hml, hown, hts⟩ (m_places l dC dI cyI cyB cyJ cyZ cyH cyN m0 mwidth mmany mcells mmoved mtape mlines mhas mtold mlaw msuit mapart mact misKept mseen mhung mgoal mleaps mqueue mrow mwanted mfirst moften mlots mthen m_thrown m_taped m_at m_token m_place m_value m_word m_bad m_badPlace m_fault m_faultPlace m_gone m_reached m_fitMany m_fitFirst m_askBest m_askLeaves m_bestFirst m_bestWays m_lotsAll m_has (by omega) (by omega) (by omega) g5 g6 g7) (cwV 0 hts (gdV wd_7_86 wd_7_88 wd_s4_14 wd_1_11 wd_7_89) rfl rfl rfl (by decide +kernel) ⟨Nat.le_of_ble_eq_true rfl, Nat.le_of_ble_eq_true rfl⟩) ⟨fun a U g mk q => by obtain ⟨q0, qP, qK⟩ := q; exact ⟨q0, qP, va_K.moved (u := U) (U := U.calling g mk a) (Vm.Alike.refl U.vm) qK⟩, va_recv hKc hPc (ci := 11) (q0 := 0) rfl rfl, fun U hU hW => ⟨rfl, by rw [hU]; exact hPc, va_K.moved hW.alike hKc⟩⟩ rfl rfl hl.1 rfl (lv_room (Nat.le_of_ble_eq_true rfl)) dX12_winsFrom_4 ⟨Nat.le_of_ble_eq_true rfl, Nat.le_of_ble_eq_true rfl⟩)) (fun r_3 hw => ?_)
      subst hw
      refine lv_icmp_ge (tgt := 48) hx hb dX12_winsFrom_7 (by decide) (fun c_4 => ?_) (fun c_4 => ?_)
      · have c_4 : (m_has 0).toInt ≤ u_1.toInt := cv_le c_4
        refine lv_iconst (v := 0) hx hb dX12_winsFrom_48 (by decide) ?_
        rw [hQ9]
        exact W.zret (v := 0) (ty := .boolean) hx hb hr rfl (fun t ht hW => ⟨0, rfl, (by decide), ht⟩) (fun q h => by cases h) dX12_winsFrom_49
      · have c_4 : u_1.toInt < (m_has 0).toInt := cv_nle c_4
        refine lv_iload_n hx hb dX12_winsFrom_10 rfl (lv_at hl 3 rfl) ?_
        refine lv_iload_n hx hb dX12_winsFrom_11 rfl (lv_at hl 0 rfl) ?_
        refine vp_callSi (va_Run.run (va_runS (As := [.int p1, .int u_1]) (rest := []) ⟨hx, hb, hml, hown, hts⟩ (m_isBit l dC dI cyI cyB cyJ cyZ cyH cyN p1 u_1) (va_cwS 2 hts (gdS wd_7_106 wd_7_107 wd_1_11 wd_7_108) rfl rfl rfl (by decide +kernel) ⟨Nat.le_of_ble_eq_true rfl, Nat.le_of_ble_eq_true rfl⟩) ⟨fun a U g mk q => q, fun U hU hW => ⟨rfl, trivial⟩⟩ rfl rfl hl.1 rfl (lv_room (Nat.le_of_ble_eq_true rfl)) dX12_winsFrom_12 ⟨Nat.le_of_ble_eq_true rfl, Nat.le_of_ble_eq_true rfl⟩)) (fun r_5 hw => ?_)
        by_cases c_6 : ((p1 >>> (u_1 &&& 31)) &&& 1 = 1)
        · rw [if_pos c_6] at hw; subst hw; have c_6 : ((p1 >>> (u_1 &&& 31)) &&& 1 = 1) := c_6
          refine lv_if_ne (tgt := 42) hx hb dX12_winsFrom_15 (by decide) (fun _ => ?_) (fun c_7 => absurd c_7 (by decide))
          obtain ⟨x_8, ex_8⟩ : ∃ y : Int32, y = u_1 + 1 := ⟨_, rfl⟩
          refine lv_iinc (v := x_8) (lv' := [(3, .int x_8), (0, .ref m0), (1, .int p0), (2, .int p1)]) hx hb dX12_winsFrom_42 hl (k := 0) rfl (by rw [ex_8]; rfl) (by decide) rfl (fun ls hl => ?_)
          have fx_8 : x_8.toInt = u_1.toInt + 1 := by rw [ex_8]; exact cv_addI (by have : (1 : Int32).toInt = 1 := rfl; omega) (by have : (1 : Int32).toInt = 1 := rfl; omega)
          refine lv_goto (tgt := 2) hx hb dX12_winsFrom_45 (by decide) ?_
          exact ihkey_2 x_8 _ (by omega) (lv_sub hl [0, 1, 2, 3] rfl) (by omega)
        · rw [if_neg c_6] at hw; subst hw; have c_6 : ¬ ((p1 >>> (u_1 &&& 31)) &&& 1 = 1) := c_6
          refine lv_if_ne (tgt := 42) hx hb dX12_winsFrom_15 (by decide) (fun c_9 => absurd c_9 (by decide)) (fun _ => ?_)
          exact absurd (cb_all g8 (by omega) (by omega)) c_6
  exact key_2 _ 0 _ (by decide) (lv_sub hl [0, 1, 2, 3] rfl) (Nat.lt_succ_self _)

/- X12_winsFrom -/
set_option maxHeartbeats 4000000 in
set_option maxRecDepth 100000 in
theorem m_wins1 (l : Launch) (dC : Nat → ClassId) (dI : Nat → Nat → Nat) (cyI cyB cyJ cyZ cyH cyN : ClassId) (m0 mwidth mmany mcells mmoved mtape mlines mhas mtold mlaw msuit mapart mact misKept mseen mhung mgoal mleaps mqueue mrow mwanted mfirst moften mlots mthen : Nat) (m_thrown m_taped m_at m_token m_place m_value : Int32) (m_word : Int64) (m_bad m_badPlace m_fault m_faultPlace m_gone m_reached m_fitMany m_fitFirst m_askBest m_askLeaves m_bestFirst m_bestWays : Int32) (m_lotsAll : Int64) (m_has : Nat → Int32) (p0 p1 : Int32) (g0 : 0 ≤ m_taped.toInt ∧ m_taped.toInt ≤ 800) (g1 : 0 ≤ m_at.toInt ∧ m_at.toInt ≤ 800) (g2 : 0 ≤ m_gone.toInt ∧ m_gone.toInt ≤ 40) (g3 : 0 ≤ p0.toInt ∧ p0.toInt ≤ 6) (g4 : 0 ≤ p1.toInt ∧ p1.toInt ≤ 127) (g5 : (m_has 0).toInt = 0 ∨ (2 ≤ (m_has 0).toInt ∧ (m_has 0).toInt ≤ 7)) (g6 : 0 ≤ (m_has 1).toInt ∧ (m_has 1).toInt ≤ 6) (g7 : 0 ≤ (m_has 3).toInt ∧ (m_has 3).toInt ≤ 40) (g8 : 6 ≤ cb p1 7) : Met l yX12_winsFrom (wk yX12_winsFrom cX12_winsFrom 4 (some .boolean)) ({ frames := 3, cells := 0, slots := 0, locals := 104 }) (va_Pc [.ref m0, .int p0, .int p1] (fun U => va_P (dC, dI) vwCl [(m0, .inr (11, [.int m_thrown, .ref mwidth, .ref mmany, .ref mcells, .ref mmoved, .ref mtape, .int m_taped, .int m_at, .int m_token, .int m_place, .int m_value, .long m_word, .int m_bad, .int m_badPlace, .int m_fault, .int m_faultPlace, .ref mlines, .ref mhas, .ref mtold, .ref mlaw, .ref msuit, .ref mapart, .ref mact, .ref misKept, .ref mseen, .ref mhung, .int m_gone, .ref mgoal, .ref mleaps, .ref mqueue, .ref mrow, .int m_reached, .ref mwanted, .ref mfirst, .ref moften, .int m_fitMany, .int m_fitFirst, .int m_askBest, .int m_askLeaves, .int m_bestFirst, .int m_bestWays, .ref mlots, .ref mthen, .long m_lotsAll])), (mhas, .inl (cyI, 20, .inl m_has))] U.heap ∧ va_K (dC, dI) vwCl [(cyI, .int), (cyB, .byte), (cyJ, .long), (cyZ, .boolean), (cyH, .object RX2), (cyN, .array .long)] U)) (vp_Si (fun r : Int32 => 0 ≤ r.toInt ∧ r.toInt ≤ 1)) 0 0 (fun _ => False) := by
  refine Met.ofW (cc := cX12_winsFrom) (maxL := 4) (ret := (some .boolean)) (by decide) rfl ?_
  intro p e s m args below meth c s₁ B hml hv
  obtain ⟨rfl, hP, hK⟩ := hv
  have hx := B.exec
  have hb := B.bytes
  have hr := B.returns
  have hts : ∀ w ∈ uU, w.before ([.ref m0, .int p0, .int p1] : List Value).toArray s = true := fun w h => atoms_spec (ws := wk yX12_winsFrom cX12_winsFrom 4 (some .boolean)) B.pre w (List.mem_cons_of_mem _ h)
  have hown : s.vm.findClass RX12 = some m.cls := findClass_of_methodNamed B.named
  have hlocks := B.notSynchronized
  have hl := lv_entry ([.ref m0, .int p0, .int p1]) (n := 4) (Nat.le_of_ble_eq_true rfl)
  rw [lg_entry_eq]
  generalize (lg_sl ([.ref m0, .int p0, .int p1]) ++ List.replicate (4 - (lg_sl ([.ref m0, .int p0, .int p1])).length) Slot.unset).toArray = ls at hl ⊢
  have hl : lv_has ls 4 [(0, .ref m0), (1, .int p0), (2, .int p1)] := hl
  obtain ⟨Q9, hQ9⟩ : ∃ Q9 : State → Prop, Q9 = MQ below (vp_Si (fun r : Int32 => 0 ≤ r.toInt ∧ r.toInt ≤ 1)) ([.ref m0, .int p0, .int p1] : List Value).toArray s 0 0 (fun _ => False) := ⟨_, rfl⟩
  rw [← hQ9]
  refine lv_iconst (v := 0) hx hb dX12_winsFrom_0 (by decide) ?_
  refine lv_istore_n (lv' := [(3, .int 0), (0, .ref m0), (1, .int p0), (2, .int p1)]) hx hb dX12_winsFrom_1 rfl hl (by decide) rfl (fun ls hl => ?_)
  have key_2 : ∀ (nkey_2 : Nat) (u_1 : Int32) (ls : Array Slot), (0 ≤ u_1.toInt ∧ u_1.toInt ≤ 7) → lv_has ls 4 [(3, .int u_1), (0, .ref m0), (1, .int p0), (2, .int p1)] → ((m_has 0).toInt - u_1.toInt).toNat < nkey_2 → W p l e ({ frames := 3, cells := 0, slots := 0, locals := 104 }) s m ([.ref m0, .int p0, .int p1] : List Value).toArray below meth c s.heap [] 0 0 Q9 (F0 m 2 ls []) := by
    intro nkey_2
    induction nkey_2 with
    | zero => intro u_1 ls hu_1 hl hnkey_2; exact absurd hnkey_2 (Nat.not_lt_zero _)
    | succ nkey_2 ihkey_2 =>
      intro u_1 ls hu_1 hl hnkey_2
      refine lv_iload_n hx hb dX12_winsFrom_2 rfl (lv_at hl 0 rfl) ?_
      refine lv_aload_n hx hb dX12_winsFrom_3 rfl (lv_at hl 1 rfl) ?_
      have hPc := hP.sub (ws' := [(m0, .inr (11, [.int m_thrown, .ref mwidth, .ref mmany, .ref mcells, .ref mmoved, .ref mtape, .int m_taped, .int m_at, .int m_token, .int m_place, .int m_value, .long m_word, .int m_bad, .int m_badPlace, .int m_fault, .int m_faultPlace, .ref mlines, .ref mhas, .ref mtold, .ref mlaw, .ref msuit, .ref mapart, .ref mact, .ref misKept, .ref mseen, .ref mhung, .int m_gone, .ref mgoal, .ref mleaps, .ref mqueue, .ref mrow, .int m_reached, .ref mwanted, .ref mfirst, .ref moften, .int m_fitMany, .int m_fitFirst, .int m_askBest, .int m_askLeaves, .int m_bestFirst, .int m_bestWays, .ref mlots, .ref mthen, .long m_lotsAll])), (mhas, .inl (cyI, 20, .inl m_has))]) [0, 1] rfl
      have hKc := hK.sub (tys' := [(cyI, .int), (cyB, .byte), (cyJ, .long), (cyZ, .boolean), (cyH, .object RX2), (cyN, .array .long)]) [0, 1, 2, 3, 4, 5] rfl
      refine vp_callSi (va_Run.run (va_runV (As := []) (rest := [.int u_1]) ⟨hx, hb, hml, hown, hts⟩ (m_places l dC dI cyI cyB cyJ cyZ cyH cyN m0 mwidth mmany mcells mmoved mtape mlines mhas mtold mlaw msuit mapart mact misKept mseen mhung mgoal mleaps mqueue mrow mwanted mfirst moften mlots mthen m_thrown m_taped m_at m_token m_place m_value m_word m_bad m_badPlace m_fault m_faultPlace m_gone m_reached m_fitMany m_fitFirst m_askBest m_askLeaves m_bestFirst m_bestWays m_lotsAll m_has (by omega) (by omega) (by omega) g5 g6 g7) (cwV 0 hts (gdV wd_7_86 wd_7_88 wd_s4_14 wd_1_11 wd_7_89) rfl rfl rfl (by decide +kernel) ⟨Nat.le_of_ble_eq_true rfl, Nat.le_of_ble_eq_true rfl⟩) ⟨fun a U g mk q => by obtain ⟨q0, qP, qK⟩ := q; exact ⟨q0, qP, va_K.moved (u := U) (U := U.calling g mk a) (Vm.Alike.refl U.vm) qK⟩, va_recv hKc hPc (ci := 11) (q0 := 0) rfl rfl, fun U hU hW => ⟨rfl, by rw [hU]; exact hPc, va_K.moved hW.alike hKc⟩⟩ rfl rfl hl.1 rfl (lv_room (Nat.le_of_ble_eq_true rfl)) dX12_winsFrom_4 ⟨Nat.le_of_ble_eq_true rfl, Nat.le_of_ble_eq_true rfl⟩)) (fun r_3 hw => ?_)
      subst hw
      refine lv_icmp_ge (tgt := 48) hx hb dX12_winsFrom_7 (by decide) (fun c_4 => ?_) (fun c_4 => ?_)
      · have c_4 : (m_has 0).toInt ≤ u_1.toInt := cv_le c_4
        refine lv_iconst (v := 0) hx hb dX12_winsFrom_48 (by decide) ?_
        rw [hQ9]
        exact W.zret (v := 0) (ty := .boolean) hx hb hr rfl (fun t ht hW => ⟨0, rfl, (by decide), ht⟩) (fun q h => by cases h) dX12_winsFrom_49
      · have c_4 : u_1.toInt < (m_has 0).toInt := cv_nle c_4
        refine lv_iload_n hx hb dX12_winsFrom_10 rfl (lv_at hl 3 rfl) ?_
        refine lv_iload_n hx hb dX12_winsFrom_11 rfl (lv_at hl 0 rfl) ?_
        refine vp_callSi (va_Run.run (va_runS (As := [.int p1, .int u_1]) (rest := []) ⟨hx, hb, hml, hown, hts⟩ (m_isBit l dC dI cyI cyB cyJ cyZ cyH cyN p1 u_1) (va_cwS 2 hts (gdS wd_7_106 wd_7_107 wd_1_11 wd_7_108) rfl rfl rfl (by decide +kernel) ⟨Nat.le_of_ble_eq_true rfl, Nat.le_of_ble_eq_true rfl⟩) ⟨fun a U g mk q => q, fun U hU hW => ⟨rfl, trivial⟩⟩ rfl rfl hl.1 rfl (lv_room (Nat.le_of_ble_eq_true rfl)) dX12_winsFrom_12 ⟨Nat.le_of_ble_eq_true rfl, Nat.le_of_ble_eq_true rfl⟩)) (fun r_5 hw => ?_)
        by_cases c_6 : ((p1 >>> (u_1 &&& 31)) &&& 1 = 1)
        · rw [if_pos c_6] at hw; subst hw; have c_6 : ((p1 >>> (u_1 &&& 31)) &&& 1 = 1) := c_6
          refine lv_if_ne (tgt := 42) hx hb dX12_winsFrom_15 (by decide) (fun _ => ?_) (fun c_7 => absurd c_7 (by decide))
          obtain ⟨x_8, ex_8⟩ : ∃ y : Int32, y = u_1 + 1 := ⟨_, rfl⟩
          refine lv_iinc (v := x_8) (lv' := [(3, .int x_8), (0, .ref m0), (1, .int p0), (2, .int p1)]) hx hb dX12_winsFrom_42 hl (k := 0) rfl (by rw [ex_8]; rfl) (by decide) rfl (fun ls hl => ?_)
          have fx_8 : x_8.toInt = u_1.toInt + 1 := by rw [ex_8]; exact cv_addI (by have : (1 : Int32).toInt = 1 := rfl; omega) (by have : (1 : Int32).toInt = 1 := rfl; omega)
          refine lv_goto (tgt := 2) hx hb dX12_winsFrom_45 (by decide) ?_
          exact ihkey_2 x_8 _ (by omega) (lv_sub hl [0, 1, 2, 3] rfl) (by omega)
        · rw [if_neg c_6] at hw; subst hw; have c_6 : ¬ ((p1 >>> (u_1 &&& 31)) &&& 1 = 1) := c_6
          refine lv_if_ne (tgt := 42) hx hb dX12_winsFrom_15 (by decide) (fun c_9 => absurd c_9 (by decide)) (fun _ => ?_)
          refine lv_aload_n hx hb dX12_winsFrom_18 rfl (lv_at hl 1 rfl) ?_
          refine lv_iload_n hx hb dX12_winsFrom_19 rfl (lv_at hl 2 rfl) ?_
          refine lv_iload_n hx hb dX12_winsFrom_20 rfl (lv_at hl 0 rfl) ?_
          have hPc := hP.sub (ws' := [(m0, .inr (11, [.int m_thrown, .ref mwidth, .ref mmany, .ref mcells, .ref mmoved, .ref mtape, .int m_taped, .int m_at, .int m_token, .int m_place, .int m_value, .long m_word, .int m_bad, .int m_badPlace, .int m_fault, .int m_faultPlace, .ref mlines, .ref mhas, .ref mtold, .ref mlaw, .ref msuit, .ref mapart, .ref mact, .ref misKept, .ref mseen, .ref mhung, .int m_gone, .ref mgoal, .ref mleaps, .ref mqueue, .ref mrow, .int m_reached, .ref mwanted, .ref mfirst, .ref moften, .int m_fitMany, .int m_fitFirst, .int m_askBest, .int m_askLeaves, .int m_bestFirst, .int m_bestWays, .ref mlots, .ref mthen, .long m_lotsAll])), (mhas, .inl (cyI, 20, .inl m_has))]) [0, 1] rfl
          have hKc := hK.sub (tys' := [(cyI, .int), (cyB, .byte), (cyJ, .long), (cyZ, .boolean), (cyH, .object RX2), (cyN, .array .long)]) [0, 1, 2, 3, 4, 5] rfl
          refine vp_callSi (va_Run.run (va_runV (As := [.int p0, .int u_1]) (rest := []) ⟨hx, hb, hml, hown, hts⟩ (m_isLeap l dC dI cyI cyB cyJ cyZ cyH cyN m0 mwidth mmany mcells mmoved mtape mlines mhas mtold mlaw msuit mapart mact misKept mseen mhung mgoal mleaps mqueue mrow mwanted mfirst moften mlots mthen m_thrown m_taped m_at m_token m_place m_value m_word m_bad m_badPlace m_fault m_faultPlace m_gone m_reached m_fitMany m_fitFirst m_askBest m_askLeaves m_bestFirst m_bestWays m_lotsAll m_has p0 u_1 (by omega) (by omega) (by omega) g5 g6 g7) (cwV 2 hts (gdV wd_8_35 wd_8_37 wd_s6_1 wd_1_11 wd_8_38) rfl rfl rfl (by decide +kernel) ⟨Nat.le_of_ble_eq_true rfl, Nat.le_of_ble_eq_true rfl⟩) ⟨fun a U g mk q => by obtain ⟨q0, qP, qK⟩ := q; exact ⟨q0, qP, va_K.moved (u := U) (U := U.calling g mk a) (Vm.Alike.refl U.vm) qK⟩, va_recv hKc hPc (ci := 11) (q0 := 0) rfl rfl, fun U hU hW => ⟨rfl, by rw [hU]; exact hPc, va_K.moved hW.alike hKc⟩⟩ rfl rfl hl.1 rfl (lv_room (Nat.le_of_ble_eq_true rfl)) dX12_winsFrom_21 ⟨Nat.le_of_ble_eq_true rfl, Nat.le_of_ble_eq_true rfl⟩)) (fun r_10 hw => ?_)
          have hrr_10 := hw
          refine lv_if_eq (tgt := 42) hx hb dX12_winsFrom_24 (by decide) (fun c_11 => ?_) (fun c_11 => ?_)
          · have c_11 : r_10.toInt = 0 := cv_eq c_11
            obtain ⟨x_12, ex_12⟩ : ∃ y : Int32, y = u_1 + 1 := ⟨_, rfl⟩
            refine lv_iinc (v := x_12) (lv' := [(3, .int x_12), (0, .ref m0), (1, .int p0), (2, .int p1)]) hx hb dX12_winsFrom_42 hl (k := 0) rfl (by rw [ex_12]; rfl) (by decide) rfl (fun ls hl => ?_)
            have fx_12 : x_12.toInt = u_1.toInt + 1 := by rw [ex_12]; exact cv_addI (by have : (1 : Int32).toInt = 1 := rfl; omega) (by have : (1 : Int32).toInt = 1 := rfl; omega)
            refine lv_goto (tgt := 2) hx hb dX12_winsFrom_45 (by decide) ?_
            exact ihkey_2 x_12 _ (by omega) (lv_sub hl [0, 1, 2, 3] rfl) (by omega)
          · have c_11 : r_10.toInt ≠ 0 := cv_ne c_11
            refine lv_aload_n hx hb dX12_winsFrom_27 rfl (lv_at hl 1 rfl) ?_
            refine lv_iload_n hx hb dX12_winsFrom_28 rfl (lv_at hl 0 rfl) ?_
            refine lv_iload_n hx hb dX12_winsFrom_29 rfl (lv_at hl 3 rfl) ?_
            refine lv_iconst (v := 1) hx hb dX12_winsFrom_30 (by decide) ?_
            refine lv_iload_n hx hb dX12_winsFrom_31 rfl (lv_at hl 0 rfl) ?_
            refine lv_ishl hx hb dX12_winsFrom_32 ?_
            refine lv_topi (fun x_13 ex_13 => ?_)
            have fx_13 : 1 ≤ x_13.toInt ∧ x_13.toInt ≤ 64 := by rw [ex_13]; have q := cv_shl1 (y := u_1) 0 6 (by decide) (by decide) (by omega) (by omega); omega
            refine lv_ior hx hb dX12_winsFrom_33 ?_
            refine lv_topi (fun x_14 ex_14 => ?_)
            have fx_14 : 0 ≤ x_14.toInt ∧ x_14.toInt ≤ 127 := by rw [ex_14]; have q := cv_or (x := p1) (y := x_13) 7 (by decide) (by omega) (by omega) (by omega) (by omega); omega
            have h9 := cb_inc (k' := x_14) (by assumption) (by assumption) (by assumption) (by omega) (by omega)
            have hPc := hP.sub (ws' := [(m0, .inr (11, [.int m_thrown, .ref mwidth, .ref mmany, .ref mcells, .ref mmoved, .ref mtape, .int m_taped, .int m_at, .int m_token, .int m_place, .int m_value, .long m_word, .int m_bad, .int m_badPlace, .int m_fault, .int m_faultPlace, .ref mlines, .ref mhas, .ref mtold, .ref mlaw, .ref msuit, .ref mapart, .ref mact, .ref misKept, .ref mseen, .ref mhung, .int m_gone, .ref mgoal, .ref mleaps, .ref mqueue, .ref mrow, .int m_reached, .ref mwanted, .ref mfirst, .ref moften, .int m_fitMany, .int m_fitFirst, .int m_askBest, .int m_askLeaves, .int m_bestFirst, .int m_bestWays, .ref mlots, .ref mthen, .long m_lotsAll])), (mhas, .inl (cyI, 20, .inl m_has))]) [0, 1] rfl
            have hKc := hK.sub (tys' := [(cyI, .int), (cyB, .byte), (cyJ, .long), (cyZ, .boolean), (cyH, .object RX2), (cyN, .array .long)]) [0, 1, 2, 3, 4, 5] rfl
            refine vp_callSi (va_Run.run (va_runV (As := [.int u_1, .int x_14]) (rest := []) ⟨hx, hb, hml, hown, hts⟩ (m_wins0 l dC dI cyI cyB cyJ cyZ cyH cyN m0 mwidth mmany mcells mmoved mtape mlines mhas mtold mlaw msuit mapart mact misKept mseen mhung mgoal mleaps mqueue mrow mwanted mfirst moften mlots mthen m_thrown m_taped m_at m_token m_place m_value m_word m_bad m_badPlace m_fault m_faultPlace m_gone m_reached m_fitMany m_fitFirst m_askBest m_askLeaves m_bestFirst m_bestWays m_lotsAll m_has u_1 x_14 (by omega) (by omega) (by omega) (by omega) (by omega) g5 g6 g7 (by omega)) (cwV 2 hts (gdV wd_8_148 wd_8_150 wd_s6_10 wd_1_11 wd_8_151) rfl rfl rfl (by decide +kernel) ⟨Nat.le_of_ble_eq_true rfl, Nat.le_of_ble_eq_true rfl⟩) ⟨fun a U g mk q => by obtain ⟨q0, qP, qK⟩ := q; exact ⟨q0, qP, va_K.moved (u := U) (U := U.calling g mk a) (Vm.Alike.refl U.vm) qK⟩, va_recv hKc hPc (ci := 11) (q0 := 0) rfl rfl, fun U hU hW => ⟨rfl, by rw [hU]; exact hPc, va_K.moved hW.alike hKc⟩⟩ rfl rfl hl.1 rfl (lv_room (Nat.le_of_ble_eq_true rfl)) dX12_winsFrom_34 ⟨Nat.le_of_ble_eq_true rfl, Nat.le_of_ble_eq_true rfl⟩)) (fun r_15 hw => ?_)
            have hrr_15 := hw
            refine lv_if_ne (tgt := 42) hx hb dX12_winsFrom_37 (by decide) (fun c_16 => ?_) (fun c_16 => ?_)
            · have c_16 : r_15.toInt ≠ 0 := cv_ne c_16
              obtain ⟨x_17, ex_17⟩ : ∃ y : Int32, y = u_1 + 1 := ⟨_, rfl⟩
              refine lv_iinc (v := x_17) (lv' := [(3, .int x_17), (0, .ref m0), (1, .int p0), (2, .int p1)]) hx hb dX12_winsFrom_42 hl (k := 0) rfl (by rw [ex_17]; rfl) (by decide) rfl (fun ls hl => ?_)
              have fx_17 : x_17.toInt = u_1.toInt + 1 := by rw [ex_17]; exact cv_addI (by have : (1 : Int32).toInt = 1 := rfl; omega) (by have : (1 : Int32).toInt = 1 := rfl; omega)
              refine lv_goto (tgt := 2) hx hb dX12_winsFrom_45 (by decide) ?_
              exact ihkey_2 x_17 _ (by omega) (lv_sub hl [0, 1, 2, 3] rfl) (by omega)
            · have c_16 : r_15.toInt = 0 := cv_eq c_16
              refine lv_iconst (v := 1) hx hb dX12_winsFrom_40 (by decide) ?_
              rw [hQ9]
              exact W.zret (v := 1) (ty := .boolean) hx hb hr rfl (fun t ht hW => ⟨1, rfl, (by decide), ht⟩) (fun q h => by cases h) dX12_winsFrom_41
  exact key_2 _ 0 _ (by decide) (lv_sub hl [0, 1, 2, 3] rfl) (Nat.lt_succ_self _)

/- X12_winsFrom -/
set_option maxHeartbeats 4000000 in
set_option maxRecDepth 100000 in
theorem m_wins2 (l : Launch) (dC : Nat → ClassId) (dI : Nat → Nat → Nat) (cyI cyB cyJ cyZ cyH cyN : ClassId) (m0 mwidth mmany mcells mmoved mtape mlines mhas mtold mlaw msuit mapart mact misKept mseen mhung mgoal mleaps mqueue mrow mwanted mfirst moften mlots mthen : Nat) (m_thrown m_taped m_at m_token m_place m_value : Int32) (m_word : Int64) (m_bad m_badPlace m_fault m_faultPlace m_gone m_reached m_fitMany m_fitFirst m_askBest m_askLeaves m_bestFirst m_bestWays : Int32) (m_lotsAll : Int64) (m_has : Nat → Int32) (p0 p1 : Int32) (g0 : 0 ≤ m_taped.toInt ∧ m_taped.toInt ≤ 800) (g1 : 0 ≤ m_at.toInt ∧ m_at.toInt ≤ 800) (g2 : 0 ≤ m_gone.toInt ∧ m_gone.toInt ≤ 40) (g3 : 0 ≤ p0.toInt ∧ p0.toInt ≤ 6) (g4 : 0 ≤ p1.toInt ∧ p1.toInt ≤ 127) (g5 : (m_has 0).toInt = 0 ∨ (2 ≤ (m_has 0).toInt ∧ (m_has 0).toInt ≤ 7)) (g6 : 0 ≤ (m_has 1).toInt ∧ (m_has 1).toInt ≤ 6) (g7 : 0 ≤ (m_has 3).toInt ∧ (m_has 3).toInt ≤ 40) (g8 : 5 ≤ cb p1 7) : Met l yX12_winsFrom (wk yX12_winsFrom cX12_winsFrom 4 (some .boolean)) ({ frames := 4, cells := 0, slots := 0, locals := 127 }) (va_Pc [.ref m0, .int p0, .int p1] (fun U => va_P (dC, dI) vwCl [(m0, .inr (11, [.int m_thrown, .ref mwidth, .ref mmany, .ref mcells, .ref mmoved, .ref mtape, .int m_taped, .int m_at, .int m_token, .int m_place, .int m_value, .long m_word, .int m_bad, .int m_badPlace, .int m_fault, .int m_faultPlace, .ref mlines, .ref mhas, .ref mtold, .ref mlaw, .ref msuit, .ref mapart, .ref mact, .ref misKept, .ref mseen, .ref mhung, .int m_gone, .ref mgoal, .ref mleaps, .ref mqueue, .ref mrow, .int m_reached, .ref mwanted, .ref mfirst, .ref moften, .int m_fitMany, .int m_fitFirst, .int m_askBest, .int m_askLeaves, .int m_bestFirst, .int m_bestWays, .ref mlots, .ref mthen, .long m_lotsAll])), (mhas, .inl (cyI, 20, .inl m_has))] U.heap ∧ va_K (dC, dI) vwCl [(cyI, .int), (cyB, .byte), (cyJ, .long), (cyZ, .boolean), (cyH, .object RX2), (cyN, .array .long)] U)) (vp_Si (fun r : Int32 => 0 ≤ r.toInt ∧ r.toInt ≤ 1)) 0 0 (fun _ => False) := by
  refine Met.ofW (cc := cX12_winsFrom) (maxL := 4) (ret := (some .boolean)) (by decide) rfl ?_
  intro p e s m args below meth c s₁ B hml hv
  obtain ⟨rfl, hP, hK⟩ := hv
  have hx := B.exec
  have hb := B.bytes
  have hr := B.returns
  have hts : ∀ w ∈ uU, w.before ([.ref m0, .int p0, .int p1] : List Value).toArray s = true := fun w h => atoms_spec (ws := wk yX12_winsFrom cX12_winsFrom 4 (some .boolean)) B.pre w (List.mem_cons_of_mem _ h)
  have hown : s.vm.findClass RX12 = some m.cls := findClass_of_methodNamed B.named
  have hlocks := B.notSynchronized
  have hl := lv_entry ([.ref m0, .int p0, .int p1]) (n := 4) (Nat.le_of_ble_eq_true rfl)
  rw [lg_entry_eq]
  generalize (lg_sl ([.ref m0, .int p0, .int p1]) ++ List.replicate (4 - (lg_sl ([.ref m0, .int p0, .int p1])).length) Slot.unset).toArray = ls at hl ⊢
  have hl : lv_has ls 4 [(0, .ref m0), (1, .int p0), (2, .int p1)] := hl
  obtain ⟨Q9, hQ9⟩ : ∃ Q9 : State → Prop, Q9 = MQ below (vp_Si (fun r : Int32 => 0 ≤ r.toInt ∧ r.toInt ≤ 1)) ([.ref m0, .int p0, .int p1] : List Value).toArray s 0 0 (fun _ => False) := ⟨_, rfl⟩
  rw [← hQ9]
  refine lv_iconst (v := 0) hx hb dX12_winsFrom_0 (by decide) ?_
  refine lv_istore_n (lv' := [(3, .int 0), (0, .ref m0), (1, .int p0), (2, .int p1)]) hx hb dX12_winsFrom_1 rfl hl (by decide) rfl (fun ls hl => ?_)
  have key_2 : ∀ (nkey_2 : Nat) (u_1 : Int32) (ls : Array Slot), (0 ≤ u_1.toInt ∧ u_1.toInt ≤ 7) → lv_has ls 4 [(3, .int u_1), (0, .ref m0), (1, .int p0), (2, .int p1)] → ((m_has 0).toInt - u_1.toInt).toNat < nkey_2 → W p l e ({ frames := 4, cells := 0, slots := 0, locals := 127 }) s m ([.ref m0, .int p0, .int p1] : List Value).toArray below meth c s.heap [] 0 0 Q9 (F0 m 2 ls []) := by
    intro nkey_2
    induction nkey_2 with
    | zero => intro u_1 ls hu_1 hl hnkey_2; exact absurd hnkey_2 (Nat.not_lt_zero _)
    | succ nkey_2 ihkey_2 =>
      intro u_1 ls hu_1 hl hnkey_2
      refine lv_iload_n hx hb dX12_winsFrom_2 rfl (lv_at hl 0 rfl) ?_
      refine lv_aload_n hx hb dX12_winsFrom_3 rfl (lv_at hl 1 rfl) ?_
      have hPc := hP.sub (ws' := [(m0, .inr (11, [.int m_thrown, .ref mwidth, .ref mmany, .ref mcells, .ref mmoved, .ref mtape, .int m_taped, .int m_at, .int m_token, .int m_place, .int m_value, .long m_word, .int m_bad, .int m_badPlace, .int m_fault, .int m_faultPlace, .ref mlines, .ref mhas, .ref mtold, .ref mlaw, .ref msuit, .ref mapart, .ref mact, .ref misKept, .ref mseen, .ref mhung, .int m_gone, .ref mgoal, .ref mleaps, .ref mqueue, .ref mrow, .int m_reached, .ref mwanted, .ref mfirst, .ref moften, .int m_fitMany, .int m_fitFirst, .int m_askBest, .int m_askLeaves, .int m_bestFirst, .int m_bestWays, .ref mlots, .ref mthen, .long m_lotsAll])), (mhas, .inl (cyI, 20, .inl m_has))]) [0, 1] rfl
      have hKc := hK.sub (tys' := [(cyI, .int), (cyB, .byte), (cyJ, .long), (cyZ, .boolean), (cyH, .object RX2), (cyN, .array .long)]) [0, 1, 2, 3, 4, 5] rfl
      refine vp_callSi (va_Run.run (va_runV (As := []) (rest := [.int u_1]) ⟨hx, hb, hml, hown, hts⟩ (m_places l dC dI cyI cyB cyJ cyZ cyH cyN m0 mwidth mmany mcells mmoved mtape mlines mhas mtold mlaw msuit mapart mact misKept mseen mhung mgoal mleaps mqueue mrow mwanted mfirst moften mlots mthen m_thrown m_taped m_at m_token m_place m_value m_word m_bad m_badPlace m_fault m_faultPlace m_gone m_reached m_fitMany m_fitFirst m_askBest m_askLeaves m_bestFirst m_bestWays m_lotsAll m_has (by omega) (by omega) (by omega) g5 g6 g7) (cwV 0 hts (gdV wd_7_86 wd_7_88 wd_s4_14 wd_1_11 wd_7_89) rfl rfl rfl (by decide +kernel) ⟨Nat.le_of_ble_eq_true rfl, Nat.le_of_ble_eq_true rfl⟩) ⟨fun a U g mk q => by obtain ⟨q0, qP, qK⟩ := q; exact ⟨q0, qP, va_K.moved (u := U) (U := U.calling g mk a) (Vm.Alike.refl U.vm) qK⟩, va_recv hKc hPc (ci := 11) (q0 := 0) rfl rfl, fun U hU hW => ⟨rfl, by rw [hU]; exact hPc, va_K.moved hW.alike hKc⟩⟩ rfl rfl hl.1 rfl (lv_room (Nat.le_of_ble_eq_true rfl)) dX12_winsFrom_4 ⟨Nat.le_of_ble_eq_true rfl, Nat.le_of_ble_eq_true rfl⟩)) (fun r_3 hw => ?_)
      subst hw
      refine lv_icmp_ge (tgt := 48) hx hb dX12_winsFrom_7 (by decide) (fun c_4 => ?_) (fun c_4 => ?_)
      · have c_4 : (m_has 0).toInt ≤ u_1.toInt := cv_le c_4
        refine lv_iconst (v := 0) hx hb dX12_winsFrom_48 (by decide) ?_
        rw [hQ9]
        exact W.zret (v := 0) (ty := .boolean) hx hb hr rfl (fun t ht hW => ⟨0, rfl, (by decide), ht⟩) (fun q h => by cases h) dX12_winsFrom_49
      · have c_4 : u_1.toInt < (m_has 0).toInt := cv_nle c_4
        refine lv_iload_n hx hb dX12_winsFrom_10 rfl (lv_at hl 3 rfl) ?_
        refine lv_iload_n hx hb dX12_winsFrom_11 rfl (lv_at hl 0 rfl) ?_
        refine vp_callSi (va_Run.run (va_runS (As := [.int p1, .int u_1]) (rest := []) ⟨hx, hb, hml, hown, hts⟩ (m_isBit l dC dI cyI cyB cyJ cyZ cyH cyN p1 u_1) (va_cwS 2 hts (gdS wd_7_106 wd_7_107 wd_1_11 wd_7_108) rfl rfl rfl (by decide +kernel) ⟨Nat.le_of_ble_eq_true rfl, Nat.le_of_ble_eq_true rfl⟩) ⟨fun a U g mk q => q, fun U hU hW => ⟨rfl, trivial⟩⟩ rfl rfl hl.1 rfl (lv_room (Nat.le_of_ble_eq_true rfl)) dX12_winsFrom_12 ⟨Nat.le_of_ble_eq_true rfl, Nat.le_of_ble_eq_true rfl⟩)) (fun r_5 hw => ?_)
        by_cases c_6 : ((p1 >>> (u_1 &&& 31)) &&& 1 = 1)
        · rw [if_pos c_6] at hw; subst hw; have c_6 : ((p1 >>> (u_1 &&& 31)) &&& 1 = 1) := c_6
          refine lv_if_ne (tgt := 42) hx hb dX12_winsFrom_15 (by decide) (fun _ => ?_) (fun c_7 => absurd c_7 (by decide))
          obtain ⟨x_8, ex_8⟩ : ∃ y : Int32, y = u_1 + 1 := ⟨_, rfl⟩
          refine lv_iinc (v := x_8) (lv' := [(3, .int x_8), (0, .ref m0), (1, .int p0), (2, .int p1)]) hx hb dX12_winsFrom_42 hl (k := 0) rfl (by rw [ex_8]; rfl) (by decide) rfl (fun ls hl => ?_)
          have fx_8 : x_8.toInt = u_1.toInt + 1 := by rw [ex_8]; exact cv_addI (by have : (1 : Int32).toInt = 1 := rfl; omega) (by have : (1 : Int32).toInt = 1 := rfl; omega)
          refine lv_goto (tgt := 2) hx hb dX12_winsFrom_45 (by decide) ?_
          exact ihkey_2 x_8 _ (by omega) (lv_sub hl [0, 1, 2, 3] rfl) (by omega)
        · rw [if_neg c_6] at hw; subst hw; have c_6 : ¬ ((p1 >>> (u_1 &&& 31)) &&& 1 = 1) := c_6
          refine lv_if_ne (tgt := 42) hx hb dX12_winsFrom_15 (by decide) (fun c_9 => absurd c_9 (by decide)) (fun _ => ?_)
          refine lv_aload_n hx hb dX12_winsFrom_18 rfl (lv_at hl 1 rfl) ?_
          refine lv_iload_n hx hb dX12_winsFrom_19 rfl (lv_at hl 2 rfl) ?_
          refine lv_iload_n hx hb dX12_winsFrom_20 rfl (lv_at hl 0 rfl) ?_
          have hPc := hP.sub (ws' := [(m0, .inr (11, [.int m_thrown, .ref mwidth, .ref mmany, .ref mcells, .ref mmoved, .ref mtape, .int m_taped, .int m_at, .int m_token, .int m_place, .int m_value, .long m_word, .int m_bad, .int m_badPlace, .int m_fault, .int m_faultPlace, .ref mlines, .ref mhas, .ref mtold, .ref mlaw, .ref msuit, .ref mapart, .ref mact, .ref misKept, .ref mseen, .ref mhung, .int m_gone, .ref mgoal, .ref mleaps, .ref mqueue, .ref mrow, .int m_reached, .ref mwanted, .ref mfirst, .ref moften, .int m_fitMany, .int m_fitFirst, .int m_askBest, .int m_askLeaves, .int m_bestFirst, .int m_bestWays, .ref mlots, .ref mthen, .long m_lotsAll])), (mhas, .inl (cyI, 20, .inl m_has))]) [0, 1] rfl
          have hKc := hK.sub (tys' := [(cyI, .int), (cyB, .byte), (cyJ, .long), (cyZ, .boolean), (cyH, .object RX2), (cyN, .array .long)]) [0, 1, 2, 3, 4, 5] rfl
          refine vp_callSi (va_Run.run (va_runV (As := [.int p0, .int u_1]) (rest := []) ⟨hx, hb, hml, hown, hts⟩ (m_isLeap l dC dI cyI cyB cyJ cyZ cyH cyN m0 mwidth mmany mcells mmoved mtape mlines mhas mtold mlaw msuit mapart mact misKept mseen mhung mgoal mleaps mqueue mrow mwanted mfirst moften mlots mthen m_thrown m_taped m_at m_token m_place m_value m_word m_bad m_badPlace m_fault m_faultPlace m_gone m_reached m_fitMany m_fitFirst m_askBest m_askLeaves m_bestFirst m_bestWays m_lotsAll m_has p0 u_1 (by omega) (by omega) (by omega) g5 g6 g7) (cwV 2 hts (gdV wd_8_35 wd_8_37 wd_s6_1 wd_1_11 wd_8_38) rfl rfl rfl (by decide +kernel) ⟨Nat.le_of_ble_eq_true rfl, Nat.le_of_ble_eq_true rfl⟩) ⟨fun a U g mk q => by obtain ⟨q0, qP, qK⟩ := q; exact ⟨q0, qP, va_K.moved (u := U) (U := U.calling g mk a) (Vm.Alike.refl U.vm) qK⟩, va_recv hKc hPc (ci := 11) (q0 := 0) rfl rfl, fun U hU hW => ⟨rfl, by rw [hU]; exact hPc, va_K.moved hW.alike hKc⟩⟩ rfl rfl hl.1 rfl (lv_room (Nat.le_of_ble_eq_true rfl)) dX12_winsFrom_21 ⟨Nat.le_of_ble_eq_true rfl, Nat.le_of_ble_eq_true rfl⟩)) (fun r_10 hw => ?_)
          have hrr_10 := hw
          refine lv_if_eq (tgt := 42) hx hb dX12_winsFrom_24 (by decide) (fun c_11 => ?_) (fun c_11 => ?_)
          · have c_11 : r_10.toInt = 0 := cv_eq c_11
            obtain ⟨x_12, ex_12⟩ : ∃ y : Int32, y = u_1 + 1 := ⟨_, rfl⟩
            refine lv_iinc (v := x_12) (lv' := [(3, .int x_12), (0, .ref m0), (1, .int p0), (2, .int p1)]) hx hb dX12_winsFrom_42 hl (k := 0) rfl (by rw [ex_12]; rfl) (by decide) rfl (fun ls hl => ?_)
            have fx_12 : x_12.toInt = u_1.toInt + 1 := by rw [ex_12]; exact cv_addI (by have : (1 : Int32).toInt = 1 := rfl; omega) (by have : (1 : Int32).toInt = 1 := rfl; omega)
            refine lv_goto (tgt := 2) hx hb dX12_winsFrom_45 (by decide) ?_
            exact ihkey_2 x_12 _ (by omega) (lv_sub hl [0, 1, 2, 3] rfl) (by omega)
          · have c_11 : r_10.toInt ≠ 0 := cv_ne c_11
            refine lv_aload_n hx hb dX12_winsFrom_27 rfl (lv_at hl 1 rfl) ?_
            refine lv_iload_n hx hb dX12_winsFrom_28 rfl (lv_at hl 0 rfl) ?_
            refine lv_iload_n hx hb dX12_winsFrom_29 rfl (lv_at hl 3 rfl) ?_
            refine lv_iconst (v := 1) hx hb dX12_winsFrom_30 (by decide) ?_
            refine lv_iload_n hx hb dX12_winsFrom_31 rfl (lv_at hl 0 rfl) ?_
            refine lv_ishl hx hb dX12_winsFrom_32 ?_
            refine lv_topi (fun x_13 ex_13 => ?_)
            have fx_13 : 1 ≤ x_13.toInt ∧ x_13.toInt ≤ 64 := by rw [ex_13]; have q := cv_shl1 (y := u_1) 0 6 (by decide) (by decide) (by omega) (by omega); omega
            refine lv_ior hx hb dX12_winsFrom_33 ?_
            refine lv_topi (fun x_14 ex_14 => ?_)
            have fx_14 : 0 ≤ x_14.toInt ∧ x_14.toInt ≤ 127 := by rw [ex_14]; have q := cv_or (x := p1) (y := x_13) 7 (by decide) (by omega) (by omega) (by omega) (by omega); omega
            have h9 := cb_inc (k' := x_14) (by assumption) (by assumption) (by assumption) (by omega) (by omega)
            have hPc := hP.sub (ws' := [(m0, .inr (11, [.int m_thrown, .ref mwidth, .ref mmany, .ref mcells, .ref mmoved, .ref mtape, .int m_taped, .int m_at, .int m_token, .int m_place, .int m_value, .long m_word, .int m_bad, .int m_badPlace, .int m_fault, .int m_faultPlace, .ref mlines, .ref mhas, .ref mtold, .ref mlaw, .ref msuit, .ref mapart, .ref mact, .ref misKept, .ref mseen, .ref mhung, .int m_gone, .ref mgoal, .ref mleaps, .ref mqueue, .ref mrow, .int m_reached, .ref mwanted, .ref mfirst, .ref moften, .int m_fitMany, .int m_fitFirst, .int m_askBest, .int m_askLeaves, .int m_bestFirst, .int m_bestWays, .ref mlots, .ref mthen, .long m_lotsAll])), (mhas, .inl (cyI, 20, .inl m_has))]) [0, 1] rfl
            have hKc := hK.sub (tys' := [(cyI, .int), (cyB, .byte), (cyJ, .long), (cyZ, .boolean), (cyH, .object RX2), (cyN, .array .long)]) [0, 1, 2, 3, 4, 5] rfl
            refine vp_callSi (va_Run.run (va_runV (As := [.int u_1, .int x_14]) (rest := []) ⟨hx, hb, hml, hown, hts⟩ (m_wins1 l dC dI cyI cyB cyJ cyZ cyH cyN m0 mwidth mmany mcells mmoved mtape mlines mhas mtold mlaw msuit mapart mact misKept mseen mhung mgoal mleaps mqueue mrow mwanted mfirst moften mlots mthen m_thrown m_taped m_at m_token m_place m_value m_word m_bad m_badPlace m_fault m_faultPlace m_gone m_reached m_fitMany m_fitFirst m_askBest m_askLeaves m_bestFirst m_bestWays m_lotsAll m_has u_1 x_14 (by omega) (by omega) (by omega) (by omega) (by omega) g5 g6 g7 (by omega)) (cwV 2 hts (gdV wd_8_148 wd_8_150 wd_s6_10 wd_1_11 wd_8_151) rfl rfl rfl (by decide +kernel) ⟨Nat.le_of_ble_eq_true rfl, Nat.le_of_ble_eq_true rfl⟩) ⟨fun a U g mk q => by obtain ⟨q0, qP, qK⟩ := q; exact ⟨q0, qP, va_K.moved (u := U) (U := U.calling g mk a) (Vm.Alike.refl U.vm) qK⟩, va_recv hKc hPc (ci := 11) (q0 := 0) rfl rfl, fun U hU hW => ⟨rfl, by rw [hU]; exact hPc, va_K.moved hW.alike hKc⟩⟩ rfl rfl hl.1 rfl (lv_room (Nat.le_of_ble_eq_true rfl)) dX12_winsFrom_34 ⟨Nat.le_of_ble_eq_true rfl, Nat.le_of_ble_eq_true rfl⟩)) (fun r_15 hw => ?_)
            have hrr_15 := hw
            refine lv_if_ne (tgt := 42) hx hb dX12_winsFrom_37 (by decide) (fun c_16 => ?_) (fun c_16 => ?_)
            · have c_16 : r_15.toInt ≠ 0 := cv_ne c_16
              obtain ⟨x_17, ex_17⟩ : ∃ y : Int32, y = u_1 + 1 := ⟨_, rfl⟩
              refine lv_iinc (v := x_17) (lv' := [(3, .int x_17), (0, .ref m0), (1, .int p0), (2, .int p1)]) hx hb dX12_winsFrom_42 hl (k := 0) rfl (by rw [ex_17]; rfl) (by decide) rfl (fun ls hl => ?_)
              have fx_17 : x_17.toInt = u_1.toInt + 1 := by rw [ex_17]; exact cv_addI (by have : (1 : Int32).toInt = 1 := rfl; omega) (by have : (1 : Int32).toInt = 1 := rfl; omega)
              refine lv_goto (tgt := 2) hx hb dX12_winsFrom_45 (by decide) ?_
              exact ihkey_2 x_17 _ (by omega) (lv_sub hl [0, 1, 2, 3] rfl) (by omega)
            · have c_16 : r_15.toInt = 0 := cv_eq c_16
              refine lv_iconst (v := 1) hx hb dX12_winsFrom_40 (by decide) ?_
              rw [hQ9]
              exact W.zret (v := 1) (ty := .boolean) hx hb hr rfl (fun t ht hW => ⟨1, rfl, (by decide), ht⟩) (fun q h => by cases h) dX12_winsFrom_41
  exact key_2 _ 0 _ (by decide) (lv_sub hl [0, 1, 2, 3] rfl) (Nat.lt_succ_self _)

/- X12_winsFrom -/
set_option maxHeartbeats 4000000 in
set_option maxRecDepth 100000 in
theorem m_wins3 (l : Launch) (dC : Nat → ClassId) (dI : Nat → Nat → Nat) (cyI cyB cyJ cyZ cyH cyN : ClassId) (m0 mwidth mmany mcells mmoved mtape mlines mhas mtold mlaw msuit mapart mact misKept mseen mhung mgoal mleaps mqueue mrow mwanted mfirst moften mlots mthen : Nat) (m_thrown m_taped m_at m_token m_place m_value : Int32) (m_word : Int64) (m_bad m_badPlace m_fault m_faultPlace m_gone m_reached m_fitMany m_fitFirst m_askBest m_askLeaves m_bestFirst m_bestWays : Int32) (m_lotsAll : Int64) (m_has : Nat → Int32) (p0 p1 : Int32) (g0 : 0 ≤ m_taped.toInt ∧ m_taped.toInt ≤ 800) (g1 : 0 ≤ m_at.toInt ∧ m_at.toInt ≤ 800) (g2 : 0 ≤ m_gone.toInt ∧ m_gone.toInt ≤ 40) (g3 : 0 ≤ p0.toInt ∧ p0.toInt ≤ 6) (g4 : 0 ≤ p1.toInt ∧ p1.toInt ≤ 127) (g5 : (m_has 0).toInt = 0 ∨ (2 ≤ (m_has 0).toInt ∧ (m_has 0).toInt ≤ 7)) (g6 : 0 ≤ (m_has 1).toInt ∧ (m_has 1).toInt ≤ 6) (g7 : 0 ≤ (m_has 3).toInt ∧ (m_has 3).toInt ≤ 40) (g8 : 4 ≤ cb p1 7) : Met l yX12_winsFrom (wk yX12_winsFrom cX12_winsFrom 4 (some .boolean)) ({ frames := 5, cells := 0, slots := 0, locals := 150 }) (va_Pc [.ref m0, .int p0, .int p1] (fun U => va_P (dC, dI) vwCl [(m0, .inr (11, [.int m_thrown, .ref mwidth, .ref mmany, .ref mcells, .ref mmoved, .ref mtape, .int m_taped, .int m_at, .int m_token, .int m_place, .int m_value, .long m_word, .int m_bad, .int m_badPlace, .int m_fault, .int m_faultPlace, .ref mlines, .ref mhas, .ref mtold, .ref mlaw, .ref msuit, .ref mapart, .ref mact, .ref misKept, .ref mseen, .ref mhung, .int m_gone, .ref mgoal, .ref mleaps, .ref mqueue, .ref mrow, .int m_reached, .ref mwanted, .ref mfirst, .ref moften, .int m_fitMany, .int m_fitFirst, .int m_askBest, .int m_askLeaves, .int m_bestFirst, .int m_bestWays, .ref mlots, .ref mthen, .long m_lotsAll])), (mhas, .inl (cyI, 20, .inl m_has))] U.heap ∧ va_K (dC, dI) vwCl [(cyI, .int), (cyB, .byte), (cyJ, .long), (cyZ, .boolean), (cyH, .object RX2), (cyN, .array .long)] U)) (vp_Si (fun r : Int32 => 0 ≤ r.toInt ∧ r.toInt ≤ 1)) 0 0 (fun _ => False) := by
  refine Met.ofW (cc := cX12_winsFrom) (maxL := 4) (ret := (some .boolean)) (by decide) rfl ?_
  intro p e s m args below meth c s₁ B hml hv
  obtain ⟨rfl, hP, hK⟩ := hv
  have hx := B.exec
  have hb := B.bytes
  have hr := B.returns
  have hts : ∀ w ∈ uU, w.before ([.ref m0, .int p0, .int p1] : List Value).toArray s = true := fun w h => atoms_spec (ws := wk yX12_winsFrom cX12_winsFrom 4 (some .boolean)) B.pre w (List.mem_cons_of_mem _ h)
  have hown : s.vm.findClass RX12 = some m.cls := findClass_of_methodNamed B.named
  have hlocks := B.notSynchronized
  have hl := lv_entry ([.ref m0, .int p0, .int p1]) (n := 4) (Nat.le_of_ble_eq_true rfl)
  rw [lg_entry_eq]
  generalize (lg_sl ([.ref m0, .int p0, .int p1]) ++ List.replicate (4 - (lg_sl ([.ref m0, .int p0, .int p1])).length) Slot.unset).toArray = ls at hl ⊢
  have hl : lv_has ls 4 [(0, .ref m0), (1, .int p0), (2, .int p1)] := hl
  obtain ⟨Q9, hQ9⟩ : ∃ Q9 : State → Prop, Q9 = MQ below (vp_Si (fun r : Int32 => 0 ≤ r.toInt ∧ r.toInt ≤ 1)) ([.ref m0, .int p0, .int p1] : List Value).toArray s 0 0 (fun _ => False) := ⟨_, rfl⟩
  rw [← hQ9]
  refine lv_iconst (v := 0) hx hb dX12_winsFrom_0 (by decide) ?_
  refine lv_istore_n (lv' := [(3, .int 0), (0, .ref m0), (1, .int p0), (2, .int p1)]) hx hb dX12_winsFrom_1 rfl hl (by decide) rfl (fun ls hl => ?_)
  have key_2 : ∀ (nkey_2 : Nat) (u_1 : Int32) (ls : Array Slot), (0 ≤ u_1.toInt ∧ u_1.toInt ≤ 7) → lv_has ls 4 [(3, .int u_1), (0, .ref m0), (1, .int p0), (2, .int p1)] → ((m_has 0).toInt - u_1.toInt).toNat < nkey_2 → W p l e ({ frames := 5, cells := 0, slots := 0, locals := 150 }) s m ([.ref m0, .int p0, .int p1] : List Value).toArray below meth c s.heap [] 0 0 Q9 (F0 m 2 ls []) := by
    intro nkey_2
    induction nkey_2 with
    | zero => intro u_1 ls hu_1 hl hnkey_2; exact absurd hnkey_2 (Nat.not_lt_zero _)
    | succ nkey_2 ihkey_2 =>
      intro u_1 ls hu_1 hl hnkey_2
      refine lv_iload_n hx hb dX12_winsFrom_2 rfl (lv_at hl 0 rfl) ?_
      refine lv_aload_n hx hb dX12_winsFrom_3 rfl (lv_at hl 1 rfl) ?_
      have hPc := hP.sub (ws' := [(m0, .inr (11, [.int m_thrown, .ref mwidth, .ref mmany, .ref mcells, .ref mmoved, .ref mtape, .int m_taped, .int m_at, .int m_token, .int m_place, .int m_value, .long m_word, .int m_bad, .int m_badPlace, .int m_fault, .int m_faultPlace, .ref mlines, .ref mhas, .ref mtold, .ref mlaw, .ref msuit, .ref mapart, .ref mact, .ref misKept, .ref mseen, .ref mhung, .int m_gone, .ref mgoal, .ref mleaps, .ref mqueue, .ref mrow, .int m_reached, .ref mwanted, .ref mfirst, .ref moften, .int m_fitMany, .int m_fitFirst, .int m_askBest, .int m_askLeaves, .int m_bestFirst, .int m_bestWays, .ref mlots, .ref mthen, .long m_lotsAll])), (mhas, .inl (cyI, 20, .inl m_has))]) [0, 1] rfl
      have hKc := hK.sub (tys' := [(cyI, .int), (cyB, .byte), (cyJ, .long), (cyZ, .boolean), (cyH, .object RX2), (cyN, .array .long)]) [0, 1, 2, 3, 4, 5] rfl
      refine vp_callSi (va_Run.run (va_runV (As := []) (rest := [.int u_1]) ⟨hx, hb, hml, hown, hts⟩ (m_places l dC dI cyI cyB cyJ cyZ cyH cyN m0 mwidth mmany mcells mmoved mtape mlines mhas mtold mlaw msuit mapart mact misKept mseen mhung mgoal mleaps mqueue mrow mwanted mfirst moften mlots mthen m_thrown m_taped m_at m_token m_place m_value m_word m_bad m_badPlace m_fault m_faultPlace m_gone m_reached m_fitMany m_fitFirst m_askBest m_askLeaves m_bestFirst m_bestWays m_lotsAll m_has (by omega) (by omega) (by omega) g5 g6 g7) (cwV 0 hts (gdV wd_7_86 wd_7_88 wd_s4_14 wd_1_11 wd_7_89) rfl rfl rfl (by decide +kernel) ⟨Nat.le_of_ble_eq_true rfl, Nat.le_of_ble_eq_true rfl⟩) ⟨fun a U g mk q => by obtain ⟨q0, qP, qK⟩ := q; exact ⟨q0, qP, va_K.moved (u := U) (U := U.calling g mk a) (Vm.Alike.refl U.vm) qK⟩, va_recv hKc hPc (ci := 11) (q0 := 0) rfl rfl, fun U hU hW => ⟨rfl, by rw [hU]; exact hPc, va_K.moved hW.alike hKc⟩⟩ rfl rfl hl.1 rfl (lv_room (Nat.le_of_ble_eq_true rfl)) dX12_winsFrom_4 ⟨Nat.le_of_ble_eq_true rfl, Nat.le_of_ble_eq_true rfl⟩)) (fun r_3 hw => ?_)
      subst hw
      refine lv_icmp_ge (tgt := 48) hx hb dX12_winsFrom_7 (by decide) (fun c_4 => ?_) (fun c_4 => ?_)
      · have c_4 : (m_has 0).toInt ≤ u_1.toInt := cv_le c_4
        refine lv_iconst (v := 0) hx hb dX12_winsFrom_48 (by decide) ?_
        rw [hQ9]
        exact W.zret (v := 0) (ty := .boolean) hx hb hr rfl (fun t ht hW => ⟨0, rfl, (by decide), ht⟩) (fun q h => by cases h) dX12_winsFrom_49
      · have c_4 : u_1.toInt < (m_has 0).toInt := cv_nle c_4
        refine lv_iload_n hx hb dX12_winsFrom_10 rfl (lv_at hl 3 rfl) ?_
        refine lv_iload_n hx hb dX12_winsFrom_11 rfl (lv_at hl 0 rfl) ?_
        refine vp_callSi (va_Run.run (va_runS (As := [.int p1, .int u_1]) (rest := []) ⟨hx, hb, hml, hown, hts⟩ (m_isBit l dC dI cyI cyB cyJ cyZ cyH cyN p1 u_1) (va_cwS 2 hts (gdS wd_7_106 wd_7_107 wd_1_11 wd_7_108) rfl rfl rfl (by decide +kernel) ⟨Nat.le_of_ble_eq_true rfl, Nat.le_of_ble_eq_true rfl⟩) ⟨fun a U g mk q => q, fun U hU hW => ⟨rfl, trivial⟩⟩ rfl rfl hl.1 rfl (lv_room (Nat.le_of_ble_eq_true rfl)) dX12_winsFrom_12 ⟨Nat.le_of_ble_eq_true rfl, Nat.le_of_ble_eq_true rfl⟩)) (fun r_5 hw => ?_)
        by_cases c_6 : ((p1 >>> (u_1 &&& 31)) &&& 1 = 1)
        · rw [if_pos c_6] at hw; subst hw; have c_6 : ((p1 >>> (u_1 &&& 31)) &&& 1 = 1) := c_6
          refine lv_if_ne (tgt := 42) hx hb dX12_winsFrom_15 (by decide) (fun _ => ?_) (fun c_7 => absurd c_7 (by decide))
          obtain ⟨x_8, ex_8⟩ : ∃ y : Int32, y = u_1 + 1 := ⟨_, rfl⟩
          refine lv_iinc (v := x_8) (lv' := [(3, .int x_8), (0, .ref m0), (1, .int p0), (2, .int p1)]) hx hb dX12_winsFrom_42 hl (k := 0) rfl (by rw [ex_8]; rfl) (by decide) rfl (fun ls hl => ?_)
          have fx_8 : x_8.toInt = u_1.toInt + 1 := by rw [ex_8]; exact cv_addI (by have : (1 : Int32).toInt = 1 := rfl; omega) (by have : (1 : Int32).toInt = 1 := rfl; omega)
          refine lv_goto (tgt := 2) hx hb dX12_winsFrom_45 (by decide) ?_
          exact ihkey_2 x_8 _ (by omega) (lv_sub hl [0, 1, 2, 3] rfl) (by omega)
        · rw [if_neg c_6] at hw; subst hw; have c_6 : ¬ ((p1 >>> (u_1 &&& 31)) &&& 1 = 1) := c_6
          refine lv_if_ne (tgt := 42) hx hb dX12_winsFrom_15 (by decide) (fun c_9 => absurd c_9 (by decide)) (fun _ => ?_)
          refine lv_aload_n hx hb dX12_winsFrom_18 rfl (lv_at hl 1 rfl) ?_
          refine lv_iload_n hx hb dX12_winsFrom_19 rfl (lv_at hl 2 rfl) ?_
          refine lv_iload_n hx hb dX12_winsFrom_20 rfl (lv_at hl 0 rfl) ?_
          have hPc := hP.sub (ws' := [(m0, .inr (11, [.int m_thrown, .ref mwidth, .ref mmany, .ref mcells, .ref mmoved, .ref mtape, .int m_taped, .int m_at, .int m_token, .int m_place, .int m_value, .long m_word, .int m_bad, .int m_badPlace, .int m_fault, .int m_faultPlace, .ref mlines, .ref mhas, .ref mtold, .ref mlaw, .ref msuit, .ref mapart, .ref mact, .ref misKept, .ref mseen, .ref mhung, .int m_gone, .ref mgoal, .ref mleaps, .ref mqueue, .ref mrow, .int m_reached, .ref mwanted, .ref mfirst, .ref moften, .int m_fitMany, .int m_fitFirst, .int m_askBest, .int m_askLeaves, .int m_bestFirst, .int m_bestWays, .ref mlots, .ref mthen, .long m_lotsAll])), (mhas, .inl (cyI, 20, .inl m_has))]) [0, 1] rfl
          have hKc := hK.sub (tys' := [(cyI, .int), (cyB, .byte), (cyJ, .long), (cyZ, .boolean), (cyH, .object RX2), (cyN, .array .long)]) [0, 1, 2, 3, 4, 5] rfl
          refine vp_callSi (va_Run.run (va_runV (As := [.int p0, .int u_1]) (rest := []) ⟨hx, hb, hml, hown, hts⟩ (m_isLeap l dC dI cyI cyB cyJ cyZ cyH cyN m0 mwidth mmany mcells mmoved mtape mlines mhas mtold mlaw msuit mapart mact misKept mseen mhung mgoal mleaps mqueue mrow mwanted mfirst moften mlots mthen m_thrown m_taped m_at m_token m_place m_value m_word m_bad m_badPlace m_fault m_faultPlace m_gone m_reached m_fitMany m_fitFirst m_askBest m_askLeaves m_bestFirst m_bestWays m_lotsAll m_has p0 u_1 (by omega) (by omega) (by omega) g5 g6 g7) (cwV 2 hts (gdV wd_8_35 wd_8_37 wd_s6_1 wd_1_11 wd_8_38) rfl rfl rfl (by decide +kernel) ⟨Nat.le_of_ble_eq_true rfl, Nat.le_of_ble_eq_true rfl⟩) ⟨fun a U g mk q => by obtain ⟨q0, qP, qK⟩ := q; exact ⟨q0, qP, va_K.moved (u := U) (U := U.calling g mk a) (Vm.Alike.refl U.vm) qK⟩, va_recv hKc hPc (ci := 11) (q0 := 0) rfl rfl, fun U hU hW => ⟨rfl, by rw [hU]; exact hPc, va_K.moved hW.alike hKc⟩⟩ rfl rfl hl.1 rfl (lv_room (Nat.le_of_ble_eq_true rfl)) dX12_winsFrom_21 ⟨Nat.le_of_ble_eq_true rfl, Nat.le_of_ble_eq_true rfl⟩)) (fun r_10 hw => ?_)
          have hrr_10 := hw
          refine lv_if_eq (tgt := 42) hx hb dX12_winsFrom_24 (by decide) (fun c_11 => ?_) (fun c_11 => ?_)
          · have c_11 : r_10.toInt = 0 := cv_eq c_11
            obtain ⟨x_12, ex_12⟩ : ∃ y : Int32, y = u_1 + 1 := ⟨_, rfl⟩
            refine lv_iinc (v := x_12) (lv' := [(3, .int x_12), (0, .ref m0), (1, .int p0), (2, .int p1)]) hx hb dX12_winsFrom_42 hl (k := 0) rfl (by rw [ex_12]; rfl) (by decide) rfl (fun ls hl => ?_)
            have fx_12 : x_12.toInt = u_1.toInt + 1 := by rw [ex_12]; exact cv_addI (by have : (1 : Int32).toInt = 1 := rfl; omega) (by have : (1 : Int32).toInt = 1 := rfl; omega)
            refine lv_goto (tgt := 2) hx hb dX12_winsFrom_45 (by decide) ?_
            exact ihkey_2 x_12 _ (by omega) (lv_sub hl [0, 1, 2, 3] rfl) (by omega)
          · have c_11 : r_10.toInt ≠ 0 := cv_ne c_11
            refine lv_aload_n hx hb dX12_winsFrom_27 rfl (lv_at hl 1 rfl) ?_
            refine lv_iload_n hx hb dX12_winsFrom_28 rfl (lv_at hl 0 rfl) ?_
            refine lv_iload_n hx hb dX12_winsFrom_29 rfl (lv_at hl 3 rfl) ?_
            refine lv_iconst (v := 1) hx hb dX12_winsFrom_30 (by decide) ?_
            refine lv_iload_n hx hb dX12_winsFrom_31 rfl (lv_at hl 0 rfl) ?_
            refine lv_ishl hx hb dX12_winsFrom_32 ?_
            refine lv_topi (fun x_13 ex_13 => ?_)
            have fx_13 : 1 ≤ x_13.toInt ∧ x_13.toInt ≤ 64 := by rw [ex_13]; have q := cv_shl1 (y := u_1) 0 6 (by decide) (by decide) (by omega) (by omega); omega
            refine lv_ior hx hb dX12_winsFrom_33 ?_
            refine lv_topi (fun x_14 ex_14 => ?_)
            have fx_14 : 0 ≤ x_14.toInt ∧ x_14.toInt ≤ 127 := by rw [ex_14]; have q := cv_or (x := p1) (y := x_13) 7 (by decide) (by omega) (by omega) (by omega) (by omega); omega
            have h9 := cb_inc (k' := x_14) (by assumption) (by assumption) (by assumption) (by omega) (by omega)
            have hPc := hP.sub (ws' := [(m0, .inr (11, [.int m_thrown, .ref mwidth, .ref mmany, .ref mcells, .ref mmoved, .ref mtape, .int m_taped, .int m_at, .int m_token, .int m_place, .int m_value, .long m_word, .int m_bad, .int m_badPlace, .int m_fault, .int m_faultPlace, .ref mlines, .ref mhas, .ref mtold, .ref mlaw, .ref msuit, .ref mapart, .ref mact, .ref misKept, .ref mseen, .ref mhung, .int m_gone, .ref mgoal, .ref mleaps, .ref mqueue, .ref mrow, .int m_reached, .ref mwanted, .ref mfirst, .ref moften, .int m_fitMany, .int m_fitFirst, .int m_askBest, .int m_askLeaves, .int m_bestFirst, .int m_bestWays, .ref mlots, .ref mthen, .long m_lotsAll])), (mhas, .inl (cyI, 20, .inl m_has))]) [0, 1] rfl
            have hKc := hK.sub (tys' := [(cyI, .int), (cyB, .byte), (cyJ, .long), (cyZ, .boolean), (cyH, .object RX2), (cyN, .array .long)]) [0, 1, 2, 3, 4, 5] rfl
            refine vp_callSi (va_Run.run (va_runV (As := [.int u_1, .int x_14]) (rest := []) ⟨hx, hb, hml, hown, hts⟩ (m_wins2 l dC dI cyI cyB cyJ cyZ cyH cyN m0 mwidth mmany mcells mmoved mtape mlines mhas mtold mlaw msuit mapart mact misKept mseen mhung mgoal mleaps mqueue mrow mwanted mfirst moften mlots mthen m_thrown m_taped m_at m_token m_place m_value m_word m_bad m_badPlace m_fault m_faultPlace m_gone m_reached m_fitMany m_fitFirst m_askBest m_askLeaves m_bestFirst m_bestWays m_lotsAll m_has u_1 x_14 (by omega) (by omega) (by omega) (by omega) (by omega) g5 g6 g7 (by omega)) (cwV 2 hts (gdV wd_8_148 wd_8_150 wd_s6_10 wd_1_11 wd_8_151) rfl rfl rfl (by decide +kernel) ⟨Nat.le_of_ble_eq_true rfl, Nat.le_of_ble_eq_true rfl⟩) ⟨fun a U g mk q => by obtain ⟨q0, qP, qK⟩ := q; exact ⟨q0, qP, va_K.moved (u := U) (U := U.calling g mk a) (Vm.Alike.refl U.vm) qK⟩, va_recv hKc hPc (ci := 11) (q0 := 0) rfl rfl, fun U hU hW => ⟨rfl, by rw [hU]; exact hPc, va_K.moved hW.alike hKc⟩⟩ rfl rfl hl.1 rfl (lv_room (Nat.le_of_ble_eq_true rfl)) dX12_winsFrom_34 ⟨Nat.le_of_ble_eq_true rfl, Nat.le_of_ble_eq_true rfl⟩)) (fun r_15 hw => ?_)
            have hrr_15 := hw
            refine lv_if_ne (tgt := 42) hx hb dX12_winsFrom_37 (by decide) (fun c_16 => ?_) (fun c_16 => ?_)
            · have c_16 : r_15.toInt ≠ 0 := cv_ne c_16
              obtain ⟨x_17, ex_17⟩ : ∃ y : Int32, y = u_1 + 1 := ⟨_, rfl⟩
              refine lv_iinc (v := x_17) (lv' := [(3, .int x_17), (0, .ref m0), (1, .int p0), (2, .int p1)]) hx hb dX12_winsFrom_42 hl (k := 0) rfl (by rw [ex_17]; rfl) (by decide) rfl (fun ls hl => ?_)
              have fx_17 : x_17.toInt = u_1.toInt + 1 := by rw [ex_17]; exact cv_addI (by have : (1 : Int32).toInt = 1 := rfl; omega) (by have : (1 : Int32).toInt = 1 := rfl; omega)
              refine lv_goto (tgt := 2) hx hb dX12_winsFrom_45 (by decide) ?_
              exact ihkey_2 x_17 _ (by omega) (lv_sub hl [0, 1, 2, 3] rfl) (by omega)
            · have c_16 : r_15.toInt = 0 := cv_eq c_16
              refine lv_iconst (v := 1) hx hb dX12_winsFrom_40 (by decide) ?_
              rw [hQ9]
              exact W.zret (v := 1) (ty := .boolean) hx hb hr rfl (fun t ht hW => ⟨1, rfl, (by decide), ht⟩) (fun q h => by cases h) dX12_winsFrom_41
  exact key_2 _ 0 _ (by decide) (lv_sub hl [0, 1, 2, 3] rfl) (Nat.lt_succ_self _)

/- X12_winsFrom -/
set_option maxHeartbeats 4000000 in
set_option maxRecDepth 100000 in
theorem m_wins4 (l : Launch) (dC : Nat → ClassId) (dI : Nat → Nat → Nat) (cyI cyB cyJ cyZ cyH cyN : ClassId) (m0 mwidth mmany mcells mmoved mtape mlines mhas mtold mlaw msuit mapart mact misKept mseen mhung mgoal mleaps mqueue mrow mwanted mfirst moften mlots mthen : Nat) (m_thrown m_taped m_at m_token m_place m_value : Int32) (m_word : Int64) (m_bad m_badPlace m_fault m_faultPlace m_gone m_reached m_fitMany m_fitFirst m_askBest m_askLeaves m_bestFirst m_bestWays : Int32) (m_lotsAll : Int64) (m_has : Nat → Int32) (p0 p1 : Int32) (g0 : 0 ≤ m_taped.toInt ∧ m_taped.toInt ≤ 800) (g1 : 0 ≤ m_at.toInt ∧ m_at.toInt ≤ 800) (g2 : 0 ≤ m_gone.toInt ∧ m_gone.toInt ≤ 40) (g3 : 0 ≤ p0.toInt ∧ p0.toInt ≤ 6) (g4 : 0 ≤ p1.toInt ∧ p1.toInt ≤ 127) (g5 : (m_has 0).toInt = 0 ∨ (2 ≤ (m_has 0).toInt ∧ (m_has 0).toInt ≤ 7)) (g6 : 0 ≤ (m_has 1).toInt ∧ (m_has 1).toInt ≤ 6) (g7 : 0 ≤ (m_has 3).toInt ∧ (m_has 3).toInt ≤ 40) (g8 : 3 ≤ cb p1 7) : Met l yX12_winsFrom (wk yX12_winsFrom cX12_winsFrom 4 (some .boolean)) ({ frames := 6, cells := 0, slots := 0, locals := 173 }) (va_Pc [.ref m0, .int p0, .int p1] (fun U => va_P (dC, dI) vwCl [(m0, .inr (11, [.int m_thrown, .ref mwidth, .ref mmany, .ref mcells, .ref mmoved, .ref mtape, .int m_taped, .int m_at, .int m_token, .int m_place, .int m_value, .long m_word, .int m_bad, .int m_badPlace, .int m_fault, .int m_faultPlace, .ref mlines, .ref mhas, .ref mtold, .ref mlaw, .ref msuit, .ref mapart, .ref mact, .ref misKept, .ref mseen, .ref mhung, .int m_gone, .ref mgoal, .ref mleaps, .ref mqueue, .ref mrow, .int m_reached, .ref mwanted, .ref mfirst, .ref moften, .int m_fitMany, .int m_fitFirst, .int m_askBest, .int m_askLeaves, .int m_bestFirst, .int m_bestWays, .ref mlots, .ref mthen, .long m_lotsAll])), (mhas, .inl (cyI, 20, .inl m_has))] U.heap ∧ va_K (dC, dI) vwCl [(cyI, .int), (cyB, .byte), (cyJ, .long), (cyZ, .boolean), (cyH, .object RX2), (cyN, .array .long)] U)) (vp_Si (fun r : Int32 => 0 ≤ r.toInt ∧ r.toInt ≤ 1)) 0 0 (fun _ => False) := by
  refine Met.ofW (cc := cX12_winsFrom) (maxL := 4) (ret := (some .boolean)) (by decide) rfl ?_
  intro p e s m args below meth c s₁ B hml hv
  obtain ⟨rfl, hP, hK⟩ := hv
  have hx := B.exec
  have hb := B.bytes
  have hr := B.returns
  have hts : ∀ w ∈ uU, w.before ([.ref m0, .int p0, .int p1] : List Value).toArray s = true := fun w h => atoms_spec (ws := wk yX12_winsFrom cX12_winsFrom 4 (some .boolean)) B.pre w (List.mem_cons_of_mem _ h)
  have hown : s.vm.findClass RX12 = some m.cls := findClass_of_methodNamed B.named
  have hlocks := B.notSynchronized
  have hl := lv_entry ([.ref m0, .int p0, .int p1]) (n := 4) (Nat.le_of_ble_eq_true rfl)
  rw [lg_entry_eq]
  generalize (lg_sl ([.ref m0, .int p0, .int p1]) ++ List.replicate (4 - (lg_sl ([.ref m0, .int p0, .int p1])).length) Slot.unset).toArray = ls at hl ⊢
  have hl : lv_has ls 4 [(0, .ref m0), (1, .int p0), (2, .int p1)] := hl
  obtain ⟨Q9, hQ9⟩ : ∃ Q9 : State → Prop, Q9 = MQ below (vp_Si (fun r : Int32 => 0 ≤ r.toInt ∧ r.toInt ≤ 1)) ([.ref m0, .int p0, .int p1] : List Value).toArray s 0 0 (fun _ => False) := ⟨_, rfl⟩
  rw [← hQ9]
  refine lv_iconst (v := 0) hx hb dX12_winsFrom_0 (by decide) ?_
  refine lv_istore_n (lv' := [(3, .int 0), (0, .ref m0), (1, .int p0), (2, .int p1)]) hx hb dX12_winsFrom_1 rfl hl (by decide) rfl (fun ls hl => ?_)
  have key_2 : ∀ (nkey_2 : Nat) (u_1 : Int32) (ls : Array Slot), (0 ≤ u_1.toInt ∧ u_1.toInt ≤ 7) → lv_has ls 4 [(3, .int u_1), (0, .ref m0), (1, .int p0), (2, .int p1)] → ((m_has 0).toInt - u_1.toInt).toNat < nkey_2 → W p l e ({ frames := 6, cells := 0, slots := 0, locals := 173 }) s m ([.ref m0, .int p0, .int p1] : List Value).toArray below meth c s.heap [] 0 0 Q9 (F0 m 2 ls []) := by
    intro nkey_2
    induction nkey_2 with
    | zero => intro u_1 ls hu_1 hl hnkey_2; exact absurd hnkey_2 (Nat.not_lt_zero _)
    | succ nkey_2 ihkey_2 =>
      intro u_1 ls hu_1 hl hnkey_2
      refine lv_iload_n hx hb dX12_winsFrom_2 rfl (lv_at hl 0 rfl) ?_
      refine lv_aload_n hx hb dX12_winsFrom_3 rfl (lv_at hl 1 rfl) ?_
      have hPc := hP.sub (ws' := [(m0, .inr (11, [.int m_thrown, .ref mwidth, .ref mmany, .ref mcells, .ref mmoved, .ref mtape, .int m_taped, .int m_at, .int m_token, .int m_place, .int m_value, .long m_word, .int m_bad, .int m_badPlace, .int m_fault, .int m_faultPlace, .ref mlines, .ref mhas, .ref mtold, .ref mlaw, .ref msuit, .ref mapart, .ref mact, .ref misKept, .ref mseen, .ref mhung, .int m_gone, .ref mgoal, .ref mleaps, .ref mqueue, .ref mrow, .int m_reached, .ref mwanted, .ref mfirst, .ref moften, .int m_fitMany, .int m_fitFirst, .int m_askBest, .int m_askLeaves, .int m_bestFirst, .int m_bestWays, .ref mlots, .ref mthen, .long m_lotsAll])), (mhas, .inl (cyI, 20, .inl m_has))]) [0, 1] rfl
      have hKc := hK.sub (tys' := [(cyI, .int), (cyB, .byte), (cyJ, .long), (cyZ, .boolean), (cyH, .object RX2), (cyN, .array .long)]) [0, 1, 2, 3, 4, 5] rfl
      refine vp_callSi (va_Run.run (va_runV (As := []) (rest := [.int u_1]) ⟨hx, hb, hml, hown, hts⟩ (m_places l dC dI cyI cyB cyJ cyZ cyH cyN m0 mwidth mmany mcells mmoved mtape mlines mhas mtold mlaw msuit mapart mact misKept mseen mhung mgoal mleaps mqueue mrow mwanted mfirst moften mlots mthen m_thrown m_taped m_at m_token m_place m_value m_word m_bad m_badPlace m_fault m_faultPlace m_gone m_reached m_fitMany m_fitFirst m_askBest m_askLeaves m_bestFirst m_bestWays m_lotsAll m_has (by omega) (by omega) (by omega) g5 g6 g7) (cwV 0 hts (gdV wd_7_86 wd_7_88 wd_s4_14 wd_1_11 wd_7_89) rfl rfl rfl (by decide +kernel) ⟨Nat.le_of_ble_eq_true rfl, Nat.le_of_ble_eq_true rfl⟩) ⟨fun a U g mk q => by obtain ⟨q0, qP, qK⟩ := q; exact ⟨q0, qP, va_K.moved (u := U) (U := U.calling g mk a) (Vm.Alike.refl U.vm) qK⟩, va_recv hKc hPc (ci := 11) (q0 := 0) rfl rfl, fun U hU hW => ⟨rfl, by rw [hU]; exact hPc, va_K.moved hW.alike hKc⟩⟩ rfl rfl hl.1 rfl (lv_room (Nat.le_of_ble_eq_true rfl)) dX12_winsFrom_4 ⟨Nat.le_of_ble_eq_true rfl, Nat.le_of_ble_eq_true rfl⟩)) (fun r_3 hw => ?_)
      subst hw
      refine lv_icmp_ge (tgt := 48) hx hb dX12_winsFrom_7 (by decide) (fun c_4 => ?_) (fun c_4 => ?_)
      · have c_4 : (m_has 0).toInt ≤ u_1.toInt := cv_le c_4
        refine lv_iconst (v := 0) hx hb dX12_winsFrom_48 (by decide) ?_
        rw [hQ9]
        exact W.zret (v := 0) (ty := .boolean) hx hb hr rfl (fun t ht hW => ⟨0, rfl, (by decide), ht⟩) (fun q h => by cases h) dX12_winsFrom_49
      · have c_4 : u_1.toInt < (m_has 0).toInt := cv_nle c_4
        refine lv_iload_n hx hb dX12_winsFrom_10 rfl (lv_at hl 3 rfl) ?_
        refine lv_iload_n hx hb dX12_winsFrom_11 rfl (lv_at hl 0 rfl) ?_
        refine vp_callSi (va_Run.run (va_runS (As := [.int p1, .int u_1]) (rest := []) ⟨hx, hb, hml, hown, hts⟩ (m_isBit l dC dI cyI cyB cyJ cyZ cyH cyN p1 u_1) (va_cwS 2 hts (gdS wd_7_106 wd_7_107 wd_1_11 wd_7_108) rfl rfl rfl (by decide +kernel) ⟨Nat.le_of_ble_eq_true rfl, Nat.le_of_ble_eq_true rfl⟩) ⟨fun a U g mk q => q, fun U hU hW => ⟨rfl, trivial⟩⟩ rfl rfl hl.1 rfl (lv_room (Nat.le_of_ble_eq_true rfl)) dX12_winsFrom_12 ⟨Nat.le_of_ble_eq_true rfl, Nat.le_of_ble_eq_true rfl⟩)) (fun r_5 hw => ?_)
        by_cases c_6 : ((p1 >>> (u_1 &&& 31)) &&& 1 = 1)
        · rw [if_pos c_6] at hw; subst hw; have c_6 : ((p1 >>> (u_1 &&& 31)) &&& 1 = 1) := c_6
          refine lv_if_ne (tgt := 42) hx hb dX12_winsFrom_15 (by decide) (fun _ => ?_) (fun c_7 => absurd c_7 (by decide))
          obtain ⟨x_8, ex_8⟩ : ∃ y : Int32, y = u_1 + 1 := ⟨_, rfl⟩
          refine lv_iinc (v := x_8) (lv' := [(3, .int x_8), (0, .ref m0), (1, .int p0), (2, .int p1)]) hx hb dX12_winsFrom_42 hl (k := 0) rfl (by rw [ex_8]; rfl) (by decide) rfl (fun ls hl => ?_)
          have fx_8 : x_8.toInt = u_1.toInt + 1 := by rw [ex_8]; exact cv_addI (by have : (1 : Int32).toInt = 1 := rfl; omega) (by have : (1 : Int32).toInt = 1 := rfl; omega)
          refine lv_goto (tgt := 2) hx hb dX12_winsFrom_45 (by decide) ?_
          exact ihkey_2 x_8 _ (by omega) (lv_sub hl [0, 1, 2, 3] rfl) (by omega)
        · rw [if_neg c_6] at hw; subst hw; have c_6 : ¬ ((p1 >>> (u_1 &&& 31)) &&& 1 = 1) := c_6
          refine lv_if_ne (tgt := 42) hx hb dX12_winsFrom_15 (by decide) (fun c_9 => absurd c_9 (by decide)) (fun _ => ?_)
          refine lv_aload_n hx hb dX12_winsFrom_18 rfl (lv_at hl 1 rfl) ?_
          refine lv_iload_n hx hb dX12_winsFrom_19 rfl (lv_at hl 2 rfl) ?_
          refine lv_iload_n hx hb dX12_winsFrom_20 rfl (lv_at hl 0 rfl) ?_
          have hPc := hP.sub (ws' := [(m0, .inr (11, [.int m_thrown, .ref mwidth, .ref mmany, .ref mcells, .ref mmoved, .ref mtape, .int m_taped, .int m_at, .int m_token, .int m_place, .int m_value, .long m_word, .int m_bad, .int m_badPlace, .int m_fault, .int m_faultPlace, .ref mlines, .ref mhas, .ref mtold, .ref mlaw, .ref msuit, .ref mapart, .ref mact, .ref misKept, .ref mseen, .ref mhung, .int m_gone, .ref mgoal, .ref mleaps, .ref mqueue, .ref mrow, .int m_reached, .ref mwanted, .ref mfirst, .ref moften, .int m_fitMany, .int m_fitFirst, .int m_askBest, .int m_askLeaves, .int m_bestFirst, .int m_bestWays, .ref mlots, .ref mthen, .long m_lotsAll])), (mhas, .inl (cyI, 20, .inl m_has))]) [0, 1] rfl
          have hKc := hK.sub (tys' := [(cyI, .int), (cyB, .byte), (cyJ, .long), (cyZ, .boolean), (cyH, .object RX2), (cyN, .array .long)]) [0, 1, 2, 3, 4, 5] rfl
          refine vp_callSi (va_Run.run (va_runV (As := [.int p0, .int u_1]) (rest := []) ⟨hx, hb, hml, hown, hts⟩ (m_isLeap l dC dI cyI cyB cyJ cyZ cyH cyN m0 mwidth mmany mcells mmoved mtape mlines mhas mtold mlaw msuit mapart mact misKept mseen mhung mgoal mleaps mqueue mrow mwanted mfirst moften mlots mthen m_thrown m_taped m_at m_token m_place m_value m_word m_bad m_badPlace m_fault m_faultPlace m_gone m_reached m_fitMany m_fitFirst m_askBest m_askLeaves m_bestFirst m_bestWays m_lotsAll m_has p0 u_1 (by omega) (by omega) (by omega) g5 g6 g7) (cwV 2 hts (gdV wd_8_35 wd_8_37 wd_s6_1 wd_1_11 wd_8_38) rfl rfl rfl (by decide +kernel) ⟨Nat.le_of_ble_eq_true rfl, Nat.le_of_ble_eq_true rfl⟩) ⟨fun a U g mk q => by obtain ⟨q0, qP, qK⟩ := q; exact ⟨q0, qP, va_K.moved (u := U) (U := U.calling g mk a) (Vm.Alike.refl U.vm) qK⟩, va_recv hKc hPc (ci := 11) (q0 := 0) rfl rfl, fun U hU hW => ⟨rfl, by rw [hU]; exact hPc, va_K.moved hW.alike hKc⟩⟩ rfl rfl hl.1 rfl (lv_room (Nat.le_of_ble_eq_true rfl)) dX12_winsFrom_21 ⟨Nat.le_of_ble_eq_true rfl, Nat.le_of_ble_eq_true rfl⟩)) (fun r_10 hw => ?_)
          have hrr_10 := hw
          refine lv_if_eq (tgt := 42) hx hb dX12_winsFrom_24 (by decide) (fun c_11 => ?_) (fun c_11 => ?_)
          · have c_11 : r_10.toInt = 0 := cv_eq c_11
            obtain ⟨x_12, ex_12⟩ : ∃ y : Int32, y = u_1 + 1 := ⟨_, rfl⟩
            refine lv_iinc (v := x_12) (lv' := [(3, .int x_12), (0, .ref m0), (1, .int p0), (2, .int p1)]) hx hb dX12_winsFrom_42 hl (k := 0) rfl (by rw [ex_12]; rfl) (by decide) rfl (fun ls hl => ?_)
            have fx_12 : x_12.toInt = u_1.toInt + 1 := by rw [ex_12]; exact cv_addI (by have : (1 : Int32).toInt = 1 := rfl; omega) (by have : (1 : Int32).toInt = 1 := rfl; omega)
            refine lv_goto (tgt := 2) hx hb dX12_winsFrom_45 (by decide) ?_
            exact ihkey_2 x_12 _ (by omega) (lv_sub hl [0, 1, 2, 3] rfl) (by omega)
          · have c_11 : r_10.toInt ≠ 0 := cv_ne c_11
            refine lv_aload_n hx hb dX12_winsFrom_27 rfl (lv_at hl 1 rfl) ?_
            refine lv_iload_n hx hb dX12_winsFrom_28 rfl (lv_at hl 0 rfl) ?_
            refine lv_iload_n hx hb dX12_winsFrom_29 rfl (lv_at hl 3 rfl) ?_
            refine lv_iconst (v := 1) hx hb dX12_winsFrom_30 (by decide) ?_
            refine lv_iload_n hx hb dX12_winsFrom_31 rfl (lv_at hl 0 rfl) ?_
            refine lv_ishl hx hb dX12_winsFrom_32 ?_
            refine lv_topi (fun x_13 ex_13 => ?_)
            have fx_13 : 1 ≤ x_13.toInt ∧ x_13.toInt ≤ 64 := by rw [ex_13]; have q := cv_shl1 (y := u_1) 0 6 (by decide) (by decide) (by omega) (by omega); omega
            refine lv_ior hx hb dX12_winsFrom_33 ?_
            refine lv_topi (fun x_14 ex_14 => ?_)
            have fx_14 : 0 ≤ x_14.toInt ∧ x_14.toInt ≤ 127 := by rw [ex_14]; have q := cv_or (x := p1) (y := x_13) 7 (by decide) (by omega) (by omega) (by omega) (by omega); omega
            have h9 := cb_inc (k' := x_14) (by assumption) (by assumption) (by assumption) (by omega) (by omega)
            have hPc := hP.sub (ws' := [(m0, .inr (11, [.int m_thrown, .ref mwidth, .ref mmany, .ref mcells, .ref mmoved, .ref mtape, .int m_taped, .int m_at, .int m_token, .int m_place, .int m_value, .long m_word, .int m_bad, .int m_badPlace, .int m_fault, .int m_faultPlace, .ref mlines, .ref mhas, .ref mtold, .ref mlaw, .ref msuit, .ref mapart, .ref mact, .ref misKept, .ref mseen, .ref mhung, .int m_gone, .ref mgoal, .ref mleaps, .ref mqueue, .ref mrow, .int m_reached, .ref mwanted, .ref mfirst, .ref moften, .int m_fitMany, .int m_fitFirst, .int m_askBest, .int m_askLeaves, .int m_bestFirst, .int m_bestWays, .ref mlots, .ref mthen, .long m_lotsAll])), (mhas, .inl (cyI, 20, .inl m_has))]) [0, 1] rfl
            have hKc := hK.sub (tys' := [(cyI, .int), (cyB, .byte), (cyJ, .long), (cyZ, .boolean), (cyH, .object RX2), (cyN, .array .long)]) [0, 1, 2, 3, 4, 5] rfl
            refine vp_callSi (va_Run.run (va_runV (As := [.int u_1, .int x_14]) (rest := []) ⟨hx, hb, hml, hown, hts⟩ (m_wins3 l dC dI cyI cyB cyJ cyZ cyH cyN m0 mwidth mmany mcells mmoved mtape mlines mhas mtold mlaw msuit mapart mact misKept mseen mhung mgoal mleaps mqueue mrow mwanted mfirst moften mlots mthen m_thrown m_taped m_at m_token m_place m_value m_word m_bad m_badPlace m_fault m_faultPlace m_gone m_reached m_fitMany m_fitFirst m_askBest m_askLeaves m_bestFirst m_bestWays m_lotsAll m_has u_1 x_14 (by omega) (by omega) (by omega) (by omega) (by omega) g5 g6 g7 (by omega)) (cwV 2 hts (gdV wd_8_148 wd_8_150 wd_s6_10 wd_1_11 wd_8_151) rfl rfl rfl (by decide +kernel) ⟨Nat.le_of_ble_eq_true rfl, Nat.le_of_ble_eq_true rfl⟩) ⟨fun a U g mk q => by obtain ⟨q0, qP, qK⟩ := q; exact ⟨q0, qP, va_K.moved (u := U) (U := U.calling g mk a) (Vm.Alike.refl U.vm) qK⟩, va_recv hKc hPc (ci := 11) (q0 := 0) rfl rfl, fun U hU hW => ⟨rfl, by rw [hU]; exact hPc, va_K.moved hW.alike hKc⟩⟩ rfl rfl hl.1 rfl (lv_room (Nat.le_of_ble_eq_true rfl)) dX12_winsFrom_34 ⟨Nat.le_of_ble_eq_true rfl, Nat.le_of_ble_eq_true rfl⟩)) (fun r_15 hw => ?_)
            have hrr_15 := hw
            refine lv_if_ne (tgt := 42) hx hb dX12_winsFrom_37 (by decide) (fun c_16 => ?_) (fun c_16 => ?_)
            · have c_16 : r_15.toInt ≠ 0 := cv_ne c_16
              obtain ⟨x_17, ex_17⟩ : ∃ y : Int32, y = u_1 + 1 := ⟨_, rfl⟩
              refine lv_iinc (v := x_17) (lv' := [(3, .int x_17), (0, .ref m0), (1, .int p0), (2, .int p1)]) hx hb dX12_winsFrom_42 hl (k := 0) rfl (by rw [ex_17]; rfl) (by decide) rfl (fun ls hl => ?_)
              have fx_17 : x_17.toInt = u_1.toInt + 1 := by rw [ex_17]; exact cv_addI (by have : (1 : Int32).toInt = 1 := rfl; omega) (by have : (1 : Int32).toInt = 1 := rfl; omega)
              refine lv_goto (tgt := 2) hx hb dX12_winsFrom_45 (by decide) ?_
              exact ihkey_2 x_17 _ (by omega) (lv_sub hl [0, 1, 2, 3] rfl) (by omega)
            · have c_16 : r_15.toInt = 0 := cv_eq c_16
              refine lv_iconst (v := 1) hx hb dX12_winsFrom_40 (by decide) ?_
              rw [hQ9]
              exact W.zret (v := 1) (ty := .boolean) hx hb hr rfl (fun t ht hW => ⟨1, rfl, (by decide), ht⟩) (fun q h => by cases h) dX12_winsFrom_41
  exact key_2 _ 0 _ (by decide) (lv_sub hl [0, 1, 2, 3] rfl) (Nat.lt_succ_self _)

/- X12_winsFrom -/
set_option maxHeartbeats 4000000 in
set_option maxRecDepth 100000 in
theorem m_wins5 (l : Launch) (dC : Nat → ClassId) (dI : Nat → Nat → Nat) (cyI cyB cyJ cyZ cyH cyN : ClassId) (m0 mwidth mmany mcells mmoved mtape mlines mhas mtold mlaw msuit mapart mact misKept mseen mhung mgoal mleaps mqueue mrow mwanted mfirst moften mlots mthen : Nat) (m_thrown m_taped m_at m_token m_place m_value : Int32) (m_word : Int64) (m_bad m_badPlace m_fault m_faultPlace m_gone m_reached m_fitMany m_fitFirst m_askBest m_askLeaves m_bestFirst m_bestWays : Int32) (m_lotsAll : Int64) (m_has : Nat → Int32) (p0 p1 : Int32) (g0 : 0 ≤ m_taped.toInt ∧ m_taped.toInt ≤ 800) (g1 : 0 ≤ m_at.toInt ∧ m_at.toInt ≤ 800) (g2 : 0 ≤ m_gone.toInt ∧ m_gone.toInt ≤ 40) (g3 : 0 ≤ p0.toInt ∧ p0.toInt ≤ 6) (g4 : 0 ≤ p1.toInt ∧ p1.toInt ≤ 127) (g5 : (m_has 0).toInt = 0 ∨ (2 ≤ (m_has 0).toInt ∧ (m_has 0).toInt ≤ 7)) (g6 : 0 ≤ (m_has 1).toInt ∧ (m_has 1).toInt ≤ 6) (g7 : 0 ≤ (m_has 3).toInt ∧ (m_has 3).toInt ≤ 40) (g8 : 2 ≤ cb p1 7) : Met l yX12_winsFrom (wk yX12_winsFrom cX12_winsFrom 4 (some .boolean)) ({ frames := 7, cells := 0, slots := 0, locals := 196 }) (va_Pc [.ref m0, .int p0, .int p1] (fun U => va_P (dC, dI) vwCl [(m0, .inr (11, [.int m_thrown, .ref mwidth, .ref mmany, .ref mcells, .ref mmoved, .ref mtape, .int m_taped, .int m_at, .int m_token, .int m_place, .int m_value, .long m_word, .int m_bad, .int m_badPlace, .int m_fault, .int m_faultPlace, .ref mlines, .ref mhas, .ref mtold, .ref mlaw, .ref msuit, .ref mapart, .ref mact, .ref misKept, .ref mseen, .ref mhung, .int m_gone, .ref mgoal, .ref mleaps, .ref mqueue, .ref mrow, .int m_reached, .ref mwanted, .ref mfirst, .ref moften, .int m_fitMany, .int m_fitFirst, .int m_askBest, .int m_askLeaves, .int m_bestFirst, .int m_bestWays, .ref mlots, .ref mthen, .long m_lotsAll])), (mhas, .inl (cyI, 20, .inl m_has))] U.heap ∧ va_K (dC, dI) vwCl [(cyI, .int), (cyB, .byte), (cyJ, .long), (cyZ, .boolean), (cyH, .object RX2), (cyN, .array .long)] U)) (vp_Si (fun r : Int32 => 0 ≤ r.toInt ∧ r.toInt ≤ 1)) 0 0 (fun _ => False) := by
  refine Met.ofW (cc := cX12_winsFrom) (maxL := 4) (ret := (some .boolean)) (by decide) rfl ?_
  intro p e s m args below meth c s₁ B hml hv
  obtain ⟨rfl, hP, hK⟩ := hv
  have hx := B.exec
  have hb := B.bytes
  have hr := B.returns
  have hts : ∀ w ∈ uU, w.before ([.ref m0, .int p0, .int p1] : List Value).toArray s = true := fun w h => atoms_spec (ws := wk yX12_winsFrom cX12_winsFrom 4 (some .boolean)) B.pre w (List.mem_cons_of_mem _ h)
  have hown : s.vm.findClass RX12 = some m.cls := findClass_of_methodNamed B.named
  have hlocks := B.notSynchronized
  have hl := lv_entry ([.ref m0, .int p0, .int p1]) (n := 4) (Nat.le_of_ble_eq_true rfl)
  rw [lg_entry_eq]
  generalize (lg_sl ([.ref m0, .int p0, .int p1]) ++ List.replicate (4 - (lg_sl ([.ref m0, .int p0, .int p1])).length) Slot.unset).toArray = ls at hl ⊢
  have hl : lv_has ls 4 [(0, .ref m0), (1, .int p0), (2, .int p1)] := hl
  obtain ⟨Q9, hQ9⟩ : ∃ Q9 : State → Prop, Q9 = MQ below (vp_Si (fun r : Int32 => 0 ≤ r.toInt ∧ r.toInt ≤ 1)) ([.ref m0, .int p0, .int p1] : List Value).toArray s 0 0 (fun _ => False) := ⟨_, rfl⟩
  rw [← hQ9]
  refine lv_iconst (v := 0) hx hb dX12_winsFrom_0 (by decide) ?_
  refine lv_istore_n (lv' := [(3, .int 0), (0, .ref m0), (1, .int p0), (2, .int p1)]) hx hb dX12_winsFrom_1 rfl hl (by decide) rfl (fun ls hl => ?_)
  have key_2 : ∀ (nkey_2 : Nat) (u_1 : Int32) (ls : Array Slot), (0 ≤ u_1.toInt ∧ u_1.toInt ≤ 7) → lv_has ls 4 [(3, .int u_1), (0, .ref m0), (1, .int p0), (2, .int p1)] → ((m_has 0).toInt - u_1.toInt).toNat < nkey_2 → W p l e ({ frames := 7, cells := 0, slots := 0, locals := 196 }) s m ([.ref m0, .int p0, .int p1] : List Value).toArray below meth c s.heap [] 0 0 Q9 (F0 m 2 ls []) := by
    intro nkey_2
    induction nkey_2 with
    | zero => intro u_1 ls hu_1 hl hnkey_2; exact absurd hnkey_2 (Nat.not_lt_zero _)
    | succ nkey_2 ihkey_2 =>
      intro u_1 ls hu_1 hl hnkey_2
      refine lv_iload_n hx hb dX12_winsFrom_2 rfl (lv_at hl 0 rfl) ?_
      refine lv_aload_n hx hb dX12_winsFrom_3 rfl (lv_at hl 1 rfl) ?_
      have hPc := hP.sub (ws' := [(m0, .inr (11, [.int m_thrown, .ref mwidth, .ref mmany, .ref mcells, .ref mmoved, .ref mtape, .int m_taped, .int m_at, .int m_token, .int m_place, .int m_value, .long m_word, .int m_bad, .int m_badPlace, .int m_fault, .int m_faultPlace, .ref mlines, .ref mhas, .ref mtold, .ref mlaw, .ref msuit, .ref mapart, .ref mact, .ref misKept, .ref mseen, .ref mhung, .int m_gone, .ref mgoal, .ref mleaps, .ref mqueue, .ref mrow, .int m_reached, .ref mwanted, .ref mfirst, .ref moften, .int m_fitMany, .int m_fitFirst, .int m_askBest, .int m_askLeaves, .int m_bestFirst, .int m_bestWays, .ref mlots, .ref mthen, .long m_lotsAll])), (mhas, .inl (cyI, 20, .inl m_has))]) [0, 1] rfl
      have hKc := hK.sub (tys' := [(cyI, .int), (cyB, .byte), (cyJ, .long), (cyZ, .boolean), (cyH, .object RX2), (cyN, .array .long)]) [0, 1, 2, 3, 4, 5] rfl
      refine vp_callSi (va_Run.run (va_runV (As := []) (rest := [.int u_1]) ⟨hx, hb, hml, hown, hts⟩ (m_places l dC dI cyI cyB cyJ cyZ cyH cyN m0 mwidth mmany mcells mmoved mtape mlines mhas mtold mlaw msuit mapart mact misKept mseen mhung mgoal mleaps mqueue mrow mwanted mfirst moften mlots mthen m_thrown m_taped m_at m_token m_place m_value m_word m_bad m_badPlace m_fault m_faultPlace m_gone m_reached m_fitMany m_fitFirst m_askBest m_askLeaves m_bestFirst m_bestWays m_lotsAll m_has (by omega) (by omega) (by omega) g5 g6 g7) (cwV 0 hts (gdV wd_7_86 wd_7_88 wd_s4_14 wd_1_11 wd_7_89) rfl rfl rfl (by decide +kernel) ⟨Nat.le_of_ble_eq_true rfl, Nat.le_of_ble_eq_true rfl⟩) ⟨fun a U g mk q => by obtain ⟨q0, qP, qK⟩ := q; exact ⟨q0, qP, va_K.moved (u := U) (U := U.calling g mk a) (Vm.Alike.refl U.vm) qK⟩, va_recv hKc hPc (ci := 11) (q0 := 0) rfl rfl, fun U hU hW => ⟨rfl, by rw [hU]; exact hPc, va_K.moved hW.alike hKc⟩⟩ rfl rfl hl.1 rfl (lv_room (Nat.le_of_ble_eq_true rfl)) dX12_winsFrom_4 ⟨Nat.le_of_ble_eq_true rfl, Nat.le_of_ble_eq_true rfl⟩)) (fun r_3 hw => ?_)
      subst hw
      refine lv_icmp_ge (tgt := 48) hx hb dX12_winsFrom_7 (by decide) (fun c_4 => ?_) (fun c_4 => ?_)
      · have c_4 : (m_has 0).toInt ≤ u_1.toInt := cv_le c_4
        refine lv_iconst (v := 0) hx hb dX12_winsFrom_48 (by decide) ?_
        rw [hQ9]
        exact W.zret (v := 0) (ty := .boolean) hx hb hr rfl (fun t ht hW => ⟨0, rfl, (by decide), ht⟩) (fun q h => by cases h) dX12_winsFrom_49
      · have c_4 : u_1.toInt < (m_has 0).toInt := cv_nle c_4
        refine lv_iload_n hx hb dX12_winsFrom_10 rfl (lv_at hl 3 rfl) ?_
        refine lv_iload_n hx hb dX12_winsFrom_11 rfl (lv_at hl 0 rfl) ?_
        refine vp_callSi (va_Run.run (va_runS (As := [.int p1, .int u_1]) (rest := []) ⟨hx, hb, hml, hown, hts⟩ (m_isBit l dC dI cyI cyB cyJ cyZ cyH cyN p1 u_1) (va_cwS 2 hts (gdS wd_7_106 wd_7_107 wd_1_11 wd_7_108) rfl rfl rfl (by decide +kernel) ⟨Nat.le_of_ble_eq_true rfl, Nat.le_of_ble_eq_true rfl⟩) ⟨fun a U g mk q => q, fun U hU hW => ⟨rfl, trivial⟩⟩ rfl rfl hl.1 rfl (lv_room (Nat.le_of_ble_eq_true rfl)) dX12_winsFrom_12 ⟨Nat.le_of_ble_eq_true rfl, Nat.le_of_ble_eq_true rfl⟩)) (fun r_5 hw => ?_)
        by_cases c_6 : ((p1 >>> (u_1 &&& 31)) &&& 1 = 1)
        · rw [if_pos c_6] at hw; subst hw; have c_6 : ((p1 >>> (u_1 &&& 31)) &&& 1 = 1) := c_6
          refine lv_if_ne (tgt := 42) hx hb dX12_winsFrom_15 (by decide) (fun _ => ?_) (fun c_7 => absurd c_7 (by decide))
          obtain ⟨x_8, ex_8⟩ : ∃ y : Int32, y = u_1 + 1 := ⟨_, rfl⟩
          refine lv_iinc (v := x_8) (lv' := [(3, .int x_8), (0, .ref m0), (1, .int p0), (2, .int p1)]) hx hb dX12_winsFrom_42 hl (k := 0) rfl (by rw [ex_8]; rfl) (by decide) rfl (fun ls hl => ?_)
          have fx_8 : x_8.toInt = u_1.toInt + 1 := by rw [ex_8]; exact cv_addI (by have : (1 : Int32).toInt = 1 := rfl; omega) (by have : (1 : Int32).toInt = 1 := rfl; omega)
          refine lv_goto (tgt := 2) hx hb dX12_winsFrom_45 (by decide) ?_
          exact ihkey_2 x_8 _ (by omega) (lv_sub hl [0, 1, 2, 3] rfl) (by omega)
        · rw [if_neg c_6] at hw; subst hw; have c_6 : ¬ ((p1 >>> (u_1 &&& 31)) &&& 1 = 1) := c_6
          refine lv_if_ne (tgt := 42) hx hb dX12_winsFrom_15 (by decide) (fun c_9 => absurd c_9 (by decide)) (fun _ => ?_)
          refine lv_aload_n hx hb dX12_winsFrom_18 rfl (lv_at hl 1 rfl) ?_
          refine lv_iload_n hx hb dX12_winsFrom_19 rfl (lv_at hl 2 rfl) ?_
          refine lv_iload_n hx hb dX12_winsFrom_20 rfl (lv_at hl 0 rfl) ?_
          have hPc := hP.sub (ws' := [(m0, .inr (11, [.int m_thrown, .ref mwidth, .ref mmany, .ref mcells, .ref mmoved, .ref mtape, .int m_taped, .int m_at, .int m_token, .int m_place, .int m_value, .long m_word, .int m_bad, .int m_badPlace, .int m_fault, .int m_faultPlace, .ref mlines, .ref mhas, .ref mtold, .ref mlaw, .ref msuit, .ref mapart, .ref mact, .ref misKept, .ref mseen, .ref mhung, .int m_gone, .ref mgoal, .ref mleaps, .ref mqueue, .ref mrow, .int m_reached, .ref mwanted, .ref mfirst, .ref moften, .int m_fitMany, .int m_fitFirst, .int m_askBest, .int m_askLeaves, .int m_bestFirst, .int m_bestWays, .ref mlots, .ref mthen, .long m_lotsAll])), (mhas, .inl (cyI, 20, .inl m_has))]) [0, 1] rfl
          have hKc := hK.sub (tys' := [(cyI, .int), (cyB, .byte), (cyJ, .long), (cyZ, .boolean), (cyH, .object RX2), (cyN, .array .long)]) [0, 1, 2, 3, 4, 5] rfl
          refine vp_callSi (va_Run.run (va_runV (As := [.int p0, .int u_1]) (rest := []) ⟨hx, hb, hml, hown, hts⟩ (m_isLeap l dC dI cyI cyB cyJ cyZ cyH cyN m0 mwidth mmany mcells mmoved mtape mlines mhas mtold mlaw msuit mapart mact misKept mseen mhung mgoal mleaps mqueue mrow mwanted mfirst moften mlots mthen m_thrown m_taped m_at m_token m_place m_value m_word m_bad m_badPlace m_fault m_faultPlace m_gone m_reached m_fitMany m_fitFirst m_askBest m_askLeaves m_bestFirst m_bestWays m_lotsAll m_has p0 u_1 (by omega) (by omega) (by omega) g5 g6 g7) (cwV 2 hts (gdV wd_8_35 wd_8_37 wd_s6_1 wd_1_11 wd_8_38) rfl rfl rfl (by decide +kernel) ⟨Nat.le_of_ble_eq_true rfl, Nat.le_of_ble_eq_true rfl⟩) ⟨fun a U g mk q => by obtain ⟨q0, qP, qK⟩ := q; exact ⟨q0, qP, va_K.moved (u := U) (U := U.calling g mk a) (Vm.Alike.refl U.vm) qK⟩, va_recv hKc hPc (ci := 11) (q0 := 0) rfl rfl, fun U hU hW => ⟨rfl, by rw [hU]; exact hPc, va_K.moved hW.alike hKc⟩⟩ rfl rfl hl.1 rfl (lv_room (Nat.le_of_ble_eq_true rfl)) dX12_winsFrom_21 ⟨Nat.le_of_ble_eq_true rfl, Nat.le_of_ble_eq_true rfl⟩)) (fun r_10 hw => ?_)
          have hrr_10 := hw
          refine lv_if_eq (tgt := 42) hx hb dX12_winsFrom_24 (by decide) (fun c_11 => ?_) (fun c_11 => ?_)
          · have c_11 : r_10.toInt = 0 := cv_eq c_11
            obtain ⟨x_12, ex_12⟩ : ∃ y : Int32, y = u_1 + 1 := ⟨_, rfl⟩
            refine lv_iinc (v := x_12) (lv' := [(3, .int x_12), (0, .ref m0), (1, .int p0), (2, .int p1)]) hx hb dX12_winsFrom_42 hl (k := 0) rfl (by rw [ex_12]; rfl) (by decide) rfl (fun ls hl => ?_)
            have fx_12 : x_12.toInt = u_1.toInt + 1 := by rw [ex_12]; exact cv_addI (by have : (1 : Int32).toInt = 1 := rfl; omega) (by have : (1 : Int32).toInt = 1 := rfl; omega)
            refine lv_goto (tgt := 2) hx hb dX12_winsFrom_45 (by decide) ?_
            exact ihkey_2 x_12 _ (by omega) (lv_sub hl [0, 1, 2, 3] rfl) (by omega)
          · have c_11 : r_10.toInt ≠ 0 := cv_ne c_11
            refine lv_aload_n hx hb dX12_winsFrom_27 rfl (lv_at hl 1 rfl) ?_
            refine lv_iload_n hx hb dX12_winsFrom_28 rfl (lv_at hl 0 rfl) ?_
            refine lv_iload_n hx hb dX12_winsFrom_29 rfl (lv_at hl 3 rfl) ?_
            refine lv_iconst (v := 1) hx hb dX12_winsFrom_30 (by decide) ?_
            refine lv_iload_n hx hb dX12_winsFrom_31 rfl (lv_at hl 0 rfl) ?_
            refine lv_ishl hx hb dX12_winsFrom_32 ?_
            refine lv_topi (fun x_13 ex_13 => ?_)
            have fx_13 : 1 ≤ x_13.toInt ∧ x_13.toInt ≤ 64 := by rw [ex_13]; have q := cv_shl1 (y := u_1) 0 6 (by decide) (by decide) (by omega) (by omega); omega
            refine lv_ior hx hb dX12_winsFrom_33 ?_
            refine lv_topi (fun x_14 ex_14 => ?_)
            have fx_14 : 0 ≤ x_14.toInt ∧ x_14.toInt ≤ 127 := by rw [ex_14]; have q := cv_or (x := p1) (y := x_13) 7 (by decide) (by omega) (by omega) (by omega) (by omega); omega
            have h9 := cb_inc (k' := x_14) (by assumption) (by assumption) (by assumption) (by omega) (by omega)
            have hPc := hP.sub (ws' := [(m0, .inr (11, [.int m_thrown, .ref mwidth, .ref mmany, .ref mcells, .ref mmoved, .ref mtape, .int m_taped, .int m_at, .int m_token, .int m_place, .int m_value, .long m_word, .int m_bad, .int m_badPlace, .int m_fault, .int m_faultPlace, .ref mlines, .ref mhas, .ref mtold, .ref mlaw, .ref msuit, .ref mapart, .ref mact, .ref misKept, .ref mseen, .ref mhung, .int m_gone, .ref mgoal, .ref mleaps, .ref mqueue, .ref mrow, .int m_reached, .ref mwanted, .ref mfirst, .ref moften, .int m_fitMany, .int m_fitFirst, .int m_askBest, .int m_askLeaves, .int m_bestFirst, .int m_bestWays, .ref mlots, .ref mthen, .long m_lotsAll])), (mhas, .inl (cyI, 20, .inl m_has))]) [0, 1] rfl
            have hKc := hK.sub (tys' := [(cyI, .int), (cyB, .byte), (cyJ, .long), (cyZ, .boolean), (cyH, .object RX2), (cyN, .array .long)]) [0, 1, 2, 3, 4, 5] rfl
            refine vp_callSi (va_Run.run (va_runV (As := [.int u_1, .int x_14]) (rest := []) ⟨hx, hb, hml, hown, hts⟩ (m_wins4 l dC dI cyI cyB cyJ cyZ cyH cyN m0 mwidth mmany mcells mmoved mtape mlines mhas mtold mlaw msuit mapart mact misKept mseen mhung mgoal mleaps mqueue mrow mwanted mfirst moften mlots mthen m_thrown m_taped m_at m_token m_place m_value m_word m_bad m_badPlace m_fault m_faultPlace m_gone m_reached m_fitMany m_fitFirst m_askBest m_askLeaves m_bestFirst m_bestWays m_lotsAll m_has u_1 x_14 (by omega) (by omega) (by omega) (by omega) (by omega) g5 g6 g7 (by omega)) (cwV 2 hts (gdV wd_8_148 wd_8_150 wd_s6_10 wd_1_11 wd_8_151) rfl rfl rfl (by decide +kernel) ⟨Nat.le_of_ble_eq_true rfl, Nat.le_of_ble_eq_true rfl⟩) ⟨fun a U g mk q => by obtain ⟨q0, qP, qK⟩ := q; exact ⟨q0, qP, va_K.moved (u := U) (U := U.calling g mk a) (Vm.Alike.refl U.vm) qK⟩, va_recv hKc hPc (ci := 11) (q0 := 0) rfl rfl, fun U hU hW => ⟨rfl, by rw [hU]; exact hPc, va_K.moved hW.alike hKc⟩⟩ rfl rfl hl.1 rfl (lv_room (Nat.le_of_ble_eq_true rfl)) dX12_winsFrom_34 ⟨Nat.le_of_ble_eq_true rfl, Nat.le_of_ble_eq_true rfl⟩)) (fun r_15 hw => ?_)
            have hrr_15 := hw
            refine lv_if_ne (tgt := 42) hx hb dX12_winsFrom_37 (by decide) (fun c_16 => ?_) (fun c_16 => ?_)
            · have c_16 : r_15.toInt ≠ 0 := cv_ne c_16
              obtain ⟨x_17, ex_17⟩ : ∃ y : Int32, y = u_1 + 1 := ⟨_, rfl⟩
              refine lv_iinc (v := x_17) (lv' := [(3, .int x_17), (0, .ref m0), (1, .int p0), (2, .int p1)]) hx hb dX12_winsFrom_42 hl (k := 0) rfl (by rw [ex_17]; rfl) (by decide) rfl (fun ls hl => ?_)
              have fx_17 : x_17.toInt = u_1.toInt + 1 := by rw [ex_17]; exact cv_addI (by have : (1 : Int32).toInt = 1 := rfl; omega) (by have : (1 : Int32).toInt = 1 := rfl; omega)
              refine lv_goto (tgt := 2) hx hb dX12_winsFrom_45 (by decide) ?_
              exact ihkey_2 x_17 _ (by omega) (lv_sub hl [0, 1, 2, 3] rfl) (by omega)
            · have c_16 : r_15.toInt = 0 := cv_eq c_16
              refine lv_iconst (v := 1) hx hb dX12_winsFrom_40 (by decide) ?_
              rw [hQ9]
              exact W.zret (v := 1) (ty := .boolean) hx hb hr rfl (fun t ht hW => ⟨1, rfl, (by decide), ht⟩) (fun q h => by cases h) dX12_winsFrom_41
  exact key_2 _ 0 _ (by decide) (lv_sub hl [0, 1, 2, 3] rfl) (Nat.lt_succ_self _)

/- X12_winsFrom -/
set_option maxHeartbeats 4000000 in
set_option maxRecDepth 100000 in
theorem m_wins6 (l : Launch) (dC : Nat → ClassId) (dI : Nat → Nat → Nat) (cyI cyB cyJ cyZ cyH cyN : ClassId) (m0 mwidth mmany mcells mmoved mtape mlines mhas mtold mlaw msuit mapart mact misKept mseen mhung mgoal mleaps mqueue mrow mwanted mfirst moften mlots mthen : Nat) (m_thrown m_taped m_at m_token m_place m_value : Int32) (m_word : Int64) (m_bad m_badPlace m_fault m_faultPlace m_gone m_reached m_fitMany m_fitFirst m_askBest m_askLeaves m_bestFirst m_bestWays : Int32) (m_lotsAll : Int64) (m_has : Nat → Int32) (p0 p1 : Int32) (g0 : 0 ≤ m_taped.toInt ∧ m_taped.toInt ≤ 800) (g1 : 0 ≤ m_at.toInt ∧ m_at.toInt ≤ 800) (g2 : 0 ≤ m_gone.toInt ∧ m_gone.toInt ≤ 40) (g3 : 0 ≤ p0.toInt ∧ p0.toInt ≤ 6) (g4 : 0 ≤ p1.toInt ∧ p1.toInt ≤ 127) (g5 : (m_has 0).toInt = 0 ∨ (2 ≤ (m_has 0).toInt ∧ (m_has 0).toInt ≤ 7)) (g6 : 0 ≤ (m_has 1).toInt ∧ (m_has 1).toInt ≤ 6) (g7 : 0 ≤ (m_has 3).toInt ∧ (m_has 3).toInt ≤ 40) (g8 : 1 ≤ cb p1 7) : Met l yX12_winsFrom (wk yX12_winsFrom cX12_winsFrom 4 (some .boolean)) ({ frames := 8, cells := 0, slots := 0, locals := 219 }) (va_Pc [.ref m0, .int p0, .int p1] (fun U => va_P (dC, dI) vwCl [(m0, .inr (11, [.int m_thrown, .ref mwidth, .ref mmany, .ref mcells, .ref mmoved, .ref mtape, .int m_taped, .int m_at, .int m_token, .int m_place, .int m_value, .long m_word, .int m_bad, .int m_badPlace, .int m_fault, .int m_faultPlace, .ref mlines, .ref mhas, .ref mtold, .ref mlaw, .ref msuit, .ref mapart, .ref mact, .ref misKept, .ref mseen, .ref mhung, .int m_gone, .ref mgoal, .ref mleaps, .ref mqueue, .ref mrow, .int m_reached, .ref mwanted, .ref mfirst, .ref moften, .int m_fitMany, .int m_fitFirst, .int m_askBest, .int m_askLeaves, .int m_bestFirst, .int m_bestWays, .ref mlots, .ref mthen, .long m_lotsAll])), (mhas, .inl (cyI, 20, .inl m_has))] U.heap ∧ va_K (dC, dI) vwCl [(cyI, .int), (cyB, .byte), (cyJ, .long), (cyZ, .boolean), (cyH, .object RX2), (cyN, .array .long)] U)) (vp_Si (fun r : Int32 => 0 ≤ r.toInt ∧ r.toInt ≤ 1)) 0 0 (fun _ => False) := by
  refine Met.ofW (cc := cX12_winsFrom) (maxL := 4) (ret := (some .boolean)) (by decide) rfl ?_
  intro p e s m args below meth c s₁ B hml hv
  obtain ⟨rfl, hP, hK⟩ := hv
  have hx := B.exec
  have hb := B.bytes
  have hr := B.returns
  have hts : ∀ w ∈ uU, w.before ([.ref m0, .int p0, .int p1] : List Value).toArray s = true := fun w h => atoms_spec (ws := wk yX12_winsFrom cX12_winsFrom 4 (some .boolean)) B.pre w (List.mem_cons_of_mem _ h)
  have hown : s.vm.findClass RX12 = some m.cls := findClass_of_methodNamed B.named
  have hlocks := B.notSynchronized
  have hl := lv_entry ([.ref m0, .int p0, .int p1]) (n := 4) (Nat.le_of_ble_eq_true rfl)
  rw [lg_entry_eq]
  generalize (lg_sl ([.ref m0, .int p0, .int p1]) ++ List.replicate (4 - (lg_sl ([.ref m0, .int p0, .int p1])).length) Slot.unset).toArray = ls at hl ⊢
  have hl : lv_has ls 4 [(0, .ref m0), (1, .int p0), (2, .int p1)] := hl
  obtain ⟨Q9, hQ9⟩ : ∃ Q9 : State → Prop, Q9 = MQ below (vp_Si (fun r : Int32 => 0 ≤ r.toInt ∧ r.toInt ≤ 1)) ([.ref m0, .int p0, .int p1] : List Value).toArray s 0 0 (fun _ => False) := ⟨_, rfl⟩
  rw [← hQ9]
  refine lv_iconst (v := 0) hx hb dX12_winsFrom_0 (by decide) ?_
  refine lv_istore_n (lv' := [(3, .int 0), (0, .ref m0), (1, .int p0), (2, .int p1)]) hx hb dX12_winsFrom_1 rfl hl (by decide) rfl (fun ls hl => ?_)
  have key_2 : ∀ (nkey_2 : Nat) (u_1 : Int32) (ls : Array Slot), (0 ≤ u_1.toInt ∧ u_1.toInt ≤ 7) → lv_has ls 4 [(3, .int u_1), (0, .ref m0), (1, .int p0), (2, .int p1)] → ((m_has 0).toInt - u_1.toInt).toNat < nkey_2 → W p l e ({ frames := 8, cells := 0, slots := 0, locals := 219 }) s m ([.ref m0, .int p0, .int p1] : List Value).toArray below meth c s.heap [] 0 0 Q9 (F0 m 2 ls []) := by
    intro nkey_2
    induction nkey_2 with
    | zero => intro u_1 ls hu_1 hl hnkey_2; exact absurd hnkey_2 (Nat.not_lt_zero _)
    | succ nkey_2 ihkey_2 =>
      intro u_1 ls hu_1 hl hnkey_2
      refine lv_iload_n hx hb dX12_winsFrom_2 rfl (lv_at hl 0 rfl) ?_
      refine lv_aload_n hx hb dX12_winsFrom_3 rfl (lv_at hl 1 rfl) ?_
      have hPc := hP.sub (ws' := [(m0, .inr (11, [.int m_thrown, .ref mwidth, .ref mmany, .ref mcells, .ref mmoved, .ref mtape, .int m_taped, .int m_at, .int m_token, .int m_place, .int m_value, .long m_word, .int m_bad, .int m_badPlace, .int m_fault, .int m_faultPlace, .ref mlines, .ref mhas, .ref mtold, .ref mlaw, .ref msuit, .ref mapart, .ref mact, .ref misKept, .ref mseen, .ref mhung, .int m_gone, .ref mgoal, .ref mleaps, .ref mqueue, .ref mrow, .int m_reached, .ref mwanted, .ref mfirst, .ref moften, .int m_fitMany, .int m_fitFirst, .int m_askBest, .int m_askLeaves, .int m_bestFirst, .int m_bestWays, .ref mlots, .ref mthen, .long m_lotsAll])), (mhas, .inl (cyI, 20, .inl m_has))]) [0, 1] rfl
      have hKc := hK.sub (tys' := [(cyI, .int), (cyB, .byte), (cyJ, .long), (cyZ, .boolean), (cyH, .object RX2), (cyN, .array .long)]) [0, 1, 2, 3, 4, 5] rfl
      refine vp_callSi (va_Run.run (va_runV (As := []) (rest := [.int u_1]) ⟨hx, hb, hml, hown, hts⟩ (m_places l dC dI cyI cyB cyJ cyZ cyH cyN m0 mwidth mmany mcells mmoved mtape mlines mhas mtold mlaw msuit mapart mact misKept mseen mhung mgoal mleaps mqueue mrow mwanted mfirst moften mlots mthen m_thrown m_taped m_at m_token m_place m_value m_word m_bad m_badPlace m_fault m_faultPlace m_gone m_reached m_fitMany m_fitFirst m_askBest m_askLeaves m_bestFirst m_bestWays m_lotsAll m_has (by omega) (by omega) (by omega) g5 g6 g7) (cwV 0 hts (gdV wd_7_86 wd_7_88 wd_s4_14 wd_1_11 wd_7_89) rfl rfl rfl (by decide +kernel) ⟨Nat.le_of_ble_eq_true rfl, Nat.le_of_ble_eq_true rfl⟩) ⟨fun a U g mk q => by obtain ⟨q0, qP, qK⟩ := q; exact ⟨q0, qP, va_K.moved (u := U) (U := U.calling g mk a) (Vm.Alike.refl U.vm) qK⟩, va_recv hKc hPc (ci := 11) (q0 := 0) rfl rfl, fun U hU hW => ⟨rfl, by rw [hU]; exact hPc, va_K.moved hW.alike hKc⟩⟩ rfl rfl hl.1 rfl (lv_room (Nat.le_of_ble_eq_true rfl)) dX12_winsFrom_4 ⟨Nat.le_of_ble_eq_true rfl, Nat.le_of_ble_eq_true rfl⟩)) (fun r_3 hw => ?_)
      subst hw
      refine lv_icmp_ge (tgt := 48) hx hb dX12_winsFrom_7 (by decide) (fun c_4 => ?_) (fun c_4 => ?_)
      · have c_4 : (m_has 0).toInt ≤ u_1.toInt := cv_le c_4
        refine lv_iconst (v := 0) hx hb dX12_winsFrom_48 (by decide) ?_
        rw [hQ9]
        exact W.zret (v := 0) (ty := .boolean) hx hb hr rfl (fun t ht hW => ⟨0, rfl, (by decide), ht⟩) (fun q h => by cases h) dX12_winsFrom_49
      · have c_4 : u_1.toInt < (m_has 0).toInt := cv_nle c_4
        refine lv_iload_n hx hb dX12_winsFrom_10 rfl (lv_at hl 3 rfl) ?_
        refine lv_iload_n hx hb dX12_winsFrom_11 rfl (lv_at hl 0 rfl) ?_
        refine vp_callSi (va_Run.run (va_runS (As := [.int p1, .int u_1]) (rest := []) ⟨hx, hb, hml, hown, hts⟩ (m_isBit l dC dI cyI cyB cyJ cyZ cyH cyN p1 u_1) (va_cwS 2 hts (gdS wd_7_106 wd_7_107 wd_1_11 wd_7_108) rfl rfl rfl (by decide +kernel) ⟨Nat.le_of_ble_eq_true rfl, Nat.le_of_ble_eq_true rfl⟩) ⟨fun a U g mk q => q, fun U hU hW => ⟨rfl, trivial⟩⟩ rfl rfl hl.1 rfl (lv_room (Nat.le_of_ble_eq_true rfl)) dX12_winsFrom_12 ⟨Nat.le_of_ble_eq_true rfl, Nat.le_of_ble_eq_true rfl⟩)) (fun r_5 hw => ?_)
        by_cases c_6 : ((p1 >>> (u_1 &&& 31)) &&& 1 = 1)
        · rw [if_pos c_6] at hw; subst hw; have c_6 : ((p1 >>> (u_1 &&& 31)) &&& 1 = 1) := c_6
          refine lv_if_ne (tgt := 42) hx hb dX12_winsFrom_15 (by decide) (fun _ => ?_) (fun c_7 => absurd c_7 (by decide))
          obtain ⟨x_8, ex_8⟩ : ∃ y : Int32, y = u_1 + 1 := ⟨_, rfl⟩
          refine lv_iinc (v := x_8) (lv' := [(3, .int x_8), (0, .ref m0), (1, .int p0), (2, .int p1)]) hx hb dX12_winsFrom_42 hl (k := 0) rfl (by rw [ex_8]; rfl) (by decide) rfl (fun ls hl => ?_)
          have fx_8 : x_8.toInt = u_1.toInt + 1 := by rw [ex_8]; exact cv_addI (by have : (1 : Int32).toInt = 1 := rfl; omega) (by have : (1 : Int32).toInt = 1 := rfl; omega)
          refine lv_goto (tgt := 2) hx hb dX12_winsFrom_45 (by decide) ?_
          exact ihkey_2 x_8 _ (by omega) (lv_sub hl [0, 1, 2, 3] rfl) (by omega)
        · rw [if_neg c_6] at hw; subst hw; have c_6 : ¬ ((p1 >>> (u_1 &&& 31)) &&& 1 = 1) := c_6
          refine lv_if_ne (tgt := 42) hx hb dX12_winsFrom_15 (by decide) (fun c_9 => absurd c_9 (by decide)) (fun _ => ?_)
          refine lv_aload_n hx hb dX12_winsFrom_18 rfl (lv_at hl 1 rfl) ?_
          refine lv_iload_n hx hb dX12_winsFrom_19 rfl (lv_at hl 2 rfl) ?_
          refine lv_iload_n hx hb dX12_winsFrom_20 rfl (lv_at hl 0 rfl) ?_
          have hPc := hP.sub (ws' := [(m0, .inr (11, [.int m_thrown, .ref mwidth, .ref mmany, .ref mcells, .ref mmoved, .ref mtape, .int m_taped, .int m_at, .int m_token, .int m_place, .int m_value, .long m_word, .int m_bad, .int m_badPlace, .int m_fault, .int m_faultPlace, .ref mlines, .ref mhas, .ref mtold, .ref mlaw, .ref msuit, .ref mapart, .ref mact, .ref misKept, .ref mseen, .ref mhung, .int m_gone, .ref mgoal, .ref mleaps, .ref mqueue, .ref mrow, .int m_reached, .ref mwanted, .ref mfirst, .ref moften, .int m_fitMany, .int m_fitFirst, .int m_askBest, .int m_askLeaves, .int m_bestFirst, .int m_bestWays, .ref mlots, .ref mthen, .long m_lotsAll])), (mhas, .inl (cyI, 20, .inl m_has))]) [0, 1] rfl
          have hKc := hK.sub (tys' := [(cyI, .int), (cyB, .byte), (cyJ, .long), (cyZ, .boolean), (cyH, .object RX2), (cyN, .array .long)]) [0, 1, 2, 3, 4, 5] rfl
          refine vp_callSi (va_Run.run (va_runV (As := [.int p0, .int u_1]) (rest := []) ⟨hx, hb, hml, hown, hts⟩ (m_isLeap l dC dI cyI cyB cyJ cyZ cyH cyN m0 mwidth mmany mcells mmoved mtape mlines mhas mtold mlaw msuit mapart mact misKept mseen mhung mgoal mleaps mqueue mrow mwanted mfirst moften mlots mthen m_thrown m_taped m_at m_token m_place m_value m_word m_bad m_badPlace m_fault m_faultPlace m_gone m_reached m_fitMany m_fitFirst m_askBest m_askLeaves m_bestFirst m_bestWays m_lotsAll m_has p0 u_1 (by omega) (by omega) (by omega) g5 g6 g7) (cwV 2 hts (gdV wd_8_35 wd_8_37 wd_s6_1 wd_1_11 wd_8_38) rfl rfl rfl (by decide +kernel) ⟨Nat.le_of_ble_eq_true rfl, Nat.le_of_ble_eq_true rfl⟩) ⟨fun a U g mk q => by obtain ⟨q0, qP, qK⟩ := q; exact ⟨q0, qP, va_K.moved (u := U) (U := U.calling g mk a) (Vm.Alike.refl U.vm) qK⟩, va_recv hKc hPc (ci := 11) (q0 := 0) rfl rfl, fun U hU hW => ⟨rfl, by rw [hU]; exact hPc, va_K.moved hW.alike hKc⟩⟩ rfl rfl hl.1 rfl (lv_room (Nat.le_of_ble_eq_true rfl)) dX12_winsFrom_21 ⟨Nat.le_of_ble_eq_true rfl, Nat.le_of_ble_eq_true rfl⟩)) (fun r_10 hw => ?_)
          have hrr_10 := hw
          refine lv_if_eq (tgt := 42) hx hb dX12_winsFrom_24 (by decide) (fun c_11 => ?_) (fun c_11 => ?_)
          · have c_11 : r_10.toInt = 0 := cv_eq c_11
            obtain ⟨x_12, ex_12⟩ : ∃ y : Int32, y = u_1 + 1 := ⟨_, rfl⟩
            refine lv_iinc (v := x_12) (lv' := [(3, .int x_12), (0, .ref m0), (1, .int p0), (2, .int p1)]) hx hb dX12_winsFrom_42 hl (k := 0) rfl (by rw [ex_12]; rfl) (by decide) rfl (fun ls hl => ?_)
            have fx_12 : x_12.toInt = u_1.toInt + 1 := by rw [ex_12]; exact cv_addI (by have : (1 : Int32).toInt = 1 := rfl; omega) (by have : (1 : Int32).toInt = 1 := rfl; omega)
            refine lv_goto (tgt := 2) hx hb dX12_winsFrom_45 (by decide) ?_
            exact ihkey_2 x_12 _ (by omega) (lv_sub hl [0, 1, 2, 3] rfl) (by omega)
          · have c_11 : r_10.toInt ≠ 0 := cv_ne c_11
            refine lv_aload_n hx hb dX12_winsFrom_27 rfl (lv_at hl 1 rfl) ?_
            refine lv_iload_n hx hb dX12_winsFrom_28 rfl (lv_at hl 0 rfl) ?_
            refine lv_iload_n hx hb dX12_winsFrom_29 rfl (lv_at hl 3 rfl) ?_
            refine lv_iconst (v := 1) hx hb dX12_winsFrom_30 (by decide) ?_
            refine lv_iload_n hx hb dX12_winsFrom_31 rfl (lv_at hl 0 rfl) ?_
            refine lv_ishl hx hb dX12_winsFrom_32 ?_
            refine lv_topi (fun x_13 ex_13 => ?_)
            have fx_13 : 1 ≤ x_13.toInt ∧ x_13.toInt ≤ 64 := by rw [ex_13]; have q := cv_shl1 (y := u_1) 0 6 (by decide) (by decide) (by omega) (by omega); omega
            refine lv_ior hx hb dX12_winsFrom_33 ?_
            refine lv_topi (fun x_14 ex_14 => ?_)
            have fx_14 : 0 ≤ x_14.toInt ∧ x_14.toInt ≤ 127 := by rw [ex_14]; have q := cv_or (x := p1) (y := x_13) 7 (by decide) (by omega) (by omega) (by omega) (by omega); omega
            have h9 := cb_inc (k' := x_14) (by assumption) (by assumption) (by assumption) (by omega) (by omega)
            have hPc := hP.sub (ws' := [(m0, .inr (11, [.int m_thrown, .ref mwidth, .ref mmany, .ref mcells, .ref mmoved, .ref mtape, .int m_taped, .int m_at, .int m_token, .int m_place, .int m_value, .long m_word, .int m_bad, .int m_badPlace, .int m_fault, .int m_faultPlace, .ref mlines, .ref mhas, .ref mtold, .ref mlaw, .ref msuit, .ref mapart, .ref mact, .ref misKept, .ref mseen, .ref mhung, .int m_gone, .ref mgoal, .ref mleaps, .ref mqueue, .ref mrow, .int m_reached, .ref mwanted, .ref mfirst, .ref moften, .int m_fitMany, .int m_fitFirst, .int m_askBest, .int m_askLeaves, .int m_bestFirst, .int m_bestWays, .ref mlots, .ref mthen, .long m_lotsAll])), (mhas, .inl (cyI, 20, .inl m_has))]) [0, 1] rfl
            have hKc := hK.sub (tys' := [(cyI, .int), (cyB, .byte), (cyJ, .long), (cyZ, .boolean), (cyH, .object RX2), (cyN, .array .long)]) [0, 1, 2, 3, 4, 5] rfl
            refine vp_callSi (va_Run.run (va_runV (As := [.int u_1, .int x_14]) (rest := []) ⟨hx, hb, hml, hown, hts⟩ (m_wins5 l dC dI cyI cyB cyJ cyZ cyH cyN m0 mwidth mmany mcells mmoved mtape mlines mhas mtold mlaw msuit mapart mact misKept mseen mhung mgoal mleaps mqueue mrow mwanted mfirst moften mlots mthen m_thrown m_taped m_at m_token m_place m_value m_word m_bad m_badPlace m_fault m_faultPlace m_gone m_reached m_fitMany m_fitFirst m_askBest m_askLeaves m_bestFirst m_bestWays m_lotsAll m_has u_1 x_14 (by omega) (by omega) (by omega) (by omega) (by omega) g5 g6 g7 (by omega)) (cwV 2 hts (gdV wd_8_148 wd_8_150 wd_s6_10 wd_1_11 wd_8_151) rfl rfl rfl (by decide +kernel) ⟨Nat.le_of_ble_eq_true rfl, Nat.le_of_ble_eq_true rfl⟩) ⟨fun a U g mk q => by obtain ⟨q0, qP, qK⟩ := q; exact ⟨q0, qP, va_K.moved (u := U) (U := U.calling g mk a) (Vm.Alike.refl U.vm) qK⟩, va_recv hKc hPc (ci := 11) (q0 := 0) rfl rfl, fun U hU hW => ⟨rfl, by rw [hU]; exact hPc, va_K.moved hW.alike hKc⟩⟩ rfl rfl hl.1 rfl (lv_room (Nat.le_of_ble_eq_true rfl)) dX12_winsFrom_34 ⟨Nat.le_of_ble_eq_true rfl, Nat.le_of_ble_eq_true rfl⟩)) (fun r_15 hw => ?_)
            have hrr_15 := hw
            refine lv_if_ne (tgt := 42) hx hb dX12_winsFrom_37 (by decide) (fun c_16 => ?_) (fun c_16 => ?_)
            · have c_16 : r_15.toInt ≠ 0 := cv_ne c_16
              obtain ⟨x_17, ex_17⟩ : ∃ y : Int32, y = u_1 + 1 := ⟨_, rfl⟩
              refine lv_iinc (v := x_17) (lv' := [(3, .int x_17), (0, .ref m0), (1, .int p0), (2, .int p1)]) hx hb dX12_winsFrom_42 hl (k := 0) rfl (by rw [ex_17]; rfl) (by decide) rfl (fun ls hl => ?_)
              have fx_17 : x_17.toInt = u_1.toInt + 1 := by rw [ex_17]; exact cv_addI (by have : (1 : Int32).toInt = 1 := rfl; omega) (by have : (1 : Int32).toInt = 1 := rfl; omega)
              refine lv_goto (tgt := 2) hx hb dX12_winsFrom_45 (by decide) ?_
              exact ihkey_2 x_17 _ (by omega) (lv_sub hl [0, 1, 2, 3] rfl) (by omega)
            · have c_16 : r_15.toInt = 0 := cv_eq c_16
              refine lv_iconst (v := 1) hx hb dX12_winsFrom_40 (by decide) ?_
              rw [hQ9]
              exact W.zret (v := 1) (ty := .boolean) hx hb hr rfl (fun t ht hW => ⟨1, rfl, (by decide), ht⟩) (fun q h => by cases h) dX12_winsFrom_41
  exact key_2 _ 0 _ (by decide) (lv_sub hl [0, 1, 2, 3] rfl) (Nat.lt_succ_self _)

/- X12_wins -/
set_option maxHeartbeats 4000000 in
set_option maxRecDepth 100000 in
theorem m_wins (l : Launch) (dC : Nat → ClassId) (dI : Nat → Nat → Nat) (cyI cyB cyJ cyZ cyH cyN : ClassId) (sz : Nat) (m0 mwidth mmany mcells mmoved mtape mlines mhas mtold mlaw msuit mapart mact misKept mseen mhung mgoal mleaps mqueue mrow mwanted mfirst moften mlots mthen : Nat) (m_thrown m_taped m_at m_token m_place m_value : Int32) (m_word : Int64) (m_bad m_badPlace m_fault m_faultPlace m_gone m_reached m_fitMany m_fitFirst m_askBest m_askLeaves m_bestFirst m_bestWays : Int32) (m_lotsAll : Int64) (m_has : Nat → Int32) (p0 : Int32) (g0 : 0 ≤ m_taped.toInt ∧ m_taped.toInt ≤ 800) (g1 : 0 ≤ m_at.toInt ∧ m_at.toInt ≤ 800) (g2 : 0 ≤ m_gone.toInt ∧ m_gone.toInt ≤ 40) (g3 : (m_has 0).toInt = 0 ∨ (2 ≤ (m_has 0).toInt ∧ (m_has 0).toInt ≤ 7)) (g4 : 0 ≤ (m_has 1).toInt ∧ (m_has 1).toInt ≤ 6) (g5 : 0 ≤ (m_has 3).toInt ∧ (m_has 3).toInt ≤ 40) : Met l yX12_wins (wk yX12_wins cX12_wins 2 (some .int)) ({ frames := 9, cells := 0, slots := 0, locals := 242 }) (va_Pc [.ref m0, .int p0] (fun U => U.heap.size = sz ∧ va_P (dC, dI) vwCl [(m0, .inr (11, [.int m_thrown, .ref mwidth, .ref mmany, .ref mcells, .ref mmoved, .ref mtape, .int m_taped, .int m_at, .int m_token, .int m_place, .int m_value, .long m_word, .int m_bad, .int m_badPlace, .int m_fault, .int m_faultPlace, .ref mlines, .ref mhas, .ref mtold, .ref mlaw, .ref msuit, .ref mapart, .ref mact, .ref misKept, .ref mseen, .ref mhung, .int m_gone, .ref mgoal, .ref mleaps, .ref mqueue, .ref mrow, .int m_reached, .ref mwanted, .ref mfirst, .ref moften, .int m_fitMany, .int m_fitFirst, .int m_askBest, .int m_askLeaves, .int m_bestFirst, .int m_bestWays, .ref mlots, .ref mthen, .long m_lotsAll])), (mhas, .inl (cyI, 20, .inl m_has))] U.heap ∧ va_K (dC, dI) vwCl [(cyI, .int), (cyB, .byte), (cyJ, .long), (cyZ, .boolean), (cyH, .object RX2), (cyN, .array .long)] U ∧ va_D (fun _ => True) [(m0, .inr (11, [.int m_thrown, .ref mwidth, .ref mmany, .ref mcells, .ref mmoved, .ref mtape, .int m_taped, .int m_at, .int m_token, .int m_place, .int m_value, .long m_word, .int m_bad, .int m_badPlace, .int m_fault, .int m_faultPlace, .ref mlines, .ref mhas, .ref mtold, .ref mlaw, .ref msuit, .ref mapart, .ref mact, .ref misKept, .ref mseen, .ref mhung, .int m_gone, .ref mgoal, .ref mleaps, .ref mqueue, .ref mrow, .int m_reached, .ref mwanted, .ref mfirst, .ref moften, .int m_fitMany, .int m_fitFirst, .int m_askBest, .int m_askLeaves, .int m_bestFirst, .int m_bestWays, .ref mlots, .ref mthen, .long m_lotsAll])), (mhas, .inl (cyI, 20, .inl m_has))])) (va_Qi (fun (r : Int32) (_ : Unit) => True) (fun (_ : Unit) (t : State) => ∃ z0 : Int32, (0 ≤ z0.toInt ∧ z0.toInt ≤ 0) ∧ va_P (dC, dI) vwCl [(m0, .inr (11, [.int z0, .ref mwidth, .ref mmany, .ref mcells, .ref mmoved, .ref mtape, .int m_taped, .int m_at, .int m_token, .int m_place, .int m_value, .long m_word, .int m_bad, .int m_badPlace, .int m_fault, .int m_faultPlace, .ref mlines, .ref mhas, .ref mtold, .ref mlaw, .ref msuit, .ref mapart, .ref mact, .ref misKept, .ref mseen, .ref mhung, .int m_gone, .ref mgoal, .ref mleaps, .ref mqueue, .ref mrow, .int m_reached, .ref mwanted, .ref mfirst, .ref moften, .int m_fitMany, .int m_fitFirst, .int m_askBest, .int m_askLeaves, .int m_bestFirst, .int m_bestWays, .ref mlots, .ref mthen, .long m_lotsAll])), (mhas, .inl (cyI, 20, .inl m_has))] t.heap ∧ va_D (va_A [(m0, .inr (11, [.int m_thrown, .ref mwidth, .ref mmany, .ref mcells, .ref mmoved, .ref mtape, .int m_taped, .int m_at, .int m_token, .int m_place, .int m_value, .long m_word, .int m_bad, .int m_badPlace, .int m_fault, .int m_faultPlace, .ref mlines, .ref mhas, .ref mtold, .ref mlaw, .ref msuit, .ref mapart, .ref mact, .ref misKept, .ref mseen, .ref mhung, .int m_gone, .ref mgoal, .ref mleaps, .ref mqueue, .ref mrow, .int m_reached, .ref mwanted, .ref mfirst, .ref moften, .int m_fitMany, .int m_fitFirst, .int m_askBest, .int m_askLeaves, .int m_bestFirst, .int m_bestWays, .ref mlots, .ref mthen, .long m_lotsAll])), (mhas, .inl (cyI, 20, .inl m_has))] sz) [(m0, .inr (11, [.int z0, .ref mwidth, .ref mmany, .ref mcells, .ref mmoved, .ref mtape, .int m_taped, .int m_at, .int m_token, .int m_place, .int m_value, .long m_word, .int m_bad, .int m_badPlace, .int m_fault, .int m_faultPlace, .ref mlines, .ref mhas, .ref mtold, .ref mlaw, .ref msuit, .ref mapart, .ref mact, .ref misKept, .ref mseen, .ref mhung, .int m_gone, .ref mgoal, .ref mleaps, .ref mqueue, .ref mrow, .int m_reached, .ref mwanted, .ref mfirst, .ref moften, .int m_fitMany, .int m_fitFirst, .int m_askBest, .int m_askLeaves, .int m_bestFirst, .int m_bestWays, .ref mlots, .ref mthen, .long m_lotsAll])), (mhas, .inl (cyI, 20, .inl m_has))]) (va_A [(m0, .inr (11, [.int m_thrown, .ref mwidth, .ref mmany, .ref mcells, .ref mmoved, .ref mtape, .int m_taped, .int m_at, .int m_token, .int m_place, .int m_value, .long m_word, .int m_bad, .int m_badPlace, .int m_fault, .int m_faultPlace, .ref mlines, .ref mhas, .ref mtold, .ref mlaw, .ref msuit, .ref mapart, .ref mact, .ref misKept, .ref mseen, .ref mhung, .int m_gone, .ref mgoal, .ref mleaps, .ref mqueue, .ref mrow, .int m_reached, .ref mwanted, .ref mfirst, .ref moften, .int m_fitMany, .int m_fitFirst, .int m_askBest, .int m_askLeaves, .int m_bestFirst, .int m_bestWays, .ref mlots, .ref mthen, .long m_lotsAll])), (mhas, .inl (cyI, 20, .inl m_has))] sz)) 0 0 (va_A [(m0, .inr (11, [.int m_thrown, .ref mwidth, .ref mmany, .ref mcells, .ref mmoved, .ref mtape, .int m_taped, .int m_at, .int m_token, .int m_place, .int m_value, .long m_word, .int m_bad, .int m_badPlace, .int m_fault, .int m_faultPlace, .ref mlines, .ref mhas, .ref mtold, .ref mlaw, .ref msuit, .ref mapart, .ref mact, .ref misKept, .ref mseen, .ref mhung, .int m_gone, .ref mgoal, .ref mleaps, .ref mqueue, .ref mrow, .int m_reached, .ref mwanted, .ref mfirst, .ref moften, .int m_fitMany, .int m_fitFirst, .int m_askBest, .int m_askLeaves, .int m_bestFirst, .int m_bestWays, .ref mlots, .ref mthen, .long m_lotsAll])), (mhas, .inl (cyI, 20, .inl m_has))] sz) := by
  refine Met.ofW (cc := cX12_wins) (maxL := 2) (ret := (some .int)) (by decide) rfl ?_
  intro p e s m args below meth c s₁ B hml hv
  obtain ⟨rfl, hsz, hP, hK, hD0⟩ := hv
  have hx := B.exec
  have hb := B.bytes
  have hr := B.returns
  have hts : ∀ w ∈ uU, w.before ([.ref m0, .int p0] : List Value).toArray s = true := fun w h => atoms_spec (ws := wk yX12_wins cX12_wins 2 (some .int)) B.pre w (List.mem_cons_of_mem _ h)
  have hown : s.vm.findClass RX12 = some m.cls := findClass_of_methodNamed B.named
  have hlocks := B.notSynchronized
  subst hsz
  have hD := hD0.self (sz := s.heap.size)
  generalize hAe : va_A [(m0, .inr (11, [.int m_thrown, .ref mwidth, .ref mmany, .ref mcells, .ref mmoved, .ref mtape, .int m_taped, .int m_at, .int m_token, .int m_place, .int m_value, .long m_word, .int m_bad, .int m_badPlace, .int m_fault, .int m_faultPlace, .ref mlines, .ref mhas, .ref mtold, .ref mlaw, .ref msuit, .ref mapart, .ref mact, .ref misKept, .ref mseen, .ref mhung, .int m_gone, .ref mgoal, .ref mleaps, .ref mqueue, .ref mrow, .int m_reached, .ref mwanted, .ref mfirst, .ref moften, .int m_fitMany, .int m_fitFirst, .int m_askBest, .int m_askLeaves, .int m_bestFirst, .int m_bestWays, .ref mlots, .ref mthen, .long m_lotsAll])), (mhas, .inl (cyI, 20, .inl m_has))] s.heap.size = A at hD ⊢
  have hA : ∀ q : Nat, s.heap.size ≤ q → A q := fun q h => by rw [← hAe]; exact Or.inr h
  have hS : va_S A s.heap s.heap [] := va_S.rf
  have hP : va_P (dC, dI) vwCl [(m0, .inr (11, [.int m_thrown, .ref mwidth, .ref mmany, .ref mcells, .ref mmoved, .ref mtape, .int m_taped, .int m_at, .int m_token, .int m_place, .int m_value, .long m_word, .int m_bad, .int m_badPlace, .int m_fault, .int m_faultPlace, .ref mlines, .ref mhas, .ref mtold, .ref mlaw, .ref msuit, .ref mapart, .ref mact, .ref misKept, .ref mseen, .ref mhung, .int m_gone, .ref mgoal, .ref mleaps, .ref mqueue, .ref mrow, .int m_reached, .ref mwanted, .ref mfirst, .ref moften, .int m_fitMany, .int m_fitFirst, .int m_askBest, .int m_askLeaves, .int m_bestFirst, .int m_bestWays, .ref mlots, .ref mthen, .long m_lotsAll])), (mhas, .inl (cyI, 20, .inl m_has))] s.heap := hP
  have hl := lv_entry ([.ref m0, .int p0]) (n := 2) (Nat.le_of_ble_eq_true rfl)
  rw [lg_entry_eq]
  generalize (lg_sl ([.ref m0, .int p0]) ++ List.replicate (2 - (lg_sl ([.ref m0, .int p0])).length) Slot.unset).toArray = ls at hl ⊢
  have hl : lv_has ls 2 [(0, .ref m0), (1, .int p0)] := hl
  obtain ⟨H, hHe⟩ : ∃ H, H = s.heap := ⟨_, rfl⟩
  have hP : va_P (dC, dI) vwCl [(m0, .inr (11, [.int m_thrown, .ref mwidth, .ref mmany, .ref mcells, .ref mmoved, .ref mtape, .int m_taped, .int m_at, .int m_token, .int m_place, .int m_value, .long m_word, .int m_bad, .int m_badPlace, .int m_fault, .int m_faultPlace, .ref mlines, .ref mhas, .ref mtold, .ref mlaw, .ref msuit, .ref mapart, .ref mact, .ref misKept, .ref mseen, .ref mhung, .int m_gone, .ref mgoal, .ref mleaps, .ref mqueue, .ref mrow, .int m_reached, .ref mwanted, .ref mfirst, .ref moften, .int m_fitMany, .int m_fitFirst, .int m_askBest, .int m_askLeaves, .int m_bestFirst, .int m_bestWays, .ref mlots, .ref mthen, .long m_lotsAll])), (mhas, .inl (cyI, 20, .inl m_has))] H := by rw [hHe]; exact hP
  have hS : va_S A s.heap H [] := by rw [hHe]; exact hS
  refine cv_heap hHe ?_
  obtain ⟨Q9, hQ9⟩ : ∃ Q9 : State → Prop, Q9 = MQ below (va_Qi (fun (r : Int32) (_ : Unit) => True) (fun (_ : Unit) (t : State) => ∃ z0 : Int32, (0 ≤ z0.toInt ∧ z0.toInt ≤ 0) ∧ va_P (dC, dI) vwCl [(m0, .inr (11, [.int z0, .ref mwidth, .ref mmany, .ref mcells, .ref mmoved, .ref mtape, .int m_taped, .int m_at, .int m_token, .int m_place, .int m_value, .long m_word, .int m_bad, .int m_badPlace, .int m_fault, .int m_faultPlace, .ref mlines, .ref mhas, .ref mtold, .ref mlaw, .ref msuit, .ref mapart, .ref mact, .ref misKept, .ref mseen, .ref mhung, .int m_gone, .ref mgoal, .ref mleaps, .ref mqueue, .ref mrow, .int m_reached, .ref mwanted, .ref mfirst, .ref moften, .int m_fitMany, .int m_fitFirst, .int m_askBest, .int m_askLeaves, .int m_bestFirst, .int m_bestWays, .ref mlots, .ref mthen, .long m_lotsAll])), (mhas, .inl (cyI, 20, .inl m_has))] t.heap ∧ va_D A [(m0, .inr (11, [.int z0, .ref mwidth, .ref mmany, .ref mcells, .ref mmoved, .ref mtape, .int m_taped, .int m_at, .int m_token, .int m_place, .int m_value, .long m_word, .int m_bad, .int m_badPlace, .int m_fault, .int m_faultPlace, .ref mlines, .ref mhas, .ref mtold, .ref mlaw, .ref msuit, .ref mapart, .ref mact, .ref misKept, .ref mseen, .ref mhung, .int m_gone, .ref mgoal, .ref mleaps, .ref mqueue, .ref mrow, .int m_reached, .ref mwanted, .ref mfirst, .ref moften, .int m_fitMany, .int m_fitFirst, .int m_askBest, .int m_askLeaves, .int m_bestFirst, .int m_bestWays, .ref mlots, .ref mthen, .long m_lotsAll])), (mhas, .inl (cyI, 20, .inl m_has))]) A) ([.ref m0, .int p0] : List Value).toArray s 0 0 A := ⟨_, rfl⟩
  rw [← hQ9]
  refine lv_aload_n hx hb dX12_wins_0 rfl (lv_at hl 0 rfl) ?_
  refine lv_iconst (v := 0) hx hb dX12_wins_1 (by decide) ?_
  refine va_put (D := (dC, dI)) (ci := 11) (v := .int 0) (ty := .int) (C := RX12) (T := TX12) (N := 44) hx hb hts uinX12 tyX12 tyX12_ok nmX12 hown hK hP hD hS 0 rfl rfl 0 (by decide) (hts _ wd_6_37) (fun _ h9 => h9) rfl (by decide +kernel) rfl rfl (Nat.le_of_ble_eq_true rfl) dX12_wins_2 (fun H locs hP hD hS => ?_)
  have hP : va_P (dC, dI) vwCl [(m0, .inr (11, [.int 0, .ref mwidth, .ref mmany, .ref mcells, .ref mmoved, .ref mtape, .int m_taped, .int m_at, .int m_token, .int m_place, .int m_value, .long m_word, .int m_bad, .int m_badPlace, .int m_fault, .int m_faultPlace, .ref mlines, .ref mhas, .ref mtold, .ref mlaw, .ref msuit, .ref mapart, .ref mact, .ref misKept, .ref mseen, .ref mhung, .int m_gone, .ref mgoal, .ref mleaps, .ref mqueue, .ref mrow, .int m_reached, .ref mwanted, .ref mfirst, .ref moften, .int m_fitMany, .int m_fitFirst, .int m_askBest, .int m_askLeaves, .int m_bestFirst, .int m_bestWays, .ref mlots, .ref mthen, .long m_lotsAll])), (mhas, .inl (cyI, 20, .inl m_has))] H := hP
  have hD : va_D A [(m0, .inr (11, [.int 0, .ref mwidth, .ref mmany, .ref mcells, .ref mmoved, .ref mtape, .int m_taped, .int m_at, .int m_token, .int m_place, .int m_value, .long m_word, .int m_bad, .int m_badPlace, .int m_fault, .int m_faultPlace, .ref mlines, .ref mhas, .ref mtold, .ref mlaw, .ref msuit, .ref mapart, .ref mact, .ref misKept, .ref mseen, .ref mhung, .int m_gone, .ref mgoal, .ref mleaps, .ref mqueue, .ref mrow, .int m_reached, .ref mwanted, .ref mfirst, .ref moften, .int m_fitMany, .int m_fitFirst, .int m_askBest, .int m_askLeaves, .int m_bestFirst, .int m_bestWays, .ref mlots, .ref mthen, .long m_lotsAll])), (mhas, .inl (cyI, 20, .inl m_has))] := hD
  refine lv_aload_n hx hb dX12_wins_5 rfl (lv_at hl 0 rfl) ?_
  refine lv_iload_n hx hb dX12_wins_6 rfl (lv_at hl 1 rfl) ?_
  obtain ⟨y_1, ey_1⟩ : ∃ z : Int64, z = p0.toInt64 := ⟨_, rfl⟩
  have fy_1 : y_1.toInt = p0.toInt := by rw [ey_1]; exact Int32.toInt_toInt64 _
  refine lv_i2l (v := y_1) hx hb dX12_wins_7 ey_1.symm ?_
  have hPc := hP.sub (ws' := [(m0, .inr (11, [.int 0, .ref mwidth, .ref mmany, .ref mcells, .ref mmoved, .ref mtape, .int m_taped, .int m_at, .int m_token, .int m_place, .int m_value, .long m_word, .int m_bad, .int m_badPlace, .int m_fault, .int m_faultPlace, .ref mlines, .ref mhas, .ref mtold, .ref mlaw, .ref msuit, .ref mapart, .ref mact, .ref misKept, .ref mseen, .ref mhung, .int m_gone, .ref mgoal, .ref mleaps, .ref mqueue, .ref mrow, .int m_reached, .ref mwanted, .ref mfirst, .ref moften, .int m_fitMany, .int m_fitFirst, .int m_askBest, .int m_askLeaves, .int m_bestFirst, .int m_bestWays, .ref mlots, .ref mthen, .long m_lotsAll])), (mhas, .inl (cyI, 20, .inl m_has))]) [0, 1] rfl
  have hKc := hK.sub (tys' := [(cyI, .int), (cyB, .byte), (cyJ, .long), (cyZ, .boolean), (cyH, .object RX2), (cyN, .array .long)]) [0, 1, 2, 3, 4, 5] rfl
  refine vp_callSi (va_Run.run (va_runV (As := [.long y_1]) (rest := []) ⟨hx, hb, hml, hown, hts⟩ (m_isPlace l dC dI cyI cyB cyJ cyZ cyH cyN m0 mwidth mmany mcells mmoved mtape mlines mhas mtold mlaw msuit mapart mact misKept mseen mhung mgoal mleaps mqueue mrow mwanted mfirst moften mlots mthen 0 m_taped m_at m_token m_place m_value m_word m_bad m_badPlace m_fault m_faultPlace m_gone m_reached m_fitMany m_fitFirst m_askBest m_askLeaves m_bestFirst m_bestWays m_lotsAll m_has y_1 (by omega) (by omega) (by omega) g3 g4 g5) (cwV 1 hts (gdV wd_7_82 wd_7_84 wd_s4_13 wd_1_11 wd_7_85) rfl rfl rfl (by decide +kernel) ⟨Nat.le_of_ble_eq_true rfl, Nat.le_of_ble_eq_true rfl⟩) ⟨fun a U g mk q => by obtain ⟨q0, qP, qK⟩ := q; exact ⟨q0, qP, va_K.moved (u := U) (U := U.calling g mk a) (Vm.Alike.refl U.vm) qK⟩, va_recv hKc hPc (ci := 11) (q0 := 0) rfl rfl, fun U hU hW => ⟨rfl, by rw [hU]; exact hPc, va_K.moved hW.alike hKc⟩⟩ rfl rfl hl.1 rfl (lv_room (Nat.le_of_ble_eq_true rfl)) dX12_wins_8 ⟨Nat.le_of_ble_eq_true rfl, Nat.le_of_ble_eq_true rfl⟩)) (fun r_2 hw => ?_)
  have join_5 : ∀ (u_4 : Int32) (H : Heap) (locs : List Loc) (ls : Array Slot), ((-2) ≤ u_4.toInt ∧ u_4.toInt ≤ 1) → va_P (dC, dI) vwCl [(m0, .inr (11, [.int 0, .ref mwidth, .ref mmany, .ref mcells, .ref mmoved, .ref mtape, .int m_taped, .int m_at, .int m_token, .int m_place, .int m_value, .long m_word, .int m_bad, .int m_badPlace, .int m_fault, .int m_faultPlace, .ref mlines, .ref mhas, .ref mtold, .ref mlaw, .ref msuit, .ref mapart, .ref mact, .ref misKept, .ref mseen, .ref mhung, .int m_gone, .ref mgoal, .ref mleaps, .ref mqueue, .ref mrow, .int m_reached, .ref mwanted, .ref mfirst, .ref moften, .int m_fitMany, .int m_fitFirst, .int m_askBest, .int m_askLeaves, .int m_bestFirst, .int m_bestWays, .ref mlots, .ref mthen, .long m_lotsAll])), (mhas, .inl (cyI, 20, .inl m_has))] H → va_D A [(m0, .inr (11, [.int 0, .ref mwidth, .ref mmany, .ref mcells, .ref mmoved, .ref mtape, .int m_taped, .int m_at, .int m_token, .int m_place, .int m_value, .long m_word, .int m_bad, .int m_badPlace, .int m_fault, .int m_faultPlace, .ref mlines, .ref mhas, .ref mtold, .ref mlaw, .ref msuit, .ref mapart, .ref mact, .ref misKept, .ref mseen, .ref mhung, .int m_gone, .ref mgoal, .ref mleaps, .ref mqueue, .ref mrow, .int m_reached, .ref mwanted, .ref mfirst, .ref moften, .int m_fitMany, .int m_fitFirst, .int m_askBest, .int m_askLeaves, .int m_bestFirst, .int m_bestWays, .ref mlots, .ref mthen, .long m_lotsAll])), (mhas, .inl (cyI, 20, .inl m_has))] → va_S A s.heap H locs → lv_has ls 2 [(0, .ref m0), (1, .int p0)] → W p l e ({ frames := 9, cells := 0, slots := 0, locals := 242 }) s m ([.ref m0, .int p0] : List Value).toArray below meth c H locs 0 0 Q9 (F0 m 35 ls [.int u_4]) := by
    intro u_4 H locs ls hu_4 hP hD hS hl
    rw [hQ9]
    have hP9 := hP.sub (ws' := [(m0, .inr (11, [.int 0, .ref mwidth, .ref mmany, .ref mcells, .ref mmoved, .ref mtape, .int m_taped, .int m_at, .int m_token, .int m_place, .int m_value, .long m_word, .int m_bad, .int m_badPlace, .int m_fault, .int m_faultPlace, .ref mlines, .ref mhas, .ref mtold, .ref mlaw, .ref msuit, .ref mapart, .ref mact, .ref misKept, .ref mseen, .ref mhung, .int m_gone, .ref mgoal, .ref mleaps, .ref mqueue, .ref mrow, .int m_reached, .ref mwanted, .ref mfirst, .ref moften, .int m_fitMany, .int m_fitFirst, .int m_askBest, .int m_askLeaves, .int m_bestFirst, .int m_bestWays, .ref mlots, .ref mthen, .long m_lotsAll])), (mhas, .inl (cyI, 20, .inl m_has))]) [0, 1] rfl
    have hD9 := hD.sub (ws' := [(m0, .inr (11, [.int 0, .ref mwidth, .ref mmany, .ref mcells, .ref mmoved, .ref mtape, .int m_taped, .int m_at, .int m_token, .int m_place, .int m_value, .long m_word, .int m_bad, .int m_badPlace, .int m_fault, .int m_faultPlace, .ref mlines, .ref mhas, .ref mtold, .ref mlaw, .ref msuit, .ref mapart, .ref mact, .ref misKept, .ref mseen, .ref mhung, .int m_gone, .ref mgoal, .ref mleaps, .ref mqueue, .ref mrow, .int m_reached, .ref mwanted, .ref mfirst, .ref moften, .int m_fitMany, .int m_fitFirst, .int m_askBest, .int m_askLeaves, .int m_bestFirst, .int m_bestWays, .ref mlots, .ref mthen, .long m_lotsAll])), (mhas, .inl (cyI, 20, .inl m_has))]) [0, 1] (by decide) rfl
    exact W.iret (v := u_4) hx hb hr (fun t ht hW => ⟨⟨u_4, (), rfl, trivial, ⟨0, (by decide), by rw [ht]; exact hP9, hD9⟩⟩, hS.F ht⟩) hS.2.2 dX12_wins_35
  by_cases c_3 : (0 ≤ y_1.toInt ∧ y_1.toInt < (m_has 0).toInt)
  · rw [if_pos c_3] at hw; subst hw; have c_3 : (0 ≤ y_1.toInt ∧ y_1.toInt < (m_has 0).toInt) := c_3
    refine lv_if_ne (tgt := 19) hx hb dX12_wins_11 (by decide) (fun _ => ?_) (fun c_6 => absurd c_6 (by decide))
    refine lv_aload_n hx hb dX12_wins_19 rfl (lv_at hl 0 rfl) ?_
    refine lv_iload_n hx hb dX12_wins_20 rfl (lv_at hl 1 rfl) ?_
    refine lv_iconst (v := 1) hx hb dX12_wins_21 (by decide) ?_
    refine lv_iload_n hx hb dX12_wins_22 rfl (lv_at hl 1 rfl) ?_
    refine lv_ishl hx hb dX12_wins_23 ?_
    refine lv_topi (fun x_7 ex_7 => ?_)
    have fx_7 : 1 ≤ x_7.toInt ∧ x_7.toInt ≤ 64 := by rw [ex_7]; have q := cv_shl1 (y := p0) 0 6 (by decide) (by decide) (by omega) (by omega); omega
    have h9 := cb_sgl ex_7 (by omega)
    have hPc := hP.sub (ws' := [(m0, .inr (11, [.int 0, .ref mwidth, .ref mmany, .ref mcells, .ref mmoved, .ref mtape, .int m_taped, .int m_at, .int m_token, .int m_place, .int m_value, .long m_word, .int m_bad, .int m_badPlace, .int m_fault, .int m_faultPlace, .ref mlines, .ref mhas, .ref mtold, .ref mlaw, .ref msuit, .ref mapart, .ref mact, .ref misKept, .ref mseen, .ref mhung, .int m_gone, .ref mgoal, .ref mleaps, .ref mqueue, .ref mrow, .int m_reached, .ref mwanted, .ref mfirst, .ref moften, .int m_fitMany, .int m_fitFirst, .int m_askBest, .int m_askLeaves, .int m_bestFirst, .int m_bestWays, .ref mlots, .ref mthen, .long m_lotsAll])), (mhas, .inl (cyI, 20, .inl m_has))]) [0, 1] rfl
    have hKc := hK.sub (tys' := [(cyI, .int), (cyB, .byte), (cyJ, .long), (cyZ, .boolean), (cyH, .object RX2), (cyN, .array .long)]) [0, 1, 2, 3, 4, 5] rfl
    refine vp_callSi (va_Run.run (va_runV (As := [.int p0, .int x_7]) (rest := []) ⟨hx, hb, hml, hown, hts⟩ (m_wins6 l dC dI cyI cyB cyJ cyZ cyH cyN m0 mwidth mmany mcells mmoved mtape mlines mhas mtold mlaw msuit mapart mact misKept mseen mhung mgoal mleaps mqueue mrow mwanted mfirst moften mlots mthen 0 m_taped m_at m_token m_place m_value m_word m_bad m_badPlace m_fault m_faultPlace m_gone m_reached m_fitMany m_fitFirst m_askBest m_askLeaves m_bestFirst m_bestWays m_lotsAll m_has p0 x_7 (by omega) (by omega) (by omega) (by omega) (by omega) g3 g4 g5 (by omega)) (cwV 2 hts (gdV wd_8_148 wd_8_150 wd_s6_10 wd_1_11 wd_8_151) rfl rfl rfl (by decide +kernel) ⟨Nat.le_of_ble_eq_true rfl, Nat.le_of_ble_eq_true rfl⟩) ⟨fun a U g mk q => by obtain ⟨q0, qP, qK⟩ := q; exact ⟨q0, qP, va_K.moved (u := U) (U := U.calling g mk a) (Vm.Alike.refl U.vm) qK⟩, va_recv hKc hPc (ci := 11) (q0 := 0) rfl rfl, fun U hU hW => ⟨rfl, by rw [hU]; exact hPc, va_K.moved hW.alike hKc⟩⟩ rfl rfl hl.1 rfl (lv_room (Nat.le_of_ble_eq_true rfl)) dX12_wins_24 ⟨Nat.le_of_ble_eq_true rfl, Nat.le_of_ble_eq_true rfl⟩)) (fun r_8 hw => ?_)
    have hrr_8 := hw
    refine lv_if_eq (tgt := 34) hx hb dX12_wins_27 (by decide) (fun c_9 => ?_) (fun c_9 => ?_)
    · have c_9 : r_8.toInt = 0 := cv_eq c_9
      refine lv_iconst (v := 0) hx hb dX12_wins_34 (by decide) ?_
      exact join_5 0 _ _ _ (by decide) hP hD hS (lv_sub hl [0, 1] rfl)
    · have c_9 : r_8.toInt ≠ 0 := cv_ne c_9
      refine lv_iconst (v := 1) hx hb dX12_wins_30 (by decide) ?_
      refine lv_goto (tgt := 35) hx hb dX12_wins_31 (by decide) ?_
      exact join_5 1 _ _ _ (by decide) hP hD hS (lv_sub hl [0, 1] rfl)
  · rw [if_neg c_3] at hw; subst hw; have c_3 : ¬ (0 ≤ y_1.toInt ∧ y_1.toInt < (m_has 0).toInt) := c_3
    refine lv_if_ne (tgt := 19) hx hb dX12_wins_11 (by decide) (fun c_10 => absurd c_10 (by decide)) (fun _ => ?_)
    refine lv_bipush (v := (-2)) hx hb dX12_wins_14 (by decide) ?_
    refine lv_goto (tgt := 35) hx hb dX12_wins_16 (by decide) ?_
    exact join_5 (-2) _ _ _ (by decide) hP hD hS (lv_sub hl [0, 1] rfl)

/- X12_takes_ -/
set_option maxHeartbeats 4000000 in
set_option maxRecDepth 100000 in
theorem m_takes_ (l : Launch) (dC : Nat → ClassId) (dI : Nat → Nat → Nat) (cyI cyB cyJ cyZ cyH cyN : ClassId) (sz : Nat) (m0 mwidth mmany mcells mmoved mtape mlines mhas mtold mlaw msuit mapart mact misKept mseen mhung mgoal mleaps mqueue mrow mwanted mfirst moften mlots mthen : Nat) (m_thrown m_taped m_at m_token m_place m_value : Int32) (m_word : Int64) (m_bad m_badPlace m_fault m_faultPlace m_gone m_reached m_fitMany m_fitFirst m_askBest m_askLeaves m_bestFirst m_bestWays : Int32) (m_lotsAll : Int64) (m_has : Nat → Int32) (p0 : Int32) (g0 : 0 ≤ m_taped.toInt ∧ m_taped.toInt ≤ 800) (g1 : 0 ≤ m_at.toInt ∧ m_at.toInt ≤ 800) (g2 : 0 ≤ m_gone.toInt ∧ m_gone.toInt ≤ 40) (g3 : (m_has 0).toInt = 0 ∨ (2 ≤ (m_has 0).toInt ∧ (m_has 0).toInt ≤ 7)) (g4 : 0 ≤ (m_has 1).toInt ∧ (m_has 1).toInt ≤ 6) (g5 : 0 ≤ (m_has 3).toInt ∧ (m_has 3).toInt ≤ 40) : Met l yX12_takes_ (wk yX12_takes_ cX12_takes_ 3 (some .int)) ({ frames := 9, cells := 0, slots := 0, locals := 242 }) (va_Pc [.ref m0, .int p0] (fun U => U.heap.size = sz ∧ va_P (dC, dI) vwCl [(m0, .inr (11, [.int m_thrown, .ref mwidth, .ref mmany, .ref mcells, .ref mmoved, .ref mtape, .int m_taped, .int m_at, .int m_token, .int m_place, .int m_value, .long m_word, .int m_bad, .int m_badPlace, .int m_fault, .int m_faultPlace, .ref mlines, .ref mhas, .ref mtold, .ref mlaw, .ref msuit, .ref mapart, .ref mact, .ref misKept, .ref mseen, .ref mhung, .int m_gone, .ref mgoal, .ref mleaps, .ref mqueue, .ref mrow, .int m_reached, .ref mwanted, .ref mfirst, .ref moften, .int m_fitMany, .int m_fitFirst, .int m_askBest, .int m_askLeaves, .int m_bestFirst, .int m_bestWays, .ref mlots, .ref mthen, .long m_lotsAll])), (mhas, .inl (cyI, 20, .inl m_has))] U.heap ∧ va_K (dC, dI) vwCl [(cyI, .int), (cyB, .byte), (cyJ, .long), (cyZ, .boolean), (cyH, .object RX2), (cyN, .array .long)] U ∧ va_D (fun _ => True) [(m0, .inr (11, [.int m_thrown, .ref mwidth, .ref mmany, .ref mcells, .ref mmoved, .ref mtape, .int m_taped, .int m_at, .int m_token, .int m_place, .int m_value, .long m_word, .int m_bad, .int m_badPlace, .int m_fault, .int m_faultPlace, .ref mlines, .ref mhas, .ref mtold, .ref mlaw, .ref msuit, .ref mapart, .ref mact, .ref misKept, .ref mseen, .ref mhung, .int m_gone, .ref mgoal, .ref mleaps, .ref mqueue, .ref mrow, .int m_reached, .ref mwanted, .ref mfirst, .ref moften, .int m_fitMany, .int m_fitFirst, .int m_askBest, .int m_askLeaves, .int m_bestFirst, .int m_bestWays, .ref mlots, .ref mthen, .long m_lotsAll])), (mhas, .inl (cyI, 20, .inl m_has))])) (va_Qi (fun (r : Int32) (_ : Unit) => True) (fun (_ : Unit) (t : State) => ∃ z0 : Int32, (0 ≤ z0.toInt ∧ z0.toInt ≤ 0) ∧ va_P (dC, dI) vwCl [(m0, .inr (11, [.int z0, .ref mwidth, .ref mmany, .ref mcells, .ref mmoved, .ref mtape, .int m_taped, .int m_at, .int m_token, .int m_place, .int m_value, .long m_word, .int m_bad, .int m_badPlace, .int m_fault, .int m_faultPlace, .ref mlines, .ref mhas, .ref mtold, .ref mlaw, .ref msuit, .ref mapart, .ref mact, .ref misKept, .ref mseen, .ref mhung, .int m_gone, .ref mgoal, .ref mleaps, .ref mqueue, .ref mrow, .int m_reached, .ref mwanted, .ref mfirst, .ref moften, .int m_fitMany, .int m_fitFirst, .int m_askBest, .int m_askLeaves, .int m_bestFirst, .int m_bestWays, .ref mlots, .ref mthen, .long m_lotsAll])), (mhas, .inl (cyI, 20, .inl m_has))] t.heap ∧ va_D (va_A [(m0, .inr (11, [.int m_thrown, .ref mwidth, .ref mmany, .ref mcells, .ref mmoved, .ref mtape, .int m_taped, .int m_at, .int m_token, .int m_place, .int m_value, .long m_word, .int m_bad, .int m_badPlace, .int m_fault, .int m_faultPlace, .ref mlines, .ref mhas, .ref mtold, .ref mlaw, .ref msuit, .ref mapart, .ref mact, .ref misKept, .ref mseen, .ref mhung, .int m_gone, .ref mgoal, .ref mleaps, .ref mqueue, .ref mrow, .int m_reached, .ref mwanted, .ref mfirst, .ref moften, .int m_fitMany, .int m_fitFirst, .int m_askBest, .int m_askLeaves, .int m_bestFirst, .int m_bestWays, .ref mlots, .ref mthen, .long m_lotsAll])), (mhas, .inl (cyI, 20, .inl m_has))] sz) [(m0, .inr (11, [.int z0, .ref mwidth, .ref mmany, .ref mcells, .ref mmoved, .ref mtape, .int m_taped, .int m_at, .int m_token, .int m_place, .int m_value, .long m_word, .int m_bad, .int m_badPlace, .int m_fault, .int m_faultPlace, .ref mlines, .ref mhas, .ref mtold, .ref mlaw, .ref msuit, .ref mapart, .ref mact, .ref misKept, .ref mseen, .ref mhung, .int m_gone, .ref mgoal, .ref mleaps, .ref mqueue, .ref mrow, .int m_reached, .ref mwanted, .ref mfirst, .ref moften, .int m_fitMany, .int m_fitFirst, .int m_askBest, .int m_askLeaves, .int m_bestFirst, .int m_bestWays, .ref mlots, .ref mthen, .long m_lotsAll])), (mhas, .inl (cyI, 20, .inl m_has))]) (va_A [(m0, .inr (11, [.int m_thrown, .ref mwidth, .ref mmany, .ref mcells, .ref mmoved, .ref mtape, .int m_taped, .int m_at, .int m_token, .int m_place, .int m_value, .long m_word, .int m_bad, .int m_badPlace, .int m_fault, .int m_faultPlace, .ref mlines, .ref mhas, .ref mtold, .ref mlaw, .ref msuit, .ref mapart, .ref mact, .ref misKept, .ref mseen, .ref mhung, .int m_gone, .ref mgoal, .ref mleaps, .ref mqueue, .ref mrow, .int m_reached, .ref mwanted, .ref mfirst, .ref moften, .int m_fitMany, .int m_fitFirst, .int m_askBest, .int m_askLeaves, .int m_bestFirst, .int m_bestWays, .ref mlots, .ref mthen, .long m_lotsAll])), (mhas, .inl (cyI, 20, .inl m_has))] sz)) 0 0 (va_A [(m0, .inr (11, [.int m_thrown, .ref mwidth, .ref mmany, .ref mcells, .ref mmoved, .ref mtape, .int m_taped, .int m_at, .int m_token, .int m_place, .int m_value, .long m_word, .int m_bad, .int m_badPlace, .int m_fault, .int m_faultPlace, .ref mlines, .ref mhas, .ref mtold, .ref mlaw, .ref msuit, .ref mapart, .ref mact, .ref misKept, .ref mseen, .ref mhung, .int m_gone, .ref mgoal, .ref mleaps, .ref mqueue, .ref mrow, .int m_reached, .ref mwanted, .ref mfirst, .ref moften, .int m_fitMany, .int m_fitFirst, .int m_askBest, .int m_askLeaves, .int m_bestFirst, .int m_bestWays, .ref mlots, .ref mthen, .long m_lotsAll])), (mhas, .inl (cyI, 20, .inl m_has))] sz) := by
  refine Met.ofW (cc := cX12_takes_) (maxL := 3) (ret := (some .int)) (by decide) rfl ?_
  intro p e s m args below meth c s₁ B hml hv
  obtain ⟨rfl, hsz, hP, hK, hD0⟩ := hv
  have hx := B.exec
  have hb := B.bytes
  have hr := B.returns
  have hts : ∀ w ∈ uU, w.before ([.ref m0, .int p0] : List Value).toArray s = true := fun w h => atoms_spec (ws := wk yX12_takes_ cX12_takes_ 3 (some .int)) B.pre w (List.mem_cons_of_mem _ h)
  have hown : s.vm.findClass RX12 = some m.cls := findClass_of_methodNamed B.named
  have hlocks := B.notSynchronized
  subst hsz
  have hD := hD0.self (sz := s.heap.size)
  generalize hAe : va_A [(m0, .inr (11, [.int m_thrown, .ref mwidth, .ref mmany, .ref mcells, .ref mmoved, .ref mtape, .int m_taped, .int m_at, .int m_token, .int m_place, .int m_value, .long m_word, .int m_bad, .int m_badPlace, .int m_fault, .int m_faultPlace, .ref mlines, .ref mhas, .ref mtold, .ref mlaw, .ref msuit, .ref mapart, .ref mact, .ref misKept, .ref mseen, .ref mhung, .int m_gone, .ref mgoal, .ref mleaps, .ref mqueue, .ref mrow, .int m_reached, .ref mwanted, .ref mfirst, .ref moften, .int m_fitMany, .int m_fitFirst, .int m_askBest, .int m_askLeaves, .int m_bestFirst, .int m_bestWays, .ref mlots, .ref mthen, .long m_lotsAll])), (mhas, .inl (cyI, 20, .inl m_has))] s.heap.size = A at hD ⊢
  have hA : ∀ q : Nat, s.heap.size ≤ q → A q := fun q h => by rw [← hAe]; exact Or.inr h
  have hS : va_S A s.heap s.heap [] := va_S.rf
  have hP : va_P (dC, dI) vwCl [(m0, .inr (11, [.int m_thrown, .ref mwidth, .ref mmany, .ref mcells, .ref mmoved, .ref mtape, .int m_taped, .int m_at, .int m_token, .int m_place, .int m_value, .long m_word, .int m_bad, .int m_badPlace, .int m_fault, .int m_faultPlace, .ref mlines, .ref mhas, .ref mtold, .ref mlaw, .ref msuit, .ref mapart, .ref mact, .ref misKept, .ref mseen, .ref mhung, .int m_gone, .ref mgoal, .ref mleaps, .ref mqueue, .ref mrow, .int m_reached, .ref mwanted, .ref mfirst, .ref moften, .int m_fitMany, .int m_fitFirst, .int m_askBest, .int m_askLeaves, .int m_bestFirst, .int m_bestWays, .ref mlots, .ref mthen, .long m_lotsAll])), (mhas, .inl (cyI, 20, .inl m_has))] s.heap := hP
  have hl := lv_entry ([.ref m0, .int p0]) (n := 3) (Nat.le_of_ble_eq_true rfl)
  rw [lg_entry_eq]
  generalize (lg_sl ([.ref m0, .int p0]) ++ List.replicate (3 - (lg_sl ([.ref m0, .int p0])).length) Slot.unset).toArray = ls at hl ⊢
  have hl : lv_has ls 3 [(0, .ref m0), (1, .int p0)] := hl
  obtain ⟨H, hHe⟩ : ∃ H, H = s.heap := ⟨_, rfl⟩
  have hP : va_P (dC, dI) vwCl [(m0, .inr (11, [.int m_thrown, .ref mwidth, .ref mmany, .ref mcells, .ref mmoved, .ref mtape, .int m_taped, .int m_at, .int m_token, .int m_place, .int m_value, .long m_word, .int m_bad, .int m_badPlace, .int m_fault, .int m_faultPlace, .ref mlines, .ref mhas, .ref mtold, .ref mlaw, .ref msuit, .ref mapart, .ref mact, .ref misKept, .ref mseen, .ref mhung, .int m_gone, .ref mgoal, .ref mleaps, .ref mqueue, .ref mrow, .int m_reached, .ref mwanted, .ref mfirst, .ref moften, .int m_fitMany, .int m_fitFirst, .int m_askBest, .int m_askLeaves, .int m_bestFirst, .int m_bestWays, .ref mlots, .ref mthen, .long m_lotsAll])), (mhas, .inl (cyI, 20, .inl m_has))] H := by rw [hHe]; exact hP
  have hS : va_S A s.heap H [] := by rw [hHe]; exact hS
  refine cv_heap hHe ?_
  obtain ⟨Q9, hQ9⟩ : ∃ Q9 : State → Prop, Q9 = MQ below (va_Qi (fun (r : Int32) (_ : Unit) => True) (fun (_ : Unit) (t : State) => ∃ z0 : Int32, (0 ≤ z0.toInt ∧ z0.toInt ≤ 0) ∧ va_P (dC, dI) vwCl [(m0, .inr (11, [.int z0, .ref mwidth, .ref mmany, .ref mcells, .ref mmoved, .ref mtape, .int m_taped, .int m_at, .int m_token, .int m_place, .int m_value, .long m_word, .int m_bad, .int m_badPlace, .int m_fault, .int m_faultPlace, .ref mlines, .ref mhas, .ref mtold, .ref mlaw, .ref msuit, .ref mapart, .ref mact, .ref misKept, .ref mseen, .ref mhung, .int m_gone, .ref mgoal, .ref mleaps, .ref mqueue, .ref mrow, .int m_reached, .ref mwanted, .ref mfirst, .ref moften, .int m_fitMany, .int m_fitFirst, .int m_askBest, .int m_askLeaves, .int m_bestFirst, .int m_bestWays, .ref mlots, .ref mthen, .long m_lotsAll])), (mhas, .inl (cyI, 20, .inl m_has))] t.heap ∧ va_D A [(m0, .inr (11, [.int z0, .ref mwidth, .ref mmany, .ref mcells, .ref mmoved, .ref mtape, .int m_taped, .int m_at, .int m_token, .int m_place, .int m_value, .long m_word, .int m_bad, .int m_badPlace, .int m_fault, .int m_faultPlace, .ref mlines, .ref mhas, .ref mtold, .ref mlaw, .ref msuit, .ref mapart, .ref mact, .ref misKept, .ref mseen, .ref mhung, .int m_gone, .ref mgoal, .ref mleaps, .ref mqueue, .ref mrow, .int m_reached, .ref mwanted, .ref mfirst, .ref moften, .int m_fitMany, .int m_fitFirst, .int m_askBest, .int m_askLeaves, .int m_bestFirst, .int m_bestWays, .ref mlots, .ref mthen, .long m_lotsAll])), (mhas, .inl (cyI, 20, .inl m_has))]) A) ([.ref m0, .int p0] : List Value).toArray s 0 0 A := ⟨_, rfl⟩
  rw [← hQ9]
  refine lv_aload_n hx hb dX12_takes__0 rfl (lv_at hl 0 rfl) ?_
  refine lv_iconst (v := 0) hx hb dX12_takes__1 (by decide) ?_
  refine va_put (D := (dC, dI)) (ci := 11) (v := .int 0) (ty := .int) (C := RX12) (T := TX12) (N := 44) hx hb hts uinX12 tyX12 tyX12_ok nmX12 hown hK hP hD hS 0 rfl rfl 0 (by decide) (hts _ wd_6_37) (fun _ h9 => h9) rfl (by decide +kernel) rfl rfl (Nat.le_of_ble_eq_true rfl) dX12_takes__2 (fun H locs hP hD hS => ?_)
  have hP : va_P (dC, dI) vwCl [(m0, .inr (11, [.int 0, .ref mwidth, .ref mmany, .ref mcells, .ref mmoved, .ref mtape, .int m_taped, .int m_at, .int m_token, .int m_place, .int m_value, .long m_word, .int m_bad, .int m_badPlace, .int m_fault, .int m_faultPlace, .ref mlines, .ref mhas, .ref mtold, .ref mlaw, .ref msuit, .ref mapart, .ref mact, .ref misKept, .ref mseen, .ref mhung, .int m_gone, .ref mgoal, .ref mleaps, .ref mqueue, .ref mrow, .int m_reached, .ref mwanted, .ref mfirst, .ref moften, .int m_fitMany, .int m_fitFirst, .int m_askBest, .int m_askLeaves, .int m_bestFirst, .int m_bestWays, .ref mlots, .ref mthen, .long m_lotsAll])), (mhas, .inl (cyI, 20, .inl m_has))] H := hP
  have hD : va_D A [(m0, .inr (11, [.int 0, .ref mwidth, .ref mmany, .ref mcells, .ref mmoved, .ref mtape, .int m_taped, .int m_at, .int m_token, .int m_place, .int m_value, .long m_word, .int m_bad, .int m_badPlace, .int m_fault, .int m_faultPlace, .ref mlines, .ref mhas, .ref mtold, .ref mlaw, .ref msuit, .ref mapart, .ref mact, .ref misKept, .ref mseen, .ref mhung, .int m_gone, .ref mgoal, .ref mleaps, .ref mqueue, .ref mrow, .int m_reached, .ref mwanted, .ref mfirst, .ref moften, .int m_fitMany, .int m_fitFirst, .int m_askBest, .int m_askLeaves, .int m_bestFirst, .int m_bestWays, .ref mlots, .ref mthen, .long m_lotsAll])), (mhas, .inl (cyI, 20, .inl m_has))] := hD
  refine lv_aload_n hx hb dX12_takes__5 rfl (lv_at hl 0 rfl) ?_
  refine lv_iload_n hx hb dX12_takes__6 rfl (lv_at hl 1 rfl) ?_
  obtain ⟨y_1, ey_1⟩ : ∃ z : Int64, z = p0.toInt64 := ⟨_, rfl⟩
  have fy_1 : y_1.toInt = p0.toInt := by rw [ey_1]; exact Int32.toInt_toInt64 _
  refine lv_i2l (v := y_1) hx hb dX12_takes__7 ey_1.symm ?_
  have hPc := hP.sub (ws' := [(m0, .inr (11, [.int 0, .ref mwidth, .ref mmany, .ref mcells, .ref mmoved, .ref mtape, .int m_taped, .int m_at, .int m_token, .int m_place, .int m_value, .long m_word, .int m_bad, .int m_badPlace, .int m_fault, .int m_faultPlace, .ref mlines, .ref mhas, .ref mtold, .ref mlaw, .ref msuit, .ref mapart, .ref mact, .ref misKept, .ref mseen, .ref mhung, .int m_gone, .ref mgoal, .ref mleaps, .ref mqueue, .ref mrow, .int m_reached, .ref mwanted, .ref mfirst, .ref moften, .int m_fitMany, .int m_fitFirst, .int m_askBest, .int m_askLeaves, .int m_bestFirst, .int m_bestWays, .ref mlots, .ref mthen, .long m_lotsAll])), (mhas, .inl (cyI, 20, .inl m_has))]) [0, 1] rfl
  have hKc := hK.sub (tys' := [(cyI, .int), (cyB, .byte), (cyJ, .long), (cyZ, .boolean), (cyH, .object RX2), (cyN, .array .long)]) [0, 1, 2, 3, 4, 5] rfl
  refine vp_callSi (va_Run.run (va_runV (As := [.long y_1]) (rest := []) ⟨hx, hb, hml, hown, hts⟩ (m_isPlace l dC dI cyI cyB cyJ cyZ cyH cyN m0 mwidth mmany mcells mmoved mtape mlines mhas mtold mlaw msuit mapart mact misKept mseen mhung mgoal mleaps mqueue mrow mwanted mfirst moften mlots mthen 0 m_taped m_at m_token m_place m_value m_word m_bad m_badPlace m_fault m_faultPlace m_gone m_reached m_fitMany m_fitFirst m_askBest m_askLeaves m_bestFirst m_bestWays m_lotsAll m_has y_1 (by omega) (by omega) (by omega) g3 g4 g5) (cwV 1 hts (gdV wd_7_82 wd_7_84 wd_s4_13 wd_1_11 wd_7_85) rfl rfl rfl (by decide +kernel) ⟨Nat.le_of_ble_eq_true rfl, Nat.le_of_ble_eq_true rfl⟩) ⟨fun a U g mk q => by obtain ⟨q0, qP, qK⟩ := q; exact ⟨q0, qP, va_K.moved (u := U) (U := U.calling g mk a) (Vm.Alike.refl U.vm) qK⟩, va_recv hKc hPc (ci := 11) (q0 := 0) rfl rfl, fun U hU hW => ⟨rfl, by rw [hU]; exact hPc, va_K.moved hW.alike hKc⟩⟩ rfl rfl hl.1 rfl (lv_room (Nat.le_of_ble_eq_true rfl)) dX12_takes__8 ⟨Nat.le_of_ble_eq_true rfl, Nat.le_of_ble_eq_true rfl⟩)) (fun r_2 hw => ?_)
  by_cases c_3 : (0 ≤ y_1.toInt ∧ y_1.toInt < (m_has 0).toInt)
  · rw [if_pos c_3] at hw; subst hw; have c_3 : (0 ≤ y_1.toInt ∧ y_1.toInt < (m_has 0).toInt) := c_3
    refine lv_if_ne (tgt := 17) hx hb dX12_takes__11 (by decide) (fun _ => ?_) (fun c_4 => absurd c_4 (by decide))
    refine lv_iconst (v := 0) hx hb dX12_takes__17 (by decide) ?_
    refine lv_istore_n (lv' := [(2, .int 0), (0, .ref m0), (1, .int p0)]) hx hb dX12_takes__18 rfl hl (by decide) rfl (fun ls hl => ?_)
    have key_6 : ∀ (nkey_6 : Nat) (u_5 : Int32) (H : Heap) (locs : List Loc) (ls : Array Slot), (0 ≤ u_5.toInt ∧ u_5.toInt ≤ 7) → va_P (dC, dI) vwCl [(m0, .inr (11, [.int 0, .ref mwidth, .ref mmany, .ref mcells, .ref mmoved, .ref mtape, .int m_taped, .int m_at, .int m_token, .int m_place, .int m_value, .long m_word, .int m_bad, .int m_badPlace, .int m_fault, .int m_faultPlace, .ref mlines, .ref mhas, .ref mtold, .ref mlaw, .ref msuit, .ref mapart, .ref mact, .ref misKept, .ref mseen, .ref mhung, .int m_gone, .ref mgoal, .ref mleaps, .ref mqueue, .ref mrow, .int m_reached, .ref mwanted, .ref mfirst, .ref moften, .int m_fitMany, .int m_fitFirst, .int m_askBest, .int m_askLeaves, .int m_bestFirst, .int m_bestWays, .ref mlots, .ref mthen, .long m_lotsAll])), (mhas, .inl (cyI, 20, .inl m_has))] H → va_D A [(m0, .inr (11, [.int 0, .ref mwidth, .ref mmany, .ref mcells, .ref mmoved, .ref mtape, .int m_taped, .int m_at, .int m_token, .int m_place, .int m_value, .long m_word, .int m_bad, .int m_badPlace, .int m_fault, .int m_faultPlace, .ref mlines, .ref mhas, .ref mtold, .ref mlaw, .ref msuit, .ref mapart, .ref mact, .ref misKept, .ref mseen, .ref mhung, .int m_gone, .ref mgoal, .ref mleaps, .ref mqueue, .ref mrow, .int m_reached, .ref mwanted, .ref mfirst, .ref moften, .int m_fitMany, .int m_fitFirst, .int m_askBest, .int m_askLeaves, .int m_bestFirst, .int m_bestWays, .ref mlots, .ref mthen, .long m_lotsAll])), (mhas, .inl (cyI, 20, .inl m_has))] → va_S A s.heap H locs → lv_has ls 3 [(2, .int u_5), (0, .ref m0), (1, .int p0)] → ((m_has 0).toInt - u_5.toInt).toNat < nkey_6 → W p l e ({ frames := 9, cells := 0, slots := 0, locals := 242 }) s m ([.ref m0, .int p0] : List Value).toArray below meth c H locs 0 0 Q9 (F0 m 19 ls []) := by
      intro nkey_6
      induction nkey_6 with
      | zero => intro u_5 H locs ls hu_5 hP hD hS hl hnkey_6; exact absurd hnkey_6 (Nat.not_lt_zero _)
      | succ nkey_6 ihkey_6 =>
        intro u_5 H locs ls hu_5 hP hD hS hl hnkey_6
        refine lv_iload_n hx hb dX12_takes__19 rfl (lv_at hl 0 rfl) ?_
        refine lv_aload_n hx hb dX12_takes__20 rfl (lv_at hl 1 rfl) ?_
        have hPc := hP.sub (ws' := [(m0, .inr (11, [.int 0, .ref mwidth, .ref mmany, .ref mcells, .ref mmoved, .ref mtape, .int m_taped, .int m_at, .int m_token, .int m_place, .int m_value, .long m_word, .int m_bad, .int m_badPlace, .int m_fault, .int m_faultPlace, .ref mlines, .ref mhas, .ref mtold, .ref mlaw, .ref msuit, .ref mapart, .ref mact, .ref misKept, .ref mseen, .ref mhung, .int m_gone, .ref mgoal, .ref mleaps, .ref mqueue, .ref mrow, .int m_reached, .ref mwanted, .ref mfirst, .ref moften, .int m_fitMany, .int m_fitFirst, .int m_askBest, .int m_askLeaves, .int m_bestFirst, .int m_bestWays, .ref mlots, .ref mthen, .long m_lotsAll])), (mhas, .inl (cyI, 20, .inl m_has))]) [0, 1] rfl
        have hKc := hK.sub (tys' := [(cyI, .int), (cyB, .byte), (cyJ, .long), (cyZ, .boolean), (cyH, .object RX2), (cyN, .array .long)]) [0, 1, 2, 3, 4, 5] rfl
        refine vp_callSi (va_Run.run (va_runV (As := []) (rest := [.int u_5]) ⟨hx, hb, hml, hown, hts⟩ (m_places l dC dI cyI cyB cyJ cyZ cyH cyN m0 mwidth mmany mcells mmoved mtape mlines mhas mtold mlaw msuit mapart mact misKept mseen mhung mgoal mleaps mqueue mrow mwanted mfirst moften mlots mthen 0 m_taped m_at m_token m_place m_value m_word m_bad m_badPlace m_fault m_faultPlace m_gone m_reached m_fitMany m_fitFirst m_askBest m_askLeaves m_bestFirst m_bestWays m_lotsAll m_has (by omega) (by omega) (by omega) g3 g4 g5) (cwV 0 hts (gdV wd_7_86 wd_7_88 wd_s4_14 wd_1_11 wd_7_89) rfl rfl rfl (by decide +kernel) ⟨Nat.le_of_ble_eq_true rfl, Nat.le_of_ble_eq_true rfl⟩) ⟨fun a U g mk q => by obtain ⟨q0, qP, qK⟩ := q; exact ⟨q0, qP, va_K.moved (u := U) (U := U.calling g mk a) (Vm.Alike.refl U.vm) qK⟩, va_recv hKc hPc (ci := 11) (q0 := 0) rfl rfl, fun U hU hW => ⟨rfl, by rw [hU]; exact hPc, va_K.moved hW.alike hKc⟩⟩ rfl rfl hl.1 rfl (lv_room (Nat.le_of_ble_eq_true rfl)) dX12_takes__21 ⟨Nat.le_of_ble_eq_true rfl, Nat.le_of_ble_eq_true rfl⟩)) (fun r_7 hw => ?_)
        subst hw
        refine lv_icmp_ge (tgt := 64) hx hb dX12_takes__24 (by decide) (fun c_8 => ?_) (fun c_8 => ?_)
        · have c_8 : (m_has 0).toInt ≤ u_5.toInt := cv_le c_8
          refine lv_iconst (v := (-1)) hx hb dX12_takes__64 (by decide) ?_
          rw [hQ9]
          have hP9 := hP.sub (ws' := [(m0, .inr (11, [.int 0, .ref mwidth, .ref mmany, .ref mcells, .ref mmoved, .ref mtape, .int m_taped, .int m_at, .int m_token, .int m_place, .int m_value, .long m_word, .int m_bad, .int m_badPlace, .int m_fault, .int m_faultPlace, .ref mlines, .ref mhas, .ref mtold, .ref mlaw, .ref msuit, .ref mapart, .ref mact, .ref misKept, .ref mseen, .ref mhung, .int m_gone, .ref mgoal, .ref mleaps, .ref mqueue, .ref mrow, .int m_reached, .ref mwanted, .ref mfirst, .ref moften, .int m_fitMany, .int m_fitFirst, .int m_askBest, .int m_askLeaves, .int m_bestFirst, .int m_bestWays, .ref mlots, .ref mthen, .long m_lotsAll])), (mhas, .inl (cyI, 20, .inl m_has))]) [0, 1] rfl
          have hD9 := hD.sub (ws' := [(m0, .inr (11, [.int 0, .ref mwidth, .ref mmany, .ref mcells, .ref mmoved, .ref mtape, .int m_taped, .int m_at, .int m_token, .int m_place, .int m_value, .long m_word, .int m_bad, .int m_badPlace, .int m_fault, .int m_faultPlace, .ref mlines, .ref mhas, .ref mtold, .ref mlaw, .ref msuit, .ref mapart, .ref mact, .ref misKept, .ref mseen, .ref mhung, .int m_gone, .ref mgoal, .ref mleaps, .ref mqueue, .ref mrow, .int m_reached, .ref mwanted, .ref mfirst, .ref moften, .int m_fitMany, .int m_fitFirst, .int m_askBest, .int m_askLeaves, .int m_bestFirst, .int m_bestWays, .ref mlots, .ref mthen, .long m_lotsAll])), (mhas, .inl (cyI, 20, .inl m_has))]) [0, 1] (by decide) rfl
          exact W.iret (v := (-1)) hx hb hr (fun t ht hW => ⟨⟨(-1), (), rfl, trivial, ⟨0, (by decide), by rw [ht]; exact hP9, hD9⟩⟩, hS.F ht⟩) hS.2.2 dX12_takes__65
        · have c_8 : u_5.toInt < (m_has 0).toInt := cv_nle c_8
          refine lv_iload_n hx hb dX12_takes__27 rfl (lv_at hl 0 rfl) ?_
          refine lv_iload_n hx hb dX12_takes__28 rfl (lv_at hl 2 rfl) ?_
          refine lv_icmp_eq (tgt := 58) hx hb dX12_takes__29 (by decide) (fun c_9 => ?_) (fun c_9 => ?_)
          · have c_9 : u_5.toInt = p0.toInt := cv_eq c_9
            obtain ⟨x_10, ex_10⟩ : ∃ y : Int32, y = u_5 + 1 := ⟨_, rfl⟩
            refine lv_iinc (v := x_10) (lv' := [(2, .int x_10), (0, .ref m0), (1, .int p0)]) hx hb dX12_takes__58 hl (k := 0) rfl (by rw [ex_10]; rfl) (by decide) rfl (fun ls hl => ?_)
            have fx_10 : x_10.toInt = u_5.toInt + 1 := by rw [ex_10]; exact cv_addI (by have : (1 : Int32).toInt = 1 := rfl; omega) (by have : (1 : Int32).toInt = 1 := rfl; omega)
            refine lv_goto (tgt := 19) hx hb dX12_takes__61 (by decide) ?_
            exact ihkey_6 x_10 _ _ _ (by omega) hP hD hS (lv_sub hl [0, 1, 2] rfl) (by omega)
          · have c_9 : u_5.toInt ≠ p0.toInt := cv_ne c_9
            refine lv_aload_n hx hb dX12_takes__32 rfl (lv_at hl 1 rfl) ?_
            refine lv_iload_n hx hb dX12_takes__33 rfl (lv_at hl 2 rfl) ?_
            refine lv_iload_n hx hb dX12_takes__34 rfl (lv_at hl 0 rfl) ?_
            have hPc := hP.sub (ws' := [(m0, .inr (11, [.int 0, .ref mwidth, .ref mmany, .ref mcells, .ref mmoved, .ref mtape, .int m_taped, .int m_at, .int m_token, .int m_place, .int m_value, .long m_word, .int m_bad, .int m_badPlace, .int m_fault, .int m_faultPlace, .ref mlines, .ref mhas, .ref mtold, .ref mlaw, .ref msuit, .ref mapart, .ref mact, .ref misKept, .ref mseen, .ref mhung, .int m_gone, .ref mgoal, .ref mleaps, .ref mqueue, .ref mrow, .int m_reached, .ref mwanted, .ref mfirst, .ref moften, .int m_fitMany, .int m_fitFirst, .int m_askBest, .int m_askLeaves, .int m_bestFirst, .int m_bestWays, .ref mlots, .ref mthen, .long m_lotsAll])), (mhas, .inl (cyI, 20, .inl m_has))]) [0, 1] rfl
            have hKc := hK.sub (tys' := [(cyI, .int), (cyB, .byte), (cyJ, .long), (cyZ, .boolean), (cyH, .object RX2), (cyN, .array .long)]) [0, 1, 2, 3, 4, 5] rfl
            refine vp_callSi (va_Run.run (va_runV (As := [.int p0, .int u_5]) (rest := []) ⟨hx, hb, hml, hown, hts⟩ (m_isLeap l dC dI cyI cyB cyJ cyZ cyH cyN m0 mwidth mmany mcells mmoved mtape mlines mhas mtold mlaw msuit mapart mact misKept mseen mhung mgoal mleaps mqueue mrow mwanted mfirst moften mlots mthen 0 m_taped m_at m_token m_place m_value m_word m_bad m_badPlace m_fault m_faultPlace m_gone m_reached m_fitMany m_fitFirst m_askBest m_askLeaves m_bestFirst m_bestWays m_lotsAll m_has p0 u_5 (by omega) (by omega) (by omega) g3 g4 g5) (cwV 2 hts (gdV wd_8_35 wd_8_37 wd_s6_1 wd_1_11 wd_8_38) rfl rfl rfl (by decide +kernel) ⟨Nat.le_of_ble_eq_true rfl, Nat.le_of_ble_eq_true rfl⟩) ⟨fun a U g mk q => by obtain ⟨q0, qP, qK⟩ := q; exact ⟨q0, qP, va_K.moved (u := U) (U := U.calling g mk a) (Vm.Alike.refl U.vm) qK⟩, va_recv hKc hPc (ci := 11) (q0 := 0) rfl rfl, fun U hU hW => ⟨rfl, by rw [hU]; exact hPc, va_K.moved hW.alike hKc⟩⟩ rfl rfl hl.1 rfl (lv_room (Nat.le_of_ble_eq_true rfl)) dX12_takes__35 ⟨Nat.le_of_ble_eq_true rfl, Nat.le_of_ble_eq_true rfl⟩)) (fun r_11 hw => ?_)
            have hrr_11 := hw
            refine lv_if_eq (tgt := 58) hx hb dX12_takes__38 (by decide) (fun c_12 => ?_) (fun c_12 => ?_)
            · have c_12 : r_11.toInt = 0 := cv_eq c_12
              obtain ⟨x_13, ex_13⟩ : ∃ y : Int32, y = u_5 + 1 := ⟨_, rfl⟩
              refine lv_iinc (v := x_13) (lv' := [(2, .int x_13), (0, .ref m0), (1, .int p0)]) hx hb dX12_takes__58 hl (k := 0) rfl (by rw [ex_13]; rfl) (by decide) rfl (fun ls hl => ?_)
              have fx_13 : x_13.toInt = u_5.toInt + 1 := by rw [ex_13]; exact cv_addI (by have : (1 : Int32).toInt = 1 := rfl; omega) (by have : (1 : Int32).toInt = 1 := rfl; omega)
              refine lv_goto (tgt := 19) hx hb dX12_takes__61 (by decide) ?_
              exact ihkey_6 x_13 _ _ _ (by omega) hP hD hS (lv_sub hl [0, 1, 2] rfl) (by omega)
            · have c_12 : r_11.toInt ≠ 0 := cv_ne c_12
              refine lv_aload_n hx hb dX12_takes__41 rfl (lv_at hl 1 rfl) ?_
              refine lv_iload_n hx hb dX12_takes__42 rfl (lv_at hl 0 rfl) ?_
              refine lv_iconst (v := 1) hx hb dX12_takes__43 (by decide) ?_
              refine lv_iload_n hx hb dX12_takes__44 rfl (lv_at hl 2 rfl) ?_
              refine lv_ishl hx hb dX12_takes__45 ?_
              refine lv_topi (fun x_14 ex_14 => ?_)
              have fx_14 : 1 ≤ x_14.toInt ∧ x_14.toInt ≤ 64 := by rw [ex_14]; have q := cv_shl1 (y := p0) 0 6 (by decide) (by decide) (by omega) (by omega); omega
              refine lv_iconst (v := 1) hx hb dX12_takes__46 (by decide) ?_
              refine lv_iload_n hx hb dX12_takes__47 rfl (lv_at hl 0 rfl) ?_
              refine lv_ishl hx hb dX12_takes__48 ?_
              refine lv_topi (fun x_15 ex_15 => ?_)
              have fx_15 : 1 ≤ x_15.toInt ∧ x_15.toInt ≤ 64 := by rw [ex_15]; have q := cv_shl1 (y := u_5) 0 6 (by decide) (by decide) (by omega) (by omega); omega
              refine lv_ior hx hb dX12_takes__49 ?_
              refine lv_topi (fun x_16 ex_16 => ?_)
              have fx_16 : 0 ≤ x_16.toInt ∧ x_16.toInt ≤ 127 := by rw [ex_16]; have q := cv_or (x := x_14) (y := x_15) 7 (by decide) (by omega) (by omega) (by omega) (by omega); omega
              have h9 := cb_two (by assumption) (by assumption) ex_16 (p := p0) (q := u_5) (by omega) (by omega)
              have hPc := hP.sub (ws' := [(m0, .inr (11, [.int 0, .ref mwidth, .ref mmany, .ref mcells, .ref mmoved, .ref mtape, .int m_taped, .int m_at, .int m_token, .int m_place, .int m_value, .long m_word, .int m_bad, .int m_badPlace, .int m_fault, .int m_faultPlace, .ref mlines, .ref mhas, .ref mtold, .ref mlaw, .ref msuit, .ref mapart, .ref mact, .ref misKept, .ref mseen, .ref mhung, .int m_gone, .ref mgoal, .ref mleaps, .ref mqueue, .ref mrow, .int m_reached, .ref mwanted, .ref mfirst, .ref moften, .int m_fitMany, .int m_fitFirst, .int m_askBest, .int m_askLeaves, .int m_bestFirst, .int m_bestWays, .ref mlots, .ref mthen, .long m_lotsAll])), (mhas, .inl (cyI, 20, .inl m_has))]) [0, 1] rfl
              have hKc := hK.sub (tys' := [(cyI, .int), (cyB, .byte), (cyJ, .long), (cyZ, .boolean), (cyH, .object RX2), (cyN, .array .long)]) [0, 1, 2, 3, 4, 5] rfl
              refine vp_callSi (va_Run.run (va_runV (As := [.int u_5, .int x_16]) (rest := []) ⟨hx, hb, hml, hown, hts⟩ (m_wins6 l dC dI cyI cyB cyJ cyZ cyH cyN m0 mwidth mmany mcells mmoved mtape mlines mhas mtold mlaw msuit mapart mact misKept mseen mhung mgoal mleaps mqueue mrow mwanted mfirst moften mlots mthen 0 m_taped m_at m_token m_place m_value m_word m_bad m_badPlace m_fault m_faultPlace m_gone m_reached m_fitMany m_fitFirst m_askBest m_askLeaves m_bestFirst m_bestWays m_lotsAll m_has u_5 x_16 (by omega) (by omega) (by omega) (by omega) (by omega) g3 g4 g5 (by omega)) (cwV 2 hts (gdV wd_8_148 wd_8_150 wd_s6_10 wd_1_11 wd_8_151) rfl rfl rfl (by decide +kernel) ⟨Nat.le_of_ble_eq_true rfl, Nat.le_of_ble_eq_true rfl⟩) ⟨fun a U g mk q => by obtain ⟨q0, qP, qK⟩ := q; exact ⟨q0, qP, va_K.moved (u := U) (U := U.calling g mk a) (Vm.Alike.refl U.vm) qK⟩, va_recv hKc hPc (ci := 11) (q0 := 0) rfl rfl, fun U hU hW => ⟨rfl, by rw [hU]; exact hPc, va_K.moved hW.alike hKc⟩⟩ rfl rfl hl.1 rfl (lv_room (Nat.le_of_ble_eq_true rfl)) dX12_takes__50 ⟨Nat.le_of_ble_eq_true rfl, Nat.le_of_ble_eq_true rfl⟩)) (fun r_17 hw => ?_)
              have hrr_17 := hw
              refine lv_if_ne (tgt := 58) hx hb dX12_takes__53 (by decide) (fun c_18 => ?_) (fun c_18 => ?_)
              · have c_18 : r_17.toInt ≠ 0 := cv_ne c_18
                obtain ⟨x_19, ex_19⟩ : ∃ y : Int32, y = u_5 + 1 := ⟨_, rfl⟩
                refine lv_iinc (v := x_19) (lv' := [(2, .int x_19), (0, .ref m0), (1, .int p0)]) hx hb dX12_takes__58 hl (k := 0) rfl (by rw [ex_19]; rfl) (by decide) rfl (fun ls hl => ?_)
                have fx_19 : x_19.toInt = u_5.toInt + 1 := by rw [ex_19]; exact cv_addI (by have : (1 : Int32).toInt = 1 := rfl; omega) (by have : (1 : Int32).toInt = 1 := rfl; omega)
                refine lv_goto (tgt := 19) hx hb dX12_takes__61 (by decide) ?_
                exact ihkey_6 x_19 _ _ _ (by omega) hP hD hS (lv_sub hl [0, 1, 2] rfl) (by omega)
              · have c_18 : r_17.toInt = 0 := cv_eq c_18
                refine lv_iload_n hx hb dX12_takes__56 rfl (lv_at hl 0 rfl) ?_
                rw [hQ9]
                have hP9 := hP.sub (ws' := [(m0, .inr (11, [.int 0, .ref mwidth, .ref mmany, .ref mcells, .ref mmoved, .ref mtape, .int m_taped, .int m_at, .int m_token, .int m_place, .int m_value, .long m_word, .int m_bad, .int m_badPlace, .int m_fault, .int m_faultPlace, .ref mlines, .ref mhas, .ref mtold, .ref mlaw, .ref msuit, .ref mapart, .ref mact, .ref misKept, .ref mseen, .ref mhung, .int m_gone, .ref mgoal, .ref mleaps, .ref mqueue, .ref mrow, .int m_reached, .ref mwanted, .ref mfirst, .ref moften, .int m_fitMany, .int m_fitFirst, .int m_askBest, .int m_askLeaves, .int m_bestFirst, .int m_bestWays, .ref mlots, .ref mthen, .long m_lotsAll])), (mhas, .inl (cyI, 20, .inl m_has))]) [0, 1] rfl
                have hD9 := hD.sub (ws' := [(m0, .inr (11, [.int 0, .ref mwidth, .ref mmany, .ref mcells, .ref mmoved, .ref mtape, .int m_taped, .int m_at, .int m_token, .int m_place, .int m_value, .long m_word, .int m_bad, .int m_badPlace, .int m_fault, .int m_faultPlace, .ref mlines, .ref mhas, .ref mtold, .ref mlaw, .ref msuit, .ref mapart, .ref mact, .ref misKept, .ref mseen, .ref mhung, .int m_gone, .ref mgoal, .ref mleaps, .ref mqueue, .ref mrow, .int m_reached, .ref mwanted, .ref mfirst, .ref moften, .int m_fitMany, .int m_fitFirst, .int m_askBest, .int m_askLeaves, .int m_bestFirst, .int m_bestWays, .ref mlots, .ref mthen, .long m_lotsAll])), (mhas, .inl (cyI, 20, .inl m_has))]) [0, 1] (by decide) rfl
                exact W.iret (v := u_5) hx hb hr (fun t ht hW => ⟨⟨u_5, (), rfl, trivial, ⟨0, (by decide), by rw [ht]; exact hP9, hD9⟩⟩, hS.F ht⟩) hS.2.2 dX12_takes__57
    exact key_6 _ 0 _ _ _ (by decide) hP hD hS (lv_sub hl [0, 1, 2] rfl) (Nat.lt_succ_self _)
  · rw [if_neg c_3] at hw; subst hw; have c_3 : ¬ (0 ≤ y_1.toInt ∧ y_1.toInt < (m_has 0).toInt) := c_3
    refine lv_if_ne (tgt := 17) hx hb dX12_takes__11 (by decide) (fun c_20 => absurd c_20 (by decide)) (fun _ => ?_)
    refine lv_bipush (v := (-2)) hx hb dX12_takes__14 (by decide) ?_
    rw [hQ9]
    have hP9 := hP.sub (ws' := [(m0, .inr (11, [.int 0, .ref mwidth, .ref mmany, .ref mcells, .ref mmoved, .ref mtape, .int m_taped, .int m_at, .int m_token, .int m_place, .int m_value, .long m_word, .int m_bad, .int m_badPlace, .int m_fault, .int m_faultPlace, .ref mlines, .ref mhas, .ref mtold, .ref mlaw, .ref msuit, .ref mapart, .ref mact, .ref misKept, .ref mseen, .ref mhung, .int m_gone, .ref mgoal, .ref mleaps, .ref mqueue, .ref mrow, .int m_reached, .ref mwanted, .ref mfirst, .ref moften, .int m_fitMany, .int m_fitFirst, .int m_askBest, .int m_askLeaves, .int m_bestFirst, .int m_bestWays, .ref mlots, .ref mthen, .long m_lotsAll])), (mhas, .inl (cyI, 20, .inl m_has))]) [0, 1] rfl
    have hD9 := hD.sub (ws' := [(m0, .inr (11, [.int 0, .ref mwidth, .ref mmany, .ref mcells, .ref mmoved, .ref mtape, .int m_taped, .int m_at, .int m_token, .int m_place, .int m_value, .long m_word, .int m_bad, .int m_badPlace, .int m_fault, .int m_faultPlace, .ref mlines, .ref mhas, .ref mtold, .ref mlaw, .ref msuit, .ref mapart, .ref mact, .ref misKept, .ref mseen, .ref mhung, .int m_gone, .ref mgoal, .ref mleaps, .ref mqueue, .ref mrow, .int m_reached, .ref mwanted, .ref mfirst, .ref moften, .int m_fitMany, .int m_fitFirst, .int m_askBest, .int m_askLeaves, .int m_bestFirst, .int m_bestWays, .ref mlots, .ref mthen, .long m_lotsAll])), (mhas, .inl (cyI, 20, .inl m_has))]) [0, 1] (by decide) rfl
    exact W.iret (v := (-2)) hx hb hr (fun t ht hW => ⟨⟨(-2), (), rfl, trivial, ⟨0, (by decide), by rw [ht]; exact hP9, hD9⟩⟩, hS.F ht⟩) hS.2.2 dX12_takes__16

/- X12_isLots -/
set_option maxHeartbeats 4000000 in
set_option maxRecDepth 100000 in
theorem m_isLots (l : Launch) (dC : Nat → ClassId) (dI : Nat → Nat → Nat) (cyI cyB cyJ cyZ cyH cyN : ClassId) (m0 mwidth mmany mcells mmoved mtape mlines mhas mtold mlaw msuit mapart mact misKept mseen mhung mgoal mleaps mqueue mrow mwanted mfirst moften mlots mthen : Nat) (m_thrown m_taped m_at m_token m_place m_value : Int32) (m_word : Int64) (m_bad m_badPlace m_fault m_faultPlace m_gone m_reached m_fitMany m_fitFirst m_askBest m_askLeaves m_bestFirst m_bestWays : Int32) (m_lotsAll : Int64) (m_has m_lines : Nat → Int32) (p0 : Int32) (g0 : 0 ≤ m_taped.toInt ∧ m_taped.toInt ≤ 800) (g1 : 0 ≤ m_at.toInt ∧ m_at.toInt ≤ 800) (g2 : 0 ≤ m_gone.toInt ∧ m_gone.toInt ≤ 40) (g3 : (m_has 0).toInt = 0 ∨ (2 ≤ (m_has 0).toInt ∧ (m_has 0).toInt ≤ 7)) (g4 : 0 ≤ (m_has 1).toInt ∧ (m_has 1).toInt ≤ 6) (g5 : 0 ≤ (m_has 3).toInt ∧ (m_has 3).toInt ≤ 40) (g6 : 0 < (m_lines 0).toInt → 2 ≤ (m_has 0).toInt) : Met l yX12_isLots (wk yX12_isLots cX12_isLots 2 (some .boolean)) ({ frames := 2, cells := 0, slots := 0, locals := 85 }) (va_Pc [.ref m0, .int p0] (fun U => va_P (dC, dI) vwCl [(m0, .inr (11, [.int m_thrown, .ref mwidth, .ref mmany, .ref mcells, .ref mmoved, .ref mtape, .int m_taped, .int m_at, .int m_token, .int m_place, .int m_value, .long m_word, .int m_bad, .int m_badPlace, .int m_fault, .int m_faultPlace, .ref mlines, .ref mhas, .ref mtold, .ref mlaw, .ref msuit, .ref mapart, .ref mact, .ref misKept, .ref mseen, .ref mhung, .int m_gone, .ref mgoal, .ref mleaps, .ref mqueue, .ref mrow, .int m_reached, .ref mwanted, .ref mfirst, .ref moften, .int m_fitMany, .int m_fitFirst, .int m_askBest, .int m_askLeaves, .int m_bestFirst, .int m_bestWays, .ref mlots, .ref mthen, .long m_lotsAll])), (mhas, .inl (cyI, 20, .inl m_has)), (mlines, .inl (cyI, 5, .inl m_lines))] U.heap ∧ va_K (dC, dI) vwCl [(cyI, .int), (cyB, .byte), (cyJ, .long), (cyZ, .boolean), (cyH, .object RX2), (cyN, .array .long)] U)) (vp_Si (fun r : Int32 => r = (if (0 ≤ p0.toInt ∧ p0.toInt ≤ 12 ∧ 0 < (m_lines 0).toInt) then 1 else 0))) 0 0 (fun _ => False) := by
  refine Met.ofW (cc := cX12_isLots) (maxL := 2) (ret := (some .boolean)) (by decide) rfl ?_
  intro p e s m args below meth c s₁ B hml hv
  obtain ⟨rfl, hP, hK⟩ := hv
  have hx := B.exec
  have hb := B.bytes
  have hr := B.returns
  have hts : ∀ w ∈ uU, w.before ([.ref m0, .int p0] : List Value).toArray s = true := fun w h => atoms_spec (ws := wk yX12_isLots cX12_isLots 2 (some .boolean)) B.pre w (List.mem_cons_of_mem _ h)
  have hown : s.vm.findClass RX12 = some m.cls := findClass_of_methodNamed B.named
  have hlocks := B.notSynchronized
  have hl := lv_entry ([.ref m0, .int p0]) (n := 2) (Nat.le_of_ble_eq_true rfl)
  rw [lg_entry_eq]
  generalize (lg_sl ([.ref m0, .int p0]) ++ List.replicate (2 - (lg_sl ([.ref m0, .int p0])).length) Slot.unset).toArray = ls at hl ⊢
  have hl : lv_has ls 2 [(0, .ref m0), (1, .int p0)] := hl
  obtain ⟨Q9, hQ9⟩ : ∃ Q9 : State → Prop, Q9 = MQ below (vp_Si (fun r : Int32 => r = (if (0 ≤ p0.toInt ∧ p0.toInt ≤ 12 ∧ 0 < (m_lines 0).toInt) then 1 else 0))) ([.ref m0, .int p0] : List Value).toArray s 0 0 (fun _ => False) := ⟨_, rfl⟩
  rw [← hQ9]
  refine lv_aload_n hx hb dX12_isLots_0 rfl (lv_at hl 0 rfl) ?_
  have hPc := hP.sub (ws' := [(m0, .inr (11, [.int m_thrown, .ref mwidth, .ref mmany, .ref mcells, .ref mmoved, .ref mtape, .int m_taped, .int m_at, .int m_token, .int m_place, .int m_value, .long m_word, .int m_bad, .int m_badPlace, .int m_fault, .int m_faultPlace, .ref mlines, .ref mhas, .ref mtold, .ref mlaw, .ref msuit, .ref mapart, .ref mact, .ref misKept, .ref mseen, .ref mhung, .int m_gone, .ref mgoal, .ref mleaps, .ref mqueue, .ref mrow, .int m_reached, .ref mwanted, .ref mfirst, .ref moften, .int m_fitMany, .int m_fitFirst, .int m_askBest, .int m_askLeaves, .int m_bestFirst, .int m_bestWays, .ref mlots, .ref mthen, .long m_lotsAll])), (mlines, .inl (cyI, 5, .inl m_lines)), (mhas, .inl (cyI, 20, .inl m_has))]) [0, 2, 1] rfl
  have hKc := hK.sub (tys' := [(cyI, .int), (cyB, .byte), (cyJ, .long), (cyZ, .boolean), (cyH, .object RX2), (cyN, .array .long)]) [0, 1, 2, 3, 4, 5] rfl
  refine vp_callSi (va_Run.run (va_runV (As := []) (rest := []) ⟨hx, hb, hml, hown, hts⟩ (m_isHall l dC dI cyI cyB cyJ cyZ cyH cyN m0 mwidth mmany mcells mmoved mtape mlines mhas mtold mlaw msuit mapart mact misKept mseen mhung mgoal mleaps mqueue mrow mwanted mfirst moften mlots mthen m_thrown m_taped m_at m_token m_place m_value m_word m_bad m_badPlace m_fault m_faultPlace m_gone m_reached m_fitMany m_fitFirst m_askBest m_askLeaves m_bestFirst m_bestWays m_lotsAll m_lines m_has (by omega) (by omega) (by omega) g3 g4 g5 g6) (cwV 0 hts (gdV wd_7_140 wd_7_142 wd_s5_4 wd_1_11 wd_7_143) rfl rfl rfl (by decide +kernel) ⟨Nat.le_of_ble_eq_true rfl, Nat.le_of_ble_eq_true rfl⟩) ⟨fun a U g mk q => by obtain ⟨q0, qP, qK⟩ := q; exact ⟨q0, qP, va_K.moved (u := U) (U := U.calling g mk a) (Vm.Alike.refl U.vm) qK⟩, va_recv hKc hPc (ci := 11) (q0 := 0) rfl rfl, fun U hU hW => ⟨rfl, by rw [hU]; exact hPc, va_K.moved hW.alike hKc⟩⟩ rfl rfl hl.1 rfl (lv_room (Nat.le_of_ble_eq_true rfl)) dX12_isLots_1 ⟨Nat.le_of_ble_eq_true rfl, Nat.le_of_ble_eq_true rfl⟩)) (fun r_1 hw => ?_)
  by_cases c_2 : (0 < (m_lines 0).toInt)
  · rw [if_pos c_2] at hw; subst hw; have c_2 : (0 < (m_lines 0).toInt) := c_2
    refine lv_if_eq (tgt := 23) hx hb dX12_isLots_4 (by decide) (fun c_3 => absurd c_3 (by decide)) (fun _ => ?_)
    refine lv_iload_n hx hb dX12_isLots_7 rfl (lv_at hl 1 rfl) ?_
    obtain ⟨y_4, ey_4⟩ : ∃ z : Int64, z = p0.toInt64 := ⟨_, rfl⟩
    have fy_4 : y_4.toInt = p0.toInt := by rw [ey_4]; exact Int32.toInt_toInt64 _
    refine lv_i2l (v := y_4) hx hb dX12_isLots_8 ey_4.symm ?_
    refine lv_lconst (v := 0) hx hb dX12_isLots_9 (by decide) ?_
    refine lv_ldc2 (v := 12) hx hb hown (hts _ wd_8_164) dX12_isLots_10 ?_
    refine vp_callSi (va_Run.run (va_runS (As := [.long y_4, .long 0, .long 12]) (rest := []) ⟨hx, hb, hml, hown, hts⟩ (m_in l dC dI cyI cyB cyJ cyZ cyH cyN y_4 0 12) (va_cwS 3 hts (gdS wd_6_178 wd_6_179 wd_1_11 wd_6_180) rfl rfl rfl (by decide +kernel) ⟨Nat.le_of_ble_eq_true rfl, Nat.le_of_ble_eq_true rfl⟩) ⟨fun a U g mk q => q, fun U hU hW => ⟨rfl, trivial⟩⟩ rfl rfl hl.1 rfl (lv_room (Nat.le_of_ble_eq_true rfl)) dX12_isLots_13 ⟨Nat.le_of_ble_eq_true rfl, Nat.le_of_ble_eq_true rfl⟩)) (fun r_5 hw => ?_)
    by_cases c_6 : ((0 : Int64).toInt ≤ y_4.toInt ∧ y_4.toInt ≤ (12 : Int64).toInt)
    · rw [if_pos c_6] at hw; subst hw; have c_6 : (0 ≤ y_4.toInt ∧ y_4.toInt ≤ 12) := c_6
      refine lv_if_eq (tgt := 23) hx hb dX12_isLots_16 (by decide) (fun c_7 => absurd c_7 (by decide)) (fun _ => ?_)
      refine lv_iconst (v := 1) hx hb dX12_isLots_19 (by decide) ?_
      refine lv_goto (tgt := 24) hx hb dX12_isLots_20 (by decide) ?_
      rw [hQ9]
      exact W.zret (v := 1) (ty := .boolean) hx hb hr rfl (fun t ht hW => ⟨1, rfl, (by first | (rw [if_pos (by omega)]; done) | (rw [if_neg (by omega)]; done) | (rw [if_neg (by omega), if_pos (by omega)]; done) | (rw [if_neg (by omega), if_neg (by omega)]; done)), ht⟩) (fun q h => by cases h) dX12_isLots_24
    · rw [if_neg c_6] at hw; subst hw; have c_6 : ¬ (0 ≤ y_4.toInt ∧ y_4.toInt ≤ 12) := c_6
      refine lv_if_eq (tgt := 23) hx hb dX12_isLots_16 (by decide) (fun _ => ?_) (fun c_8 => absurd c_8 (by decide))
      refine lv_iconst (v := 0) hx hb dX12_isLots_23 (by decide) ?_
      rw [hQ9]
      exact W.zret (v := 0) (ty := .boolean) hx hb hr rfl (fun t ht hW => ⟨0, rfl, (by first | (rw [if_pos (by omega)]; done) | (rw [if_neg (by omega)]; done) | (rw [if_neg (by omega), if_pos (by omega)]; done) | (rw [if_neg (by omega), if_neg (by omega)]; done)), ht⟩) (fun q h => by cases h) dX12_isLots_24
  · rw [if_neg c_2] at hw; subst hw; have c_2 : ¬ (0 < (m_lines 0).toInt) := c_2
    refine lv_if_eq (tgt := 23) hx hb dX12_isLots_4 (by decide) (fun _ => ?_) (fun c_9 => absurd c_9 (by decide))
    refine lv_iconst (v := 0) hx hb dX12_isLots_23 (by decide) ?_
    rw [hQ9]
    exact W.zret (v := 0) (ty := .boolean) hx hb hr rfl (fun t ht hW => ⟨0, rfl, (by first | (rw [if_pos (by omega)]; done) | (rw [if_neg (by omega)]; done) | (rw [if_neg (by omega), if_pos (by omega)]; done) | (rw [if_neg (by omega), if_neg (by omega)]; done)), ht⟩) (fun q h => by cases h) dX12_isLots_24

/- X12_laysLots -/
set_option maxHeartbeats 4000000 in
set_option maxRecDepth 100000 in
theorem m_laysLots (l : Launch) (dC : Nat → ClassId) (dI : Nat → Nat → Nat) (cyI cyB cyJ cyZ cyH cyN : ClassId) (sz : Nat) (m0 mwidth mmany mcells mmoved mtape mlines mhas mtold mlaw msuit mapart mact misKept mseen mhung mgoal mleaps mqueue mrow mwanted mfirst moften mlots mthen : Nat) (m_thrown m_taped m_at m_token m_place m_value : Int32) (m_word : Int64) (m_bad m_badPlace m_fault m_faultPlace m_gone m_reached m_fitMany m_fitFirst m_askBest m_askLeaves m_bestFirst m_bestWays : Int32) (m_lotsAll : Int64) (m_has m_told m_law m_act m_hung : Nat → Int32) (m_lots m_then : Nat → Int64) (p0 : Int32) (g0 : rg 0 6 35 m_told) (g1 : rg 0 6 7 m_hung) (g2 : 0 ≤ m_taped.toInt ∧ m_taped.toInt ≤ 800) (g3 : 0 ≤ m_at.toInt ∧ m_at.toInt ≤ 800) (g4 : 0 ≤ m_gone.toInt ∧ m_gone.toInt ≤ 40) (g5 : 0 ≤ p0.toInt ∧ p0.toInt ≤ 12) (g6 : (m_has 0).toInt = 0 ∨ (2 ≤ (m_has 0).toInt ∧ (m_has 0).toInt ≤ 7)) (g7 : 0 ≤ (m_has 1).toInt ∧ (m_has 1).toInt ≤ 6) (g8 : 0 ≤ (m_has 3).toInt ∧ (m_has 3).toInt ≤ 40) (g9 : pm (m_has 0).toInt m_told) (g10 : lk (m_has 0).toInt (m_has 1).toInt m_law) (g11 : ak (m_has 0).toInt (m_has 3).toInt m_act) (g12 : 2 ≤ (m_has 0).toInt) : Met l yX12_laysLots (wk yX12_laysLots cX12_laysLots 5 none) ({ frames := 4, cells := 0, slots := 0, locals := 128 }) (va_Pc [.ref m0, .int p0] (fun U => U.heap.size = sz ∧ va_P (dC, dI) vwCl [(m0, .inr (11, [.int m_thrown, .ref mwidth, .ref mmany, .ref mcells, .ref mmoved, .ref mtape, .int m_taped, .int m_at, .int m_token, .int m_place, .int m_value, .long m_word, .int m_bad, .int m_badPlace, .int m_fault, .int m_faultPlace, .ref mlines, .ref mhas, .ref mtold, .ref mlaw, .ref msuit, .ref mapart, .ref mact, .ref misKept, .ref mseen, .ref mhung, .int m_gone, .ref mgoal, .ref mleaps, .ref mqueue, .ref mrow, .int m_reached, .ref mwanted, .ref mfirst, .ref moften, .int m_fitMany, .int m_fitFirst, .int m_askBest, .int m_askLeaves, .int m_bestFirst, .int m_bestWays, .ref mlots, .ref mthen, .long m_lotsAll])), (mhas, .inl (cyI, 20, .inl m_has)), (mtold, .inl (cyI, 35, .inl m_told)), (mlaw, .inl (cyI, 120, .inl m_law)), (mact, .inl (cyI, 400, .inl m_act)), (mhung, .inl (cyI, 7, .inl m_hung)), (mlots, .inl (cyJ, 7, .inr (.inl m_lots))), (mthen, .inl (cyJ, 7, .inr (.inl m_then)))] U.heap ∧ va_K (dC, dI) vwCl [(cyI, .int), (cyB, .byte), (cyJ, .long), (cyZ, .boolean), (cyH, .object RX2), (cyN, .array .long)] U ∧ va_D (fun _ => True) [(m0, .inr (11, [.int m_thrown, .ref mwidth, .ref mmany, .ref mcells, .ref mmoved, .ref mtape, .int m_taped, .int m_at, .int m_token, .int m_place, .int m_value, .long m_word, .int m_bad, .int m_badPlace, .int m_fault, .int m_faultPlace, .ref mlines, .ref mhas, .ref mtold, .ref mlaw, .ref msuit, .ref mapart, .ref mact, .ref misKept, .ref mseen, .ref mhung, .int m_gone, .ref mgoal, .ref mleaps, .ref mqueue, .ref mrow, .int m_reached, .ref mwanted, .ref mfirst, .ref moften, .int m_fitMany, .int m_fitFirst, .int m_askBest, .int m_askLeaves, .int m_bestFirst, .int m_bestWays, .ref mlots, .ref mthen, .long m_lotsAll])), (mhas, .inl (cyI, 20, .inl m_has)), (mtold, .inl (cyI, 35, .inl m_told)), (mlaw, .inl (cyI, 120, .inl m_law)), (mact, .inl (cyI, 400, .inl m_act)), (mhung, .inl (cyI, 7, .inl m_hung)), (mlots, .inl (cyJ, 7, .inr (.inl m_lots))), (mthen, .inl (cyJ, 7, .inr (.inl m_then)))])) (va_Qv (fun _ : Unit => True) (fun (_ : Unit) (t : State) => ∃ z0 : Int32, ∃ z1 : Int64, ∃ y2 : Nat → Int32, ∃ y3 : Nat → Int64, ∃ y4 : Nat → Int64, (0 ≤ z0.toInt ∧ z0.toInt ≤ 40) ∧ (rg 0 6 7 y2) ∧ (1 ≤ z1.toInt ∧ z1.toInt ≤ 2176782336) ∧ va_P (dC, dI) vwCl [(m0, .inr (11, [.int m_thrown, .ref mwidth, .ref mmany, .ref mcells, .ref mmoved, .ref mtape, .int m_taped, .int m_at, .int m_token, .int m_place, .int m_value, .long m_word, .int m_bad, .int m_badPlace, .int m_fault, .int m_faultPlace, .ref mlines, .ref mhas, .ref mtold, .ref mlaw, .ref msuit, .ref mapart, .ref mact, .ref misKept, .ref mseen, .ref mhung, .int z0, .ref mgoal, .ref mleaps, .ref mqueue, .ref mrow, .int m_reached, .ref mwanted, .ref mfirst, .ref moften, .int m_fitMany, .int m_fitFirst, .int m_askBest, .int m_askLeaves, .int m_bestFirst, .int m_bestWays, .ref mlots, .ref mthen, .long z1])), (mhas, .inl (cyI, 20, .inl m_has)), (mtold, .inl (cyI, 35, .inl m_told)), (mlaw, .inl (cyI, 120, .inl m_law)), (mact, .inl (cyI, 400, .inl m_act)), (mhung, .inl (cyI, 7, .inl y2)), (mlots, .inl (cyJ, 7, .inr (.inl y3))), (mthen, .inl (cyJ, 7, .inr (.inl y4)))] t.heap ∧ va_D (va_A [(m0, .inr (11, [.int m_thrown, .ref mwidth, .ref mmany, .ref mcells, .ref mmoved, .ref mtape, .int m_taped, .int m_at, .int m_token, .int m_place, .int m_value, .long m_word, .int m_bad, .int m_badPlace, .int m_fault, .int m_faultPlace, .ref mlines, .ref mhas, .ref mtold, .ref mlaw, .ref msuit, .ref mapart, .ref mact, .ref misKept, .ref mseen, .ref mhung, .int m_gone, .ref mgoal, .ref mleaps, .ref mqueue, .ref mrow, .int m_reached, .ref mwanted, .ref mfirst, .ref moften, .int m_fitMany, .int m_fitFirst, .int m_askBest, .int m_askLeaves, .int m_bestFirst, .int m_bestWays, .ref mlots, .ref mthen, .long m_lotsAll])), (mhas, .inl (cyI, 20, .inl m_has)), (mtold, .inl (cyI, 35, .inl m_told)), (mlaw, .inl (cyI, 120, .inl m_law)), (mact, .inl (cyI, 400, .inl m_act)), (mhung, .inl (cyI, 7, .inl m_hung)), (mlots, .inl (cyJ, 7, .inr (.inl m_lots))), (mthen, .inl (cyJ, 7, .inr (.inl m_then)))] sz) [(m0, .inr (11, [.int m_thrown, .ref mwidth, .ref mmany, .ref mcells, .ref mmoved, .ref mtape, .int m_taped, .int m_at, .int m_token, .int m_place, .int m_value, .long m_word, .int m_bad, .int m_badPlace, .int m_fault, .int m_faultPlace, .ref mlines, .ref mhas, .ref mtold, .ref mlaw, .ref msuit, .ref mapart, .ref mact, .ref misKept, .ref mseen, .ref mhung, .int z0, .ref mgoal, .ref mleaps, .ref mqueue, .ref mrow, .int m_reached, .ref mwanted, .ref mfirst, .ref moften, .int m_fitMany, .int m_fitFirst, .int m_askBest, .int m_askLeaves, .int m_bestFirst, .int m_bestWays, .ref mlots, .ref mthen, .long z1])), (mhas, .inl (cyI, 20, .inl m_has)), (mtold, .inl (cyI, 35, .inl m_told)), (mlaw, .inl (cyI, 120, .inl m_law)), (mact, .inl (cyI, 400, .inl m_act)), (mhung, .inl (cyI, 7, .inl y2)), (mlots, .inl (cyJ, 7, .inr (.inl y3))), (mthen, .inl (cyJ, 7, .inr (.inl y4)))]) (va_A [(m0, .inr (11, [.int m_thrown, .ref mwidth, .ref mmany, .ref mcells, .ref mmoved, .ref mtape, .int m_taped, .int m_at, .int m_token, .int m_place, .int m_value, .long m_word, .int m_bad, .int m_badPlace, .int m_fault, .int m_faultPlace, .ref mlines, .ref mhas, .ref mtold, .ref mlaw, .ref msuit, .ref mapart, .ref mact, .ref misKept, .ref mseen, .ref mhung, .int m_gone, .ref mgoal, .ref mleaps, .ref mqueue, .ref mrow, .int m_reached, .ref mwanted, .ref mfirst, .ref moften, .int m_fitMany, .int m_fitFirst, .int m_askBest, .int m_askLeaves, .int m_bestFirst, .int m_bestWays, .ref mlots, .ref mthen, .long m_lotsAll])), (mhas, .inl (cyI, 20, .inl m_has)), (mtold, .inl (cyI, 35, .inl m_told)), (mlaw, .inl (cyI, 120, .inl m_law)), (mact, .inl (cyI, 400, .inl m_act)), (mhung, .inl (cyI, 7, .inl m_hung)), (mlots, .inl (cyJ, 7, .inr (.inl m_lots))), (mthen, .inl (cyJ, 7, .inr (.inl m_then)))] sz)) 0 0 (va_A [(m0, .inr (11, [.int m_thrown, .ref mwidth, .ref mmany, .ref mcells, .ref mmoved, .ref mtape, .int m_taped, .int m_at, .int m_token, .int m_place, .int m_value, .long m_word, .int m_bad, .int m_badPlace, .int m_fault, .int m_faultPlace, .ref mlines, .ref mhas, .ref mtold, .ref mlaw, .ref msuit, .ref mapart, .ref mact, .ref misKept, .ref mseen, .ref mhung, .int m_gone, .ref mgoal, .ref mleaps, .ref mqueue, .ref mrow, .int m_reached, .ref mwanted, .ref mfirst, .ref moften, .int m_fitMany, .int m_fitFirst, .int m_askBest, .int m_askLeaves, .int m_bestFirst, .int m_bestWays, .ref mlots, .ref mthen, .long m_lotsAll])), (mhas, .inl (cyI, 20, .inl m_has)), (mtold, .inl (cyI, 35, .inl m_told)), (mlaw, .inl (cyI, 120, .inl m_law)), (mact, .inl (cyI, 400, .inl m_act)), (mhung, .inl (cyI, 7, .inl m_hung)), (mlots, .inl (cyJ, 7, .inr (.inl m_lots))), (mthen, .inl (cyJ, 7, .inr (.inl m_then)))] sz) := by
  refine Met.ofW (cc := cX12_laysLots) (maxL := 5) (ret := none) (by decide) rfl ?_
  intro p e s m args below meth c s₁ B hml hv
  obtain ⟨rfl, hsz, hP, hK, hD0⟩ := hv
  have hx := B.exec
  have hb := B.bytes
  have hr := B.returns
  have hts : ∀ w ∈ uU, w.before ([.ref m0, .int p0] : List Value).toArray s = true := fun w h => atoms_spec (ws := wk yX12_laysLots cX12_laysLots 5 none) B.pre w (List.mem_cons_of_mem _ h)
  have hown : s.vm.findClass RX12 = some m.cls := findClass_of_methodNamed B.named
  have hlocks := B.notSynchronized
  subst hsz
  have hD := hD0.self (sz := s.heap.size)
  generalize hAe : va_A [(m0, .inr (11, [.int m_thrown, .ref mwidth, .ref mmany, .ref mcells, .ref mmoved, .ref mtape, .int m_taped, .int m_at, .int m_token, .int m_place, .int m_value, .long m_word, .int m_bad, .int m_badPlace, .int m_fault, .int m_faultPlace, .ref mlines, .ref mhas, .ref mtold, .ref mlaw, .ref msuit, .ref mapart, .ref mact, .ref misKept, .ref mseen, .ref mhung, .int m_gone, .ref mgoal, .ref mleaps, .ref mqueue, .ref mrow, .int m_reached, .ref mwanted, .ref mfirst, .ref moften, .int m_fitMany, .int m_fitFirst, .int m_askBest, .int m_askLeaves, .int m_bestFirst, .int m_bestWays, .ref mlots, .ref mthen, .long m_lotsAll])), (mhas, .inl (cyI, 20, .inl m_has)), (mtold, .inl (cyI, 35, .inl m_told)), (mlaw, .inl (cyI, 120, .inl m_law)), (mact, .inl (cyI, 400, .inl m_act)), (mhung, .inl (cyI, 7, .inl m_hung)), (mlots, .inl (cyJ, 7, .inr (.inl m_lots))), (mthen, .inl (cyJ, 7, .inr (.inl m_then)))] s.heap.size = A at hD ⊢
  have hA : ∀ q : Nat, s.heap.size ≤ q → A q := fun q h => by rw [← hAe]; exact Or.inr h
  have hS : va_S A s.heap s.heap [] := va_S.rf
  have hP : va_P (dC, dI) vwCl [(m0, .inr (11, [.int m_thrown, .ref mwidth, .ref mmany, .ref mcells, .ref mmoved, .ref mtape, .int m_taped, .int m_at, .int m_token, .int m_place, .int m_value, .long m_word, .int m_bad, .int m_badPlace, .int m_fault, .int m_faultPlace, .ref mlines, .ref mhas, .ref mtold, .ref mlaw, .ref msuit, .ref mapart, .ref mact, .ref misKept, .ref mseen, .ref mhung, .int m_gone, .ref mgoal, .ref mleaps, .ref mqueue, .ref mrow, .int m_reached, .ref mwanted, .ref mfirst, .ref moften, .int m_fitMany, .int m_fitFirst, .int m_askBest, .int m_askLeaves, .int m_bestFirst, .int m_bestWays, .ref mlots, .ref mthen, .long m_lotsAll])), (mhas, .inl (cyI, 20, .inl m_has)), (mtold, .inl (cyI, 35, .inl m_told)), (mlaw, .inl (cyI, 120, .inl m_law)), (mact, .inl (cyI, 400, .inl m_act)), (mhung, .inl (cyI, 7, .inl m_hung)), (mlots, .inl (cyJ, 7, .inr (.inl m_lots))), (mthen, .inl (cyJ, 7, .inr (.inl m_then)))] s.heap := hP
  have hl := lv_entry ([.ref m0, .int p0]) (n := 5) (Nat.le_of_ble_eq_true rfl)
  rw [lg_entry_eq]
  generalize (lg_sl ([.ref m0, .int p0]) ++ List.replicate (5 - (lg_sl ([.ref m0, .int p0])).length) Slot.unset).toArray = ls at hl ⊢
  have hl : lv_has ls 5 [(0, .ref m0), (1, .int p0)] := hl
  obtain ⟨H, hHe⟩ : ∃ H, H = s.heap := ⟨_, rfl⟩
  have hP : va_P (dC, dI) vwCl [(m0, .inr (11, [.int m_thrown, .ref mwidth, .ref mmany, .ref mcells, .ref mmoved, .ref mtape, .int m_taped, .int m_at, .int m_token, .int m_place, .int m_value, .long m_word, .int m_bad, .int m_badPlace, .int m_fault, .int m_faultPlace, .ref mlines, .ref mhas, .ref mtold, .ref mlaw, .ref msuit, .ref mapart, .ref mact, .ref misKept, .ref mseen, .ref mhung, .int m_gone, .ref mgoal, .ref mleaps, .ref mqueue, .ref mrow, .int m_reached, .ref mwanted, .ref mfirst, .ref moften, .int m_fitMany, .int m_fitFirst, .int m_askBest, .int m_askLeaves, .int m_bestFirst, .int m_bestWays, .ref mlots, .ref mthen, .long m_lotsAll])), (mhas, .inl (cyI, 20, .inl m_has)), (mtold, .inl (cyI, 35, .inl m_told)), (mlaw, .inl (cyI, 120, .inl m_law)), (mact, .inl (cyI, 400, .inl m_act)), (mhung, .inl (cyI, 7, .inl m_hung)), (mlots, .inl (cyJ, 7, .inr (.inl m_lots))), (mthen, .inl (cyJ, 7, .inr (.inl m_then)))] H := by rw [hHe]; exact hP
  have hS : va_S A s.heap H [] := by rw [hHe]; exact hS
  refine cv_heap hHe ?_
  obtain ⟨Q9, hQ9⟩ : ∃ Q9 : State → Prop, Q9 = MQ below (va_Qv (fun _ : Unit => True) (fun (_ : Unit) (t : State) => ∃ z0 : Int32, ∃ z1 : Int64, ∃ y2 : Nat → Int32, ∃ y3 : Nat → Int64, ∃ y4 : Nat → Int64, (0 ≤ z0.toInt ∧ z0.toInt ≤ 40) ∧ (rg 0 6 7 y2) ∧ (1 ≤ z1.toInt ∧ z1.toInt ≤ 2176782336) ∧ va_P (dC, dI) vwCl [(m0, .inr (11, [.int m_thrown, .ref mwidth, .ref mmany, .ref mcells, .ref mmoved, .ref mtape, .int m_taped, .int m_at, .int m_token, .int m_place, .int m_value, .long m_word, .int m_bad, .int m_badPlace, .int m_fault, .int m_faultPlace, .ref mlines, .ref mhas, .ref mtold, .ref mlaw, .ref msuit, .ref mapart, .ref mact, .ref misKept, .ref mseen, .ref mhung, .int z0, .ref mgoal, .ref mleaps, .ref mqueue, .ref mrow, .int m_reached, .ref mwanted, .ref mfirst, .ref moften, .int m_fitMany, .int m_fitFirst, .int m_askBest, .int m_askLeaves, .int m_bestFirst, .int m_bestWays, .ref mlots, .ref mthen, .long z1])), (mhas, .inl (cyI, 20, .inl m_has)), (mtold, .inl (cyI, 35, .inl m_told)), (mlaw, .inl (cyI, 120, .inl m_law)), (mact, .inl (cyI, 400, .inl m_act)), (mhung, .inl (cyI, 7, .inl y2)), (mlots, .inl (cyJ, 7, .inr (.inl y3))), (mthen, .inl (cyJ, 7, .inr (.inl y4)))] t.heap ∧ va_D A [(m0, .inr (11, [.int m_thrown, .ref mwidth, .ref mmany, .ref mcells, .ref mmoved, .ref mtape, .int m_taped, .int m_at, .int m_token, .int m_place, .int m_value, .long m_word, .int m_bad, .int m_badPlace, .int m_fault, .int m_faultPlace, .ref mlines, .ref mhas, .ref mtold, .ref mlaw, .ref msuit, .ref mapart, .ref mact, .ref misKept, .ref mseen, .ref mhung, .int z0, .ref mgoal, .ref mleaps, .ref mqueue, .ref mrow, .int m_reached, .ref mwanted, .ref mfirst, .ref moften, .int m_fitMany, .int m_fitFirst, .int m_askBest, .int m_askLeaves, .int m_bestFirst, .int m_bestWays, .ref mlots, .ref mthen, .long z1])), (mhas, .inl (cyI, 20, .inl m_has)), (mtold, .inl (cyI, 35, .inl m_told)), (mlaw, .inl (cyI, 120, .inl m_law)), (mact, .inl (cyI, 400, .inl m_act)), (mhung, .inl (cyI, 7, .inl y2)), (mlots, .inl (cyJ, 7, .inr (.inl y3))), (mthen, .inl (cyJ, 7, .inr (.inl y4)))]) A) ([.ref m0, .int p0] : List Value).toArray s 0 0 A := ⟨_, rfl⟩
  rw [← hQ9]
  refine lv_aload_n hx hb dX12_laysLots_0 rfl (lv_at hl 0 rfl) ?_
  have hPc := hP.sub (ws' := [(m0, .inr (11, [.int m_thrown, .ref mwidth, .ref mmany, .ref mcells, .ref mmoved, .ref mtape, .int m_taped, .int m_at, .int m_token, .int m_place, .int m_value, .long m_word, .int m_bad, .int m_badPlace, .int m_fault, .int m_faultPlace, .ref mlines, .ref mhas, .ref mtold, .ref mlaw, .ref msuit, .ref mapart, .ref mact, .ref misKept, .ref mseen, .ref mhung, .int m_gone, .ref mgoal, .ref mleaps, .ref mqueue, .ref mrow, .int m_reached, .ref mwanted, .ref mfirst, .ref moften, .int m_fitMany, .int m_fitFirst, .int m_askBest, .int m_askLeaves, .int m_bestFirst, .int m_bestWays, .ref mlots, .ref mthen, .long m_lotsAll])), (mhas, .inl (cyI, 20, .inl m_has)), (mtold, .inl (cyI, 35, .inl m_told)), (mlaw, .inl (cyI, 120, .inl m_law)), (mact, .inl (cyI, 400, .inl m_act)), (mhung, .inl (cyI, 7, .inl m_hung))]) [0, 1, 2, 3, 4, 5] rfl
  have hKc := hK.sub (tys' := [(cyI, .int), (cyB, .byte), (cyJ, .long), (cyZ, .boolean), (cyH, .object RX2), (cyN, .array .long)]) [0, 1, 2, 3, 4, 5] rfl
  have hDc := hD.sub (ws' := [(m0, .inr (11, [.int m_thrown, .ref mwidth, .ref mmany, .ref mcells, .ref mmoved, .ref mtape, .int m_taped, .int m_at, .int m_token, .int m_place, .int m_value, .long m_word, .int m_bad, .int m_badPlace, .int m_fault, .int m_faultPlace, .ref mlines, .ref mhas, .ref mtold, .ref mlaw, .ref msuit, .ref mapart, .ref mact, .ref misKept, .ref mseen, .ref mhung, .int m_gone, .ref mgoal, .ref mleaps, .ref mqueue, .ref mrow, .int m_reached, .ref mwanted, .ref mfirst, .ref moften, .int m_fitMany, .int m_fitFirst, .int m_askBest, .int m_askLeaves, .int m_bestFirst, .int m_bestWays, .ref mlots, .ref mthen, .long m_lotsAll])), (mhas, .inl (cyI, 20, .inl m_has)), (mtold, .inl (cyI, 35, .inl m_told)), (mlaw, .inl (cyI, 120, .inl m_law)), (mact, .inl (cyI, 400, .inl m_act)), (mhung, .inl (cyI, 7, .inl m_hung))]) [0, 1, 2, 3, 4, 5] (by decide) rfl
  have hFc := va_free (wc := [(m0, .inr (11, [.int m_thrown, .ref mwidth, .ref mmany, .ref mcells, .ref mmoved, .ref mtape, .int m_taped, .int m_at, .int m_token, .int m_place, .int m_value, .long m_word, .int m_bad, .int m_badPlace, .int m_fault, .int m_faultPlace, .ref mlines, .ref mhas, .ref mtold, .ref mlaw, .ref msuit, .ref mapart, .ref mact, .ref misKept, .ref mseen, .ref mhung, .int m_gone, .ref mgoal, .ref mleaps, .ref mqueue, .ref mrow, .int m_reached, .ref mwanted, .ref mfirst, .ref moften, .int m_fitMany, .int m_fitFirst, .int m_askBest, .int m_askLeaves, .int m_bestFirst, .int m_bestWays, .ref mlots, .ref mthen, .long m_lotsAll])), (mhas, .inl (cyI, 20, .inl m_has)), (mtold, .inl (cyI, 35, .inl m_told)), (mlaw, .inl (cyI, 120, .inl m_law)), (mact, .inl (cyI, 400, .inl m_act)), (mhung, .inl (cyI, 7, .inl m_hung))]) hD hS hA [0, 1, 2, 3, 4, 5] rfl
  refine va_callv (va_runV (As := []) (rest := []) ⟨hx, hb, hml, hown, hts⟩ (m_lays l dC dI cyI cyB cyJ cyZ cyH cyN H.size m0 mwidth mmany mcells mmoved mtape mlines mhas mtold mlaw msuit mapart mact misKept mseen mhung mgoal mleaps mqueue mrow mwanted mfirst moften mlots mthen m_thrown m_taped m_at m_token m_place m_value m_word m_bad m_badPlace m_fault m_faultPlace m_gone m_reached m_fitMany m_fitFirst m_askBest m_askLeaves m_bestFirst m_bestWays m_lotsAll m_has m_told m_law m_act m_hung g0 g1 (by omega) (by omega) (by omega) g6 g7 g8 g9 g10 g11) (cwV 0 hts (gdV wd_7_98 wd_7_100 wd_s4_15 wd_1_11 wd_7_101) rfl rfl rfl (by decide +kernel) ⟨Nat.le_of_ble_eq_true rfl, Nat.le_of_ble_eq_true rfl⟩) ⟨fun a U g mk q => by obtain ⟨q0, q1, qP, qK, qD⟩ := q; exact ⟨q0, q1, qP, va_K.moved (u := U) (U := U.calling g mk a) (Vm.Alike.refl U.vm) qK, qD⟩, va_recv hKc hPc (ci := 11) (q0 := 0) rfl rfl, fun U hU hW => ⟨rfl, by rw [hU], by rw [hU]; exact hPc, va_K.moved hW.alike hKc, hDc.weaken (fun _ _ _ _ => trivial)⟩⟩ rfl rfl hl.1 rfl (lv_room (Nat.le_of_ble_eq_true rfl)) dX12_laysLots_1 ⟨Nat.le_of_ble_eq_true rfl, Nat.le_of_ble_eq_true rfl⟩) hS (fun q _ h => hFc q h) hFc (fun  u t H1 locs ht hvm hw hB hz1 hk1 hS => ?_)
  obtain ⟨z0_1, y1_2, hp_3, hp_4, hp_5, hP1, hD1⟩ := hB
  rw [ht] at hP1
  obtain ⟨hP, hD⟩ := va_join (wr := [(mlots, .inl (cyJ, 7, .inr (.inl m_lots))), (mthen, .inl (cyJ, 7, .inr (.inl m_then)))]) (w1 := [(m0, .inr (11, [.int m_thrown, .ref mwidth, .ref mmany, .ref mcells, .ref mmoved, .ref mtape, .int m_taped, .int m_at, .int m_token, .int m_place, .int m_value, .long m_word, .int m_bad, .int m_badPlace, .int m_fault, .int m_faultPlace, .ref mlines, .ref mhas, .ref mtold, .ref mlaw, .ref msuit, .ref mapart, .ref mact, .ref misKept, .ref mseen, .ref mhung, .int z0_1, .ref mgoal, .ref mleaps, .ref mqueue, .ref mrow, .int m_reached, .ref mwanted, .ref mfirst, .ref moften, .int m_fitMany, .int m_fitFirst, .int m_askBest, .int m_askLeaves, .int m_bestFirst, .int m_bestWays, .ref mlots, .ref mthen, .long m_lotsAll])), (mhas, .inl (cyI, 20, .inl m_has)), (mtold, .inl (cyI, 35, .inl m_told)), (mlaw, .inl (cyI, 120, .inl m_law)), (mact, .inl (cyI, 400, .inl m_act)), (mhung, .inl (cyI, 7, .inl y1_2))]) hP hD [0, 1, 2, 3, 4, 5] [6, 7] rfl rfl (by decide) (by decide) hk1 hFc hP1 hD1
  generalize H1 = H at hP hS ⊢
  have hP : va_P (dC, dI) vwCl [(mlots, .inl (cyJ, 7, .inr (.inl m_lots))), (mthen, .inl (cyJ, 7, .inr (.inl m_then))), (m0, .inr (11, [.int m_thrown, .ref mwidth, .ref mmany, .ref mcells, .ref mmoved, .ref mtape, .int m_taped, .int m_at, .int m_token, .int m_place, .int m_value, .long m_word, .int m_bad, .int m_badPlace, .int m_fault, .int m_faultPlace, .ref mlines, .ref mhas, .ref mtold, .ref mlaw, .ref msuit, .ref mapart, .ref mact, .ref misKept, .ref mseen, .ref mhung, .int z0_1, .ref mgoal, .ref mleaps, .ref mqueue, .ref mrow, .int m_reached, .ref mwanted, .ref mfirst, .ref moften, .int m_fitMany, .int m_fitFirst, .int m_askBest, .int m_askLeaves, .int m_bestFirst, .int m_bestWays, .ref mlots, .ref mthen, .long m_lotsAll])), (mhas, .inl (cyI, 20, .inl m_has)), (mtold, .inl (cyI, 35, .inl m_told)), (mlaw, .inl (cyI, 120, .inl m_law)), (mact, .inl (cyI, 400, .inl m_act)), (mhung, .inl (cyI, 7, .inl y1_2))] H := hP
  have hD : va_D A [(mlots, .inl (cyJ, 7, .inr (.inl m_lots))), (mthen, .inl (cyJ, 7, .inr (.inl m_then))), (m0, .inr (11, [.int m_thrown, .ref mwidth, .ref mmany, .ref mcells, .ref mmoved, .ref mtape, .int m_taped, .int m_at, .int m_token, .int m_place, .int m_value, .long m_word, .int m_bad, .int m_badPlace, .int m_fault, .int m_faultPlace, .ref mlines, .ref mhas, .ref mtold, .ref mlaw, .ref msuit, .ref mapart, .ref mact, .ref misKept, .ref mseen, .ref mhung, .int z0_1, .ref mgoal, .ref mleaps, .ref mqueue, .ref mrow, .int m_reached, .ref mwanted, .ref mfirst, .ref moften, .int m_fitMany, .int m_fitFirst, .int m_askBest, .int m_askLeaves, .int m_bestFirst, .int m_bestWays, .ref mlots, .ref mthen, .long m_lotsAll])), (mhas, .inl (cyI, 20, .inl m_has)), (mtold, .inl (cyI, 35, .inl m_told)), (mlaw, .inl (cyI, 120, .inl m_law)), (mact, .inl (cyI, 400, .inl m_act)), (mhung, .inl (cyI, 7, .inl y1_2))] := hD
  have hP := hP.sub (ws' := [(m0, .inr (11, [.int m_thrown, .ref mwidth, .ref mmany, .ref mcells, .ref mmoved, .ref mtape, .int m_taped, .int m_at, .int m_token, .int m_place, .int m_value, .long m_word, .int m_bad, .int m_badPlace, .int m_fault, .int m_faultPlace, .ref mlines, .ref mhas, .ref mtold, .ref mlaw, .ref msuit, .ref mapart, .ref mact, .ref misKept, .ref mseen, .ref mhung, .int z0_1, .ref mgoal, .ref mleaps, .ref mqueue, .ref mrow, .int m_reached, .ref mwanted, .ref mfirst, .ref moften, .int m_fitMany, .int m_fitFirst, .int m_askBest, .int m_askLeaves, .int m_bestFirst, .int m_bestWays, .ref mlots, .ref mthen, .long m_lotsAll])), (mhas, .inl (cyI, 20, .inl m_has)), (mtold, .inl (cyI, 35, .inl m_told)), (mlaw, .inl (cyI, 120, .inl m_law)), (mact, .inl (cyI, 400, .inl m_act)), (mhung, .inl (cyI, 7, .inl y1_2)), (mlots, .inl (cyJ, 7, .inr (.inl m_lots))), (mthen, .inl (cyJ, 7, .inr (.inl m_then)))]) [2, 3, 4, 5, 6, 7, 0, 1] rfl
  have hD := hD.sub (ws' := [(m0, .inr (11, [.int m_thrown, .ref mwidth, .ref mmany, .ref mcells, .ref mmoved, .ref mtape, .int m_taped, .int m_at, .int m_token, .int m_place, .int m_value, .long m_word, .int m_bad, .int m_badPlace, .int m_fault, .int m_faultPlace, .ref mlines, .ref mhas, .ref mtold, .ref mlaw, .ref msuit, .ref mapart, .ref mact, .ref misKept, .ref mseen, .ref mhung, .int z0_1, .ref mgoal, .ref mleaps, .ref mqueue, .ref mrow, .int m_reached, .ref mwanted, .ref mfirst, .ref moften, .int m_fitMany, .int m_fitFirst, .int m_askBest, .int m_askLeaves, .int m_bestFirst, .int m_bestWays, .ref mlots, .ref mthen, .long m_lotsAll])), (mhas, .inl (cyI, 20, .inl m_has)), (mtold, .inl (cyI, 35, .inl m_told)), (mlaw, .inl (cyI, 120, .inl m_law)), (mact, .inl (cyI, 400, .inl m_act)), (mhung, .inl (cyI, 7, .inl y1_2)), (mlots, .inl (cyJ, 7, .inr (.inl m_lots))), (mthen, .inl (cyJ, 7, .inr (.inl m_then)))]) [2, 3, 4, 5, 6, 7, 0, 1] (by decide) rfl
  refine lv_iconst (v := 0) hx hb dX12_laysLots_4 (by decide) ?_
  refine lv_istore_n (lv' := [(2, .int 0), (0, .ref m0), (1, .int p0)]) hx hb dX12_laysLots_5 rfl hl (by decide) rfl (fun ls hl => ?_)
  have key_8 : ∀ (nkey_8 : Nat) (u_6 : Int32) (f_7 : Nat → Int64) (H : Heap) (locs : List Loc) (ls : Array Slot), (0 ≤ u_6.toInt ∧ u_6.toInt ≤ 7) → va_P (dC, dI) vwCl [(m0, .inr (11, [.int m_thrown, .ref mwidth, .ref mmany, .ref mcells, .ref mmoved, .ref mtape, .int m_taped, .int m_at, .int m_token, .int m_place, .int m_value, .long m_word, .int m_bad, .int m_badPlace, .int m_fault, .int m_faultPlace, .ref mlines, .ref mhas, .ref mtold, .ref mlaw, .ref msuit, .ref mapart, .ref mact, .ref misKept, .ref mseen, .ref mhung, .int z0_1, .ref mgoal, .ref mleaps, .ref mqueue, .ref mrow, .int m_reached, .ref mwanted, .ref mfirst, .ref moften, .int m_fitMany, .int m_fitFirst, .int m_askBest, .int m_askLeaves, .int m_bestFirst, .int m_bestWays, .ref mlots, .ref mthen, .long m_lotsAll])), (mhas, .inl (cyI, 20, .inl m_has)), (mtold, .inl (cyI, 35, .inl m_told)), (mlaw, .inl (cyI, 120, .inl m_law)), (mact, .inl (cyI, 400, .inl m_act)), (mhung, .inl (cyI, 7, .inl y1_2)), (mlots, .inl (cyJ, 7, .inr (.inl f_7))), (mthen, .inl (cyJ, 7, .inr (.inl m_then)))] H → va_D A [(m0, .inr (11, [.int m_thrown, .ref mwidth, .ref mmany, .ref mcells, .ref mmoved, .ref mtape, .int m_taped, .int m_at, .int m_token, .int m_place, .int m_value, .long m_word, .int m_bad, .int m_badPlace, .int m_fault, .int m_faultPlace, .ref mlines, .ref mhas, .ref mtold, .ref mlaw, .ref msuit, .ref mapart, .ref mact, .ref misKept, .ref mseen, .ref mhung, .int z0_1, .ref mgoal, .ref mleaps, .ref mqueue, .ref mrow, .int m_reached, .ref mwanted, .ref mfirst, .ref moften, .int m_fitMany, .int m_fitFirst, .int m_askBest, .int m_askLeaves, .int m_bestFirst, .int m_bestWays, .ref mlots, .ref mthen, .long m_lotsAll])), (mhas, .inl (cyI, 20, .inl m_has)), (mtold, .inl (cyI, 35, .inl m_told)), (mlaw, .inl (cyI, 120, .inl m_law)), (mact, .inl (cyI, 400, .inl m_act)), (mhung, .inl (cyI, 7, .inl y1_2)), (mlots, .inl (cyJ, 7, .inr (.inl f_7))), (mthen, .inl (cyJ, 7, .inr (.inl m_then)))] → va_S A s.heap H locs → lv_has ls 5 [(2, .int u_6), (0, .ref m0), (1, .int p0)] → ((m_has 0).toInt - u_6.toInt).toNat < nkey_8 → W p l e ({ frames := 4, cells := 0, slots := 0, locals := 128 }) s m ([.ref m0, .int p0] : List Value).toArray below meth c H locs 0 0 Q9 (F0 m 6 ls []) := by
    intro nkey_8
    induction nkey_8 with
    | zero => intro u_6 f_7 H locs ls hu_6 hP hD hS hl hnkey_8; exact absurd hnkey_8 (Nat.not_lt_zero _)
    | succ nkey_8 ihkey_8 =>
      intro u_6 f_7 H locs ls hu_6 hP hD hS hl hnkey_8
      refine lv_iload_n hx hb dX12_laysLots_6 rfl (lv_at hl 0 rfl) ?_
      refine lv_aload_n hx hb dX12_laysLots_7 rfl (lv_at hl 1 rfl) ?_
      have hPc := hP.sub (ws' := [(m0, .inr (11, [.int m_thrown, .ref mwidth, .ref mmany, .ref mcells, .ref mmoved, .ref mtape, .int m_taped, .int m_at, .int m_token, .int m_place, .int m_value, .long m_word, .int m_bad, .int m_badPlace, .int m_fault, .int m_faultPlace, .ref mlines, .ref mhas, .ref mtold, .ref mlaw, .ref msuit, .ref mapart, .ref mact, .ref misKept, .ref mseen, .ref mhung, .int z0_1, .ref mgoal, .ref mleaps, .ref mqueue, .ref mrow, .int m_reached, .ref mwanted, .ref mfirst, .ref moften, .int m_fitMany, .int m_fitFirst, .int m_askBest, .int m_askLeaves, .int m_bestFirst, .int m_bestWays, .ref mlots, .ref mthen, .long m_lotsAll])), (mhas, .inl (cyI, 20, .inl m_has))]) [0, 1] rfl
      have hKc := hK.sub (tys' := [(cyI, .int), (cyB, .byte), (cyJ, .long), (cyZ, .boolean), (cyH, .object RX2), (cyN, .array .long)]) [0, 1, 2, 3, 4, 5] rfl
      refine vp_callSi (va_Run.run (va_runV (As := []) (rest := [.int u_6]) ⟨hx, hb, hml, hown, hts⟩ (m_places l dC dI cyI cyB cyJ cyZ cyH cyN m0 mwidth mmany mcells mmoved mtape mlines mhas mtold mlaw msuit mapart mact misKept mseen mhung mgoal mleaps mqueue mrow mwanted mfirst moften mlots mthen m_thrown m_taped m_at m_token m_place m_value m_word m_bad m_badPlace m_fault m_faultPlace z0_1 m_reached m_fitMany m_fitFirst m_askBest m_askLeaves m_bestFirst m_bestWays m_lotsAll m_has (by omega) (by omega) (by omega) g6 g7 g8) (cwV 0 hts (gdV wd_7_86 wd_7_88 wd_s4_14 wd_1_11 wd_7_89) rfl rfl rfl (by decide +kernel) ⟨Nat.le_of_ble_eq_true rfl, Nat.le_of_ble_eq_true rfl⟩) ⟨fun a U g mk q => by obtain ⟨q0, qP, qK⟩ := q; exact ⟨q0, qP, va_K.moved (u := U) (U := U.calling g mk a) (Vm.Alike.refl U.vm) qK⟩, va_recv hKc hPc (ci := 11) (q0 := 0) rfl rfl, fun U hU hW => ⟨rfl, by rw [hU]; exact hPc, va_K.moved hW.alike hKc⟩⟩ rfl rfl hl.1 rfl (lv_room (Nat.le_of_ble_eq_true rfl)) dX12_laysLots_8 ⟨Nat.le_of_ble_eq_true rfl, Nat.le_of_ble_eq_true rfl⟩)) (fun r_9 hw => ?_)
      subst hw
      refine lv_icmp_ge (tgt := 46) hx hb dX12_laysLots_11 (by decide) (fun c_10 => ?_) (fun c_10 => ?_)
      · have c_10 : (m_has 0).toInt ≤ u_6.toInt := cv_le c_10
        refine lv_aload_n hx hb dX12_laysLots_46 rfl (lv_at hl 1 rfl) ?_
        refine lv_lconst (v := 1) hx hb dX12_laysLots_47 (by decide) ?_
        refine va_put (D := (dC, dI)) (ci := 11) (v := .long 1) (ty := .long) (C := RX12) (T := TX12) (N := 44) hx hb hts uinX12 tyX12 tyX12_ok nmX12 hown hK hP hD hS 0 rfl rfl 43 (by decide) (hts _ wd_6_80) (fun _ h9 => h9) rfl (by decide +kernel) rfl rfl (Nat.le_of_ble_eq_true rfl) dX12_laysLots_48 (fun H locs hP hD hS => ?_)
        have hP : va_P (dC, dI) vwCl [(m0, .inr (11, [.int m_thrown, .ref mwidth, .ref mmany, .ref mcells, .ref mmoved, .ref mtape, .int m_taped, .int m_at, .int m_token, .int m_place, .int m_value, .long m_word, .int m_bad, .int m_badPlace, .int m_fault, .int m_faultPlace, .ref mlines, .ref mhas, .ref mtold, .ref mlaw, .ref msuit, .ref mapart, .ref mact, .ref misKept, .ref mseen, .ref mhung, .int z0_1, .ref mgoal, .ref mleaps, .ref mqueue, .ref mrow, .int m_reached, .ref mwanted, .ref mfirst, .ref moften, .int m_fitMany, .int m_fitFirst, .int m_askBest, .int m_askLeaves, .int m_bestFirst, .int m_bestWays, .ref mlots, .ref mthen, .long 1])), (mhas, .inl (cyI, 20, .inl m_has)), (mtold, .inl (cyI, 35, .inl m_told)), (mlaw, .inl (cyI, 120, .inl m_law)), (mact, .inl (cyI, 400, .inl m_act)), (mhung, .inl (cyI, 7, .inl y1_2)), (mlots, .inl (cyJ, 7, .inr (.inl f_7))), (mthen, .inl (cyJ, 7, .inr (.inl m_then)))] H := hP
        have hD : va_D A [(m0, .inr (11, [.int m_thrown, .ref mwidth, .ref mmany, .ref mcells, .ref mmoved, .ref mtape, .int m_taped, .int m_at, .int m_token, .int m_place, .int m_value, .long m_word, .int m_bad, .int m_badPlace, .int m_fault, .int m_faultPlace, .ref mlines, .ref mhas, .ref mtold, .ref mlaw, .ref msuit, .ref mapart, .ref mact, .ref misKept, .ref mseen, .ref mhung, .int z0_1, .ref mgoal, .ref mleaps, .ref mqueue, .ref mrow, .int m_reached, .ref mwanted, .ref mfirst, .ref moften, .int m_fitMany, .int m_fitFirst, .int m_askBest, .int m_askLeaves, .int m_bestFirst, .int m_bestWays, .ref mlots, .ref mthen, .long 1])), (mhas, .inl (cyI, 20, .inl m_has)), (mtold, .inl (cyI, 35, .inl m_told)), (mlaw, .inl (cyI, 120, .inl m_law)), (mact, .inl (cyI, 400, .inl m_act)), (mhung, .inl (cyI, 7, .inl y1_2)), (mlots, .inl (cyJ, 7, .inr (.inl f_7))), (mthen, .inl (cyJ, 7, .inr (.inl m_then)))] := hD
        refine lv_iconst (v := 0) hx hb dX12_laysLots_51 (by decide) ?_
        refine lv_istore_n (lv' := [(2, .int 0), (0, .ref m0), (1, .int p0)]) hx hb dX12_laysLots_52 rfl hl (by decide) rfl (fun ls hl => ?_)
        have key_15 : ∀ (nkey_15 : Nat) (u_11 : Int32) (w_12 : Int64) (f_13 : Nat → Int64) (f_14 : Nat → Int64) (H : Heap) (locs : List Loc) (ls : Array Slot), (0 ≤ u_11.toInt ∧ u_11.toInt ≤ 12) → (1 ≤ w_12.toInt ∧ w_12.toInt ≤ 6 ^ u_11.toInt.toNat) → (u_11.toInt ≤ 12) → va_P (dC, dI) vwCl [(m0, .inr (11, [.int m_thrown, .ref mwidth, .ref mmany, .ref mcells, .ref mmoved, .ref mtape, .int m_taped, .int m_at, .int m_token, .int m_place, .int m_value, .long m_word, .int m_bad, .int m_badPlace, .int m_fault, .int m_faultPlace, .ref mlines, .ref mhas, .ref mtold, .ref mlaw, .ref msuit, .ref mapart, .ref mact, .ref misKept, .ref mseen, .ref mhung, .int z0_1, .ref mgoal, .ref mleaps, .ref mqueue, .ref mrow, .int m_reached, .ref mwanted, .ref mfirst, .ref moften, .int m_fitMany, .int m_fitFirst, .int m_askBest, .int m_askLeaves, .int m_bestFirst, .int m_bestWays, .ref mlots, .ref mthen, .long w_12])), (mhas, .inl (cyI, 20, .inl m_has)), (mtold, .inl (cyI, 35, .inl m_told)), (mlaw, .inl (cyI, 120, .inl m_law)), (mact, .inl (cyI, 400, .inl m_act)), (mhung, .inl (cyI, 7, .inl y1_2)), (mlots, .inl (cyJ, 7, .inr (.inl f_13))), (mthen, .inl (cyJ, 7, .inr (.inl f_14)))] H → va_D A [(m0, .inr (11, [.int m_thrown, .ref mwidth, .ref mmany, .ref mcells, .ref mmoved, .ref mtape, .int m_taped, .int m_at, .int m_token, .int m_place, .int m_value, .long m_word, .int m_bad, .int m_badPlace, .int m_fault, .int m_faultPlace, .ref mlines, .ref mhas, .ref mtold, .ref mlaw, .ref msuit, .ref mapart, .ref mact, .ref misKept, .ref mseen, .ref mhung, .int z0_1, .ref mgoal, .ref mleaps, .ref mqueue, .ref mrow, .int m_reached, .ref mwanted, .ref mfirst, .ref moften, .int m_fitMany, .int m_fitFirst, .int m_askBest, .int m_askLeaves, .int m_bestFirst, .int m_bestWays, .ref mlots, .ref mthen, .long w_12])), (mhas, .inl (cyI, 20, .inl m_has)), (mtold, .inl (cyI, 35, .inl m_told)), (mlaw, .inl (cyI, 120, .inl m_law)), (mact, .inl (cyI, 400, .inl m_act)), (mhung, .inl (cyI, 7, .inl y1_2)), (mlots, .inl (cyJ, 7, .inr (.inl f_13))), (mthen, .inl (cyJ, 7, .inr (.inl f_14)))] → va_S A s.heap H locs → lv_has ls 5 [(2, .int u_11), (0, .ref m0), (1, .int p0)] → (p0.toInt - u_11.toInt).toNat < nkey_15 → W p l e ({ frames := 4, cells := 0, slots := 0, locals := 128 }) s m ([.ref m0, .int p0] : List Value).toArray below meth c H locs 0 0 Q9 (F0 m 53 ls []) := by
          intro nkey_15
          induction nkey_15 with
          | zero => intro u_11 w_12 f_13 f_14 H locs ls hu_11 hlo9 hkl9 hP hD hS hl hnkey_15; exact absurd hnkey_15 (Nat.not_lt_zero _)
          | succ nkey_15 ihkey_15 =>
            intro u_11 w_12 f_13 f_14 H locs ls hu_11 hlo9 hkl9 hP hD hS hl hnkey_15
            refine lv_iload_n hx hb dX12_laysLots_53 rfl (lv_at hl 0 rfl) ?_
            refine lv_iload_n hx hb dX12_laysLots_54 rfl (lv_at hl 2 rfl) ?_
            refine lv_icmp_ge (tgt := 214) hx hb dX12_laysLots_55 (by decide) (fun c_16 => ?_) (fun c_16 => ?_)
            · have c_16 : p0.toInt ≤ u_11.toInt := cv_le c_16
              rw [hQ9]
              have hP9 := hP.sub (ws' := [(m0, .inr (11, [.int m_thrown, .ref mwidth, .ref mmany, .ref mcells, .ref mmoved, .ref mtape, .int m_taped, .int m_at, .int m_token, .int m_place, .int m_value, .long m_word, .int m_bad, .int m_badPlace, .int m_fault, .int m_faultPlace, .ref mlines, .ref mhas, .ref mtold, .ref mlaw, .ref msuit, .ref mapart, .ref mact, .ref misKept, .ref mseen, .ref mhung, .int z0_1, .ref mgoal, .ref mleaps, .ref mqueue, .ref mrow, .int m_reached, .ref mwanted, .ref mfirst, .ref moften, .int m_fitMany, .int m_fitFirst, .int m_askBest, .int m_askLeaves, .int m_bestFirst, .int m_bestWays, .ref mlots, .ref mthen, .long w_12])), (mhas, .inl (cyI, 20, .inl m_has)), (mtold, .inl (cyI, 35, .inl m_told)), (mlaw, .inl (cyI, 120, .inl m_law)), (mact, .inl (cyI, 400, .inl m_act)), (mhung, .inl (cyI, 7, .inl y1_2)), (mlots, .inl (cyJ, 7, .inr (.inl f_13))), (mthen, .inl (cyJ, 7, .inr (.inl f_14)))]) [0, 1, 2, 3, 4, 5, 6, 7] rfl
              have hD9 := hD.sub (ws' := [(m0, .inr (11, [.int m_thrown, .ref mwidth, .ref mmany, .ref mcells, .ref mmoved, .ref mtape, .int m_taped, .int m_at, .int m_token, .int m_place, .int m_value, .long m_word, .int m_bad, .int m_badPlace, .int m_fault, .int m_faultPlace, .ref mlines, .ref mhas, .ref mtold, .ref mlaw, .ref msuit, .ref mapart, .ref mact, .ref misKept, .ref mseen, .ref mhung, .int z0_1, .ref mgoal, .ref mleaps, .ref mqueue, .ref mrow, .int m_reached, .ref mwanted, .ref mfirst, .ref moften, .int m_fitMany, .int m_fitFirst, .int m_askBest, .int m_askLeaves, .int m_bestFirst, .int m_bestWays, .ref mlots, .ref mthen, .long w_12])), (mhas, .inl (cyI, 20, .inl m_has)), (mtold, .inl (cyI, 35, .inl m_told)), (mlaw, .inl (cyI, 120, .inl m_law)), (mact, .inl (cyI, 400, .inl m_act)), (mhung, .inl (cyI, 7, .inl y1_2)), (mlots, .inl (cyJ, 7, .inr (.inl f_13))), (mthen, .inl (cyJ, 7, .inr (.inl f_14)))]) [0, 1, 2, 3, 4, 5, 6, 7] (by decide) rfl
              exact W.vret hx hb hr (fun t ht hW => ⟨⟨(), rfl, trivial, ⟨z0_1, w_12, y1_2, f_13, f_14, (by omega), hp_4, (lots_end hlo9 (by omega)), by rw [ht]; exact hP9, hD9⟩⟩, hS.F ht⟩) hS.2.2 dX12_laysLots_214
            · have c_16 : u_11.toInt < p0.toInt := cv_nle c_16
              refine lv_iconst (v := 0) hx hb dX12_laysLots_58 (by decide) ?_
              refine lv_istore_n (lv' := [(3, .int 0), (2, .int u_11), (0, .ref m0), (1, .int p0)]) hx hb dX12_laysLots_59 rfl hl (by decide) rfl (fun ls hl => ?_)
              have key_19 : ∀ (nkey_19 : Nat) (u_17 : Int32) (f_18 : Nat → Int64) (H : Heap) (locs : List Loc) (ls : Array Slot), (0 ≤ u_17.toInt ∧ u_17.toInt ≤ 7) → va_P (dC, dI) vwCl [(m0, .inr (11, [.int m_thrown, .ref mwidth, .ref mmany, .ref mcells, .ref mmoved, .ref mtape, .int m_taped, .int m_at, .int m_token, .int m_place, .int m_value, .long m_word, .int m_bad, .int m_badPlace, .int m_fault, .int m_faultPlace, .ref mlines, .ref mhas, .ref mtold, .ref mlaw, .ref msuit, .ref mapart, .ref mact, .ref misKept, .ref mseen, .ref mhung, .int z0_1, .ref mgoal, .ref mleaps, .ref mqueue, .ref mrow, .int m_reached, .ref mwanted, .ref mfirst, .ref moften, .int m_fitMany, .int m_fitFirst, .int m_askBest, .int m_askLeaves, .int m_bestFirst, .int m_bestWays, .ref mlots, .ref mthen, .long w_12])), (mhas, .inl (cyI, 20, .inl m_has)), (mtold, .inl (cyI, 35, .inl m_told)), (mlaw, .inl (cyI, 120, .inl m_law)), (mact, .inl (cyI, 400, .inl m_act)), (mhung, .inl (cyI, 7, .inl y1_2)), (mlots, .inl (cyJ, 7, .inr (.inl f_13))), (mthen, .inl (cyJ, 7, .inr (.inl f_18)))] H → va_D A [(m0, .inr (11, [.int m_thrown, .ref mwidth, .ref mmany, .ref mcells, .ref mmoved, .ref mtape, .int m_taped, .int m_at, .int m_token, .int m_place, .int m_value, .long m_word, .int m_bad, .int m_badPlace, .int m_fault, .int m_faultPlace, .ref mlines, .ref mhas, .ref mtold, .ref mlaw, .ref msuit, .ref mapart, .ref mact, .ref misKept, .ref mseen, .ref mhung, .int z0_1, .ref mgoal, .ref mleaps, .ref mqueue, .ref mrow, .int m_reached, .ref mwanted, .ref mfirst, .ref moften, .int m_fitMany, .int m_fitFirst, .int m_askBest, .int m_askLeaves, .int m_bestFirst, .int m_bestWays, .ref mlots, .ref mthen, .long w_12])), (mhas, .inl (cyI, 20, .inl m_has)), (mtold, .inl (cyI, 35, .inl m_told)), (mlaw, .inl (cyI, 120, .inl m_law)), (mact, .inl (cyI, 400, .inl m_act)), (mhung, .inl (cyI, 7, .inl y1_2)), (mlots, .inl (cyJ, 7, .inr (.inl f_13))), (mthen, .inl (cyJ, 7, .inr (.inl f_18)))] → va_S A s.heap H locs → lv_has ls 5 [(3, .int u_17), (2, .int u_11), (0, .ref m0), (1, .int p0)] → ((m_has 0).toInt - u_17.toInt).toNat < nkey_19 → W p l e ({ frames := 4, cells := 0, slots := 0, locals := 128 }) s m ([.ref m0, .int p0] : List Value).toArray below meth c H locs 0 0 Q9 (F0 m 60 ls []) := by
                intro nkey_19
                induction nkey_19 with
                | zero => intro u_17 f_18 H locs ls hu_17 hP hD hS hl hnkey_19; exact absurd hnkey_19 (Nat.not_lt_zero _)
                | succ nkey_19 ihkey_19 =>
                  intro u_17 f_18 H locs ls hu_17 hP hD hS hl hnkey_19
                  refine lv_iload_n hx hb dX12_laysLots_60 rfl (lv_at hl 0 rfl) ?_
                  refine lv_aload_n hx hb dX12_laysLots_61 rfl (lv_at hl 2 rfl) ?_
                  have hPc := hP.sub (ws' := [(m0, .inr (11, [.int m_thrown, .ref mwidth, .ref mmany, .ref mcells, .ref mmoved, .ref mtape, .int m_taped, .int m_at, .int m_token, .int m_place, .int m_value, .long m_word, .int m_bad, .int m_badPlace, .int m_fault, .int m_faultPlace, .ref mlines, .ref mhas, .ref mtold, .ref mlaw, .ref msuit, .ref mapart, .ref mact, .ref misKept, .ref mseen, .ref mhung, .int z0_1, .ref mgoal, .ref mleaps, .ref mqueue, .ref mrow, .int m_reached, .ref mwanted, .ref mfirst, .ref moften, .int m_fitMany, .int m_fitFirst, .int m_askBest, .int m_askLeaves, .int m_bestFirst, .int m_bestWays, .ref mlots, .ref mthen, .long w_12])), (mhas, .inl (cyI, 20, .inl m_has))]) [0, 1] rfl
                  have hKc := hK.sub (tys' := [(cyI, .int), (cyB, .byte), (cyJ, .long), (cyZ, .boolean), (cyH, .object RX2), (cyN, .array .long)]) [0, 1, 2, 3, 4, 5] rfl
                  refine vp_callSi (va_Run.run (va_runV (As := []) (rest := [.int u_17]) ⟨hx, hb, hml, hown, hts⟩ (m_places l dC dI cyI cyB cyJ cyZ cyH cyN m0 mwidth mmany mcells mmoved mtape mlines mhas mtold mlaw msuit mapart mact misKept mseen mhung mgoal mleaps mqueue mrow mwanted mfirst moften mlots mthen m_thrown m_taped m_at m_token m_place m_value m_word m_bad m_badPlace m_fault m_faultPlace z0_1 m_reached m_fitMany m_fitFirst m_askBest m_askLeaves m_bestFirst m_bestWays w_12 m_has (by omega) (by omega) (by omega) g6 g7 g8) (cwV 0 hts (gdV wd_7_86 wd_7_88 wd_s4_14 wd_1_11 wd_7_89) rfl rfl rfl (by decide +kernel) ⟨Nat.le_of_ble_eq_true rfl, Nat.le_of_ble_eq_true rfl⟩) ⟨fun a U g mk q => by obtain ⟨q0, qP, qK⟩ := q; exact ⟨q0, qP, va_K.moved (u := U) (U := U.calling g mk a) (Vm.Alike.refl U.vm) qK⟩, va_recv hKc hPc (ci := 11) (q0 := 0) rfl rfl, fun U hU hW => ⟨rfl, by rw [hU]; exact hPc, va_K.moved hW.alike hKc⟩⟩ rfl rfl hl.1 rfl (lv_room (Nat.le_of_ble_eq_true rfl)) dX12_laysLots_62 ⟨Nat.le_of_ble_eq_true rfl, Nat.le_of_ble_eq_true rfl⟩)) (fun r_20 hw => ?_)
                  subst hw
                  refine lv_icmp_ge (tgt := 164) hx hb dX12_laysLots_65 (by decide) (fun c_21 => ?_) (fun c_21 => ?_)
                  · have c_21 : (m_has 0).toInt ≤ u_17.toInt := cv_le c_21
                    refine lv_iconst (v := 0) hx hb dX12_laysLots_164 (by decide) ?_
                    refine lv_istore_n (lv' := [(3, .int 0), (2, .int u_11), (0, .ref m0), (1, .int p0)]) hx hb dX12_laysLots_165 rfl hl (by decide) rfl (fun ls hl => ?_)
                    have key_24 : ∀ (nkey_24 : Nat) (u_22 : Int32) (f_23 : Nat → Int64) (H : Heap) (locs : List Loc) (ls : Array Slot), (0 ≤ u_22.toInt ∧ u_22.toInt ≤ 7) → va_P (dC, dI) vwCl [(m0, .inr (11, [.int m_thrown, .ref mwidth, .ref mmany, .ref mcells, .ref mmoved, .ref mtape, .int m_taped, .int m_at, .int m_token, .int m_place, .int m_value, .long m_word, .int m_bad, .int m_badPlace, .int m_fault, .int m_faultPlace, .ref mlines, .ref mhas, .ref mtold, .ref mlaw, .ref msuit, .ref mapart, .ref mact, .ref misKept, .ref mseen, .ref mhung, .int z0_1, .ref mgoal, .ref mleaps, .ref mqueue, .ref mrow, .int m_reached, .ref mwanted, .ref mfirst, .ref moften, .int m_fitMany, .int m_fitFirst, .int m_askBest, .int m_askLeaves, .int m_bestFirst, .int m_bestWays, .ref mlots, .ref mthen, .long w_12])), (mhas, .inl (cyI, 20, .inl m_has)), (mtold, .inl (cyI, 35, .inl m_told)), (mlaw, .inl (cyI, 120, .inl m_law)), (mact, .inl (cyI, 400, .inl m_act)), (mhung, .inl (cyI, 7, .inl y1_2)), (mlots, .inl (cyJ, 7, .inr (.inl f_23))), (mthen, .inl (cyJ, 7, .inr (.inl f_18)))] H → va_D A [(m0, .inr (11, [.int m_thrown, .ref mwidth, .ref mmany, .ref mcells, .ref mmoved, .ref mtape, .int m_taped, .int m_at, .int m_token, .int m_place, .int m_value, .long m_word, .int m_bad, .int m_badPlace, .int m_fault, .int m_faultPlace, .ref mlines, .ref mhas, .ref mtold, .ref mlaw, .ref msuit, .ref mapart, .ref mact, .ref misKept, .ref mseen, .ref mhung, .int z0_1, .ref mgoal, .ref mleaps, .ref mqueue, .ref mrow, .int m_reached, .ref mwanted, .ref mfirst, .ref moften, .int m_fitMany, .int m_fitFirst, .int m_askBest, .int m_askLeaves, .int m_bestFirst, .int m_bestWays, .ref mlots, .ref mthen, .long w_12])), (mhas, .inl (cyI, 20, .inl m_has)), (mtold, .inl (cyI, 35, .inl m_told)), (mlaw, .inl (cyI, 120, .inl m_law)), (mact, .inl (cyI, 400, .inl m_act)), (mhung, .inl (cyI, 7, .inl y1_2)), (mlots, .inl (cyJ, 7, .inr (.inl f_23))), (mthen, .inl (cyJ, 7, .inr (.inl f_18)))] → va_S A s.heap H locs → lv_has ls 5 [(3, .int u_22), (2, .int u_11), (0, .ref m0), (1, .int p0)] → ((m_has 0).toInt - u_22.toInt).toNat < nkey_24 → W p l e ({ frames := 4, cells := 0, slots := 0, locals := 128 }) s m ([.ref m0, .int p0] : List Value).toArray below meth c H locs 0 0 Q9 (F0 m 166 ls []) := by
                      intro nkey_24
                      induction nkey_24 with
                      | zero => intro u_22 f_23 H locs ls hu_22 hP hD hS hl hnkey_24; exact absurd hnkey_24 (Nat.not_lt_zero _)
                      | succ nkey_24 ihkey_24 =>
                        intro u_22 f_23 H locs ls hu_22 hP hD hS hl hnkey_24
                        refine lv_iload_n hx hb dX12_laysLots_166 rfl (lv_at hl 0 rfl) ?_
                        refine lv_aload_n hx hb dX12_laysLots_167 rfl (lv_at hl 2 rfl) ?_
                        have hPc := hP.sub (ws' := [(m0, .inr (11, [.int m_thrown, .ref mwidth, .ref mmany, .ref mcells, .ref mmoved, .ref mtape, .int m_taped, .int m_at, .int m_token, .int m_place, .int m_value, .long m_word, .int m_bad, .int m_badPlace, .int m_fault, .int m_faultPlace, .ref mlines, .ref mhas, .ref mtold, .ref mlaw, .ref msuit, .ref mapart, .ref mact, .ref misKept, .ref mseen, .ref mhung, .int z0_1, .ref mgoal, .ref mleaps, .ref mqueue, .ref mrow, .int m_reached, .ref mwanted, .ref mfirst, .ref moften, .int m_fitMany, .int m_fitFirst, .int m_askBest, .int m_askLeaves, .int m_bestFirst, .int m_bestWays, .ref mlots, .ref mthen, .long w_12])), (mhas, .inl (cyI, 20, .inl m_has))]) [0, 1] rfl
                        have hKc := hK.sub (tys' := [(cyI, .int), (cyB, .byte), (cyJ, .long), (cyZ, .boolean), (cyH, .object RX2), (cyN, .array .long)]) [0, 1, 2, 3, 4, 5] rfl
                        refine vp_callSi (va_Run.run (va_runV (As := []) (rest := [.int u_22]) ⟨hx, hb, hml, hown, hts⟩ (m_places l dC dI cyI cyB cyJ cyZ cyH cyN m0 mwidth mmany mcells mmoved mtape mlines mhas mtold mlaw msuit mapart mact misKept mseen mhung mgoal mleaps mqueue mrow mwanted mfirst moften mlots mthen m_thrown m_taped m_at m_token m_place m_value m_word m_bad m_badPlace m_fault m_faultPlace z0_1 m_reached m_fitMany m_fitFirst m_askBest m_askLeaves m_bestFirst m_bestWays w_12 m_has (by omega) (by omega) (by omega) g6 g7 g8) (cwV 0 hts (gdV wd_7_86 wd_7_88 wd_s4_14 wd_1_11 wd_7_89) rfl rfl rfl (by decide +kernel) ⟨Nat.le_of_ble_eq_true rfl, Nat.le_of_ble_eq_true rfl⟩) ⟨fun a U g mk q => by obtain ⟨q0, qP, qK⟩ := q; exact ⟨q0, qP, va_K.moved (u := U) (U := U.calling g mk a) (Vm.Alike.refl U.vm) qK⟩, va_recv hKc hPc (ci := 11) (q0 := 0) rfl rfl, fun U hU hW => ⟨rfl, by rw [hU]; exact hPc, va_K.moved hW.alike hKc⟩⟩ rfl rfl hl.1 rfl (lv_room (Nat.le_of_ble_eq_true rfl)) dX12_laysLots_168 ⟨Nat.le_of_ble_eq_true rfl, Nat.le_of_ble_eq_true rfl⟩)) (fun r_25 hw => ?_)
                        subst hw
                        refine lv_icmp_ge (tgt := 192) hx hb dX12_laysLots_171 (by decide) (fun c_26 => ?_) (fun c_26 => ?_)
                        · have c_26 : (m_has 0).toInt ≤ u_22.toInt := cv_le c_26
                          refine lv_aload_n hx hb dX12_laysLots_192 rfl (lv_at hl 2 rfl) ?_
                          refine lv_dup hx hb dX12_laysLots_193 rfl ?_
                          refine va_get (D := (dC, dI)) (ci := 11) (v := .long w_12) (C := RX12) (T := TX12) (N := 44) hx hb hts uinX12 hown hK hP 0 rfl rfl 43 (by decide) (hts _ wd_6_80) (fun _ h9 => h9) rfl dX12_laysLots_194 ?_
                          refine lv_aload_n hx hb dX12_laysLots_197 rfl (lv_at hl 2 rfl) ?_
                          have hPc := hP.sub (ws' := [(m0, .inr (11, [.int m_thrown, .ref mwidth, .ref mmany, .ref mcells, .ref mmoved, .ref mtape, .int m_taped, .int m_at, .int m_token, .int m_place, .int m_value, .long m_word, .int m_bad, .int m_badPlace, .int m_fault, .int m_faultPlace, .ref mlines, .ref mhas, .ref mtold, .ref mlaw, .ref msuit, .ref mapart, .ref mact, .ref misKept, .ref mseen, .ref mhung, .int z0_1, .ref mgoal, .ref mleaps, .ref mqueue, .ref mrow, .int m_reached, .ref mwanted, .ref mfirst, .ref moften, .int m_fitMany, .int m_fitFirst, .int m_askBest, .int m_askLeaves, .int m_bestFirst, .int m_bestWays, .ref mlots, .ref mthen, .long w_12])), (mhas, .inl (cyI, 20, .inl m_has))]) [0, 1] rfl
                          have hKc := hK.sub (tys' := [(cyI, .int), (cyB, .byte), (cyJ, .long), (cyZ, .boolean), (cyH, .object RX2), (cyN, .array .long)]) [0, 1, 2, 3, 4, 5] rfl
                          refine vp_callSi (va_Run.run (va_runV (As := []) (rest := [.long w_12, .ref m0]) ⟨hx, hb, hml, hown, hts⟩ (m_places l dC dI cyI cyB cyJ cyZ cyH cyN m0 mwidth mmany mcells mmoved mtape mlines mhas mtold mlaw msuit mapart mact misKept mseen mhung mgoal mleaps mqueue mrow mwanted mfirst moften mlots mthen m_thrown m_taped m_at m_token m_place m_value m_word m_bad m_badPlace m_fault m_faultPlace z0_1 m_reached m_fitMany m_fitFirst m_askBest m_askLeaves m_bestFirst m_bestWays w_12 m_has (by omega) (by omega) (by omega) g6 g7 g8) (cwV 0 hts (gdV wd_7_86 wd_7_88 wd_s4_14 wd_1_11 wd_7_89) rfl rfl rfl (by decide +kernel) ⟨Nat.le_of_ble_eq_true rfl, Nat.le_of_ble_eq_true rfl⟩) ⟨fun a U g mk q => by obtain ⟨q0, qP, qK⟩ := q; exact ⟨q0, qP, va_K.moved (u := U) (U := U.calling g mk a) (Vm.Alike.refl U.vm) qK⟩, va_recv hKc hPc (ci := 11) (q0 := 0) rfl rfl, fun U hU hW => ⟨rfl, by rw [hU]; exact hPc, va_K.moved hW.alike hKc⟩⟩ rfl rfl hl.1 rfl (lv_room (Nat.le_of_ble_eq_true rfl)) dX12_laysLots_198 ⟨Nat.le_of_ble_eq_true rfl, Nat.le_of_ble_eq_true rfl⟩)) (fun r_27 hw => ?_)
                          subst hw
                          refine lv_iconst (v := 1) hx hb dX12_laysLots_201 (by decide) ?_
                          refine lv_isub hx hb dX12_laysLots_202 ?_
                          refine lv_topi (fun x_28 ex_28 => ?_)
                          have fx_28 : x_28.toInt = (m_has 0).toInt - 1 := by rw [ex_28]; exact cv_subI (by have : (1 : Int32).toInt = 1 := rfl; omega) (by have : (1 : Int32).toInt = 1 := rfl; omega)
                          obtain ⟨y_29, ey_29⟩ : ∃ z : Int64, z = x_28.toInt64 := ⟨_, rfl⟩
                          have fy_29 : y_29.toInt = x_28.toInt := by rw [ey_29]; exact Int32.toInt_toInt64 _
                          refine lv_i2l (v := y_29) hx hb dX12_laysLots_203 ey_29.symm ?_
                          refine lv_lmul hx hb dX12_laysLots_204 ?_
                          refine lv_topl (fun y_30 ey_30 => ?_)
                          refine va_put (D := (dC, dI)) (ci := 11) (v := .long y_30) (ty := .long) (C := RX12) (T := TX12) (N := 44) hx hb hts uinX12 tyX12 tyX12_ok nmX12 hown hK hP hD hS 0 rfl rfl 43 (by decide) (hts _ wd_6_80) (fun _ h9 => h9) rfl (by decide +kernel) rfl rfl (Nat.le_of_ble_eq_true rfl) dX12_laysLots_205 (fun H locs hP hD hS => ?_)
                          have hP : va_P (dC, dI) vwCl [(m0, .inr (11, [.int m_thrown, .ref mwidth, .ref mmany, .ref mcells, .ref mmoved, .ref mtape, .int m_taped, .int m_at, .int m_token, .int m_place, .int m_value, .long m_word, .int m_bad, .int m_badPlace, .int m_fault, .int m_faultPlace, .ref mlines, .ref mhas, .ref mtold, .ref mlaw, .ref msuit, .ref mapart, .ref mact, .ref misKept, .ref mseen, .ref mhung, .int z0_1, .ref mgoal, .ref mleaps, .ref mqueue, .ref mrow, .int m_reached, .ref mwanted, .ref mfirst, .ref moften, .int m_fitMany, .int m_fitFirst, .int m_askBest, .int m_askLeaves, .int m_bestFirst, .int m_bestWays, .ref mlots, .ref mthen, .long y_30])), (mhas, .inl (cyI, 20, .inl m_has)), (mtold, .inl (cyI, 35, .inl m_told)), (mlaw, .inl (cyI, 120, .inl m_law)), (mact, .inl (cyI, 400, .inl m_act)), (mhung, .inl (cyI, 7, .inl y1_2)), (mlots, .inl (cyJ, 7, .inr (.inl f_23))), (mthen, .inl (cyJ, 7, .inr (.inl f_18)))] H := hP
                          have hD : va_D A [(m0, .inr (11, [.int m_thrown, .ref mwidth, .ref mmany, .ref mcells, .ref mmoved, .ref mtape, .int m_taped, .int m_at, .int m_token, .int m_place, .int m_value, .long m_word, .int m_bad, .int m_badPlace, .int m_fault, .int m_faultPlace, .ref mlines, .ref mhas, .ref mtold, .ref mlaw, .ref msuit, .ref mapart, .ref mact, .ref misKept, .ref mseen, .ref mhung, .int z0_1, .ref mgoal, .ref mleaps, .ref mqueue, .ref mrow, .int m_reached, .ref mwanted, .ref mfirst, .ref moften, .int m_fitMany, .int m_fitFirst, .int m_askBest, .int m_askLeaves, .int m_bestFirst, .int m_bestWays, .ref mlots, .ref mthen, .long y_30])), (mhas, .inl (cyI, 20, .inl m_has)), (mtold, .inl (cyI, 35, .inl m_told)), (mlaw, .inl (cyI, 120, .inl m_law)), (mact, .inl (cyI, 400, .inl m_act)), (mhung, .inl (cyI, 7, .inl y1_2)), (mlots, .inl (cyJ, 7, .inr (.inl f_23))), (mthen, .inl (cyJ, 7, .inr (.inl f_18)))] := hD
                          obtain ⟨x_31, ex_31⟩ : ∃ y : Int32, y = u_11 + 1 := ⟨_, rfl⟩
                          refine lv_iinc (v := x_31) (lv' := [(2, .int x_31), (3, .int u_22), (0, .ref m0), (1, .int p0)]) hx hb dX12_laysLots_208 hl (k := 1) rfl (by rw [ex_31]; rfl) (by decide) rfl (fun ls hl => ?_)
                          have fx_31 : x_31.toInt = u_11.toInt + 1 := by rw [ex_31]; exact cv_addI (by have : (1 : Int32).toInt = 1 := rfl; omega) (by have : (1 : Int32).toInt = 1 := rfl; omega)
                          refine lv_goto (tgt := 53) hx hb dX12_laysLots_211 (by decide) ?_
                          exact ihkey_15 x_31 y_30 f_23 f_18 _ _ _ (by omega) (lots_step hlo9 (by assumption) (by omega) (by omega) (by omega) (by omega)) (by omega) hP hD hS (lv_sub hl [0, 2, 3] rfl) (by omega)
                        · have c_26 : u_22.toInt < (m_has 0).toInt := cv_nle c_26
                          refine lv_aload_n hx hb dX12_laysLots_174 rfl (lv_at hl 2 rfl) ?_
                          refine va_get (D := (dC, dI)) (ci := 11) (v := .ref mlots) (C := RX12) (T := TX12) (N := 44) hx hb hts uinX12 hown hK hP 0 rfl rfl 41 (by decide) (hts _ wd_6_78) (fun _ h9 => h9) rfl dX12_laysLots_175 ?_
                          refine lv_iload_n hx hb dX12_laysLots_178 rfl (lv_at hl 0 rfl) ?_
                          refine lv_aload_n hx hb dX12_laysLots_179 rfl (lv_at hl 2 rfl) ?_
                          refine va_get (D := (dC, dI)) (ci := 11) (v := .ref mthen) (C := RX12) (T := TX12) (N := 44) hx hb hts uinX12 hown hK hP 0 rfl rfl 42 (by decide) (hts _ wd_6_79) (fun _ h9 => h9) rfl dX12_laysLots_180 ?_
                          refine lv_iload_n hx hb dX12_laysLots_183 rfl (lv_at hl 0 rfl) ?_
                          refine va_lald hx hb hK hP 7 2 rfl rfl (vp_in_iff.mpr (by omega)) dX12_laysLots_184 ?_
                          refine lv_topl (fun x_32 ex_32 => ?_)
                          refine va_last hx hb hK hP hD hS 6 2 rfl rfl (vp_in_iff.mpr (by omega)) dX12_laysLots_185 (fun H locs hP hD hS => ?_)
                          obtain ⟨f_33, ef_33⟩ : ∃ z9 : Nat → Int64, z9 = vp_updL f_23 u_22.toNatClampNeg x_32 := ⟨_, rfl⟩
                          rw [← ef_33] at hP hD
                          have hP : va_P (dC, dI) vwCl [(m0, .inr (11, [.int m_thrown, .ref mwidth, .ref mmany, .ref mcells, .ref mmoved, .ref mtape, .int m_taped, .int m_at, .int m_token, .int m_place, .int m_value, .long m_word, .int m_bad, .int m_badPlace, .int m_fault, .int m_faultPlace, .ref mlines, .ref mhas, .ref mtold, .ref mlaw, .ref msuit, .ref mapart, .ref mact, .ref misKept, .ref mseen, .ref mhung, .int z0_1, .ref mgoal, .ref mleaps, .ref mqueue, .ref mrow, .int m_reached, .ref mwanted, .ref mfirst, .ref moften, .int m_fitMany, .int m_fitFirst, .int m_askBest, .int m_askLeaves, .int m_bestFirst, .int m_bestWays, .ref mlots, .ref mthen, .long w_12])), (mhas, .inl (cyI, 20, .inl m_has)), (mtold, .inl (cyI, 35, .inl m_told)), (mlaw, .inl (cyI, 120, .inl m_law)), (mact, .inl (cyI, 400, .inl m_act)), (mhung, .inl (cyI, 7, .inl y1_2)), (mlots, .inl (cyJ, 7, .inr (.inl f_33))), (mthen, .inl (cyJ, 7, .inr (.inl f_18)))] H := hP
                          have hD : va_D A [(m0, .inr (11, [.int m_thrown, .ref mwidth, .ref mmany, .ref mcells, .ref mmoved, .ref mtape, .int m_taped, .int m_at, .int m_token, .int m_place, .int m_value, .long m_word, .int m_bad, .int m_badPlace, .int m_fault, .int m_faultPlace, .ref mlines, .ref mhas, .ref mtold, .ref mlaw, .ref msuit, .ref mapart, .ref mact, .ref misKept, .ref mseen, .ref mhung, .int z0_1, .ref mgoal, .ref mleaps, .ref mqueue, .ref mrow, .int m_reached, .ref mwanted, .ref mfirst, .ref moften, .int m_fitMany, .int m_fitFirst, .int m_askBest, .int m_askLeaves, .int m_bestFirst, .int m_bestWays, .ref mlots, .ref mthen, .long w_12])), (mhas, .inl (cyI, 20, .inl m_has)), (mtold, .inl (cyI, 35, .inl m_told)), (mlaw, .inl (cyI, 120, .inl m_law)), (mact, .inl (cyI, 400, .inl m_act)), (mhung, .inl (cyI, 7, .inl y1_2)), (mlots, .inl (cyJ, 7, .inr (.inl f_33))), (mthen, .inl (cyJ, 7, .inr (.inl f_18)))] := hD
                          obtain ⟨x_34, ex_34⟩ : ∃ y : Int32, y = u_22 + 1 := ⟨_, rfl⟩
                          refine lv_iinc (v := x_34) (lv' := [(3, .int x_34), (2, .int u_11), (0, .ref m0), (1, .int p0)]) hx hb dX12_laysLots_186 hl (k := 0) rfl (by rw [ex_34]; rfl) (by decide) rfl (fun ls hl => ?_)
                          have fx_34 : x_34.toInt = u_22.toInt + 1 := by rw [ex_34]; exact cv_addI (by have : (1 : Int32).toInt = 1 := rfl; omega) (by have : (1 : Int32).toInt = 1 := rfl; omega)
                          refine lv_goto (tgt := 166) hx hb dX12_laysLots_189 (by decide) ?_
                          exact ihkey_24 x_34 f_33 _ _ _ (by omega) hP hD hS (lv_sub hl [0, 1, 2, 3] rfl) (by omega)
                    exact key_24 _ 0 f_13 _ _ _ (by decide) hP hD hS (lv_sub hl [0, 1, 2, 3] rfl) (Nat.lt_succ_self _)
                  · have c_21 : u_17.toInt < (m_has 0).toInt := cv_nle c_21
                    refine lv_iload_n hx hb dX12_laysLots_68 rfl (lv_at hl 0 rfl) ?_
                    have join_36 : ∀ (u_35 : Int32) (H : Heap) (locs : List Loc) (ls : Array Slot), (0 ≤ u_35.toInt ∧ u_35.toInt ≤ 1) → va_P (dC, dI) vwCl [(m0, .inr (11, [.int m_thrown, .ref mwidth, .ref mmany, .ref mcells, .ref mmoved, .ref mtape, .int m_taped, .int m_at, .int m_token, .int m_place, .int m_value, .long m_word, .int m_bad, .int m_badPlace, .int m_fault, .int m_faultPlace, .ref mlines, .ref mhas, .ref mtold, .ref mlaw, .ref msuit, .ref mapart, .ref mact, .ref misKept, .ref mseen, .ref mhung, .int z0_1, .ref mgoal, .ref mleaps, .ref mqueue, .ref mrow, .int m_reached, .ref mwanted, .ref mfirst, .ref moften, .int m_fitMany, .int m_fitFirst, .int m_askBest, .int m_askLeaves, .int m_bestFirst, .int m_bestWays, .ref mlots, .ref mthen, .long w_12])), (mhas, .inl (cyI, 20, .inl m_has)), (mtold, .inl (cyI, 35, .inl m_told)), (mlaw, .inl (cyI, 120, .inl m_law)), (mact, .inl (cyI, 400, .inl m_act)), (mhung, .inl (cyI, 7, .inl y1_2)), (mlots, .inl (cyJ, 7, .inr (.inl f_13))), (mthen, .inl (cyJ, 7, .inr (.inl f_18)))] H → va_D A [(m0, .inr (11, [.int m_thrown, .ref mwidth, .ref mmany, .ref mcells, .ref mmoved, .ref mtape, .int m_taped, .int m_at, .int m_token, .int m_place, .int m_value, .long m_word, .int m_bad, .int m_badPlace, .int m_fault, .int m_faultPlace, .ref mlines, .ref mhas, .ref mtold, .ref mlaw, .ref msuit, .ref mapart, .ref mact, .ref misKept, .ref mseen, .ref mhung, .int z0_1, .ref mgoal, .ref mleaps, .ref mqueue, .ref mrow, .int m_reached, .ref mwanted, .ref mfirst, .ref moften, .int m_fitMany, .int m_fitFirst, .int m_askBest, .int m_askLeaves, .int m_bestFirst, .int m_bestWays, .ref mlots, .ref mthen, .long w_12])), (mhas, .inl (cyI, 20, .inl m_has)), (mtold, .inl (cyI, 35, .inl m_told)), (mlaw, .inl (cyI, 120, .inl m_law)), (mact, .inl (cyI, 400, .inl m_act)), (mhung, .inl (cyI, 7, .inl y1_2)), (mlots, .inl (cyJ, 7, .inr (.inl f_13))), (mthen, .inl (cyJ, 7, .inr (.inl f_18)))] → va_S A s.heap H locs → lv_has ls 5 [(3, .int u_17), (2, .int u_11), (0, .ref m0), (1, .int p0)] → W p l e ({ frames := 4, cells := 0, slots := 0, locals := 128 }) s m ([.ref m0, .int p0] : List Value).toArray below meth c H locs 0 0 Q9 (F0 m 77 ls [.int u_35]) := by
                      intro u_35 H locs ls hu_35 hP hD hS hl
                      refine lv_iload_n hx hb dX12_laysLots_77 rfl (lv_at hl 0 rfl) ?_
                      refine lv_iconst (v := 1) hx hb dX12_laysLots_78 (by decide) ?_
                      refine lv_iadd hx hb dX12_laysLots_79 ?_
                      refine lv_topi (fun x_37 ex_37 => ?_)
                      have fx_37 : x_37.toInt = u_17.toInt + 1 := by rw [ex_37]; exact cv_addI (by have : (1 : Int32).toInt = 1 := rfl; omega) (by have : (1 : Int32).toInt = 1 := rfl; omega)
                      refine lv_aload_n hx hb dX12_laysLots_80 rfl (lv_at hl 2 rfl) ?_
                      have hPc := hP.sub (ws' := [(m0, .inr (11, [.int m_thrown, .ref mwidth, .ref mmany, .ref mcells, .ref mmoved, .ref mtape, .int m_taped, .int m_at, .int m_token, .int m_place, .int m_value, .long m_word, .int m_bad, .int m_badPlace, .int m_fault, .int m_faultPlace, .ref mlines, .ref mhas, .ref mtold, .ref mlaw, .ref msuit, .ref mapart, .ref mact, .ref misKept, .ref mseen, .ref mhung, .int z0_1, .ref mgoal, .ref mleaps, .ref mqueue, .ref mrow, .int m_reached, .ref mwanted, .ref mfirst, .ref moften, .int m_fitMany, .int m_fitFirst, .int m_askBest, .int m_askLeaves, .int m_bestFirst, .int m_bestWays, .ref mlots, .ref mthen, .long w_12])), (mhas, .inl (cyI, 20, .inl m_has))]) [0, 1] rfl
                      have hKc := hK.sub (tys' := [(cyI, .int), (cyB, .byte), (cyJ, .long), (cyZ, .boolean), (cyH, .object RX2), (cyN, .array .long)]) [0, 1, 2, 3, 4, 5] rfl
                      refine vp_callSi (va_Run.run (va_runV (As := []) (rest := [.int x_37, .int u_35]) ⟨hx, hb, hml, hown, hts⟩ (m_places l dC dI cyI cyB cyJ cyZ cyH cyN m0 mwidth mmany mcells mmoved mtape mlines mhas mtold mlaw msuit mapart mact misKept mseen mhung mgoal mleaps mqueue mrow mwanted mfirst moften mlots mthen m_thrown m_taped m_at m_token m_place m_value m_word m_bad m_badPlace m_fault m_faultPlace z0_1 m_reached m_fitMany m_fitFirst m_askBest m_askLeaves m_bestFirst m_bestWays w_12 m_has (by omega) (by omega) (by omega) g6 g7 g8) (cwV 0 hts (gdV wd_7_86 wd_7_88 wd_s4_14 wd_1_11 wd_7_89) rfl rfl rfl (by decide +kernel) ⟨Nat.le_of_ble_eq_true rfl, Nat.le_of_ble_eq_true rfl⟩) ⟨fun a U g mk q => by obtain ⟨q0, qP, qK⟩ := q; exact ⟨q0, qP, va_K.moved (u := U) (U := U.calling g mk a) (Vm.Alike.refl U.vm) qK⟩, va_recv hKc hPc (ci := 11) (q0 := 0) rfl rfl, fun U hU hW => ⟨rfl, by rw [hU]; exact hPc, va_K.moved hW.alike hKc⟩⟩ rfl rfl hl.1 rfl (lv_room (Nat.le_of_ble_eq_true rfl)) dX12_laysLots_81 ⟨Nat.le_of_ble_eq_true rfl, Nat.le_of_ble_eq_true rfl⟩)) (fun r_38 hw => ?_)
                      subst hw
                      have join_40 : ∀ (u_39 : Int32) (H : Heap) (locs : List Loc) (ls : Array Slot), (0 ≤ u_39.toInt ∧ u_39.toInt ≤ 1) → va_P (dC, dI) vwCl [(m0, .inr (11, [.int m_thrown, .ref mwidth, .ref mmany, .ref mcells, .ref mmoved, .ref mtape, .int m_taped, .int m_at, .int m_token, .int m_place, .int m_value, .long m_word, .int m_bad, .int m_badPlace, .int m_fault, .int m_faultPlace, .ref mlines, .ref mhas, .ref mtold, .ref mlaw, .ref msuit, .ref mapart, .ref mact, .ref misKept, .ref mseen, .ref mhung, .int z0_1, .ref mgoal, .ref mleaps, .ref mqueue, .ref mrow, .int m_reached, .ref mwanted, .ref mfirst, .ref moften, .int m_fitMany, .int m_fitFirst, .int m_askBest, .int m_askLeaves, .int m_bestFirst, .int m_bestWays, .ref mlots, .ref mthen, .long w_12])), (mhas, .inl (cyI, 20, .inl m_has)), (mtold, .inl (cyI, 35, .inl m_told)), (mlaw, .inl (cyI, 120, .inl m_law)), (mact, .inl (cyI, 400, .inl m_act)), (mhung, .inl (cyI, 7, .inl y1_2)), (mlots, .inl (cyJ, 7, .inr (.inl f_13))), (mthen, .inl (cyJ, 7, .inr (.inl f_18)))] H → va_D A [(m0, .inr (11, [.int m_thrown, .ref mwidth, .ref mmany, .ref mcells, .ref mmoved, .ref mtape, .int m_taped, .int m_at, .int m_token, .int m_place, .int m_value, .long m_word, .int m_bad, .int m_badPlace, .int m_fault, .int m_faultPlace, .ref mlines, .ref mhas, .ref mtold, .ref mlaw, .ref msuit, .ref mapart, .ref mact, .ref misKept, .ref mseen, .ref mhung, .int z0_1, .ref mgoal, .ref mleaps, .ref mqueue, .ref mrow, .int m_reached, .ref mwanted, .ref mfirst, .ref moften, .int m_fitMany, .int m_fitFirst, .int m_askBest, .int m_askLeaves, .int m_bestFirst, .int m_bestWays, .ref mlots, .ref mthen, .long w_12])), (mhas, .inl (cyI, 20, .inl m_has)), (mtold, .inl (cyI, 35, .inl m_told)), (mlaw, .inl (cyI, 120, .inl m_law)), (mact, .inl (cyI, 400, .inl m_act)), (mhung, .inl (cyI, 7, .inl y1_2)), (mlots, .inl (cyJ, 7, .inr (.inl f_13))), (mthen, .inl (cyJ, 7, .inr (.inl f_18)))] → va_S A s.heap H locs → lv_has ls 5 [(3, .int u_17), (2, .int u_11), (0, .ref m0), (1, .int p0)] → W p l e ({ frames := 4, cells := 0, slots := 0, locals := 128 }) s m ([.ref m0, .int p0] : List Value).toArray below meth c H locs 0 0 Q9 (F0 m 92 ls [.int u_39, .int u_35]) := by
                        intro u_39 H locs ls hu_39 hP hD hS hl
                        refine lv_iadd hx hb dX12_laysLots_92 ?_
                        refine lv_topi (fun x_41 ex_41 => ?_)
                        have fx_41 : x_41.toInt = u_35.toInt + u_39.toInt := by rw [ex_41]; exact cv_addI (by omega) (by omega)
                        refine lv_istore (lv' := [(4, .int x_41), (3, .int u_17), (2, .int u_11), (0, .ref m0), (1, .int p0)]) hx hb dX12_laysLots_93 hl (by decide) rfl (fun ls hl => ?_)
                        refine lv_aload_n hx hb dX12_laysLots_95 rfl (lv_at hl 3 rfl) ?_
                        refine va_get (D := (dC, dI)) (ci := 11) (v := .ref mthen) (C := RX12) (T := TX12) (N := 44) hx hb hts uinX12 hown hK hP 0 rfl rfl 42 (by decide) (hts _ wd_6_79) (fun _ h9 => h9) rfl dX12_laysLots_96 ?_
                        refine lv_iload_n hx hb dX12_laysLots_99 rfl (lv_at hl 1 rfl) ?_
                        refine lv_aload_n hx hb dX12_laysLots_100 rfl (lv_at hl 3 rfl) ?_
                        refine va_get (D := (dC, dI)) (ci := 11) (v := .ref mlots) (C := RX12) (T := TX12) (N := 44) hx hb hts uinX12 hown hK hP 0 rfl rfl 41 (by decide) (hts _ wd_6_78) (fun _ h9 => h9) rfl dX12_laysLots_101 ?_
                        refine lv_iload_n hx hb dX12_laysLots_104 rfl (lv_at hl 1 rfl) ?_
                        refine va_lald hx hb hK hP 6 2 rfl rfl (vp_in_iff.mpr (by omega)) dX12_laysLots_105 ?_
                        refine lv_topl (fun x_42 ex_42 => ?_)
                        refine lv_aload_n hx hb dX12_laysLots_106 rfl (lv_at hl 3 rfl) ?_
                        have hPc := hP.sub (ws' := [(m0, .inr (11, [.int m_thrown, .ref mwidth, .ref mmany, .ref mcells, .ref mmoved, .ref mtape, .int m_taped, .int m_at, .int m_token, .int m_place, .int m_value, .long m_word, .int m_bad, .int m_badPlace, .int m_fault, .int m_faultPlace, .ref mlines, .ref mhas, .ref mtold, .ref mlaw, .ref msuit, .ref mapart, .ref mact, .ref misKept, .ref mseen, .ref mhung, .int z0_1, .ref mgoal, .ref mleaps, .ref mqueue, .ref mrow, .int m_reached, .ref mwanted, .ref mfirst, .ref moften, .int m_fitMany, .int m_fitFirst, .int m_askBest, .int m_askLeaves, .int m_bestFirst, .int m_bestWays, .ref mlots, .ref mthen, .long w_12])), (mhas, .inl (cyI, 20, .inl m_has))]) [0, 1] rfl
                        have hKc := hK.sub (tys' := [(cyI, .int), (cyB, .byte), (cyJ, .long), (cyZ, .boolean), (cyH, .object RX2), (cyN, .array .long)]) [0, 1, 2, 3, 4, 5] rfl
                        refine vp_callSi (va_Run.run (va_runV (As := []) (rest := [.long x_42, .int u_17, .ref mthen]) ⟨hx, hb, hml, hown, hts⟩ (m_places l dC dI cyI cyB cyJ cyZ cyH cyN m0 mwidth mmany mcells mmoved mtape mlines mhas mtold mlaw msuit mapart mact misKept mseen mhung mgoal mleaps mqueue mrow mwanted mfirst moften mlots mthen m_thrown m_taped m_at m_token m_place m_value m_word m_bad m_badPlace m_fault m_faultPlace z0_1 m_reached m_fitMany m_fitFirst m_askBest m_askLeaves m_bestFirst m_bestWays w_12 m_has (by omega) (by omega) (by omega) g6 g7 g8) (cwV 0 hts (gdV wd_7_86 wd_7_88 wd_s4_14 wd_1_11 wd_7_89) rfl rfl rfl (by decide +kernel) ⟨Nat.le_of_ble_eq_true rfl, Nat.le_of_ble_eq_true rfl⟩) ⟨fun a U g mk q => by obtain ⟨q0, qP, qK⟩ := q; exact ⟨q0, qP, va_K.moved (u := U) (U := U.calling g mk a) (Vm.Alike.refl U.vm) qK⟩, va_recv hKc hPc (ci := 11) (q0 := 0) rfl rfl, fun U hU hW => ⟨rfl, by rw [hU]; exact hPc, va_K.moved hW.alike hKc⟩⟩ rfl rfl hl.1 rfl (lv_room (Nat.le_of_ble_eq_true rfl)) dX12_laysLots_107 ⟨Nat.le_of_ble_eq_true rfl, Nat.le_of_ble_eq_true rfl⟩)) (fun r_43 hw => ?_)
                        subst hw
                        refine lv_iconst (v := 1) hx hb dX12_laysLots_110 (by decide) ?_
                        refine lv_isub hx hb dX12_laysLots_111 ?_
                        refine lv_topi (fun x_44 ex_44 => ?_)
                        have fx_44 : x_44.toInt = (m_has 0).toInt - 1 := by rw [ex_44]; exact cv_subI (by have : (1 : Int32).toInt = 1 := rfl; omega) (by have : (1 : Int32).toInt = 1 := rfl; omega)
                        refine lv_iload hx hb dX12_laysLots_112 (lv_at hl 0 rfl) ?_
                        refine lv_isub hx hb dX12_laysLots_114 ?_
                        refine lv_topi (fun x_45 ex_45 => ?_)
                        have fx_45 : x_45.toInt = x_44.toInt - x_41.toInt := by rw [ex_45]; exact cv_subI (by omega) (by omega)
                        obtain ⟨y_46, ey_46⟩ : ∃ z : Int64, z = x_45.toInt64 := ⟨_, rfl⟩
                        have fy_46 : y_46.toInt = x_45.toInt := by rw [ey_46]; exact Int32.toInt_toInt64 _
                        refine lv_i2l (v := y_46) hx hb dX12_laysLots_115 ey_46.symm ?_
                        refine lv_lmul hx hb dX12_laysLots_116 ?_
                        refine lv_topl (fun y_47 ey_47 => ?_)
                        refine lv_iload_n hx hb dX12_laysLots_117 rfl (lv_at hl 1 rfl) ?_
                        have join_49 : ∀ (u_48 : Int64) (H : Heap) (locs : List Loc) (ls : Array Slot), va_P (dC, dI) vwCl [(m0, .inr (11, [.int m_thrown, .ref mwidth, .ref mmany, .ref mcells, .ref mmoved, .ref mtape, .int m_taped, .int m_at, .int m_token, .int m_place, .int m_value, .long m_word, .int m_bad, .int m_badPlace, .int m_fault, .int m_faultPlace, .ref mlines, .ref mhas, .ref mtold, .ref mlaw, .ref msuit, .ref mapart, .ref mact, .ref misKept, .ref mseen, .ref mhung, .int z0_1, .ref mgoal, .ref mleaps, .ref mqueue, .ref mrow, .int m_reached, .ref mwanted, .ref mfirst, .ref moften, .int m_fitMany, .int m_fitFirst, .int m_askBest, .int m_askLeaves, .int m_bestFirst, .int m_bestWays, .ref mlots, .ref mthen, .long w_12])), (mhas, .inl (cyI, 20, .inl m_has)), (mtold, .inl (cyI, 35, .inl m_told)), (mlaw, .inl (cyI, 120, .inl m_law)), (mact, .inl (cyI, 400, .inl m_act)), (mhung, .inl (cyI, 7, .inl y1_2)), (mlots, .inl (cyJ, 7, .inr (.inl f_13))), (mthen, .inl (cyJ, 7, .inr (.inl f_18)))] H → va_D A [(m0, .inr (11, [.int m_thrown, .ref mwidth, .ref mmany, .ref mcells, .ref mmoved, .ref mtape, .int m_taped, .int m_at, .int m_token, .int m_place, .int m_value, .long m_word, .int m_bad, .int m_badPlace, .int m_fault, .int m_faultPlace, .ref mlines, .ref mhas, .ref mtold, .ref mlaw, .ref msuit, .ref mapart, .ref mact, .ref misKept, .ref mseen, .ref mhung, .int z0_1, .ref mgoal, .ref mleaps, .ref mqueue, .ref mrow, .int m_reached, .ref mwanted, .ref mfirst, .ref moften, .int m_fitMany, .int m_fitFirst, .int m_askBest, .int m_askLeaves, .int m_bestFirst, .int m_bestWays, .ref mlots, .ref mthen, .long w_12])), (mhas, .inl (cyI, 20, .inl m_has)), (mtold, .inl (cyI, 35, .inl m_told)), (mlaw, .inl (cyI, 120, .inl m_law)), (mact, .inl (cyI, 400, .inl m_act)), (mhung, .inl (cyI, 7, .inl y1_2)), (mlots, .inl (cyJ, 7, .inr (.inl f_13))), (mthen, .inl (cyJ, 7, .inr (.inl f_18)))] → va_S A s.heap H locs → lv_has ls 5 [(4, .int x_41), (3, .int u_17), (2, .int u_11), (0, .ref m0), (1, .int p0)] → W p l e ({ frames := 4, cells := 0, slots := 0, locals := 128 }) s m ([.ref m0, .int p0] : List Value).toArray below meth c H locs 0 0 Q9 (F0 m 133 ls [.long u_48, .long y_47, .int u_17, .ref mthen]) := by
                          intro u_48 H locs ls hP hD hS hl
                          refine lv_ladd hx hb dX12_laysLots_133 ?_
                          refine lv_topl (fun y_50 ey_50 => ?_)
                          refine lv_iload_n hx hb dX12_laysLots_134 rfl (lv_at hl 1 rfl) ?_
                          refine lv_iconst (v := 1) hx hb dX12_laysLots_135 (by decide) ?_
                          refine lv_iadd hx hb dX12_laysLots_136 ?_
                          refine lv_topi (fun x_51 ex_51 => ?_)
                          have fx_51 : x_51.toInt = u_17.toInt + 1 := by rw [ex_51]; exact cv_addI (by have : (1 : Int32).toInt = 1 := rfl; omega) (by have : (1 : Int32).toInt = 1 := rfl; omega)
                          refine lv_aload_n hx hb dX12_laysLots_137 rfl (lv_at hl 3 rfl) ?_
                          have hPc := hP.sub (ws' := [(m0, .inr (11, [.int m_thrown, .ref mwidth, .ref mmany, .ref mcells, .ref mmoved, .ref mtape, .int m_taped, .int m_at, .int m_token, .int m_place, .int m_value, .long m_word, .int m_bad, .int m_badPlace, .int m_fault, .int m_faultPlace, .ref mlines, .ref mhas, .ref mtold, .ref mlaw, .ref msuit, .ref mapart, .ref mact, .ref misKept, .ref mseen, .ref mhung, .int z0_1, .ref mgoal, .ref mleaps, .ref mqueue, .ref mrow, .int m_reached, .ref mwanted, .ref mfirst, .ref moften, .int m_fitMany, .int m_fitFirst, .int m_askBest, .int m_askLeaves, .int m_bestFirst, .int m_bestWays, .ref mlots, .ref mthen, .long w_12])), (mhas, .inl (cyI, 20, .inl m_has))]) [0, 1] rfl
                          have hKc := hK.sub (tys' := [(cyI, .int), (cyB, .byte), (cyJ, .long), (cyZ, .boolean), (cyH, .object RX2), (cyN, .array .long)]) [0, 1, 2, 3, 4, 5] rfl
                          refine vp_callSi (va_Run.run (va_runV (As := []) (rest := [.int x_51, .long y_50, .int u_17, .ref mthen]) ⟨hx, hb, hml, hown, hts⟩ (m_places l dC dI cyI cyB cyJ cyZ cyH cyN m0 mwidth mmany mcells mmoved mtape mlines mhas mtold mlaw msuit mapart mact misKept mseen mhung mgoal mleaps mqueue mrow mwanted mfirst moften mlots mthen m_thrown m_taped m_at m_token m_place m_value m_word m_bad m_badPlace m_fault m_faultPlace z0_1 m_reached m_fitMany m_fitFirst m_askBest m_askLeaves m_bestFirst m_bestWays w_12 m_has (by omega) (by omega) (by omega) g6 g7 g8) (cwV 0 hts (gdV wd_7_86 wd_7_88 wd_s4_14 wd_1_11 wd_7_89) rfl rfl rfl (by decide +kernel) ⟨Nat.le_of_ble_eq_true rfl, Nat.le_of_ble_eq_true rfl⟩) ⟨fun a U g mk q => by obtain ⟨q0, qP, qK⟩ := q; exact ⟨q0, qP, va_K.moved (u := U) (U := U.calling g mk a) (Vm.Alike.refl U.vm) qK⟩, va_recv hKc hPc (ci := 11) (q0 := 0) rfl rfl, fun U hU hW => ⟨rfl, by rw [hU]; exact hPc, va_K.moved hW.alike hKc⟩⟩ rfl rfl hl.1 rfl (lv_room (Nat.le_of_ble_eq_true rfl)) dX12_laysLots_138 ⟨Nat.le_of_ble_eq_true rfl, Nat.le_of_ble_eq_true rfl⟩)) (fun r_52 hw => ?_)
                          subst hw
                          have join_54 : ∀ (u_53 : Int64) (H : Heap) (locs : List Loc) (ls : Array Slot), va_P (dC, dI) vwCl [(m0, .inr (11, [.int m_thrown, .ref mwidth, .ref mmany, .ref mcells, .ref mmoved, .ref mtape, .int m_taped, .int m_at, .int m_token, .int m_place, .int m_value, .long m_word, .int m_bad, .int m_badPlace, .int m_fault, .int m_faultPlace, .ref mlines, .ref mhas, .ref mtold, .ref mlaw, .ref msuit, .ref mapart, .ref mact, .ref misKept, .ref mseen, .ref mhung, .int z0_1, .ref mgoal, .ref mleaps, .ref mqueue, .ref mrow, .int m_reached, .ref mwanted, .ref mfirst, .ref moften, .int m_fitMany, .int m_fitFirst, .int m_askBest, .int m_askLeaves, .int m_bestFirst, .int m_bestWays, .ref mlots, .ref mthen, .long w_12])), (mhas, .inl (cyI, 20, .inl m_has)), (mtold, .inl (cyI, 35, .inl m_told)), (mlaw, .inl (cyI, 120, .inl m_law)), (mact, .inl (cyI, 400, .inl m_act)), (mhung, .inl (cyI, 7, .inl y1_2)), (mlots, .inl (cyJ, 7, .inr (.inl f_13))), (mthen, .inl (cyJ, 7, .inr (.inl f_18)))] H → va_D A [(m0, .inr (11, [.int m_thrown, .ref mwidth, .ref mmany, .ref mcells, .ref mmoved, .ref mtape, .int m_taped, .int m_at, .int m_token, .int m_place, .int m_value, .long m_word, .int m_bad, .int m_badPlace, .int m_fault, .int m_faultPlace, .ref mlines, .ref mhas, .ref mtold, .ref mlaw, .ref msuit, .ref mapart, .ref mact, .ref misKept, .ref mseen, .ref mhung, .int z0_1, .ref mgoal, .ref mleaps, .ref mqueue, .ref mrow, .int m_reached, .ref mwanted, .ref mfirst, .ref moften, .int m_fitMany, .int m_fitFirst, .int m_askBest, .int m_askLeaves, .int m_bestFirst, .int m_bestWays, .ref mlots, .ref mthen, .long w_12])), (mhas, .inl (cyI, 20, .inl m_has)), (mtold, .inl (cyI, 35, .inl m_told)), (mlaw, .inl (cyI, 120, .inl m_law)), (mact, .inl (cyI, 400, .inl m_act)), (mhung, .inl (cyI, 7, .inl y1_2)), (mlots, .inl (cyJ, 7, .inr (.inl f_13))), (mthen, .inl (cyJ, 7, .inr (.inl f_18)))] → va_S A s.heap H locs → lv_has ls 5 [(4, .int x_41), (3, .int u_17), (2, .int u_11), (0, .ref m0), (1, .int p0)] → W p l e ({ frames := 4, cells := 0, slots := 0, locals := 128 }) s m ([.ref m0, .int p0] : List Value).toArray below meth c H locs 0 0 Q9 (F0 m 156 ls [.long u_53, .long y_50, .int u_17, .ref mthen]) := by
                            intro u_53 H locs ls hP hD hS hl
                            refine lv_ladd hx hb dX12_laysLots_156 ?_
                            refine lv_topl (fun y_55 ey_55 => ?_)
                            refine va_last hx hb hK hP hD hS 7 2 rfl rfl (vp_in_iff.mpr (by omega)) dX12_laysLots_157 (fun H locs hP hD hS => ?_)
                            obtain ⟨f_56, ef_56⟩ : ∃ z9 : Nat → Int64, z9 = vp_updL f_18 u_17.toNatClampNeg y_55 := ⟨_, rfl⟩
                            rw [← ef_56] at hP hD
                            have hP : va_P (dC, dI) vwCl [(m0, .inr (11, [.int m_thrown, .ref mwidth, .ref mmany, .ref mcells, .ref mmoved, .ref mtape, .int m_taped, .int m_at, .int m_token, .int m_place, .int m_value, .long m_word, .int m_bad, .int m_badPlace, .int m_fault, .int m_faultPlace, .ref mlines, .ref mhas, .ref mtold, .ref mlaw, .ref msuit, .ref mapart, .ref mact, .ref misKept, .ref mseen, .ref mhung, .int z0_1, .ref mgoal, .ref mleaps, .ref mqueue, .ref mrow, .int m_reached, .ref mwanted, .ref mfirst, .ref moften, .int m_fitMany, .int m_fitFirst, .int m_askBest, .int m_askLeaves, .int m_bestFirst, .int m_bestWays, .ref mlots, .ref mthen, .long w_12])), (mhas, .inl (cyI, 20, .inl m_has)), (mtold, .inl (cyI, 35, .inl m_told)), (mlaw, .inl (cyI, 120, .inl m_law)), (mact, .inl (cyI, 400, .inl m_act)), (mhung, .inl (cyI, 7, .inl y1_2)), (mlots, .inl (cyJ, 7, .inr (.inl f_13))), (mthen, .inl (cyJ, 7, .inr (.inl f_56)))] H := hP
                            have hD : va_D A [(m0, .inr (11, [.int m_thrown, .ref mwidth, .ref mmany, .ref mcells, .ref mmoved, .ref mtape, .int m_taped, .int m_at, .int m_token, .int m_place, .int m_value, .long m_word, .int m_bad, .int m_badPlace, .int m_fault, .int m_faultPlace, .ref mlines, .ref mhas, .ref mtold, .ref mlaw, .ref msuit, .ref mapart, .ref mact, .ref misKept, .ref mseen, .ref mhung, .int z0_1, .ref mgoal, .ref mleaps, .ref mqueue, .ref mrow, .int m_reached, .ref mwanted, .ref mfirst, .ref moften, .int m_fitMany, .int m_fitFirst, .int m_askBest, .int m_askLeaves, .int m_bestFirst, .int m_bestWays, .ref mlots, .ref mthen, .long w_12])), (mhas, .inl (cyI, 20, .inl m_has)), (mtold, .inl (cyI, 35, .inl m_told)), (mlaw, .inl (cyI, 120, .inl m_law)), (mact, .inl (cyI, 400, .inl m_act)), (mhung, .inl (cyI, 7, .inl y1_2)), (mlots, .inl (cyJ, 7, .inr (.inl f_13))), (mthen, .inl (cyJ, 7, .inr (.inl f_56)))] := hD
                            obtain ⟨x_57, ex_57⟩ : ∃ y : Int32, y = u_17 + 1 := ⟨_, rfl⟩
                            refine lv_iinc (v := x_57) (lv' := [(3, .int x_57), (4, .int x_41), (2, .int u_11), (0, .ref m0), (1, .int p0)]) hx hb dX12_laysLots_158 hl (k := 1) rfl (by rw [ex_57]; rfl) (by decide) rfl (fun ls hl => ?_)
                            have fx_57 : x_57.toInt = u_17.toInt + 1 := by rw [ex_57]; exact cv_addI (by have : (1 : Int32).toInt = 1 := rfl; omega) (by have : (1 : Int32).toInt = 1 := rfl; omega)
                            refine lv_goto (tgt := 60) hx hb dX12_laysLots_161 (by decide) ?_
                            exact ihkey_19 x_57 f_56 _ _ _ (by omega) hP hD hS (lv_sub hl [0, 2, 3, 4] rfl) (by omega)
                          refine lv_icmp_ge (tgt := 155) hx hb dX12_laysLots_141 (by decide) (fun c_58 => ?_) (fun c_58 => ?_)
                          · have c_58 : (m_has 0).toInt ≤ x_51.toInt := cv_le c_58
                            refine lv_lconst (v := 0) hx hb dX12_laysLots_155 (by decide) ?_
                            exact join_54 0 _ _ _ hP hD hS (lv_sub hl [0, 1, 2, 3, 4] rfl)
                          · have c_58 : x_51.toInt < (m_has 0).toInt := cv_nle c_58
                            refine lv_aload_n hx hb dX12_laysLots_144 rfl (lv_at hl 3 rfl) ?_
                            refine va_get (D := (dC, dI)) (ci := 11) (v := .ref mlots) (C := RX12) (T := TX12) (N := 44) hx hb hts uinX12 hown hK hP 0 rfl rfl 41 (by decide) (hts _ wd_6_78) (fun _ h9 => h9) rfl dX12_laysLots_145 ?_
                            refine lv_iload_n hx hb dX12_laysLots_148 rfl (lv_at hl 1 rfl) ?_
                            refine lv_iconst (v := 1) hx hb dX12_laysLots_149 (by decide) ?_
                            refine lv_iadd hx hb dX12_laysLots_150 ?_
                            refine lv_topi (fun x_59 ex_59 => ?_)
                            have fx_59 : x_59.toInt = u_17.toInt + 1 := by rw [ex_59]; exact cv_addI (by have : (1 : Int32).toInt = 1 := rfl; omega) (by have : (1 : Int32).toInt = 1 := rfl; omega)
                            refine va_lald hx hb hK hP 6 2 rfl rfl (vp_in_iff.mpr (by omega)) dX12_laysLots_151 ?_
                            refine lv_topl (fun x_60 ex_60 => ?_)
                            refine lv_goto (tgt := 156) hx hb dX12_laysLots_152 (by decide) ?_
                            exact join_54 x_60 _ _ _ hP hD hS (lv_sub hl [0, 1, 2, 3, 4] rfl)
                        refine lv_if_le (tgt := 132) hx hb dX12_laysLots_118 (by decide) (fun c_61 => ?_) (fun c_61 => ?_)
                        · have c_61 : u_17.toInt ≤ 0 := cv_le c_61
                          refine lv_lconst (v := 0) hx hb dX12_laysLots_132 (by decide) ?_
                          exact join_49 0 _ _ _ hP hD hS (lv_sub hl [0, 1, 2, 3, 4] rfl)
                        · have c_61 : 0 < u_17.toInt := cv_nle c_61
                          refine lv_aload_n hx hb dX12_laysLots_121 rfl (lv_at hl 3 rfl) ?_
                          refine va_get (D := (dC, dI)) (ci := 11) (v := .ref mlots) (C := RX12) (T := TX12) (N := 44) hx hb hts uinX12 hown hK hP 0 rfl rfl 41 (by decide) (hts _ wd_6_78) (fun _ h9 => h9) rfl dX12_laysLots_122 ?_
                          refine lv_iload_n hx hb dX12_laysLots_125 rfl (lv_at hl 1 rfl) ?_
                          refine lv_iconst (v := 1) hx hb dX12_laysLots_126 (by decide) ?_
                          refine lv_isub hx hb dX12_laysLots_127 ?_
                          refine lv_topi (fun x_62 ex_62 => ?_)
                          have fx_62 : x_62.toInt = u_17.toInt - 1 := by rw [ex_62]; exact cv_subI (by have : (1 : Int32).toInt = 1 := rfl; omega) (by have : (1 : Int32).toInt = 1 := rfl; omega)
                          refine va_lald hx hb hK hP 6 2 rfl rfl (vp_in_iff.mpr (by omega)) dX12_laysLots_128 ?_
                          refine lv_topl (fun x_63 ex_63 => ?_)
                          refine lv_goto (tgt := 133) hx hb dX12_laysLots_129 (by decide) ?_
                          exact join_49 x_63 _ _ _ hP hD hS (lv_sub hl [0, 1, 2, 3, 4] rfl)
                      refine lv_icmp_ge (tgt := 91) hx hb dX12_laysLots_84 (by decide) (fun c_64 => ?_) (fun c_64 => ?_)
                      · have c_64 : (m_has 0).toInt ≤ x_37.toInt := cv_le c_64
                        refine lv_iconst (v := 0) hx hb dX12_laysLots_91 (by decide) ?_
                        exact join_40 0 _ _ _ (by decide) hP hD hS (lv_sub hl [0, 1, 2, 3] rfl)
                      · have c_64 : x_37.toInt < (m_has 0).toInt := cv_nle c_64
                        refine lv_iconst (v := 1) hx hb dX12_laysLots_87 (by decide) ?_
                        refine lv_goto (tgt := 92) hx hb dX12_laysLots_88 (by decide) ?_
                        exact join_40 1 _ _ _ (by decide) hP hD hS (lv_sub hl [0, 1, 2, 3] rfl)
                    refine lv_if_le (tgt := 76) hx hb dX12_laysLots_69 (by decide) (fun c_65 => ?_) (fun c_65 => ?_)
                    · have c_65 : u_17.toInt ≤ 0 := cv_le c_65
                      refine lv_iconst (v := 0) hx hb dX12_laysLots_76 (by decide) ?_
                      exact join_36 0 _ _ _ (by decide) hP hD hS (lv_sub hl [0, 1, 2, 3] rfl)
                    · have c_65 : 0 < u_17.toInt := cv_nle c_65
                      refine lv_iconst (v := 1) hx hb dX12_laysLots_72 (by decide) ?_
                      refine lv_goto (tgt := 77) hx hb dX12_laysLots_73 (by decide) ?_
                      exact join_36 1 _ _ _ (by decide) hP hD hS (lv_sub hl [0, 1, 2, 3] rfl)
              exact key_19 _ 0 f_14 _ _ _ (by decide) hP hD hS (lv_sub hl [0, 1, 2, 3] rfl) (Nat.lt_succ_self _)
        exact key_15 _ 0 1 f_7 m_then _ _ _ (by decide) (by decide) (by decide) hP hD hS (lv_sub hl [0, 1, 2] rfl) (Nat.lt_succ_self _)
      · have c_10 : u_6.toInt < (m_has 0).toInt := cv_nle c_10
        refine lv_aload_n hx hb dX12_laysLots_14 rfl (lv_at hl 1 rfl) ?_
        refine va_get (D := (dC, dI)) (ci := 11) (v := .ref mlots) (C := RX12) (T := TX12) (N := 44) hx hb hts uinX12 hown hK hP 0 rfl rfl 41 (by decide) (hts _ wd_6_78) (fun _ h9 => h9) rfl dX12_laysLots_15 ?_
        refine lv_iload_n hx hb dX12_laysLots_18 rfl (lv_at hl 0 rfl) ?_
        refine lv_aload_n hx hb dX12_laysLots_19 rfl (lv_at hl 1 rfl) ?_
        refine va_get (D := (dC, dI)) (ci := 11) (v := .ref mhung) (C := RX12) (T := TX12) (N := 44) hx hb hts uinX12 hown hK hP 0 rfl rfl 25 (by decide) (hts _ wd_6_62) (fun _ h9 => h9) rfl dX12_laysLots_20 ?_
        refine lv_iload_n hx hb dX12_laysLots_23 rfl (lv_at hl 0 rfl) ?_
        refine va_iald hx hb hK hP 5 0 rfl rfl (vp_in_iff.mpr (by omega)) dX12_laysLots_24 ?_
        refine lv_topi (fun x_66 ex_66 => ?_)
        have fx_66 : 0 ≤ x_66.toInt ∧ x_66.toInt ≤ 6 := by rw [ex_66]; exact hp_4 _ (cv_ix (by omega) (by omega))
        refine lv_aload_n hx hb dX12_laysLots_25 rfl (lv_at hl 1 rfl) ?_
        have hPc := hP.sub (ws' := [(m0, .inr (11, [.int m_thrown, .ref mwidth, .ref mmany, .ref mcells, .ref mmoved, .ref mtape, .int m_taped, .int m_at, .int m_token, .int m_place, .int m_value, .long m_word, .int m_bad, .int m_badPlace, .int m_fault, .int m_faultPlace, .ref mlines, .ref mhas, .ref mtold, .ref mlaw, .ref msuit, .ref mapart, .ref mact, .ref misKept, .ref mseen, .ref mhung, .int z0_1, .ref mgoal, .ref mleaps, .ref mqueue, .ref mrow, .int m_reached, .ref mwanted, .ref mfirst, .ref moften, .int m_fitMany, .int m_fitFirst, .int m_askBest, .int m_askLeaves, .int m_bestFirst, .int m_bestWays, .ref mlots, .ref mthen, .long m_lotsAll])), (mhas, .inl (cyI, 20, .inl m_has))]) [0, 1] rfl
        have hKc := hK.sub (tys' := [(cyI, .int), (cyB, .byte), (cyJ, .long), (cyZ, .boolean), (cyH, .object RX2), (cyN, .array .long)]) [0, 1, 2, 3, 4, 5] rfl
        refine vp_callSi (va_Run.run (va_runV (As := []) (rest := [.int x_66, .int u_6, .ref mlots]) ⟨hx, hb, hml, hown, hts⟩ (m_places l dC dI cyI cyB cyJ cyZ cyH cyN m0 mwidth mmany mcells mmoved mtape mlines mhas mtold mlaw msuit mapart mact misKept mseen mhung mgoal mleaps mqueue mrow mwanted mfirst moften mlots mthen m_thrown m_taped m_at m_token m_place m_value m_word m_bad m_badPlace m_fault m_faultPlace z0_1 m_reached m_fitMany m_fitFirst m_askBest m_askLeaves m_bestFirst m_bestWays m_lotsAll m_has (by omega) (by omega) (by omega) g6 g7 g8) (cwV 0 hts (gdV wd_7_86 wd_7_88 wd_s4_14 wd_1_11 wd_7_89) rfl rfl rfl (by decide +kernel) ⟨Nat.le_of_ble_eq_true rfl, Nat.le_of_ble_eq_true rfl⟩) ⟨fun a U g mk q => by obtain ⟨q0, qP, qK⟩ := q; exact ⟨q0, qP, va_K.moved (u := U) (U := U.calling g mk a) (Vm.Alike.refl U.vm) qK⟩, va_recv hKc hPc (ci := 11) (q0 := 0) rfl rfl, fun U hU hW => ⟨rfl, by rw [hU]; exact hPc, va_K.moved hW.alike hKc⟩⟩ rfl rfl hl.1 rfl (lv_room (Nat.le_of_ble_eq_true rfl)) dX12_laysLots_26 ⟨Nat.le_of_ble_eq_true rfl, Nat.le_of_ble_eq_true rfl⟩)) (fun r_67 hw => ?_)
        subst hw
        refine lv_iconst (v := 1) hx hb dX12_laysLots_29 (by decide) ?_
        refine lv_isub hx hb dX12_laysLots_30 ?_
        refine lv_topi (fun x_68 ex_68 => ?_)
        have fx_68 : x_68.toInt = (m_has 0).toInt - 1 := by rw [ex_68]; exact cv_subI (by have : (1 : Int32).toInt = 1 := rfl; omega) (by have : (1 : Int32).toInt = 1 := rfl; omega)
        have join_70 : ∀ (u_69 : Int64) (H : Heap) (locs : List Loc) (ls : Array Slot), (0 ≤ u_69.toInt ∧ u_69.toInt ≤ 1) → va_P (dC, dI) vwCl [(m0, .inr (11, [.int m_thrown, .ref mwidth, .ref mmany, .ref mcells, .ref mmoved, .ref mtape, .int m_taped, .int m_at, .int m_token, .int m_place, .int m_value, .long m_word, .int m_bad, .int m_badPlace, .int m_fault, .int m_faultPlace, .ref mlines, .ref mhas, .ref mtold, .ref mlaw, .ref msuit, .ref mapart, .ref mact, .ref misKept, .ref mseen, .ref mhung, .int z0_1, .ref mgoal, .ref mleaps, .ref mqueue, .ref mrow, .int m_reached, .ref mwanted, .ref mfirst, .ref moften, .int m_fitMany, .int m_fitFirst, .int m_askBest, .int m_askLeaves, .int m_bestFirst, .int m_bestWays, .ref mlots, .ref mthen, .long m_lotsAll])), (mhas, .inl (cyI, 20, .inl m_has)), (mtold, .inl (cyI, 35, .inl m_told)), (mlaw, .inl (cyI, 120, .inl m_law)), (mact, .inl (cyI, 400, .inl m_act)), (mhung, .inl (cyI, 7, .inl y1_2)), (mlots, .inl (cyJ, 7, .inr (.inl f_7))), (mthen, .inl (cyJ, 7, .inr (.inl m_then)))] H → va_D A [(m0, .inr (11, [.int m_thrown, .ref mwidth, .ref mmany, .ref mcells, .ref mmoved, .ref mtape, .int m_taped, .int m_at, .int m_token, .int m_place, .int m_value, .long m_word, .int m_bad, .int m_badPlace, .int m_fault, .int m_faultPlace, .ref mlines, .ref mhas, .ref mtold, .ref mlaw, .ref msuit, .ref mapart, .ref mact, .ref misKept, .ref mseen, .ref mhung, .int z0_1, .ref mgoal, .ref mleaps, .ref mqueue, .ref mrow, .int m_reached, .ref mwanted, .ref mfirst, .ref moften, .int m_fitMany, .int m_fitFirst, .int m_askBest, .int m_askLeaves, .int m_bestFirst, .int m_bestWays, .ref mlots, .ref mthen, .long m_lotsAll])), (mhas, .inl (cyI, 20, .inl m_has)), (mtold, .inl (cyI, 35, .inl m_told)), (mlaw, .inl (cyI, 120, .inl m_law)), (mact, .inl (cyI, 400, .inl m_act)), (mhung, .inl (cyI, 7, .inl y1_2)), (mlots, .inl (cyJ, 7, .inr (.inl f_7))), (mthen, .inl (cyJ, 7, .inr (.inl m_then)))] → va_S A s.heap H locs → lv_has ls 5 [(2, .int u_6), (0, .ref m0), (1, .int p0)] → W p l e ({ frames := 4, cells := 0, slots := 0, locals := 128 }) s m ([.ref m0, .int p0] : List Value).toArray below meth c H locs 0 0 Q9 (F0 m 39 ls [.long u_69, .int u_6, .ref mlots]) := by
          intro u_69 H locs ls hu_69 hP hD hS hl
          refine va_last hx hb hK hP hD hS 6 2 rfl rfl (vp_in_iff.mpr (by omega)) dX12_laysLots_39 (fun H locs hP hD hS => ?_)
          obtain ⟨f_71, ef_71⟩ : ∃ z9 : Nat → Int64, z9 = vp_updL f_7 u_6.toNatClampNeg u_69 := ⟨_, rfl⟩
          rw [← ef_71] at hP hD
          have hP : va_P (dC, dI) vwCl [(m0, .inr (11, [.int m_thrown, .ref mwidth, .ref mmany, .ref mcells, .ref mmoved, .ref mtape, .int m_taped, .int m_at, .int m_token, .int m_place, .int m_value, .long m_word, .int m_bad, .int m_badPlace, .int m_fault, .int m_faultPlace, .ref mlines, .ref mhas, .ref mtold, .ref mlaw, .ref msuit, .ref mapart, .ref mact, .ref misKept, .ref mseen, .ref mhung, .int z0_1, .ref mgoal, .ref mleaps, .ref mqueue, .ref mrow, .int m_reached, .ref mwanted, .ref mfirst, .ref moften, .int m_fitMany, .int m_fitFirst, .int m_askBest, .int m_askLeaves, .int m_bestFirst, .int m_bestWays, .ref mlots, .ref mthen, .long m_lotsAll])), (mhas, .inl (cyI, 20, .inl m_has)), (mtold, .inl (cyI, 35, .inl m_told)), (mlaw, .inl (cyI, 120, .inl m_law)), (mact, .inl (cyI, 400, .inl m_act)), (mhung, .inl (cyI, 7, .inl y1_2)), (mlots, .inl (cyJ, 7, .inr (.inl f_71))), (mthen, .inl (cyJ, 7, .inr (.inl m_then)))] H := hP
          have hD : va_D A [(m0, .inr (11, [.int m_thrown, .ref mwidth, .ref mmany, .ref mcells, .ref mmoved, .ref mtape, .int m_taped, .int m_at, .int m_token, .int m_place, .int m_value, .long m_word, .int m_bad, .int m_badPlace, .int m_fault, .int m_faultPlace, .ref mlines, .ref mhas, .ref mtold, .ref mlaw, .ref msuit, .ref mapart, .ref mact, .ref misKept, .ref mseen, .ref mhung, .int z0_1, .ref mgoal, .ref mleaps, .ref mqueue, .ref mrow, .int m_reached, .ref mwanted, .ref mfirst, .ref moften, .int m_fitMany, .int m_fitFirst, .int m_askBest, .int m_askLeaves, .int m_bestFirst, .int m_bestWays, .ref mlots, .ref mthen, .long m_lotsAll])), (mhas, .inl (cyI, 20, .inl m_has)), (mtold, .inl (cyI, 35, .inl m_told)), (mlaw, .inl (cyI, 120, .inl m_law)), (mact, .inl (cyI, 400, .inl m_act)), (mhung, .inl (cyI, 7, .inl y1_2)), (mlots, .inl (cyJ, 7, .inr (.inl f_71))), (mthen, .inl (cyJ, 7, .inr (.inl m_then)))] := hD
          obtain ⟨x_72, ex_72⟩ : ∃ y : Int32, y = u_6 + 1 := ⟨_, rfl⟩
          refine lv_iinc (v := x_72) (lv' := [(2, .int x_72), (0, .ref m0), (1, .int p0)]) hx hb dX12_laysLots_40 hl (k := 0) rfl (by rw [ex_72]; rfl) (by decide) rfl (fun ls hl => ?_)
          have fx_72 : x_72.toInt = u_6.toInt + 1 := by rw [ex_72]; exact cv_addI (by have : (1 : Int32).toInt = 1 := rfl; omega) (by have : (1 : Int32).toInt = 1 := rfl; omega)
          refine lv_goto (tgt := 6) hx hb dX12_laysLots_43 (by decide) ?_
          exact ihkey_8 x_72 f_71 _ _ _ (by omega) hP hD hS (lv_sub hl [0, 1, 2] rfl) (by omega)
        refine lv_icmp_ne (tgt := 38) hx hb dX12_laysLots_31 (by decide) (fun c_73 => ?_) (fun c_73 => ?_)
        · have c_73 : x_66.toInt ≠ x_68.toInt := cv_ne c_73
          refine lv_lconst (v := 0) hx hb dX12_laysLots_38 (by decide) ?_
          exact join_70 0 _ _ _ (by decide) hP hD hS (lv_sub hl [0, 1, 2] rfl)
        · have c_73 : x_66.toInt = x_68.toInt := cv_eq c_73
          refine lv_lconst (v := 1) hx hb dX12_laysLots_34 (by decide) ?_
          refine lv_goto (tgt := 39) hx hb dX12_laysLots_35 (by decide) ?_
          exact join_70 1 _ _ _ (by decide) hP hD hS (lv_sub hl [0, 1, 2] rfl)
  exact key_8 _ 0 m_lots _ _ _ (by decide) hP hD hS (lv_sub hl [0, 1, 2] rfl) (Nat.lt_succ_self _)

/- X12_common -/
set_option maxHeartbeats 4000000 in
set_option maxRecDepth 100000 in
theorem m_commonE0 (l : Launch) (dC : Nat → ClassId) (dI : Nat → Nat → Nat) (cyI cyB cyJ cyZ cyH cyN : ClassId) (p0 p1 : Int64) (g0 : 0 ≤ p1.toInt ∧ p1.toInt ≤ 0) (g1 : ¬ (p0.toInt = 0 ∧ p1.toInt = 0)) : Met l yX12_common (wk yX12_common cX12_common 4 (some .long)) ({ frames := 1, cells := 0, slots := 0, locals := 60 }) (va_Pc [.long p0, .long p1] (fun _ => True)) (vp_Sl (fun r : Int64 => r.toInt ≠ 0)) 0 0 (fun _ => False) := by
  refine Met.ofW (cc := cX12_common) (maxL := 4) (ret := (some .long)) (by decide) rfl ?_
  intro p e s m args below meth c s₁ B hml hv
  obtain ⟨rfl, -⟩ := hv
  have hx := B.exec
  have hb := B.bytes
  have hr := B.returns
  have hts : ∀ w ∈ uU, w.before ([.long p0, .long p1] : List Value).toArray s = true := fun w h => atoms_spec (ws := wk yX12_common cX12_common 4 (some .long)) B.pre w (List.mem_cons_of_mem _ h)
  have hown : s.vm.findClass RX12 = some m.cls := findClass_of_methodNamed B.named
  have hlocks := B.notSynchronized
  have hl := lv_entry ([.long p0, .long p1]) (n := 4) (Nat.le_of_ble_eq_true rfl)
  rw [lg_entry_eq]
  generalize (lg_sl ([.long p0, .long p1]) ++ List.replicate (4 - (lg_sl ([.long p0, .long p1])).length) Slot.unset).toArray = ls at hl ⊢
  have hl : lv_has ls 4 [(0, .long p0), (2, .long p1)] := hl
  obtain ⟨Q9, hQ9⟩ : ∃ Q9 : State → Prop, Q9 = MQ below (vp_Sl (fun r : Int64 => r.toInt ≠ 0)) ([.long p0, .long p1] : List Value).toArray s 0 0 (fun _ => False) := ⟨_, rfl⟩
  rw [← hQ9]
  refine lv_lload_n hx hb dX12_common_0 rfl (lv_at hl 1 rfl) ?_
  refine lv_lconst (v := 0) hx hb dX12_common_1 (by decide) ?_
  refine W.lcmp hx hb dX12_common_2 ?_
  refine lv_if_ne (tgt := 10) hx hb dX12_common_3 (by decide) (fun c_1 => absurd (show p1.toInt ≠ 0 from cv_cne c_1) (by omega)) (fun _ => ?_)
  refine lv_lload_n hx hb dX12_common_6 rfl (lv_at hl 0 rfl) ?_
  refine lv_goto (tgt := 17) hx hb dX12_common_7 (by decide) ?_
  rw [hQ9]
  exact W.lret (v := p0) hx hb hr (fun t ht hW => ⟨p0, rfl, (by omega), ht⟩) (fun q h => by cases h) dX12_common_17

/- X12_common -/
set_option maxHeartbeats 4000000 in
set_option maxRecDepth 100000 in
theorem m_commonO1 (l : Launch) (dC : Nat → ClassId) (dI : Nat → Nat → Nat) (cyI cyB cyJ cyZ cyH cyN : ClassId) (p0 p1 : Int64) (g0 : (-1) ≤ p0.toInt ∧ p0.toInt ≤ 1) (g1 : p1.toInt.natAbs < p0.toInt.natAbs) : Met l yX12_common (wk yX12_common cX12_common 4 (some .long)) ({ frames := 2, cells := 0, slots := 0, locals := 83 }) (va_Pc [.long p0, .long p1] (fun _ => True)) (vp_Sl (fun r : Int64 => r.toInt ≠ 0)) 0 0 (fun _ => False) := by
  refine Met.ofW (cc := cX12_common) (maxL := 4) (ret := (some .long)) (by decide) rfl ?_
  intro p e s m args below meth c s₁ B hml hv
  obtain ⟨rfl, -⟩ := hv
  have hx := B.exec
  have hb := B.bytes
  have hr := B.returns
  have hts : ∀ w ∈ uU, w.before ([.long p0, .long p1] : List Value).toArray s = true := fun w h => atoms_spec (ws := wk yX12_common cX12_common 4 (some .long)) B.pre w (List.mem_cons_of_mem _ h)
  have hown : s.vm.findClass RX12 = some m.cls := findClass_of_methodNamed B.named
  have hlocks := B.notSynchronized
  have hl := lv_entry ([.long p0, .long p1]) (n := 4) (Nat.le_of_ble_eq_true rfl)
  rw [lg_entry_eq]
  generalize (lg_sl ([.long p0, .long p1]) ++ List.replicate (4 - (lg_sl ([.long p0, .long p1])).length) Slot.unset).toArray = ls at hl ⊢
  have hl : lv_has ls 4 [(0, .long p0), (2, .long p1)] := hl
  obtain ⟨Q9, hQ9⟩ : ∃ Q9 : State → Prop, Q9 = MQ below (vp_Sl (fun r : Int64 => r.toInt ≠ 0)) ([.long p0, .long p1] : List Value).toArray s 0 0 (fun _ => False) := ⟨_, rfl⟩
  rw [← hQ9]
  refine lv_lload_n hx hb dX12_common_0 rfl (lv_at hl 1 rfl) ?_
  refine lv_lconst (v := 0) hx hb dX12_common_1 (by decide) ?_
  refine W.lcmp hx hb dX12_common_2 ?_
  refine lv_if_ne (tgt := 10) hx hb dX12_common_3 (by decide) (fun c_1 => ?_) (fun c_1 => ?_)
  · have c_1 : p1.toInt ≠ 0 := cv_cne c_1
    refine lv_lload_n hx hb dX12_common_10 rfl (lv_at hl 1 rfl) ?_
    refine lv_lload_n hx hb dX12_common_11 rfl (lv_at hl 0 rfl) ?_
    refine lv_lload_n hx hb dX12_common_12 rfl (lv_at hl 1 rfl) ?_
    refine lv_lrem hx hb dX12_common_13 (fun q => by have := congrArg Int64.toInt q; have h0 : (0 : Int64).toInt = 0 := rfl; omega) ?_
    refine lv_topl (fun y_2 ey_2 => ?_)
    have fy_2 : y_2.toInt = p0.toInt.tmod p1.toInt := by rw [ey_2]; exact cv_remT (by omega)
    have gy_2 : 2 * y_2.toInt.natAbs < p0.toInt.natAbs := by rw [fy_2, Int.natAbs_tmod]; exact mod_half (by omega) (by omega)
    refine vp_callSl (va_Run.run (va_runS (As := [.long p1, .long y_2]) (rest := []) ⟨hx, hb, hml, hown, hts⟩ (m_commonE0 l dC dI cyI cyB cyJ cyZ cyH cyN p1 y_2 (by omega) (by omega)) (va_cwS 2 hts (gdS wd_8_173 wd_8_174 wd_1_11 wd_8_175) rfl rfl rfl (by decide +kernel) ⟨Nat.le_of_ble_eq_true rfl, Nat.le_of_ble_eq_true rfl⟩) ⟨fun a U g mk q => q, fun U hU hW => ⟨rfl, trivial⟩⟩ rfl rfl hl.1 rfl (lv_room (Nat.le_of_ble_eq_true rfl)) dX12_common_14 ⟨Nat.le_of_ble_eq_true rfl, Nat.le_of_ble_eq_true rfl⟩)) (fun r_3 hw => ?_)
    have hrr_3 := hw
    rw [hQ9]
    exact W.lret (v := r_3) hx hb hr (fun t ht hW => ⟨r_3, rfl, hrr_3, ht⟩) (fun q h => by cases h) dX12_common_17
  · have c_1 : p1.toInt = 0 := cv_ceq c_1
    refine lv_lload_n hx hb dX12_common_6 rfl (lv_at hl 0 rfl) ?_
    refine lv_goto (tgt := 17) hx hb dX12_common_7 (by decide) ?_
    rw [hQ9]
    exact W.lret (v := p0) hx hb hr (fun t ht hW => ⟨p0, rfl, (by omega), ht⟩) (fun q h => by cases h) dX12_common_17

/- X12_common -/
set_option maxHeartbeats 4000000 in
set_option maxRecDepth 100000 in
theorem m_commonE1 (l : Launch) (dC : Nat → ClassId) (dI : Nat → Nat → Nat) (cyI cyB cyJ cyZ cyH cyN : ClassId) (p0 p1 : Int64) (g0 : (-1) ≤ p1.toInt ∧ p1.toInt ≤ 1) (g1 : ¬ (p0.toInt = 0 ∧ p1.toInt = 0)) : Met l yX12_common (wk yX12_common cX12_common 4 (some .long)) ({ frames := 3, cells := 0, slots := 0, locals := 106 }) (va_Pc [.long p0, .long p1] (fun _ => True)) (vp_Sl (fun r : Int64 => r.toInt ≠ 0)) 0 0 (fun _ => False) := by
  refine Met.ofW (cc := cX12_common) (maxL := 4) (ret := (some .long)) (by decide) rfl ?_
  intro p e s m args below meth c s₁ B hml hv
  obtain ⟨rfl, -⟩ := hv
  have hx := B.exec
  have hb := B.bytes
  have hr := B.returns
  have hts : ∀ w ∈ uU, w.before ([.long p0, .long p1] : List Value).toArray s = true := fun w h => atoms_spec (ws := wk yX12_common cX12_common 4 (some .long)) B.pre w (List.mem_cons_of_mem _ h)
  have hown : s.vm.findClass RX12 = some m.cls := findClass_of_methodNamed B.named
  have hlocks := B.notSynchronized
  have hl := lv_entry ([.long p0, .long p1]) (n := 4) (Nat.le_of_ble_eq_true rfl)
  rw [lg_entry_eq]
  generalize (lg_sl ([.long p0, .long p1]) ++ List.replicate (4 - (lg_sl ([.long p0, .long p1])).length) Slot.unset).toArray = ls at hl ⊢
  have hl : lv_has ls 4 [(0, .long p0), (2, .long p1)] := hl
  obtain ⟨Q9, hQ9⟩ : ∃ Q9 : State → Prop, Q9 = MQ below (vp_Sl (fun r : Int64 => r.toInt ≠ 0)) ([.long p0, .long p1] : List Value).toArray s 0 0 (fun _ => False) := ⟨_, rfl⟩
  rw [← hQ9]
  refine lv_lload_n hx hb dX12_common_0 rfl (lv_at hl 1 rfl) ?_
  refine lv_lconst (v := 0) hx hb dX12_common_1 (by decide) ?_
  refine W.lcmp hx hb dX12_common_2 ?_
  refine lv_if_ne (tgt := 10) hx hb dX12_common_3 (by decide) (fun c_1 => ?_) (fun c_1 => ?_)
  · have c_1 : p1.toInt ≠ 0 := cv_cne c_1
    refine lv_lload_n hx hb dX12_common_10 rfl (lv_at hl 1 rfl) ?_
    refine lv_lload_n hx hb dX12_common_11 rfl (lv_at hl 0 rfl) ?_
    refine lv_lload_n hx hb dX12_common_12 rfl (lv_at hl 1 rfl) ?_
    refine lv_lrem hx hb dX12_common_13 (fun q => by have := congrArg Int64.toInt q; have h0 : (0 : Int64).toInt = 0 := rfl; omega) ?_
    refine lv_topl (fun y_2 ey_2 => ?_)
    have fy_2 : y_2.toInt = p0.toInt.tmod p1.toInt := by rw [ey_2]; exact cv_remT (by omega)
    have gy_2 : y_2.toInt.natAbs < p1.toInt.natAbs := by rw [fy_2, Int.natAbs_tmod]; exact Nat.mod_lt _ (by omega)
    refine vp_callSl (va_Run.run (va_runS (As := [.long p1, .long y_2]) (rest := []) ⟨hx, hb, hml, hown, hts⟩ (m_commonO1 l dC dI cyI cyB cyJ cyZ cyH cyN p1 y_2 (by omega) (by omega)) (va_cwS 2 hts (gdS wd_8_173 wd_8_174 wd_1_11 wd_8_175) rfl rfl rfl (by decide +kernel) ⟨Nat.le_of_ble_eq_true rfl, Nat.le_of_ble_eq_true rfl⟩) ⟨fun a U g mk q => q, fun U hU hW => ⟨rfl, trivial⟩⟩ rfl rfl hl.1 rfl (lv_room (Nat.le_of_ble_eq_true rfl)) dX12_common_14 ⟨Nat.le_of_ble_eq_true rfl, Nat.le_of_ble_eq_true rfl⟩)) (fun r_3 hw => ?_)
    have hrr_3 := hw
    rw [hQ9]
    exact W.lret (v := r_3) hx hb hr (fun t ht hW => ⟨r_3, rfl, hrr_3, ht⟩) (fun q h => by cases h) dX12_common_17
  · have c_1 : p1.toInt = 0 := cv_ceq c_1
    refine lv_lload_n hx hb dX12_common_6 rfl (lv_at hl 0 rfl) ?_
    refine lv_goto (tgt := 17) hx hb dX12_common_7 (by decide) ?_
    rw [hQ9]
    exact W.lret (v := p0) hx hb hr (fun t ht hW => ⟨p0, rfl, (by omega), ht⟩) (fun q h => by cases h) dX12_common_17

/- X12_common -/
set_option maxHeartbeats 4000000 in
set_option maxRecDepth 100000 in
theorem m_commonO2 (l : Launch) (dC : Nat → ClassId) (dI : Nat → Nat → Nat) (cyI cyB cyJ cyZ cyH cyN : ClassId) (p0 p1 : Int64) (g0 : (-3) ≤ p0.toInt ∧ p0.toInt ≤ 3) (g1 : p1.toInt.natAbs < p0.toInt.natAbs) : Met l yX12_common (wk yX12_common cX12_common 4 (some .long)) ({ frames := 4, cells := 0, slots := 0, locals := 129 }) (va_Pc [.long p0, .long p1] (fun _ => True)) (vp_Sl (fun r : Int64 => r.toInt ≠ 0)) 0 0 (fun _ => False) := by
  refine Met.ofW (cc := cX12_common) (maxL := 4) (ret := (some .long)) (by decide) rfl ?_
  intro p e s m args below meth c s₁ B hml hv
  obtain ⟨rfl, -⟩ := hv
  have hx := B.exec
  have hb := B.bytes
  have hr := B.returns
  have hts : ∀ w ∈ uU, w.before ([.long p0, .long p1] : List Value).toArray s = true := fun w h => atoms_spec (ws := wk yX12_common cX12_common 4 (some .long)) B.pre w (List.mem_cons_of_mem _ h)
  have hown : s.vm.findClass RX12 = some m.cls := findClass_of_methodNamed B.named
  have hlocks := B.notSynchronized
  have hl := lv_entry ([.long p0, .long p1]) (n := 4) (Nat.le_of_ble_eq_true rfl)
  rw [lg_entry_eq]
  generalize (lg_sl ([.long p0, .long p1]) ++ List.replicate (4 - (lg_sl ([.long p0, .long p1])).length) Slot.unset).toArray = ls at hl ⊢
  have hl : lv_has ls 4 [(0, .long p0), (2, .long p1)] := hl
  obtain ⟨Q9, hQ9⟩ : ∃ Q9 : State → Prop, Q9 = MQ below (vp_Sl (fun r : Int64 => r.toInt ≠ 0)) ([.long p0, .long p1] : List Value).toArray s 0 0 (fun _ => False) := ⟨_, rfl⟩
  rw [← hQ9]
  refine lv_lload_n hx hb dX12_common_0 rfl (lv_at hl 1 rfl) ?_
  refine lv_lconst (v := 0) hx hb dX12_common_1 (by decide) ?_
  refine W.lcmp hx hb dX12_common_2 ?_
  refine lv_if_ne (tgt := 10) hx hb dX12_common_3 (by decide) (fun c_1 => ?_) (fun c_1 => ?_)
  · have c_1 : p1.toInt ≠ 0 := cv_cne c_1
    refine lv_lload_n hx hb dX12_common_10 rfl (lv_at hl 1 rfl) ?_
    refine lv_lload_n hx hb dX12_common_11 rfl (lv_at hl 0 rfl) ?_
    refine lv_lload_n hx hb dX12_common_12 rfl (lv_at hl 1 rfl) ?_
    refine lv_lrem hx hb dX12_common_13 (fun q => by have := congrArg Int64.toInt q; have h0 : (0 : Int64).toInt = 0 := rfl; omega) ?_
    refine lv_topl (fun y_2 ey_2 => ?_)
    have fy_2 : y_2.toInt = p0.toInt.tmod p1.toInt := by rw [ey_2]; exact cv_remT (by omega)
    have gy_2 : 2 * y_2.toInt.natAbs < p0.toInt.natAbs := by rw [fy_2, Int.natAbs_tmod]; exact mod_half (by omega) (by omega)
    refine vp_callSl (va_Run.run (va_runS (As := [.long p1, .long y_2]) (rest := []) ⟨hx, hb, hml, hown, hts⟩ (m_commonE1 l dC dI cyI cyB cyJ cyZ cyH cyN p1 y_2 (by omega) (by omega)) (va_cwS 2 hts (gdS wd_8_173 wd_8_174 wd_1_11 wd_8_175) rfl rfl rfl (by decide +kernel) ⟨Nat.le_of_ble_eq_true rfl, Nat.le_of_ble_eq_true rfl⟩) ⟨fun a U g mk q => q, fun U hU hW => ⟨rfl, trivial⟩⟩ rfl rfl hl.1 rfl (lv_room (Nat.le_of_ble_eq_true rfl)) dX12_common_14 ⟨Nat.le_of_ble_eq_true rfl, Nat.le_of_ble_eq_true rfl⟩)) (fun r_3 hw => ?_)
    have hrr_3 := hw
    rw [hQ9]
    exact W.lret (v := r_3) hx hb hr (fun t ht hW => ⟨r_3, rfl, hrr_3, ht⟩) (fun q h => by cases h) dX12_common_17
  · have c_1 : p1.toInt = 0 := cv_ceq c_1
    refine lv_lload_n hx hb dX12_common_6 rfl (lv_at hl 0 rfl) ?_
    refine lv_goto (tgt := 17) hx hb dX12_common_7 (by decide) ?_
    rw [hQ9]
    exact W.lret (v := p0) hx hb hr (fun t ht hW => ⟨p0, rfl, (by omega), ht⟩) (fun q h => by cases h) dX12_common_17

/- X12_common -/
set_option maxHeartbeats 4000000 in
set_option maxRecDepth 100000 in
theorem m_commonE2 (l : Launch) (dC : Nat → ClassId) (dI : Nat → Nat → Nat) (cyI cyB cyJ cyZ cyH cyN : ClassId) (p0 p1 : Int64) (g0 : (-3) ≤ p1.toInt ∧ p1.toInt ≤ 3) (g1 : ¬ (p0.toInt = 0 ∧ p1.toInt = 0)) : Met l yX12_common (wk yX12_common cX12_common 4 (some .long)) ({ frames := 5, cells := 0, slots := 0, locals := 152 }) (va_Pc [.long p0, .long p1] (fun _ => True)) (vp_Sl (fun r : Int64 => r.toInt ≠ 0)) 0 0 (fun _ => False) := by
  refine Met.ofW (cc := cX12_common) (maxL := 4) (ret := (some .long)) (by decide) rfl ?_
  intro p e s m args below meth c s₁ B hml hv
  obtain ⟨rfl, -⟩ := hv
  have hx := B.exec
  have hb := B.bytes
  have hr := B.returns
  have hts : ∀ w ∈ uU, w.before ([.long p0, .long p1] : List Value).toArray s = true := fun w h => atoms_spec (ws := wk yX12_common cX12_common 4 (some .long)) B.pre w (List.mem_cons_of_mem _ h)
  have hown : s.vm.findClass RX12 = some m.cls := findClass_of_methodNamed B.named
  have hlocks := B.notSynchronized
  have hl := lv_entry ([.long p0, .long p1]) (n := 4) (Nat.le_of_ble_eq_true rfl)
  rw [lg_entry_eq]
  generalize (lg_sl ([.long p0, .long p1]) ++ List.replicate (4 - (lg_sl ([.long p0, .long p1])).length) Slot.unset).toArray = ls at hl ⊢
  have hl : lv_has ls 4 [(0, .long p0), (2, .long p1)] := hl
  obtain ⟨Q9, hQ9⟩ : ∃ Q9 : State → Prop, Q9 = MQ below (vp_Sl (fun r : Int64 => r.toInt ≠ 0)) ([.long p0, .long p1] : List Value).toArray s 0 0 (fun _ => False) := ⟨_, rfl⟩
  rw [← hQ9]
  refine lv_lload_n hx hb dX12_common_0 rfl (lv_at hl 1 rfl) ?_
  refine lv_lconst (v := 0) hx hb dX12_common_1 (by decide) ?_
  refine W.lcmp hx hb dX12_common_2 ?_
  refine lv_if_ne (tgt := 10) hx hb dX12_common_3 (by decide) (fun c_1 => ?_) (fun c_1 => ?_)
  · have c_1 : p1.toInt ≠ 0 := cv_cne c_1
    refine lv_lload_n hx hb dX12_common_10 rfl (lv_at hl 1 rfl) ?_
    refine lv_lload_n hx hb dX12_common_11 rfl (lv_at hl 0 rfl) ?_
    refine lv_lload_n hx hb dX12_common_12 rfl (lv_at hl 1 rfl) ?_
    refine lv_lrem hx hb dX12_common_13 (fun q => by have := congrArg Int64.toInt q; have h0 : (0 : Int64).toInt = 0 := rfl; omega) ?_
    refine lv_topl (fun y_2 ey_2 => ?_)
    have fy_2 : y_2.toInt = p0.toInt.tmod p1.toInt := by rw [ey_2]; exact cv_remT (by omega)
    have gy_2 : y_2.toInt.natAbs < p1.toInt.natAbs := by rw [fy_2, Int.natAbs_tmod]; exact Nat.mod_lt _ (by omega)
    refine vp_callSl (va_Run.run (va_runS (As := [.long p1, .long y_2]) (rest := []) ⟨hx, hb, hml, hown, hts⟩ (m_commonO2 l dC dI cyI cyB cyJ cyZ cyH cyN p1 y_2 (by omega) (by omega)) (va_cwS 2 hts (gdS wd_8_173 wd_8_174 wd_1_11 wd_8_175) rfl rfl rfl (by decide +kernel) ⟨Nat.le_of_ble_eq_true rfl, Nat.le_of_ble_eq_true rfl⟩) ⟨fun a U g mk q => q, fun U hU hW => ⟨rfl, trivial⟩⟩ rfl rfl hl.1 rfl (lv_room (Nat.le_of_ble_eq_true rfl)) dX12_common_14 ⟨Nat.le_of_ble_eq_true rfl, Nat.le_of_ble_eq_true rfl⟩)) (fun r_3 hw => ?_)
    have hrr_3 := hw
    rw [hQ9]
    exact W.lret (v := r_3) hx hb hr (fun t ht hW => ⟨r_3, rfl, hrr_3, ht⟩) (fun q h => by cases h) dX12_common_17
  · have c_1 : p1.toInt = 0 := cv_ceq c_1
    refine lv_lload_n hx hb dX12_common_6 rfl (lv_at hl 0 rfl) ?_
    refine lv_goto (tgt := 17) hx hb dX12_common_7 (by decide) ?_
    rw [hQ9]
    exact W.lret (v := p0) hx hb hr (fun t ht hW => ⟨p0, rfl, (by omega), ht⟩) (fun q h => by cases h) dX12_common_17

/- X12_common -/
set_option maxHeartbeats 4000000 in
set_option maxRecDepth 100000 in
theorem m_commonO3 (l : Launch) (dC : Nat → ClassId) (dI : Nat → Nat → Nat) (cyI cyB cyJ cyZ cyH cyN : ClassId) (p0 p1 : Int64) (g0 : (-7) ≤ p0.toInt ∧ p0.toInt ≤ 7) (g1 : p1.toInt.natAbs < p0.toInt.natAbs) : Met l yX12_common (wk yX12_common cX12_common 4 (some .long)) ({ frames := 6, cells := 0, slots := 0, locals := 175 }) (va_Pc [.long p0, .long p1] (fun _ => True)) (vp_Sl (fun r : Int64 => r.toInt ≠ 0)) 0 0 (fun _ => False) := by
  refine Met.ofW (cc := cX12_common) (maxL := 4) (ret := (some .long)) (by decide) rfl ?_
  intro p e s m args below meth c s₁ B hml hv
  obtain ⟨rfl, -⟩ := hv
  have hx := B.exec
  have hb := B.bytes
  have hr := B.returns
  have hts : ∀ w ∈ uU, w.before ([.long p0, .long p1] : List Value).toArray s = true := fun w h => atoms_spec (ws := wk yX12_common cX12_common 4 (some .long)) B.pre w (List.mem_cons_of_mem _ h)
  have hown : s.vm.findClass RX12 = some m.cls := findClass_of_methodNamed B.named
  have hlocks := B.notSynchronized
  have hl := lv_entry ([.long p0, .long p1]) (n := 4) (Nat.le_of_ble_eq_true rfl)
  rw [lg_entry_eq]
  generalize (lg_sl ([.long p0, .long p1]) ++ List.replicate (4 - (lg_sl ([.long p0, .long p1])).length) Slot.unset).toArray = ls at hl ⊢
  have hl : lv_has ls 4 [(0, .long p0), (2, .long p1)] := hl
  obtain ⟨Q9, hQ9⟩ : ∃ Q9 : State → Prop, Q9 = MQ below (vp_Sl (fun r : Int64 => r.toInt ≠ 0)) ([.long p0, .long p1] : List Value).toArray s 0 0 (fun _ => False) := ⟨_, rfl⟩
  rw [← hQ9]
  refine lv_lload_n hx hb dX12_common_0 rfl (lv_at hl 1 rfl) ?_
  refine lv_lconst (v := 0) hx hb dX12_common_1 (by decide) ?_
  refine W.lcmp hx hb dX12_common_2 ?_
  refine lv_if_ne (tgt := 10) hx hb dX12_common_3 (by decide) (fun c_1 => ?_) (fun c_1 => ?_)
  · have c_1 : p1.toInt ≠ 0 := cv_cne c_1
    refine lv_lload_n hx hb dX12_common_10 rfl (lv_at hl 1 rfl) ?_
    refine lv_lload_n hx hb dX12_common_11 rfl (lv_at hl 0 rfl) ?_
    refine lv_lload_n hx hb dX12_common_12 rfl (lv_at hl 1 rfl) ?_
    refine lv_lrem hx hb dX12_common_13 (fun q => by have := congrArg Int64.toInt q; have h0 : (0 : Int64).toInt = 0 := rfl; omega) ?_
    refine lv_topl (fun y_2 ey_2 => ?_)
    have fy_2 : y_2.toInt = p0.toInt.tmod p1.toInt := by rw [ey_2]; exact cv_remT (by omega)
    have gy_2 : 2 * y_2.toInt.natAbs < p0.toInt.natAbs := by rw [fy_2, Int.natAbs_tmod]; exact mod_half (by omega) (by omega)
    refine vp_callSl (va_Run.run (va_runS (As := [.long p1, .long y_2]) (rest := []) ⟨hx, hb, hml, hown, hts⟩ (m_commonE2 l dC dI cyI cyB cyJ cyZ cyH cyN p1 y_2 (by omega) (by omega)) (va_cwS 2 hts (gdS wd_8_173 wd_8_174 wd_1_11 wd_8_175) rfl rfl rfl (by decide +kernel) ⟨Nat.le_of_ble_eq_true rfl, Nat.le_of_ble_eq_true rfl⟩) ⟨fun a U g mk q => q, fun U hU hW => ⟨rfl, trivial⟩⟩ rfl rfl hl.1 rfl (lv_room (Nat.le_of_ble_eq_true rfl)) dX12_common_14 ⟨Nat.le_of_ble_eq_true rfl, Nat.le_of_ble_eq_true rfl⟩)) (fun r_3 hw => ?_)
    have hrr_3 := hw
    rw [hQ9]
    exact W.lret (v := r_3) hx hb hr (fun t ht hW => ⟨r_3, rfl, hrr_3, ht⟩) (fun q h => by cases h) dX12_common_17
  · have c_1 : p1.toInt = 0 := cv_ceq c_1
    refine lv_lload_n hx hb dX12_common_6 rfl (lv_at hl 0 rfl) ?_
    refine lv_goto (tgt := 17) hx hb dX12_common_7 (by decide) ?_
    rw [hQ9]
    exact W.lret (v := p0) hx hb hr (fun t ht hW => ⟨p0, rfl, (by omega), ht⟩) (fun q h => by cases h) dX12_common_17

/- X12_common -/
set_option maxHeartbeats 4000000 in
set_option maxRecDepth 100000 in
theorem m_commonE3 (l : Launch) (dC : Nat → ClassId) (dI : Nat → Nat → Nat) (cyI cyB cyJ cyZ cyH cyN : ClassId) (p0 p1 : Int64) (g0 : (-7) ≤ p1.toInt ∧ p1.toInt ≤ 7) (g1 : ¬ (p0.toInt = 0 ∧ p1.toInt = 0)) : Met l yX12_common (wk yX12_common cX12_common 4 (some .long)) ({ frames := 7, cells := 0, slots := 0, locals := 198 }) (va_Pc [.long p0, .long p1] (fun _ => True)) (vp_Sl (fun r : Int64 => r.toInt ≠ 0)) 0 0 (fun _ => False) := by
  refine Met.ofW (cc := cX12_common) (maxL := 4) (ret := (some .long)) (by decide) rfl ?_
  intro p e s m args below meth c s₁ B hml hv
  obtain ⟨rfl, -⟩ := hv
  have hx := B.exec
  have hb := B.bytes
  have hr := B.returns
  have hts : ∀ w ∈ uU, w.before ([.long p0, .long p1] : List Value).toArray s = true := fun w h => atoms_spec (ws := wk yX12_common cX12_common 4 (some .long)) B.pre w (List.mem_cons_of_mem _ h)
  have hown : s.vm.findClass RX12 = some m.cls := findClass_of_methodNamed B.named
  have hlocks := B.notSynchronized
  have hl := lv_entry ([.long p0, .long p1]) (n := 4) (Nat.le_of_ble_eq_true rfl)
  rw [lg_entry_eq]
  generalize (lg_sl ([.long p0, .long p1]) ++ List.replicate (4 - (lg_sl ([.long p0, .long p1])).length) Slot.unset).toArray = ls at hl ⊢
  have hl : lv_has ls 4 [(0, .long p0), (2, .long p1)] := hl
  obtain ⟨Q9, hQ9⟩ : ∃ Q9 : State → Prop, Q9 = MQ below (vp_Sl (fun r : Int64 => r.toInt ≠ 0)) ([.long p0, .long p1] : List Value).toArray s 0 0 (fun _ => False) := ⟨_, rfl⟩
  rw [← hQ9]
  refine lv_lload_n hx hb dX12_common_0 rfl (lv_at hl 1 rfl) ?_
  refine lv_lconst (v := 0) hx hb dX12_common_1 (by decide) ?_
  refine W.lcmp hx hb dX12_common_2 ?_
  refine lv_if_ne (tgt := 10) hx hb dX12_common_3 (by decide) (fun c_1 => ?_) (fun c_1 => ?_)
  · have c_1 : p1.toInt ≠ 0 := cv_cne c_1
    refine lv_lload_n hx hb dX12_common_10 rfl (lv_at hl 1 rfl) ?_
    refine lv_lload_n hx hb dX12_common_11 rfl (lv_at hl 0 rfl) ?_
    refine lv_lload_n hx hb dX12_common_12 rfl (lv_at hl 1 rfl) ?_
    refine lv_lrem hx hb dX12_common_13 (fun q => by have := congrArg Int64.toInt q; have h0 : (0 : Int64).toInt = 0 := rfl; omega) ?_
    refine lv_topl (fun y_2 ey_2 => ?_)
    have fy_2 : y_2.toInt = p0.toInt.tmod p1.toInt := by rw [ey_2]; exact cv_remT (by omega)
    have gy_2 : y_2.toInt.natAbs < p1.toInt.natAbs := by rw [fy_2, Int.natAbs_tmod]; exact Nat.mod_lt _ (by omega)
    refine vp_callSl (va_Run.run (va_runS (As := [.long p1, .long y_2]) (rest := []) ⟨hx, hb, hml, hown, hts⟩ (m_commonO3 l dC dI cyI cyB cyJ cyZ cyH cyN p1 y_2 (by omega) (by omega)) (va_cwS 2 hts (gdS wd_8_173 wd_8_174 wd_1_11 wd_8_175) rfl rfl rfl (by decide +kernel) ⟨Nat.le_of_ble_eq_true rfl, Nat.le_of_ble_eq_true rfl⟩) ⟨fun a U g mk q => q, fun U hU hW => ⟨rfl, trivial⟩⟩ rfl rfl hl.1 rfl (lv_room (Nat.le_of_ble_eq_true rfl)) dX12_common_14 ⟨Nat.le_of_ble_eq_true rfl, Nat.le_of_ble_eq_true rfl⟩)) (fun r_3 hw => ?_)
    have hrr_3 := hw
    rw [hQ9]
    exact W.lret (v := r_3) hx hb hr (fun t ht hW => ⟨r_3, rfl, hrr_3, ht⟩) (fun q h => by cases h) dX12_common_17
  · have c_1 : p1.toInt = 0 := cv_ceq c_1
    refine lv_lload_n hx hb dX12_common_6 rfl (lv_at hl 0 rfl) ?_
    refine lv_goto (tgt := 17) hx hb dX12_common_7 (by decide) ?_
    rw [hQ9]
    exact W.lret (v := p0) hx hb hr (fun t ht hW => ⟨p0, rfl, (by omega), ht⟩) (fun q h => by cases h) dX12_common_17

/- X12_common -/
set_option maxHeartbeats 4000000 in
set_option maxRecDepth 100000 in
theorem m_commonO4 (l : Launch) (dC : Nat → ClassId) (dI : Nat → Nat → Nat) (cyI cyB cyJ cyZ cyH cyN : ClassId) (p0 p1 : Int64) (g0 : (-15) ≤ p0.toInt ∧ p0.toInt ≤ 15) (g1 : p1.toInt.natAbs < p0.toInt.natAbs) : Met l yX12_common (wk yX12_common cX12_common 4 (some .long)) ({ frames := 8, cells := 0, slots := 0, locals := 221 }) (va_Pc [.long p0, .long p1] (fun _ => True)) (vp_Sl (fun r : Int64 => r.toInt ≠ 0)) 0 0 (fun _ => False) := by
  refine Met.ofW (cc := cX12_common) (maxL := 4) (ret := (some .long)) (by decide) rfl ?_
  intro p e s m args below meth c s₁ B hml hv
  obtain ⟨rfl, -⟩ := hv
  have hx := B.exec
  have hb := B.bytes
  have hr := B.returns
  have hts : ∀ w ∈ uU, w.before ([.long p0, .long p1] : List Value).toArray s = true := fun w h => atoms_spec (ws := wk yX12_common cX12_common 4 (some .long)) B.pre w (List.mem_cons_of_mem _ h)
  have hown : s.vm.findClass RX12 = some m.cls := findClass_of_methodNamed B.named
  have hlocks := B.notSynchronized
  have hl := lv_entry ([.long p0, .long p1]) (n := 4) (Nat.le_of_ble_eq_true rfl)
  rw [lg_entry_eq]
  generalize (lg_sl ([.long p0, .long p1]) ++ List.replicate (4 - (lg_sl ([.long p0, .long p1])).length) Slot.unset).toArray = ls at hl ⊢
  have hl : lv_has ls 4 [(0, .long p0), (2, .long p1)] := hl
  obtain ⟨Q9, hQ9⟩ : ∃ Q9 : State → Prop, Q9 = MQ below (vp_Sl (fun r : Int64 => r.toInt ≠ 0)) ([.long p0, .long p1] : List Value).toArray s 0 0 (fun _ => False) := ⟨_, rfl⟩
  rw [← hQ9]
  refine lv_lload_n hx hb dX12_common_0 rfl (lv_at hl 1 rfl) ?_
  refine lv_lconst (v := 0) hx hb dX12_common_1 (by decide) ?_
  refine W.lcmp hx hb dX12_common_2 ?_
  refine lv_if_ne (tgt := 10) hx hb dX12_common_3 (by decide) (fun c_1 => ?_) (fun c_1 => ?_)
  · have c_1 : p1.toInt ≠ 0 := cv_cne c_1
    refine lv_lload_n hx hb dX12_common_10 rfl (lv_at hl 1 rfl) ?_
    refine lv_lload_n hx hb dX12_common_11 rfl (lv_at hl 0 rfl) ?_
    refine lv_lload_n hx hb dX12_common_12 rfl (lv_at hl 1 rfl) ?_
    refine lv_lrem hx hb dX12_common_13 (fun q => by have := congrArg Int64.toInt q; have h0 : (0 : Int64).toInt = 0 := rfl; omega) ?_
    refine lv_topl (fun y_2 ey_2 => ?_)
    have fy_2 : y_2.toInt = p0.toInt.tmod p1.toInt := by rw [ey_2]; exact cv_remT (by omega)
    have gy_2 : 2 * y_2.toInt.natAbs < p0.toInt.natAbs := by rw [fy_2, Int.natAbs_tmod]; exact mod_half (by omega) (by omega)
    refine vp_callSl (va_Run.run (va_runS (As := [.long p1, .long y_2]) (rest := []) ⟨hx, hb, hml, hown, hts⟩ (m_commonE3 l dC dI cyI cyB cyJ cyZ cyH cyN p1 y_2 (by omega) (by omega)) (va_cwS 2 hts (gdS wd_8_173 wd_8_174 wd_1_11 wd_8_175) rfl rfl rfl (by decide +kernel) ⟨Nat.le_of_ble_eq_true rfl, Nat.le_of_ble_eq_true rfl⟩) ⟨fun a U g mk q => q, fun U hU hW => ⟨rfl, trivial⟩⟩ rfl rfl hl.1 rfl (lv_room (Nat.le_of_ble_eq_true rfl)) dX12_common_14 ⟨Nat.le_of_ble_eq_true rfl, Nat.le_of_ble_eq_true rfl⟩)) (fun r_3 hw => ?_)
    have hrr_3 := hw
    rw [hQ9]
    exact W.lret (v := r_3) hx hb hr (fun t ht hW => ⟨r_3, rfl, hrr_3, ht⟩) (fun q h => by cases h) dX12_common_17
  · have c_1 : p1.toInt = 0 := cv_ceq c_1
    refine lv_lload_n hx hb dX12_common_6 rfl (lv_at hl 0 rfl) ?_
    refine lv_goto (tgt := 17) hx hb dX12_common_7 (by decide) ?_
    rw [hQ9]
    exact W.lret (v := p0) hx hb hr (fun t ht hW => ⟨p0, rfl, (by omega), ht⟩) (fun q h => by cases h) dX12_common_17

/- X12_common -/
set_option maxHeartbeats 4000000 in
set_option maxRecDepth 100000 in
theorem m_commonE4 (l : Launch) (dC : Nat → ClassId) (dI : Nat → Nat → Nat) (cyI cyB cyJ cyZ cyH cyN : ClassId) (p0 p1 : Int64) (g0 : (-15) ≤ p1.toInt ∧ p1.toInt ≤ 15) (g1 : ¬ (p0.toInt = 0 ∧ p1.toInt = 0)) : Met l yX12_common (wk yX12_common cX12_common 4 (some .long)) ({ frames := 9, cells := 0, slots := 0, locals := 244 }) (va_Pc [.long p0, .long p1] (fun _ => True)) (vp_Sl (fun r : Int64 => r.toInt ≠ 0)) 0 0 (fun _ => False) := by
  refine Met.ofW (cc := cX12_common) (maxL := 4) (ret := (some .long)) (by decide) rfl ?_
  intro p e s m args below meth c s₁ B hml hv
  obtain ⟨rfl, -⟩ := hv
  have hx := B.exec
  have hb := B.bytes
  have hr := B.returns
  have hts : ∀ w ∈ uU, w.before ([.long p0, .long p1] : List Value).toArray s = true := fun w h => atoms_spec (ws := wk yX12_common cX12_common 4 (some .long)) B.pre w (List.mem_cons_of_mem _ h)
  have hown : s.vm.findClass RX12 = some m.cls := findClass_of_methodNamed B.named
  have hlocks := B.notSynchronized
  have hl := lv_entry ([.long p0, .long p1]) (n := 4) (Nat.le_of_ble_eq_true rfl)
  rw [lg_entry_eq]
  generalize (lg_sl ([.long p0, .long p1]) ++ List.replicate (4 - (lg_sl ([.long p0, .long p1])).length) Slot.unset).toArray = ls at hl ⊢
  have hl : lv_has ls 4 [(0, .long p0), (2, .long p1)] := hl
  obtain ⟨Q9, hQ9⟩ : ∃ Q9 : State → Prop, Q9 = MQ below (vp_Sl (fun r : Int64 => r.toInt ≠ 0)) ([.long p0, .long p1] : List Value).toArray s 0 0 (fun _ => False) := ⟨_, rfl⟩
  rw [← hQ9]
  refine lv_lload_n hx hb dX12_common_0 rfl (lv_at hl 1 rfl) ?_
  refine lv_lconst (v := 0) hx hb dX12_common_1 (by decide) ?_
  refine W.lcmp hx hb dX12_common_2 ?_
  refine lv_if_ne (tgt := 10) hx hb dX12_common_3 (by decide) (fun c_1 => ?_) (fun c_1 => ?_)
  · have c_1 : p1.toInt ≠ 0 := cv_cne c_1
    refine lv_lload_n hx hb dX12_common_10 rfl (lv_at hl 1 rfl) ?_
    refine lv_lload_n hx hb dX12_common_11 rfl (lv_at hl 0 rfl) ?_
    refine lv_lload_n hx hb dX12_common_12 rfl (lv_at hl 1 rfl) ?_
    refine lv_lrem hx hb dX12_common_13 (fun q => by have := congrArg Int64.toInt q; have h0 : (0 : Int64).toInt = 0 := rfl; omega) ?_
    refine lv_topl (fun y_2 ey_2 => ?_)
    have fy_2 : y_2.toInt = p0.toInt.tmod p1.toInt := by rw [ey_2]; exact cv_remT (by omega)
    have gy_2 : y_2.toInt.natAbs < p1.toInt.natAbs := by rw [fy_2, Int.natAbs_tmod]; exact Nat.mod_lt _ (by omega)
    refine vp_callSl (va_Run.run (va_runS (As := [.long p1, .long y_2]) (rest := []) ⟨hx, hb, hml, hown, hts⟩ (m_commonO4 l dC dI cyI cyB cyJ cyZ cyH cyN p1 y_2 (by omega) (by omega)) (va_cwS 2 hts (gdS wd_8_173 wd_8_174 wd_1_11 wd_8_175) rfl rfl rfl (by decide +kernel) ⟨Nat.le_of_ble_eq_true rfl, Nat.le_of_ble_eq_true rfl⟩) ⟨fun a U g mk q => q, fun U hU hW => ⟨rfl, trivial⟩⟩ rfl rfl hl.1 rfl (lv_room (Nat.le_of_ble_eq_true rfl)) dX12_common_14 ⟨Nat.le_of_ble_eq_true rfl, Nat.le_of_ble_eq_true rfl⟩)) (fun r_3 hw => ?_)
    have hrr_3 := hw
    rw [hQ9]
    exact W.lret (v := r_3) hx hb hr (fun t ht hW => ⟨r_3, rfl, hrr_3, ht⟩) (fun q h => by cases h) dX12_common_17
  · have c_1 : p1.toInt = 0 := cv_ceq c_1
    refine lv_lload_n hx hb dX12_common_6 rfl (lv_at hl 0 rfl) ?_
    refine lv_goto (tgt := 17) hx hb dX12_common_7 (by decide) ?_
    rw [hQ9]
    exact W.lret (v := p0) hx hb hr (fun t ht hW => ⟨p0, rfl, (by omega), ht⟩) (fun q h => by cases h) dX12_common_17

/- X12_common -/
set_option maxHeartbeats 4000000 in
set_option maxRecDepth 100000 in
theorem m_commonO5 (l : Launch) (dC : Nat → ClassId) (dI : Nat → Nat → Nat) (cyI cyB cyJ cyZ cyH cyN : ClassId) (p0 p1 : Int64) (g0 : (-31) ≤ p0.toInt ∧ p0.toInt ≤ 31) (g1 : p1.toInt.natAbs < p0.toInt.natAbs) : Met l yX12_common (wk yX12_common cX12_common 4 (some .long)) ({ frames := 10, cells := 0, slots := 0, locals := 267 }) (va_Pc [.long p0, .long p1] (fun _ => True)) (vp_Sl (fun r : Int64 => r.toInt ≠ 0)) 0 0 (fun _ => False) := by
  refine Met.ofW (cc := cX12_common) (maxL := 4) (ret := (some .long)) (by decide) rfl ?_
  intro p e s m args below meth c s₁ B hml hv
  obtain ⟨rfl, -⟩ := hv
  have hx := B.exec
  have hb := B.bytes
  have hr := B.returns
  have hts : ∀ w ∈ uU, w.before ([.long p0, .long p1] : List Value).toArray s = true := fun w h => atoms_spec (ws := wk yX12_common cX12_common 4 (some .long)) B.pre w (List.mem_cons_of_mem _ h)
  have hown : s.vm.findClass RX12 = some m.cls := findClass_of_methodNamed B.named
  have hlocks := B.notSynchronized
  have hl := lv_entry ([.long p0, .long p1]) (n := 4) (Nat.le_of_ble_eq_true rfl)
  rw [lg_entry_eq]
  generalize (lg_sl ([.long p0, .long p1]) ++ List.replicate (4 - (lg_sl ([.long p0, .long p1])).length) Slot.unset).toArray = ls at hl ⊢
  have hl : lv_has ls 4 [(0, .long p0), (2, .long p1)] := hl
  obtain ⟨Q9, hQ9⟩ : ∃ Q9 : State → Prop, Q9 = MQ below (vp_Sl (fun r : Int64 => r.toInt ≠ 0)) ([.long p0, .long p1] : List Value).toArray s 0 0 (fun _ => False) := ⟨_, rfl⟩
  rw [← hQ9]
  refine lv_lload_n hx hb dX12_common_0 rfl (lv_at hl 1 rfl) ?_
  refine lv_lconst (v := 0) hx hb dX12_common_1 (by decide) ?_
  refine W.lcmp hx hb dX12_common_2 ?_
  refine lv_if_ne (tgt := 10) hx hb dX12_common_3 (by decide) (fun c_1 => ?_) (fun c_1 => ?_)
  · have c_1 : p1.toInt ≠ 0 := cv_cne c_1
    refine lv_lload_n hx hb dX12_common_10 rfl (lv_at hl 1 rfl) ?_
    refine lv_lload_n hx hb dX12_common_11 rfl (lv_at hl 0 rfl) ?_
    refine lv_lload_n hx hb dX12_common_12 rfl (lv_at hl 1 rfl) ?_
    refine lv_lrem hx hb dX12_common_13 (fun q => by have := congrArg Int64.toInt q; have h0 : (0 : Int64).toInt = 0 := rfl; omega) ?_
    refine lv_topl (fun y_2 ey_2 => ?_)
    have fy_2 : y_2.toInt = p0.toInt.tmod p1.toInt := by rw [ey_2]; exact cv_remT (by omega)
    have gy_2 : 2 * y_2.toInt.natAbs < p0.toInt.natAbs := by rw [fy_2, Int.natAbs_tmod]; exact mod_half (by omega) (by omega)
    refine vp_callSl (va_Run.run (va_runS (As := [.long p1, .long y_2]) (rest := []) ⟨hx, hb, hml, hown, hts⟩ (m_commonE4 l dC dI cyI cyB cyJ cyZ cyH cyN p1 y_2 (by omega) (by omega)) (va_cwS 2 hts (gdS wd_8_173 wd_8_174 wd_1_11 wd_8_175) rfl rfl rfl (by decide +kernel) ⟨Nat.le_of_ble_eq_true rfl, Nat.le_of_ble_eq_true rfl⟩) ⟨fun a U g mk q => q, fun U hU hW => ⟨rfl, trivial⟩⟩ rfl rfl hl.1 rfl (lv_room (Nat.le_of_ble_eq_true rfl)) dX12_common_14 ⟨Nat.le_of_ble_eq_true rfl, Nat.le_of_ble_eq_true rfl⟩)) (fun r_3 hw => ?_)
    have hrr_3 := hw
    rw [hQ9]
    exact W.lret (v := r_3) hx hb hr (fun t ht hW => ⟨r_3, rfl, hrr_3, ht⟩) (fun q h => by cases h) dX12_common_17
  · have c_1 : p1.toInt = 0 := cv_ceq c_1
    refine lv_lload_n hx hb dX12_common_6 rfl (lv_at hl 0 rfl) ?_
    refine lv_goto (tgt := 17) hx hb dX12_common_7 (by decide) ?_
    rw [hQ9]
    exact W.lret (v := p0) hx hb hr (fun t ht hW => ⟨p0, rfl, (by omega), ht⟩) (fun q h => by cases h) dX12_common_17

/- X12_common -/
set_option maxHeartbeats 4000000 in
set_option maxRecDepth 100000 in
theorem m_commonE5 (l : Launch) (dC : Nat → ClassId) (dI : Nat → Nat → Nat) (cyI cyB cyJ cyZ cyH cyN : ClassId) (p0 p1 : Int64) (g0 : (-31) ≤ p1.toInt ∧ p1.toInt ≤ 31) (g1 : ¬ (p0.toInt = 0 ∧ p1.toInt = 0)) : Met l yX12_common (wk yX12_common cX12_common 4 (some .long)) ({ frames := 11, cells := 0, slots := 0, locals := 290 }) (va_Pc [.long p0, .long p1] (fun _ => True)) (vp_Sl (fun r : Int64 => r.toInt ≠ 0)) 0 0 (fun _ => False) := by
  refine Met.ofW (cc := cX12_common) (maxL := 4) (ret := (some .long)) (by decide) rfl ?_
  intro p e s m args below meth c s₁ B hml hv
  obtain ⟨rfl, -⟩ := hv
  have hx := B.exec
  have hb := B.bytes
  have hr := B.returns
  have hts : ∀ w ∈ uU, w.before ([.long p0, .long p1] : List Value).toArray s = true := fun w h => atoms_spec (ws := wk yX12_common cX12_common 4 (some .long)) B.pre w (List.mem_cons_of_mem _ h)
  have hown : s.vm.findClass RX12 = some m.cls := findClass_of_methodNamed B.named
  have hlocks := B.notSynchronized
  have hl := lv_entry ([.long p0, .long p1]) (n := 4) (Nat.le_of_ble_eq_true rfl)
  rw [lg_entry_eq]
  generalize (lg_sl ([.long p0, .long p1]) ++ List.replicate (4 - (lg_sl ([.long p0, .long p1])).length) Slot.unset).toArray = ls at hl ⊢
  have hl : lv_has ls 4 [(0, .long p0), (2, .long p1)] := hl
  obtain ⟨Q9, hQ9⟩ : ∃ Q9 : State → Prop, Q9 = MQ below (vp_Sl (fun r : Int64 => r.toInt ≠ 0)) ([.long p0, .long p1] : List Value).toArray s 0 0 (fun _ => False) := ⟨_, rfl⟩
  rw [← hQ9]
  refine lv_lload_n hx hb dX12_common_0 rfl (lv_at hl 1 rfl) ?_
  refine lv_lconst (v := 0) hx hb dX12_common_1 (by decide) ?_
  refine W.lcmp hx hb dX12_common_2 ?_
  refine lv_if_ne (tgt := 10) hx hb dX12_common_3 (by decide) (fun c_1 => ?_) (fun c_1 => ?_)
  · have c_1 : p1.toInt ≠ 0 := cv_cne c_1
    refine lv_lload_n hx hb dX12_common_10 rfl (lv_at hl 1 rfl) ?_
    refine lv_lload_n hx hb dX12_common_11 rfl (lv_at hl 0 rfl) ?_
    refine lv_lload_n hx hb dX12_common_12 rfl (lv_at hl 1 rfl) ?_
    refine lv_lrem hx hb dX12_common_13 (fun q => by have := congrArg Int64.toInt q; have h0 : (0 : Int64).toInt = 0 := rfl; omega) ?_
    refine lv_topl (fun y_2 ey_2 => ?_)
    have fy_2 : y_2.toInt = p0.toInt.tmod p1.toInt := by rw [ey_2]; exact cv_remT (by omega)
    have gy_2 : y_2.toInt.natAbs < p1.toInt.natAbs := by rw [fy_2, Int.natAbs_tmod]; exact Nat.mod_lt _ (by omega)
    refine vp_callSl (va_Run.run (va_runS (As := [.long p1, .long y_2]) (rest := []) ⟨hx, hb, hml, hown, hts⟩ (m_commonO5 l dC dI cyI cyB cyJ cyZ cyH cyN p1 y_2 (by omega) (by omega)) (va_cwS 2 hts (gdS wd_8_173 wd_8_174 wd_1_11 wd_8_175) rfl rfl rfl (by decide +kernel) ⟨Nat.le_of_ble_eq_true rfl, Nat.le_of_ble_eq_true rfl⟩) ⟨fun a U g mk q => q, fun U hU hW => ⟨rfl, trivial⟩⟩ rfl rfl hl.1 rfl (lv_room (Nat.le_of_ble_eq_true rfl)) dX12_common_14 ⟨Nat.le_of_ble_eq_true rfl, Nat.le_of_ble_eq_true rfl⟩)) (fun r_3 hw => ?_)
    have hrr_3 := hw
    rw [hQ9]
    exact W.lret (v := r_3) hx hb hr (fun t ht hW => ⟨r_3, rfl, hrr_3, ht⟩) (fun q h => by cases h) dX12_common_17
  · have c_1 : p1.toInt = 0 := cv_ceq c_1
    refine lv_lload_n hx hb dX12_common_6 rfl (lv_at hl 0 rfl) ?_
    refine lv_goto (tgt := 17) hx hb dX12_common_7 (by decide) ?_
    rw [hQ9]
    exact W.lret (v := p0) hx hb hr (fun t ht hW => ⟨p0, rfl, (by omega), ht⟩) (fun q h => by cases h) dX12_common_17

/- X12_common -/
set_option maxHeartbeats 4000000 in
set_option maxRecDepth 100000 in
theorem m_commonO6 (l : Launch) (dC : Nat → ClassId) (dI : Nat → Nat → Nat) (cyI cyB cyJ cyZ cyH cyN : ClassId) (p0 p1 : Int64) (g0 : (-63) ≤ p0.toInt ∧ p0.toInt ≤ 63) (g1 : p1.toInt.natAbs < p0.toInt.natAbs) : Met l yX12_common (wk yX12_common cX12_common 4 (some .long)) ({ frames := 12, cells := 0, slots := 0, locals := 313 }) (va_Pc [.long p0, .long p1] (fun _ => True)) (vp_Sl (fun r : Int64 => r.toInt ≠ 0)) 0 0 (fun _ => False) := by
  refine Met.ofW (cc := cX12_common) (maxL := 4) (ret := (some .long)) (by decide) rfl ?_
  intro p e s m args below meth c s₁ B hml hv
  obtain ⟨rfl, -⟩ := hv
  have hx := B.exec
  have hb := B.bytes
  have hr := B.returns
  have hts : ∀ w ∈ uU, w.before ([.long p0, .long p1] : List Value).toArray s = true := fun w h => atoms_spec (ws := wk yX12_common cX12_common 4 (some .long)) B.pre w (List.mem_cons_of_mem _ h)
  have hown : s.vm.findClass RX12 = some m.cls := findClass_of_methodNamed B.named
  have hlocks := B.notSynchronized
  have hl := lv_entry ([.long p0, .long p1]) (n := 4) (Nat.le_of_ble_eq_true rfl)
  rw [lg_entry_eq]
  generalize (lg_sl ([.long p0, .long p1]) ++ List.replicate (4 - (lg_sl ([.long p0, .long p1])).length) Slot.unset).toArray = ls at hl ⊢
  have hl : lv_has ls 4 [(0, .long p0), (2, .long p1)] := hl
  obtain ⟨Q9, hQ9⟩ : ∃ Q9 : State → Prop, Q9 = MQ below (vp_Sl (fun r : Int64 => r.toInt ≠ 0)) ([.long p0, .long p1] : List Value).toArray s 0 0 (fun _ => False) := ⟨_, rfl⟩
  rw [← hQ9]
  refine lv_lload_n hx hb dX12_common_0 rfl (lv_at hl 1 rfl) ?_
  refine lv_lconst (v := 0) hx hb dX12_common_1 (by decide) ?_
  refine W.lcmp hx hb dX12_common_2 ?_
  refine lv_if_ne (tgt := 10) hx hb dX12_common_3 (by decide) (fun c_1 => ?_) (fun c_1 => ?_)
  · have c_1 : p1.toInt ≠ 0 := cv_cne c_1
    refine lv_lload_n hx hb dX12_common_10 rfl (lv_at hl 1 rfl) ?_
    refine lv_lload_n hx hb dX12_common_11 rfl (lv_at hl 0 rfl) ?_
    refine lv_lload_n hx hb dX12_common_12 rfl (lv_at hl 1 rfl) ?_
    refine lv_lrem hx hb dX12_common_13 (fun q => by have := congrArg Int64.toInt q; have h0 : (0 : Int64).toInt = 0 := rfl; omega) ?_
    refine lv_topl (fun y_2 ey_2 => ?_)
    have fy_2 : y_2.toInt = p0.toInt.tmod p1.toInt := by rw [ey_2]; exact cv_remT (by omega)
    have gy_2 : 2 * y_2.toInt.natAbs < p0.toInt.natAbs := by rw [fy_2, Int.natAbs_tmod]; exact mod_half (by omega) (by omega)
    refine vp_callSl (va_Run.run (va_runS (As := [.long p1, .long y_2]) (rest := []) ⟨hx, hb, hml, hown, hts⟩ (m_commonE5 l dC dI cyI cyB cyJ cyZ cyH cyN p1 y_2 (by omega) (by omega)) (va_cwS 2 hts (gdS wd_8_173 wd_8_174 wd_1_11 wd_8_175) rfl rfl rfl (by decide +kernel) ⟨Nat.le_of_ble_eq_true rfl, Nat.le_of_ble_eq_true rfl⟩) ⟨fun a U g mk q => q, fun U hU hW => ⟨rfl, trivial⟩⟩ rfl rfl hl.1 rfl (lv_room (Nat.le_of_ble_eq_true rfl)) dX12_common_14 ⟨Nat.le_of_ble_eq_true rfl, Nat.le_of_ble_eq_true rfl⟩)) (fun r_3 hw => ?_)
    have hrr_3 := hw
    rw [hQ9]
    exact W.lret (v := r_3) hx hb hr (fun t ht hW => ⟨r_3, rfl, hrr_3, ht⟩) (fun q h => by cases h) dX12_common_17
  · have c_1 : p1.toInt = 0 := cv_ceq c_1
    refine lv_lload_n hx hb dX12_common_6 rfl (lv_at hl 0 rfl) ?_
    refine lv_goto (tgt := 17) hx hb dX12_common_7 (by decide) ?_
    rw [hQ9]
    exact W.lret (v := p0) hx hb hr (fun t ht hW => ⟨p0, rfl, (by omega), ht⟩) (fun q h => by cases h) dX12_common_17

/- X12_common -/
set_option maxHeartbeats 4000000 in
set_option maxRecDepth 100000 in
theorem m_commonE6 (l : Launch) (dC : Nat → ClassId) (dI : Nat → Nat → Nat) (cyI cyB cyJ cyZ cyH cyN : ClassId) (p0 p1 : Int64) (g0 : (-63) ≤ p1.toInt ∧ p1.toInt ≤ 63) (g1 : ¬ (p0.toInt = 0 ∧ p1.toInt = 0)) : Met l yX12_common (wk yX12_common cX12_common 4 (some .long)) ({ frames := 13, cells := 0, slots := 0, locals := 336 }) (va_Pc [.long p0, .long p1] (fun _ => True)) (vp_Sl (fun r : Int64 => r.toInt ≠ 0)) 0 0 (fun _ => False) := by
  refine Met.ofW (cc := cX12_common) (maxL := 4) (ret := (some .long)) (by decide) rfl ?_
  intro p e s m args below meth c s₁ B hml hv
  obtain ⟨rfl, -⟩ := hv
  have hx := B.exec
  have hb := B.bytes
  have hr := B.returns
  have hts : ∀ w ∈ uU, w.before ([.long p0, .long p1] : List Value).toArray s = true := fun w h => atoms_spec (ws := wk yX12_common cX12_common 4 (some .long)) B.pre w (List.mem_cons_of_mem _ h)
  have hown : s.vm.findClass RX12 = some m.cls := findClass_of_methodNamed B.named
  have hlocks := B.notSynchronized
  have hl := lv_entry ([.long p0, .long p1]) (n := 4) (Nat.le_of_ble_eq_true rfl)
  rw [lg_entry_eq]
  generalize (lg_sl ([.long p0, .long p1]) ++ List.replicate (4 - (lg_sl ([.long p0, .long p1])).length) Slot.unset).toArray = ls at hl ⊢
  have hl : lv_has ls 4 [(0, .long p0), (2, .long p1)] := hl
  obtain ⟨Q9, hQ9⟩ : ∃ Q9 : State → Prop, Q9 = MQ below (vp_Sl (fun r : Int64 => r.toInt ≠ 0)) ([.long p0, .long p1] : List Value).toArray s 0 0 (fun _ => False) := ⟨_, rfl⟩
  rw [← hQ9]
  refine lv_lload_n hx hb dX12_common_0 rfl (lv_at hl 1 rfl) ?_
  refine lv_lconst (v := 0) hx hb dX12_common_1 (by decide) ?_
  refine W.lcmp hx hb dX12_common_2 ?_
  refine lv_if_ne (tgt := 10) hx hb dX12_common_3 (by decide) (fun c_1 => ?_) (fun c_1 => ?_)
  · have c_1 : p1.toInt ≠ 0 := cv_cne c_1
    refine lv_lload_n hx hb dX12_common_10 rfl (lv_at hl 1 rfl) ?_
    refine lv_lload_n hx hb dX12_common_11 rfl (lv_at hl 0 rfl) ?_
    refine lv_lload_n hx hb dX12_common_12 rfl (lv_at hl 1 rfl) ?_
    refine lv_lrem hx hb dX12_common_13 (fun q => by have := congrArg Int64.toInt q; have h0 : (0 : Int64).toInt = 0 := rfl; omega) ?_
    refine lv_topl (fun y_2 ey_2 => ?_)
    have fy_2 : y_2.toInt = p0.toInt.tmod p1.toInt := by rw [ey_2]; exact cv_remT (by omega)
    have gy_2 : y_2.toInt.natAbs < p1.toInt.natAbs := by rw [fy_2, Int.natAbs_tmod]; exact Nat.mod_lt _ (by omega)
    refine vp_callSl (va_Run.run (va_runS (As := [.long p1, .long y_2]) (rest := []) ⟨hx, hb, hml, hown, hts⟩ (m_commonO6 l dC dI cyI cyB cyJ cyZ cyH cyN p1 y_2 (by omega) (by omega)) (va_cwS 2 hts (gdS wd_8_173 wd_8_174 wd_1_11 wd_8_175) rfl rfl rfl (by decide +kernel) ⟨Nat.le_of_ble_eq_true rfl, Nat.le_of_ble_eq_true rfl⟩) ⟨fun a U g mk q => q, fun U hU hW => ⟨rfl, trivial⟩⟩ rfl rfl hl.1 rfl (lv_room (Nat.le_of_ble_eq_true rfl)) dX12_common_14 ⟨Nat.le_of_ble_eq_true rfl, Nat.le_of_ble_eq_true rfl⟩)) (fun r_3 hw => ?_)
    have hrr_3 := hw
    rw [hQ9]
    exact W.lret (v := r_3) hx hb hr (fun t ht hW => ⟨r_3, rfl, hrr_3, ht⟩) (fun q h => by cases h) dX12_common_17
  · have c_1 : p1.toInt = 0 := cv_ceq c_1
    refine lv_lload_n hx hb dX12_common_6 rfl (lv_at hl 0 rfl) ?_
    refine lv_goto (tgt := 17) hx hb dX12_common_7 (by decide) ?_
    rw [hQ9]
    exact W.lret (v := p0) hx hb hr (fun t ht hW => ⟨p0, rfl, (by omega), ht⟩) (fun q h => by cases h) dX12_common_17

/- X12_common -/
set_option maxHeartbeats 4000000 in
set_option maxRecDepth 100000 in
theorem m_commonO7 (l : Launch) (dC : Nat → ClassId) (dI : Nat → Nat → Nat) (cyI cyB cyJ cyZ cyH cyN : ClassId) (p0 p1 : Int64) (g0 : (-127) ≤ p0.toInt ∧ p0.toInt ≤ 127) (g1 : p1.toInt.natAbs < p0.toInt.natAbs) : Met l yX12_common (wk yX12_common cX12_common 4 (some .long)) ({ frames := 14, cells := 0, slots := 0, locals := 359 }) (va_Pc [.long p0, .long p1] (fun _ => True)) (vp_Sl (fun r : Int64 => r.toInt ≠ 0)) 0 0 (fun _ => False) := by
  refine Met.ofW (cc := cX12_common) (maxL := 4) (ret := (some .long)) (by decide) rfl ?_
  intro p e s m args below meth c s₁ B hml hv
  obtain ⟨rfl, -⟩ := hv
  have hx := B.exec
  have hb := B.bytes
  have hr := B.returns
  have hts : ∀ w ∈ uU, w.before ([.long p0, .long p1] : List Value).toArray s = true := fun w h => atoms_spec (ws := wk yX12_common cX12_common 4 (some .long)) B.pre w (List.mem_cons_of_mem _ h)
  have hown : s.vm.findClass RX12 = some m.cls := findClass_of_methodNamed B.named
  have hlocks := B.notSynchronized
  have hl := lv_entry ([.long p0, .long p1]) (n := 4) (Nat.le_of_ble_eq_true rfl)
  rw [lg_entry_eq]
  generalize (lg_sl ([.long p0, .long p1]) ++ List.replicate (4 - (lg_sl ([.long p0, .long p1])).length) Slot.unset).toArray = ls at hl ⊢
  have hl : lv_has ls 4 [(0, .long p0), (2, .long p1)] := hl
  obtain ⟨Q9, hQ9⟩ : ∃ Q9 : State → Prop, Q9 = MQ below (vp_Sl (fun r : Int64 => r.toInt ≠ 0)) ([.long p0, .long p1] : List Value).toArray s 0 0 (fun _ => False) := ⟨_, rfl⟩
  rw [← hQ9]
  refine lv_lload_n hx hb dX12_common_0 rfl (lv_at hl 1 rfl) ?_
  refine lv_lconst (v := 0) hx hb dX12_common_1 (by decide) ?_
  refine W.lcmp hx hb dX12_common_2 ?_
  refine lv_if_ne (tgt := 10) hx hb dX12_common_3 (by decide) (fun c_1 => ?_) (fun c_1 => ?_)
  · have c_1 : p1.toInt ≠ 0 := cv_cne c_1
    refine lv_lload_n hx hb dX12_common_10 rfl (lv_at hl 1 rfl) ?_
    refine lv_lload_n hx hb dX12_common_11 rfl (lv_at hl 0 rfl) ?_
    refine lv_lload_n hx hb dX12_common_12 rfl (lv_at hl 1 rfl) ?_
    refine lv_lrem hx hb dX12_common_13 (fun q => by have := congrArg Int64.toInt q; have h0 : (0 : Int64).toInt = 0 := rfl; omega) ?_
    refine lv_topl (fun y_2 ey_2 => ?_)
    have fy_2 : y_2.toInt = p0.toInt.tmod p1.toInt := by rw [ey_2]; exact cv_remT (by omega)
    have gy_2 : 2 * y_2.toInt.natAbs < p0.toInt.natAbs := by rw [fy_2, Int.natAbs_tmod]; exact mod_half (by omega) (by omega)
    refine vp_callSl (va_Run.run (va_runS (As := [.long p1, .long y_2]) (rest := []) ⟨hx, hb, hml, hown, hts⟩ (m_commonE6 l dC dI cyI cyB cyJ cyZ cyH cyN p1 y_2 (by omega) (by omega)) (va_cwS 2 hts (gdS wd_8_173 wd_8_174 wd_1_11 wd_8_175) rfl rfl rfl (by decide +kernel) ⟨Nat.le_of_ble_eq_true rfl, Nat.le_of_ble_eq_true rfl⟩) ⟨fun a U g mk q => q, fun U hU hW => ⟨rfl, trivial⟩⟩ rfl rfl hl.1 rfl (lv_room (Nat.le_of_ble_eq_true rfl)) dX12_common_14 ⟨Nat.le_of_ble_eq_true rfl, Nat.le_of_ble_eq_true rfl⟩)) (fun r_3 hw => ?_)
    have hrr_3 := hw
    rw [hQ9]
    exact W.lret (v := r_3) hx hb hr (fun t ht hW => ⟨r_3, rfl, hrr_3, ht⟩) (fun q h => by cases h) dX12_common_17
  · have c_1 : p1.toInt = 0 := cv_ceq c_1
    refine lv_lload_n hx hb dX12_common_6 rfl (lv_at hl 0 rfl) ?_
    refine lv_goto (tgt := 17) hx hb dX12_common_7 (by decide) ?_
    rw [hQ9]
    exact W.lret (v := p0) hx hb hr (fun t ht hW => ⟨p0, rfl, (by omega), ht⟩) (fun q h => by cases h) dX12_common_17

/- X12_common -/
set_option maxHeartbeats 4000000 in
set_option maxRecDepth 100000 in
theorem m_commonE7 (l : Launch) (dC : Nat → ClassId) (dI : Nat → Nat → Nat) (cyI cyB cyJ cyZ cyH cyN : ClassId) (p0 p1 : Int64) (g0 : (-127) ≤ p1.toInt ∧ p1.toInt ≤ 127) (g1 : ¬ (p0.toInt = 0 ∧ p1.toInt = 0)) : Met l yX12_common (wk yX12_common cX12_common 4 (some .long)) ({ frames := 15, cells := 0, slots := 0, locals := 382 }) (va_Pc [.long p0, .long p1] (fun _ => True)) (vp_Sl (fun r : Int64 => r.toInt ≠ 0)) 0 0 (fun _ => False) := by
  refine Met.ofW (cc := cX12_common) (maxL := 4) (ret := (some .long)) (by decide) rfl ?_
  intro p e s m args below meth c s₁ B hml hv
  obtain ⟨rfl, -⟩ := hv
  have hx := B.exec
  have hb := B.bytes
  have hr := B.returns
  have hts : ∀ w ∈ uU, w.before ([.long p0, .long p1] : List Value).toArray s = true := fun w h => atoms_spec (ws := wk yX12_common cX12_common 4 (some .long)) B.pre w (List.mem_cons_of_mem _ h)
  have hown : s.vm.findClass RX12 = some m.cls := findClass_of_methodNamed B.named
  have hlocks := B.notSynchronized
  have hl := lv_entry ([.long p0, .long p1]) (n := 4) (Nat.le_of_ble_eq_true rfl)
  rw [lg_entry_eq]
  generalize (lg_sl ([.long p0, .long p1]) ++ List.replicate (4 - (lg_sl ([.long p0, .long p1])).length) Slot.unset).toArray = ls at hl ⊢
  have hl : lv_has ls 4 [(0, .long p0), (2, .long p1)] := hl
  obtain ⟨Q9, hQ9⟩ : ∃ Q9 : State → Prop, Q9 = MQ below (vp_Sl (fun r : Int64 => r.toInt ≠ 0)) ([.long p0, .long p1] : List Value).toArray s 0 0 (fun _ => False) := ⟨_, rfl⟩
  rw [← hQ9]
  refine lv_lload_n hx hb dX12_common_0 rfl (lv_at hl 1 rfl) ?_
  refine lv_lconst (v := 0) hx hb dX12_common_1 (by decide) ?_
  refine W.lcmp hx hb dX12_common_2 ?_
  refine lv_if_ne (tgt := 10) hx hb dX12_common_3 (by decide) (fun c_1 => ?_) (fun c_1 => ?_)
  · have c_1 : p1.toInt ≠ 0 := cv_cne c_1
    refine lv_lload_n hx hb dX12_common_10 rfl (lv_at hl 1 rfl) ?_
    refine lv_lload_n hx hb dX12_common_11 rfl (lv_at hl 0 rfl) ?_
    refine lv_lload_n hx hb dX12_common_12 rfl (lv_at hl 1 rfl) ?_
    refine lv_lrem hx hb dX12_common_13 (fun q => by have := congrArg Int64.toInt q; have h0 : (0 : Int64).toInt = 0 := rfl; omega) ?_
    refine lv_topl (fun y_2 ey_2 => ?_)
    have fy_2 : y_2.toInt = p0.toInt.tmod p1.toInt := by rw [ey_2]; exact cv_remT (by omega)
    have gy_2 : y_2.toInt.natAbs < p1.toInt.natAbs := by rw [fy_2, Int.natAbs_tmod]; exact Nat.mod_lt _ (by omega)
    refine vp_callSl (va_Run.run (va_runS (As := [.long p1, .long y_2]) (rest := []) ⟨hx, hb, hml, hown, hts⟩ (m_commonO7 l dC dI cyI cyB cyJ cyZ cyH cyN p1 y_2 (by omega) (by omega)) (va_cwS 2 hts (gdS wd_8_173 wd_8_174 wd_1_11 wd_8_175) rfl rfl rfl (by decide +kernel) ⟨Nat.le_of_ble_eq_true rfl, Nat.le_of_ble_eq_true rfl⟩) ⟨fun a U g mk q => q, fun U hU hW => ⟨rfl, trivial⟩⟩ rfl rfl hl.1 rfl (lv_room (Nat.le_of_ble_eq_true rfl)) dX12_common_14 ⟨Nat.le_of_ble_eq_true rfl, Nat.le_of_ble_eq_true rfl⟩)) (fun r_3 hw => ?_)
    have hrr_3 := hw
    rw [hQ9]
    exact W.lret (v := r_3) hx hb hr (fun t ht hW => ⟨r_3, rfl, hrr_3, ht⟩) (fun q h => by cases h) dX12_common_17
  · have c_1 : p1.toInt = 0 := cv_ceq c_1
    refine lv_lload_n hx hb dX12_common_6 rfl (lv_at hl 0 rfl) ?_
    refine lv_goto (tgt := 17) hx hb dX12_common_7 (by decide) ?_
    rw [hQ9]
    exact W.lret (v := p0) hx hb hr (fun t ht hW => ⟨p0, rfl, (by omega), ht⟩) (fun q h => by cases h) dX12_common_17

/- X12_common -/
set_option maxHeartbeats 4000000 in
set_option maxRecDepth 100000 in
theorem m_commonO8 (l : Launch) (dC : Nat → ClassId) (dI : Nat → Nat → Nat) (cyI cyB cyJ cyZ cyH cyN : ClassId) (p0 p1 : Int64) (g0 : (-255) ≤ p0.toInt ∧ p0.toInt ≤ 255) (g1 : p1.toInt.natAbs < p0.toInt.natAbs) : Met l yX12_common (wk yX12_common cX12_common 4 (some .long)) ({ frames := 16, cells := 0, slots := 0, locals := 405 }) (va_Pc [.long p0, .long p1] (fun _ => True)) (vp_Sl (fun r : Int64 => r.toInt ≠ 0)) 0 0 (fun _ => False) := by
  refine Met.ofW (cc := cX12_common) (maxL := 4) (ret := (some .long)) (by decide) rfl ?_
  intro p e s m args below meth c s₁ B hml hv
  obtain ⟨rfl, -⟩ := hv
  have hx := B.exec
  have hb := B.bytes
  have hr := B.returns
  have hts : ∀ w ∈ uU, w.before ([.long p0, .long p1] : List Value).toArray s = true := fun w h => atoms_spec (ws := wk yX12_common cX12_common 4 (some .long)) B.pre w (List.mem_cons_of_mem _ h)
  have hown : s.vm.findClass RX12 = some m.cls := findClass_of_methodNamed B.named
  have hlocks := B.notSynchronized
  have hl := lv_entry ([.long p0, .long p1]) (n := 4) (Nat.le_of_ble_eq_true rfl)
  rw [lg_entry_eq]
  generalize (lg_sl ([.long p0, .long p1]) ++ List.replicate (4 - (lg_sl ([.long p0, .long p1])).length) Slot.unset).toArray = ls at hl ⊢
  have hl : lv_has ls 4 [(0, .long p0), (2, .long p1)] := hl
  obtain ⟨Q9, hQ9⟩ : ∃ Q9 : State → Prop, Q9 = MQ below (vp_Sl (fun r : Int64 => r.toInt ≠ 0)) ([.long p0, .long p1] : List Value).toArray s 0 0 (fun _ => False) := ⟨_, rfl⟩
  rw [← hQ9]
  refine lv_lload_n hx hb dX12_common_0 rfl (lv_at hl 1 rfl) ?_
  refine lv_lconst (v := 0) hx hb dX12_common_1 (by decide) ?_
  refine W.lcmp hx hb dX12_common_2 ?_
  refine lv_if_ne (tgt := 10) hx hb dX12_common_3 (by decide) (fun c_1 => ?_) (fun c_1 => ?_)
  · have c_1 : p1.toInt ≠ 0 := cv_cne c_1
    refine lv_lload_n hx hb dX12_common_10 rfl (lv_at hl 1 rfl) ?_
    refine lv_lload_n hx hb dX12_common_11 rfl (lv_at hl 0 rfl) ?_
    refine lv_lload_n hx hb dX12_common_12 rfl (lv_at hl 1 rfl) ?_
    refine lv_lrem hx hb dX12_common_13 (fun q => by have := congrArg Int64.toInt q; have h0 : (0 : Int64).toInt = 0 := rfl; omega) ?_
    refine lv_topl (fun y_2 ey_2 => ?_)
    have fy_2 : y_2.toInt = p0.toInt.tmod p1.toInt := by rw [ey_2]; exact cv_remT (by omega)
    have gy_2 : 2 * y_2.toInt.natAbs < p0.toInt.natAbs := by rw [fy_2, Int.natAbs_tmod]; exact mod_half (by omega) (by omega)
    refine vp_callSl (va_Run.run (va_runS (As := [.long p1, .long y_2]) (rest := []) ⟨hx, hb, hml, hown, hts⟩ (m_commonE7 l dC dI cyI cyB cyJ cyZ cyH cyN p1 y_2 (by omega) (by omega)) (va_cwS 2 hts (gdS wd_8_173 wd_8_174 wd_1_11 wd_8_175) rfl rfl rfl (by decide +kernel) ⟨Nat.le_of_ble_eq_true rfl, Nat.le_of_ble_eq_true rfl⟩) ⟨fun a U g mk q => q, fun U hU hW => ⟨rfl, trivial⟩⟩ rfl rfl hl.1 rfl (lv_room (Nat.le_of_ble_eq_true rfl)) dX12_common_14 ⟨Nat.le_of_ble_eq_true rfl, Nat.le_of_ble_eq_true rfl⟩)) (fun r_3 hw => ?_)
    have hrr_3 := hw
    rw [hQ9]
    exact W.lret (v := r_3) hx hb hr (fun t ht hW => ⟨r_3, rfl, hrr_3, ht⟩) (fun q h => by cases h) dX12_common_17
  · have c_1 : p1.toInt = 0 := cv_ceq c_1
    refine lv_lload_n hx hb dX12_common_6 rfl (lv_at hl 0 rfl) ?_
    refine lv_goto (tgt := 17) hx hb dX12_common_7 (by decide) ?_
    rw [hQ9]
    exact W.lret (v := p0) hx hb hr (fun t ht hW => ⟨p0, rfl, (by omega), ht⟩) (fun q h => by cases h) dX12_common_17

/- X12_common -/
set_option maxHeartbeats 4000000 in
set_option maxRecDepth 100000 in
theorem m_commonE8 (l : Launch) (dC : Nat → ClassId) (dI : Nat → Nat → Nat) (cyI cyB cyJ cyZ cyH cyN : ClassId) (p0 p1 : Int64) (g0 : (-255) ≤ p1.toInt ∧ p1.toInt ≤ 255) (g1 : ¬ (p0.toInt = 0 ∧ p1.toInt = 0)) : Met l yX12_common (wk yX12_common cX12_common 4 (some .long)) ({ frames := 17, cells := 0, slots := 0, locals := 428 }) (va_Pc [.long p0, .long p1] (fun _ => True)) (vp_Sl (fun r : Int64 => r.toInt ≠ 0)) 0 0 (fun _ => False) := by
  refine Met.ofW (cc := cX12_common) (maxL := 4) (ret := (some .long)) (by decide) rfl ?_
  intro p e s m args below meth c s₁ B hml hv
  obtain ⟨rfl, -⟩ := hv
  have hx := B.exec
  have hb := B.bytes
  have hr := B.returns
  have hts : ∀ w ∈ uU, w.before ([.long p0, .long p1] : List Value).toArray s = true := fun w h => atoms_spec (ws := wk yX12_common cX12_common 4 (some .long)) B.pre w (List.mem_cons_of_mem _ h)
  have hown : s.vm.findClass RX12 = some m.cls := findClass_of_methodNamed B.named
  have hlocks := B.notSynchronized
  have hl := lv_entry ([.long p0, .long p1]) (n := 4) (Nat.le_of_ble_eq_true rfl)
  rw [lg_entry_eq]
  generalize (lg_sl ([.long p0, .long p1]) ++ List.replicate (4 - (lg_sl ([.long p0, .long p1])).length) Slot.unset).toArray = ls at hl ⊢
  have hl : lv_has ls 4 [(0, .long p0), (2, .long p1)] := hl
  obtain ⟨Q9, hQ9⟩ : ∃ Q9 : State → Prop, Q9 = MQ below (vp_Sl (fun r : Int64 => r.toInt ≠ 0)) ([.long p0, .long p1] : List Value).toArray s 0 0 (fun _ => False) := ⟨_, rfl⟩
  rw [← hQ9]
  refine lv_lload_n hx hb dX12_common_0 rfl (lv_at hl 1 rfl) ?_
  refine lv_lconst (v := 0) hx hb dX12_common_1 (by decide) ?_
  refine W.lcmp hx hb dX12_common_2 ?_
  refine lv_if_ne (tgt := 10) hx hb dX12_common_3 (by decide) (fun c_1 => ?_) (fun c_1 => ?_)
  · have c_1 : p1.toInt ≠ 0 := cv_cne c_1
    refine lv_lload_n hx hb dX12_common_10 rfl (lv_at hl 1 rfl) ?_
    refine lv_lload_n hx hb dX12_common_11 rfl (lv_at hl 0 rfl) ?_
    refine lv_lload_n hx hb dX12_common_12 rfl (lv_at hl 1 rfl) ?_
    refine lv_lrem hx hb dX12_common_13 (fun q => by have := congrArg Int64.toInt q; have h0 : (0 : Int64).toInt = 0 := rfl; omega) ?_
    refine lv_topl (fun y_2 ey_2 => ?_)
    have fy_2 : y_2.toInt = p0.toInt.tmod p1.toInt := by rw [ey_2]; exact cv_remT (by omega)
    have gy_2 : y_2.toInt.natAbs < p1.toInt.natAbs := by rw [fy_2, Int.natAbs_tmod]; exact Nat.mod_lt _ (by omega)
    refine vp_callSl (va_Run.run (va_runS (As := [.long p1, .long y_2]) (rest := []) ⟨hx, hb, hml, hown, hts⟩ (m_commonO8 l dC dI cyI cyB cyJ cyZ cyH cyN p1 y_2 (by omega) (by omega)) (va_cwS 2 hts (gdS wd_8_173 wd_8_174 wd_1_11 wd_8_175) rfl rfl rfl (by decide +kernel) ⟨Nat.le_of_ble_eq_true rfl, Nat.le_of_ble_eq_true rfl⟩) ⟨fun a U g mk q => q, fun U hU hW => ⟨rfl, trivial⟩⟩ rfl rfl hl.1 rfl (lv_room (Nat.le_of_ble_eq_true rfl)) dX12_common_14 ⟨Nat.le_of_ble_eq_true rfl, Nat.le_of_ble_eq_true rfl⟩)) (fun r_3 hw => ?_)
    have hrr_3 := hw
    rw [hQ9]
    exact W.lret (v := r_3) hx hb hr (fun t ht hW => ⟨r_3, rfl, hrr_3, ht⟩) (fun q h => by cases h) dX12_common_17
  · have c_1 : p1.toInt = 0 := cv_ceq c_1
    refine lv_lload_n hx hb dX12_common_6 rfl (lv_at hl 0 rfl) ?_
    refine lv_goto (tgt := 17) hx hb dX12_common_7 (by decide) ?_
    rw [hQ9]
    exact W.lret (v := p0) hx hb hr (fun t ht hW => ⟨p0, rfl, (by omega), ht⟩) (fun q h => by cases h) dX12_common_17

/- X12_common -/
set_option maxHeartbeats 4000000 in
set_option maxRecDepth 100000 in
theorem m_commonO9 (l : Launch) (dC : Nat → ClassId) (dI : Nat → Nat → Nat) (cyI cyB cyJ cyZ cyH cyN : ClassId) (p0 p1 : Int64) (g0 : (-511) ≤ p0.toInt ∧ p0.toInt ≤ 511) (g1 : p1.toInt.natAbs < p0.toInt.natAbs) : Met l yX12_common (wk yX12_common cX12_common 4 (some .long)) ({ frames := 18, cells := 0, slots := 0, locals := 451 }) (va_Pc [.long p0, .long p1] (fun _ => True)) (vp_Sl (fun r : Int64 => r.toInt ≠ 0)) 0 0 (fun _ => False) := by
  refine Met.ofW (cc := cX12_common) (maxL := 4) (ret := (some .long)) (by decide) rfl ?_
  intro p e s m args below meth c s₁ B hml hv
  obtain ⟨rfl, -⟩ := hv
  have hx := B.exec
  have hb := B.bytes
  have hr := B.returns
  have hts : ∀ w ∈ uU, w.before ([.long p0, .long p1] : List Value).toArray s = true := fun w h => atoms_spec (ws := wk yX12_common cX12_common 4 (some .long)) B.pre w (List.mem_cons_of_mem _ h)
  have hown : s.vm.findClass RX12 = some m.cls := findClass_of_methodNamed B.named
  have hlocks := B.notSynchronized
  have hl := lv_entry ([.long p0, .long p1]) (n := 4) (Nat.le_of_ble_eq_true rfl)
  rw [lg_entry_eq]
  generalize (lg_sl ([.long p0, .long p1]) ++ List.replicate (4 - (lg_sl ([.long p0, .long p1])).length) Slot.unset).toArray = ls at hl ⊢
  have hl : lv_has ls 4 [(0, .long p0), (2, .long p1)] := hl
  obtain ⟨Q9, hQ9⟩ : ∃ Q9 : State → Prop, Q9 = MQ below (vp_Sl (fun r : Int64 => r.toInt ≠ 0)) ([.long p0, .long p1] : List Value).toArray s 0 0 (fun _ => False) := ⟨_, rfl⟩
  rw [← hQ9]
  refine lv_lload_n hx hb dX12_common_0 rfl (lv_at hl 1 rfl) ?_
  refine lv_lconst (v := 0) hx hb dX12_common_1 (by decide) ?_
  refine W.lcmp hx hb dX12_common_2 ?_
  refine lv_if_ne (tgt := 10) hx hb dX12_common_3 (by decide) (fun c_1 => ?_) (fun c_1 => ?_)
  · have c_1 : p1.toInt ≠ 0 := cv_cne c_1
    refine lv_lload_n hx hb dX12_common_10 rfl (lv_at hl 1 rfl) ?_
    refine lv_lload_n hx hb dX12_common_11 rfl (lv_at hl 0 rfl) ?_
    refine lv_lload_n hx hb dX12_common_12 rfl (lv_at hl 1 rfl) ?_
    refine lv_lrem hx hb dX12_common_13 (fun q => by have := congrArg Int64.toInt q; have h0 : (0 : Int64).toInt = 0 := rfl; omega) ?_
    refine lv_topl (fun y_2 ey_2 => ?_)
    have fy_2 : y_2.toInt = p0.toInt.tmod p1.toInt := by rw [ey_2]; exact cv_remT (by omega)
    have gy_2 : 2 * y_2.toInt.natAbs < p0.toInt.natAbs := by rw [fy_2, Int.natAbs_tmod]; exact mod_half (by omega) (by omega)
    refine vp_callSl (va_Run.run (va_runS (As := [.long p1, .long y_2]) (rest := []) ⟨hx, hb, hml, hown, hts⟩ (m_commonE8 l dC dI cyI cyB cyJ cyZ cyH cyN p1 y_2 (by omega) (by omega)) (va_cwS 2 hts (gdS wd_8_173 wd_8_174 wd_1_11 wd_8_175) rfl rfl rfl (by decide +kernel) ⟨Nat.le_of_ble_eq_true rfl, Nat.le_of_ble_eq_true rfl⟩) ⟨fun a U g mk q => q, fun U hU hW => ⟨rfl, trivial⟩⟩ rfl rfl hl.1 rfl (lv_room (Nat.le_of_ble_eq_true rfl)) dX12_common_14 ⟨Nat.le_of_ble_eq_true rfl, Nat.le_of_ble_eq_true rfl⟩)) (fun r_3 hw => ?_)
    have hrr_3 := hw
    rw [hQ9]
    exact W.lret (v := r_3) hx hb hr (fun t ht hW => ⟨r_3, rfl, hrr_3, ht⟩) (fun q h => by cases h) dX12_common_17
  · have c_1 : p1.toInt = 0 := cv_ceq c_1
    refine lv_lload_n hx hb dX12_common_6 rfl (lv_at hl 0 rfl) ?_
    refine lv_goto (tgt := 17) hx hb dX12_common_7 (by decide) ?_
    rw [hQ9]
    exact W.lret (v := p0) hx hb hr (fun t ht hW => ⟨p0, rfl, (by omega), ht⟩) (fun q h => by cases h) dX12_common_17

/- X12_common -/
set_option maxHeartbeats 4000000 in
set_option maxRecDepth 100000 in
theorem m_commonE9 (l : Launch) (dC : Nat → ClassId) (dI : Nat → Nat → Nat) (cyI cyB cyJ cyZ cyH cyN : ClassId) (p0 p1 : Int64) (g0 : (-511) ≤ p1.toInt ∧ p1.toInt ≤ 511) (g1 : ¬ (p0.toInt = 0 ∧ p1.toInt = 0)) : Met l yX12_common (wk yX12_common cX12_common 4 (some .long)) ({ frames := 19, cells := 0, slots := 0, locals := 474 }) (va_Pc [.long p0, .long p1] (fun _ => True)) (vp_Sl (fun r : Int64 => r.toInt ≠ 0)) 0 0 (fun _ => False) := by
  refine Met.ofW (cc := cX12_common) (maxL := 4) (ret := (some .long)) (by decide) rfl ?_
  intro p e s m args below meth c s₁ B hml hv
  obtain ⟨rfl, -⟩ := hv
  have hx := B.exec
  have hb := B.bytes
  have hr := B.returns
  have hts : ∀ w ∈ uU, w.before ([.long p0, .long p1] : List Value).toArray s = true := fun w h => atoms_spec (ws := wk yX12_common cX12_common 4 (some .long)) B.pre w (List.mem_cons_of_mem _ h)
  have hown : s.vm.findClass RX12 = some m.cls := findClass_of_methodNamed B.named
  have hlocks := B.notSynchronized
  have hl := lv_entry ([.long p0, .long p1]) (n := 4) (Nat.le_of_ble_eq_true rfl)
  rw [lg_entry_eq]
  generalize (lg_sl ([.long p0, .long p1]) ++ List.replicate (4 - (lg_sl ([.long p0, .long p1])).length) Slot.unset).toArray = ls at hl ⊢
  have hl : lv_has ls 4 [(0, .long p0), (2, .long p1)] := hl
  obtain ⟨Q9, hQ9⟩ : ∃ Q9 : State → Prop, Q9 = MQ below (vp_Sl (fun r : Int64 => r.toInt ≠ 0)) ([.long p0, .long p1] : List Value).toArray s 0 0 (fun _ => False) := ⟨_, rfl⟩
  rw [← hQ9]
  refine lv_lload_n hx hb dX12_common_0 rfl (lv_at hl 1 rfl) ?_
  refine lv_lconst (v := 0) hx hb dX12_common_1 (by decide) ?_
  refine W.lcmp hx hb dX12_common_2 ?_
  refine lv_if_ne (tgt := 10) hx hb dX12_common_3 (by decide) (fun c_1 => ?_) (fun c_1 => ?_)
  · have c_1 : p1.toInt ≠ 0 := cv_cne c_1
    refine lv_lload_n hx hb dX12_common_10 rfl (lv_at hl 1 rfl) ?_
    refine lv_lload_n hx hb dX12_common_11 rfl (lv_at hl 0 rfl) ?_
    refine lv_lload_n hx hb dX12_common_12 rfl (lv_at hl 1 rfl) ?_
    refine lv_lrem hx hb dX12_common_13 (fun q => by have := congrArg Int64.toInt q; have h0 : (0 : Int64).toInt = 0 := rfl; omega) ?_
    refine lv_topl (fun y_2 ey_2 => ?_)
    have fy_2 : y_2.toInt = p0.toInt.tmod p1.toInt := by rw [ey_2]; exact cv_remT (by omega)
    have gy_2 : y_2.toInt.natAbs < p1.toInt.natAbs := by rw [fy_2, Int.natAbs_tmod]; exact Nat.mod_lt _ (by omega)
    refine vp_callSl (va_Run.run (va_runS (As := [.long p1, .long y_2]) (rest := []) ⟨hx, hb, hml, hown, hts⟩ (m_commonO9 l dC dI cyI cyB cyJ cyZ cyH cyN p1 y_2 (by omega) (by omega)) (va_cwS 2 hts (gdS wd_8_173 wd_8_174 wd_1_11 wd_8_175) rfl rfl rfl (by decide +kernel) ⟨Nat.le_of_ble_eq_true rfl, Nat.le_of_ble_eq_true rfl⟩) ⟨fun a U g mk q => q, fun U hU hW => ⟨rfl, trivial⟩⟩ rfl rfl hl.1 rfl (lv_room (Nat.le_of_ble_eq_true rfl)) dX12_common_14 ⟨Nat.le_of_ble_eq_true rfl, Nat.le_of_ble_eq_true rfl⟩)) (fun r_3 hw => ?_)
    have hrr_3 := hw
    rw [hQ9]
    exact W.lret (v := r_3) hx hb hr (fun t ht hW => ⟨r_3, rfl, hrr_3, ht⟩) (fun q h => by cases h) dX12_common_17
  · have c_1 : p1.toInt = 0 := cv_ceq c_1
    refine lv_lload_n hx hb dX12_common_6 rfl (lv_at hl 0 rfl) ?_
    refine lv_goto (tgt := 17) hx hb dX12_common_7 (by decide) ?_
    rw [hQ9]
    exact W.lret (v := p0) hx hb hr (fun t ht hW => ⟨p0, rfl, (by omega), ht⟩) (fun q h => by cases h) dX12_common_17

/- X12_common -/
set_option maxHeartbeats 4000000 in
set_option maxRecDepth 100000 in
theorem m_commonO10 (l : Launch) (dC : Nat → ClassId) (dI : Nat → Nat → Nat) (cyI cyB cyJ cyZ cyH cyN : ClassId) (p0 p1 : Int64) (g0 : (-1023) ≤ p0.toInt ∧ p0.toInt ≤ 1023) (g1 : p1.toInt.natAbs < p0.toInt.natAbs) : Met l yX12_common (wk yX12_common cX12_common 4 (some .long)) ({ frames := 20, cells := 0, slots := 0, locals := 497 }) (va_Pc [.long p0, .long p1] (fun _ => True)) (vp_Sl (fun r : Int64 => r.toInt ≠ 0)) 0 0 (fun _ => False) := by
  refine Met.ofW (cc := cX12_common) (maxL := 4) (ret := (some .long)) (by decide) rfl ?_
  intro p e s m args below meth c s₁ B hml hv
  obtain ⟨rfl, -⟩ := hv
  have hx := B.exec
  have hb := B.bytes
  have hr := B.returns
  have hts : ∀ w ∈ uU, w.before ([.long p0, .long p1] : List Value).toArray s = true := fun w h => atoms_spec (ws := wk yX12_common cX12_common 4 (some .long)) B.pre w (List.mem_cons_of_mem _ h)
  have hown : s.vm.findClass RX12 = some m.cls := findClass_of_methodNamed B.named
  have hlocks := B.notSynchronized
  have hl := lv_entry ([.long p0, .long p1]) (n := 4) (Nat.le_of_ble_eq_true rfl)
  rw [lg_entry_eq]
  generalize (lg_sl ([.long p0, .long p1]) ++ List.replicate (4 - (lg_sl ([.long p0, .long p1])).length) Slot.unset).toArray = ls at hl ⊢
  have hl : lv_has ls 4 [(0, .long p0), (2, .long p1)] := hl
  obtain ⟨Q9, hQ9⟩ : ∃ Q9 : State → Prop, Q9 = MQ below (vp_Sl (fun r : Int64 => r.toInt ≠ 0)) ([.long p0, .long p1] : List Value).toArray s 0 0 (fun _ => False) := ⟨_, rfl⟩
  rw [← hQ9]
  refine lv_lload_n hx hb dX12_common_0 rfl (lv_at hl 1 rfl) ?_
  refine lv_lconst (v := 0) hx hb dX12_common_1 (by decide) ?_
  refine W.lcmp hx hb dX12_common_2 ?_
  refine lv_if_ne (tgt := 10) hx hb dX12_common_3 (by decide) (fun c_1 => ?_) (fun c_1 => ?_)
  · have c_1 : p1.toInt ≠ 0 := cv_cne c_1
    refine lv_lload_n hx hb dX12_common_10 rfl (lv_at hl 1 rfl) ?_
    refine lv_lload_n hx hb dX12_common_11 rfl (lv_at hl 0 rfl) ?_
    refine lv_lload_n hx hb dX12_common_12 rfl (lv_at hl 1 rfl) ?_
    refine lv_lrem hx hb dX12_common_13 (fun q => by have := congrArg Int64.toInt q; have h0 : (0 : Int64).toInt = 0 := rfl; omega) ?_
    refine lv_topl (fun y_2 ey_2 => ?_)
    have fy_2 : y_2.toInt = p0.toInt.tmod p1.toInt := by rw [ey_2]; exact cv_remT (by omega)
    have gy_2 : 2 * y_2.toInt.natAbs < p0.toInt.natAbs := by rw [fy_2, Int.natAbs_tmod]; exact mod_half (by omega) (by omega)
    refine vp_callSl (va_Run.run (va_runS (As := [.long p1, .long y_2]) (rest := []) ⟨hx, hb, hml, hown, hts⟩ (m_commonE9 l dC dI cyI cyB cyJ cyZ cyH cyN p1 y_2 (by omega) (by omega)) (va_cwS 2 hts (gdS wd_8_173 wd_8_174 wd_1_11 wd_8_175) rfl rfl rfl (by decide +kernel) ⟨Nat.le_of_ble_eq_true rfl, Nat.le_of_ble_eq_true rfl⟩) ⟨fun a U g mk q => q, fun U hU hW => ⟨rfl, trivial⟩⟩ rfl rfl hl.1 rfl (lv_room (Nat.le_of_ble_eq_true rfl)) dX12_common_14 ⟨Nat.le_of_ble_eq_true rfl, Nat.le_of_ble_eq_true rfl⟩)) (fun r_3 hw => ?_)
    have hrr_3 := hw
    rw [hQ9]
    exact W.lret (v := r_3) hx hb hr (fun t ht hW => ⟨r_3, rfl, hrr_3, ht⟩) (fun q h => by cases h) dX12_common_17
  · have c_1 : p1.toInt = 0 := cv_ceq c_1
    refine lv_lload_n hx hb dX12_common_6 rfl (lv_at hl 0 rfl) ?_
    refine lv_goto (tgt := 17) hx hb dX12_common_7 (by decide) ?_
    rw [hQ9]
    exact W.lret (v := p0) hx hb hr (fun t ht hW => ⟨p0, rfl, (by omega), ht⟩) (fun q h => by cases h) dX12_common_17

/- X12_common -/
set_option maxHeartbeats 4000000 in
set_option maxRecDepth 100000 in
theorem m_commonE10 (l : Launch) (dC : Nat → ClassId) (dI : Nat → Nat → Nat) (cyI cyB cyJ cyZ cyH cyN : ClassId) (p0 p1 : Int64) (g0 : (-1023) ≤ p1.toInt ∧ p1.toInt ≤ 1023) (g1 : ¬ (p0.toInt = 0 ∧ p1.toInt = 0)) : Met l yX12_common (wk yX12_common cX12_common 4 (some .long)) ({ frames := 21, cells := 0, slots := 0, locals := 520 }) (va_Pc [.long p0, .long p1] (fun _ => True)) (vp_Sl (fun r : Int64 => r.toInt ≠ 0)) 0 0 (fun _ => False) := by
  refine Met.ofW (cc := cX12_common) (maxL := 4) (ret := (some .long)) (by decide) rfl ?_
  intro p e s m args below meth c s₁ B hml hv
  obtain ⟨rfl, -⟩ := hv
  have hx := B.exec
  have hb := B.bytes
  have hr := B.returns
  have hts : ∀ w ∈ uU, w.before ([.long p0, .long p1] : List Value).toArray s = true := fun w h => atoms_spec (ws := wk yX12_common cX12_common 4 (some .long)) B.pre w (List.mem_cons_of_mem _ h)
  have hown : s.vm.findClass RX12 = some m.cls := findClass_of_methodNamed B.named
  have hlocks := B.notSynchronized
  have hl := lv_entry ([.long p0, .long p1]) (n := 4) (Nat.le_of_ble_eq_true rfl)
  rw [lg_entry_eq]
  generalize (lg_sl ([.long p0, .long p1]) ++ List.replicate (4 - (lg_sl ([.long p0, .long p1])).length) Slot.unset).toArray = ls at hl ⊢
  have hl : lv_has ls 4 [(0, .long p0), (2, .long p1)] := hl
  obtain ⟨Q9, hQ9⟩ : ∃ Q9 : State → Prop, Q9 = MQ below (vp_Sl (fun r : Int64 => r.toInt ≠ 0)) ([.long p0, .long p1] : List Value).toArray s 0 0 (fun _ => False) := ⟨_, rfl⟩
  rw [← hQ9]
  refine lv_lload_n hx hb dX12_common_0 rfl (lv_at hl 1 rfl) ?_
  refine lv_lconst (v := 0) hx hb dX12_common_1 (by decide) ?_
  refine W.lcmp hx hb dX12_common_2 ?_
  refine lv_if_ne (tgt := 10) hx hb dX12_common_3 (by decide) (fun c_1 => ?_) (fun c_1 => ?_)
  · have c_1 : p1.toInt ≠ 0 := cv_cne c_1
    refine lv_lload_n hx hb dX12_common_10 rfl (lv_at hl 1 rfl) ?_
    refine lv_lload_n hx hb dX12_common_11 rfl (lv_at hl 0 rfl) ?_
    refine lv_lload_n hx hb dX12_common_12 rfl (lv_at hl 1 rfl) ?_
    refine lv_lrem hx hb dX12_common_13 (fun q => by have := congrArg Int64.toInt q; have h0 : (0 : Int64).toInt = 0 := rfl; omega) ?_
    refine lv_topl (fun y_2 ey_2 => ?_)
    have fy_2 : y_2.toInt = p0.toInt.tmod p1.toInt := by rw [ey_2]; exact cv_remT (by omega)
    have gy_2 : y_2.toInt.natAbs < p1.toInt.natAbs := by rw [fy_2, Int.natAbs_tmod]; exact Nat.mod_lt _ (by omega)
    refine vp_callSl (va_Run.run (va_runS (As := [.long p1, .long y_2]) (rest := []) ⟨hx, hb, hml, hown, hts⟩ (m_commonO10 l dC dI cyI cyB cyJ cyZ cyH cyN p1 y_2 (by omega) (by omega)) (va_cwS 2 hts (gdS wd_8_173 wd_8_174 wd_1_11 wd_8_175) rfl rfl rfl (by decide +kernel) ⟨Nat.le_of_ble_eq_true rfl, Nat.le_of_ble_eq_true rfl⟩) ⟨fun a U g mk q => q, fun U hU hW => ⟨rfl, trivial⟩⟩ rfl rfl hl.1 rfl (lv_room (Nat.le_of_ble_eq_true rfl)) dX12_common_14 ⟨Nat.le_of_ble_eq_true rfl, Nat.le_of_ble_eq_true rfl⟩)) (fun r_3 hw => ?_)
    have hrr_3 := hw
    rw [hQ9]
    exact W.lret (v := r_3) hx hb hr (fun t ht hW => ⟨r_3, rfl, hrr_3, ht⟩) (fun q h => by cases h) dX12_common_17
  · have c_1 : p1.toInt = 0 := cv_ceq c_1
    refine lv_lload_n hx hb dX12_common_6 rfl (lv_at hl 0 rfl) ?_
    refine lv_goto (tgt := 17) hx hb dX12_common_7 (by decide) ?_
    rw [hQ9]
    exact W.lret (v := p0) hx hb hr (fun t ht hW => ⟨p0, rfl, (by omega), ht⟩) (fun q h => by cases h) dX12_common_17

/- X12_common -/
set_option maxHeartbeats 4000000 in
set_option maxRecDepth 100000 in
theorem m_commonO11 (l : Launch) (dC : Nat → ClassId) (dI : Nat → Nat → Nat) (cyI cyB cyJ cyZ cyH cyN : ClassId) (p0 p1 : Int64) (g0 : (-2047) ≤ p0.toInt ∧ p0.toInt ≤ 2047) (g1 : p1.toInt.natAbs < p0.toInt.natAbs) : Met l yX12_common (wk yX12_common cX12_common 4 (some .long)) ({ frames := 22, cells := 0, slots := 0, locals := 543 }) (va_Pc [.long p0, .long p1] (fun _ => True)) (vp_Sl (fun r : Int64 => r.toInt ≠ 0)) 0 0 (fun _ => False) := by
  refine Met.ofW (cc := cX12_common) (maxL := 4) (ret := (some .long)) (by decide) rfl ?_
  intro p e s m args below meth c s₁ B hml hv
  obtain ⟨rfl, -⟩ := hv
  have hx := B.exec
  have hb := B.bytes
  have hr := B.returns
  have hts : ∀ w ∈ uU, w.before ([.long p0, .long p1] : List Value).toArray s = true := fun w h => atoms_spec (ws := wk yX12_common cX12_common 4 (some .long)) B.pre w (List.mem_cons_of_mem _ h)
  have hown : s.vm.findClass RX12 = some m.cls := findClass_of_methodNamed B.named
  have hlocks := B.notSynchronized
  have hl := lv_entry ([.long p0, .long p1]) (n := 4) (Nat.le_of_ble_eq_true rfl)
  rw [lg_entry_eq]
  generalize (lg_sl ([.long p0, .long p1]) ++ List.replicate (4 - (lg_sl ([.long p0, .long p1])).length) Slot.unset).toArray = ls at hl ⊢
  have hl : lv_has ls 4 [(0, .long p0), (2, .long p1)] := hl
  obtain ⟨Q9, hQ9⟩ : ∃ Q9 : State → Prop, Q9 = MQ below (vp_Sl (fun r : Int64 => r.toInt ≠ 0)) ([.long p0, .long p1] : List Value).toArray s 0 0 (fun _ => False) := ⟨_, rfl⟩
  rw [← hQ9]
  refine lv_lload_n hx hb dX12_common_0 rfl (lv_at hl 1 rfl) ?_
  refine lv_lconst (v := 0) hx hb dX12_common_1 (by decide) ?_
  refine W.lcmp hx hb dX12_common_2 ?_
  refine lv_if_ne (tgt := 10) hx hb dX12_common_3 (by decide) (fun c_1 => ?_) (fun c_1 => ?_)
  · have c_1 : p1.toInt ≠ 0 := cv_cne c_1
    refine lv_lload_n hx hb dX12_common_10 rfl (lv_at hl 1 rfl) ?_
    refine lv_lload_n hx hb dX12_common_11 rfl (lv_at hl 0 rfl) ?_
    refine lv_lload_n hx hb dX12_common_12 rfl (lv_at hl 1 rfl) ?_
    refine lv_lrem hx hb dX12_common_13 (fun q => by have := congrArg Int64.toInt q; have h0 : (0 : Int64).toInt = 0 := rfl; omega) ?_
    refine lv_topl (fun y_2 ey_2 => ?_)
    have fy_2 : y_2.toInt = p0.toInt.tmod p1.toInt := by rw [ey_2]; exact cv_remT (by omega)
    have gy_2 : 2 * y_2.toInt.natAbs < p0.toInt.natAbs := by rw [fy_2, Int.natAbs_tmod]; exact mod_half (by omega) (by omega)
    refine vp_callSl (va_Run.run (va_runS (As := [.long p1, .long y_2]) (rest := []) ⟨hx, hb, hml, hown, hts⟩ (m_commonE10 l dC dI cyI cyB cyJ cyZ cyH cyN p1 y_2 (by omega) (by omega)) (va_cwS 2 hts (gdS wd_8_173 wd_8_174 wd_1_11 wd_8_175) rfl rfl rfl (by decide +kernel) ⟨Nat.le_of_ble_eq_true rfl, Nat.le_of_ble_eq_true rfl⟩) ⟨fun a U g mk q => q, fun U hU hW => ⟨rfl, trivial⟩⟩ rfl rfl hl.1 rfl (lv_room (Nat.le_of_ble_eq_true rfl)) dX12_common_14 ⟨Nat.le_of_ble_eq_true rfl, Nat.le_of_ble_eq_true rfl⟩)) (fun r_3 hw => ?_)
    have hrr_3 := hw
    rw [hQ9]
    exact W.lret (v := r_3) hx hb hr (fun t ht hW => ⟨r_3, rfl, hrr_3, ht⟩) (fun q h => by cases h) dX12_common_17
  · have c_1 : p1.toInt = 0 := cv_ceq c_1
    refine lv_lload_n hx hb dX12_common_6 rfl (lv_at hl 0 rfl) ?_
    refine lv_goto (tgt := 17) hx hb dX12_common_7 (by decide) ?_
    rw [hQ9]
    exact W.lret (v := p0) hx hb hr (fun t ht hW => ⟨p0, rfl, (by omega), ht⟩) (fun q h => by cases h) dX12_common_17

/- X12_common -/
set_option maxHeartbeats 4000000 in
set_option maxRecDepth 100000 in
theorem m_commonE11 (l : Launch) (dC : Nat → ClassId) (dI : Nat → Nat → Nat) (cyI cyB cyJ cyZ cyH cyN : ClassId) (p0 p1 : Int64) (g0 : (-2047) ≤ p1.toInt ∧ p1.toInt ≤ 2047) (g1 : ¬ (p0.toInt = 0 ∧ p1.toInt = 0)) : Met l yX12_common (wk yX12_common cX12_common 4 (some .long)) ({ frames := 23, cells := 0, slots := 0, locals := 566 }) (va_Pc [.long p0, .long p1] (fun _ => True)) (vp_Sl (fun r : Int64 => r.toInt ≠ 0)) 0 0 (fun _ => False) := by
  refine Met.ofW (cc := cX12_common) (maxL := 4) (ret := (some .long)) (by decide) rfl ?_
  intro p e s m args below meth c s₁ B hml hv
  obtain ⟨rfl, -⟩ := hv
  have hx := B.exec
  have hb := B.bytes
  have hr := B.returns
  have hts : ∀ w ∈ uU, w.before ([.long p0, .long p1] : List Value).toArray s = true := fun w h => atoms_spec (ws := wk yX12_common cX12_common 4 (some .long)) B.pre w (List.mem_cons_of_mem _ h)
  have hown : s.vm.findClass RX12 = some m.cls := findClass_of_methodNamed B.named
  have hlocks := B.notSynchronized
  have hl := lv_entry ([.long p0, .long p1]) (n := 4) (Nat.le_of_ble_eq_true rfl)
  rw [lg_entry_eq]
  generalize (lg_sl ([.long p0, .long p1]) ++ List.replicate (4 - (lg_sl ([.long p0, .long p1])).length) Slot.unset).toArray = ls at hl ⊢
  have hl : lv_has ls 4 [(0, .long p0), (2, .long p1)] := hl
  obtain ⟨Q9, hQ9⟩ : ∃ Q9 : State → Prop, Q9 = MQ below (vp_Sl (fun r : Int64 => r.toInt ≠ 0)) ([.long p0, .long p1] : List Value).toArray s 0 0 (fun _ => False) := ⟨_, rfl⟩
  rw [← hQ9]
  refine lv_lload_n hx hb dX12_common_0 rfl (lv_at hl 1 rfl) ?_
  refine lv_lconst (v := 0) hx hb dX12_common_1 (by decide) ?_
  refine W.lcmp hx hb dX12_common_2 ?_
  refine lv_if_ne (tgt := 10) hx hb dX12_common_3 (by decide) (fun c_1 => ?_) (fun c_1 => ?_)
  · have c_1 : p1.toInt ≠ 0 := cv_cne c_1
    refine lv_lload_n hx hb dX12_common_10 rfl (lv_at hl 1 rfl) ?_
    refine lv_lload_n hx hb dX12_common_11 rfl (lv_at hl 0 rfl) ?_
    refine lv_lload_n hx hb dX12_common_12 rfl (lv_at hl 1 rfl) ?_
    refine lv_lrem hx hb dX12_common_13 (fun q => by have := congrArg Int64.toInt q; have h0 : (0 : Int64).toInt = 0 := rfl; omega) ?_
    refine lv_topl (fun y_2 ey_2 => ?_)
    have fy_2 : y_2.toInt = p0.toInt.tmod p1.toInt := by rw [ey_2]; exact cv_remT (by omega)
    have gy_2 : y_2.toInt.natAbs < p1.toInt.natAbs := by rw [fy_2, Int.natAbs_tmod]; exact Nat.mod_lt _ (by omega)
    refine vp_callSl (va_Run.run (va_runS (As := [.long p1, .long y_2]) (rest := []) ⟨hx, hb, hml, hown, hts⟩ (m_commonO11 l dC dI cyI cyB cyJ cyZ cyH cyN p1 y_2 (by omega) (by omega)) (va_cwS 2 hts (gdS wd_8_173 wd_8_174 wd_1_11 wd_8_175) rfl rfl rfl (by decide +kernel) ⟨Nat.le_of_ble_eq_true rfl, Nat.le_of_ble_eq_true rfl⟩) ⟨fun a U g mk q => q, fun U hU hW => ⟨rfl, trivial⟩⟩ rfl rfl hl.1 rfl (lv_room (Nat.le_of_ble_eq_true rfl)) dX12_common_14 ⟨Nat.le_of_ble_eq_true rfl, Nat.le_of_ble_eq_true rfl⟩)) (fun r_3 hw => ?_)
    have hrr_3 := hw
    rw [hQ9]
    exact W.lret (v := r_3) hx hb hr (fun t ht hW => ⟨r_3, rfl, hrr_3, ht⟩) (fun q h => by cases h) dX12_common_17
  · have c_1 : p1.toInt = 0 := cv_ceq c_1
    refine lv_lload_n hx hb dX12_common_6 rfl (lv_at hl 0 rfl) ?_
    refine lv_goto (tgt := 17) hx hb dX12_common_7 (by decide) ?_
    rw [hQ9]
    exact W.lret (v := p0) hx hb hr (fun t ht hW => ⟨p0, rfl, (by omega), ht⟩) (fun q h => by cases h) dX12_common_17

/- X12_common -/
set_option maxHeartbeats 4000000 in
set_option maxRecDepth 100000 in
theorem m_commonO12 (l : Launch) (dC : Nat → ClassId) (dI : Nat → Nat → Nat) (cyI cyB cyJ cyZ cyH cyN : ClassId) (p0 p1 : Int64) (g0 : (-4095) ≤ p0.toInt ∧ p0.toInt ≤ 4095) (g1 : p1.toInt.natAbs < p0.toInt.natAbs) : Met l yX12_common (wk yX12_common cX12_common 4 (some .long)) ({ frames := 24, cells := 0, slots := 0, locals := 589 }) (va_Pc [.long p0, .long p1] (fun _ => True)) (vp_Sl (fun r : Int64 => r.toInt ≠ 0)) 0 0 (fun _ => False) := by
  refine Met.ofW (cc := cX12_common) (maxL := 4) (ret := (some .long)) (by decide) rfl ?_
  intro p e s m args below meth c s₁ B hml hv
  obtain ⟨rfl, -⟩ := hv
  have hx := B.exec
  have hb := B.bytes
  have hr := B.returns
  have hts : ∀ w ∈ uU, w.before ([.long p0, .long p1] : List Value).toArray s = true := fun w h => atoms_spec (ws := wk yX12_common cX12_common 4 (some .long)) B.pre w (List.mem_cons_of_mem _ h)
  have hown : s.vm.findClass RX12 = some m.cls := findClass_of_methodNamed B.named
  have hlocks := B.notSynchronized
  have hl := lv_entry ([.long p0, .long p1]) (n := 4) (Nat.le_of_ble_eq_true rfl)
  rw [lg_entry_eq]
  generalize (lg_sl ([.long p0, .long p1]) ++ List.replicate (4 - (lg_sl ([.long p0, .long p1])).length) Slot.unset).toArray = ls at hl ⊢
  have hl : lv_has ls 4 [(0, .long p0), (2, .long p1)] := hl
  obtain ⟨Q9, hQ9⟩ : ∃ Q9 : State → Prop, Q9 = MQ below (vp_Sl (fun r : Int64 => r.toInt ≠ 0)) ([.long p0, .long p1] : List Value).toArray s 0 0 (fun _ => False) := ⟨_, rfl⟩
  rw [← hQ9]
  refine lv_lload_n hx hb dX12_common_0 rfl (lv_at hl 1 rfl) ?_
  refine lv_lconst (v := 0) hx hb dX12_common_1 (by decide) ?_
  refine W.lcmp hx hb dX12_common_2 ?_
  refine lv_if_ne (tgt := 10) hx hb dX12_common_3 (by decide) (fun c_1 => ?_) (fun c_1 => ?_)
  · have c_1 : p1.toInt ≠ 0 := cv_cne c_1
    refine lv_lload_n hx hb dX12_common_10 rfl (lv_at hl 1 rfl) ?_
    refine lv_lload_n hx hb dX12_common_11 rfl (lv_at hl 0 rfl) ?_
    refine lv_lload_n hx hb dX12_common_12 rfl (lv_at hl 1 rfl) ?_
    refine lv_lrem hx hb dX12_common_13 (fun q => by have := congrArg Int64.toInt q; have h0 : (0 : Int64).toInt = 0 := rfl; omega) ?_
    refine lv_topl (fun y_2 ey_2 => ?_)
    have fy_2 : y_2.toInt = p0.toInt.tmod p1.toInt := by rw [ey_2]; exact cv_remT (by omega)
    have gy_2 : 2 * y_2.toInt.natAbs < p0.toInt.natAbs := by rw [fy_2, Int.natAbs_tmod]; exact mod_half (by omega) (by omega)
    refine vp_callSl (va_Run.run (va_runS (As := [.long p1, .long y_2]) (rest := []) ⟨hx, hb, hml, hown, hts⟩ (m_commonE11 l dC dI cyI cyB cyJ cyZ cyH cyN p1 y_2 (by omega) (by omega)) (va_cwS 2 hts (gdS wd_8_173 wd_8_174 wd_1_11 wd_8_175) rfl rfl rfl (by decide +kernel) ⟨Nat.le_of_ble_eq_true rfl, Nat.le_of_ble_eq_true rfl⟩) ⟨fun a U g mk q => q, fun U hU hW => ⟨rfl, trivial⟩⟩ rfl rfl hl.1 rfl (lv_room (Nat.le_of_ble_eq_true rfl)) dX12_common_14 ⟨Nat.le_of_ble_eq_true rfl, Nat.le_of_ble_eq_true rfl⟩)) (fun r_3 hw => ?_)
    have hrr_3 := hw
    rw [hQ9]
    exact W.lret (v := r_3) hx hb hr (fun t ht hW => ⟨r_3, rfl, hrr_3, ht⟩) (fun q h => by cases h) dX12_common_17
  · have c_1 : p1.toInt = 0 := cv_ceq c_1
    refine lv_lload_n hx hb dX12_common_6 rfl (lv_at hl 0 rfl) ?_
    refine lv_goto (tgt := 17) hx hb dX12_common_7 (by decide) ?_
    rw [hQ9]
    exact W.lret (v := p0) hx hb hr (fun t ht hW => ⟨p0, rfl, (by omega), ht⟩) (fun q h => by cases h) dX12_common_17

/- X12_common -/
set_option maxHeartbeats 4000000 in
set_option maxRecDepth 100000 in
theorem m_commonE12 (l : Launch) (dC : Nat → ClassId) (dI : Nat → Nat → Nat) (cyI cyB cyJ cyZ cyH cyN : ClassId) (p0 p1 : Int64) (g0 : (-4095) ≤ p1.toInt ∧ p1.toInt ≤ 4095) (g1 : ¬ (p0.toInt = 0 ∧ p1.toInt = 0)) : Met l yX12_common (wk yX12_common cX12_common 4 (some .long)) ({ frames := 25, cells := 0, slots := 0, locals := 612 }) (va_Pc [.long p0, .long p1] (fun _ => True)) (vp_Sl (fun r : Int64 => r.toInt ≠ 0)) 0 0 (fun _ => False) := by
  refine Met.ofW (cc := cX12_common) (maxL := 4) (ret := (some .long)) (by decide) rfl ?_
  intro p e s m args below meth c s₁ B hml hv
  obtain ⟨rfl, -⟩ := hv
  have hx := B.exec
  have hb := B.bytes
  have hr := B.returns
  have hts : ∀ w ∈ uU, w.before ([.long p0, .long p1] : List Value).toArray s = true := fun w h => atoms_spec (ws := wk yX12_common cX12_common 4 (some .long)) B.pre w (List.mem_cons_of_mem _ h)
  have hown : s.vm.findClass RX12 = some m.cls := findClass_of_methodNamed B.named
  have hlocks := B.notSynchronized
  have hl := lv_entry ([.long p0, .long p1]) (n := 4) (Nat.le_of_ble_eq_true rfl)
  rw [lg_entry_eq]
  generalize (lg_sl ([.long p0, .long p1]) ++ List.replicate (4 - (lg_sl ([.long p0, .long p1])).length) Slot.unset).toArray = ls at hl ⊢
  have hl : lv_has ls 4 [(0, .long p0), (2, .long p1)] := hl
  obtain ⟨Q9, hQ9⟩ : ∃ Q9 : State → Prop, Q9 = MQ below (vp_Sl (fun r : Int64 => r.toInt ≠ 0)) ([.long p0, .long p1] : List Value).toArray s 0 0 (fun _ => False) := ⟨_, rfl⟩
  rw [← hQ9]
  refine lv_lload_n hx hb dX12_common_0 rfl (lv_at hl 1 rfl) ?_
  refine lv_lconst (v := 0) hx hb dX12_common_1 (by decide) ?_
  refine W.lcmp hx hb dX12_common_2 ?_
  refine lv_if_ne (tgt := 10) hx hb dX12_common_3 (by decide) (fun c_1 => ?_) (fun c_1 => ?_)
  · have c_1 : p1.toInt ≠ 0 := cv_cne c_1
    refine lv_lload_n hx hb dX12_common_10 rfl (lv_at hl 1 rfl) ?_
    refine lv_lload_n hx hb dX12_common_11 rfl (lv_at hl 0 rfl) ?_
    refine lv_lload_n hx hb dX12_common_12 rfl (lv_at hl 1 rfl) ?_
    refine lv_lrem hx hb dX12_common_13 (fun q => by have := congrArg Int64.toInt q; have h0 : (0 : Int64).toInt = 0 := rfl; omega) ?_
    refine lv_topl (fun y_2 ey_2 => ?_)
    have fy_2 : y_2.toInt = p0.toInt.tmod p1.toInt := by rw [ey_2]; exact cv_remT (by omega)
    have gy_2 : y_2.toInt.natAbs < p1.toInt.natAbs := by rw [fy_2, Int.natAbs_tmod]; exact Nat.mod_lt _ (by omega)
    refine vp_callSl (va_Run.run (va_runS (As := [.long p1, .long y_2]) (rest := []) ⟨hx, hb, hml, hown, hts⟩ (m_commonO12 l dC dI cyI cyB cyJ cyZ cyH cyN p1 y_2 (by omega) (by omega)) (va_cwS 2 hts (gdS wd_8_173 wd_8_174 wd_1_11 wd_8_175) rfl rfl rfl (by decide +kernel) ⟨Nat.le_of_ble_eq_true rfl, Nat.le_of_ble_eq_true rfl⟩) ⟨fun a U g mk q => q, fun U hU hW => ⟨rfl, trivial⟩⟩ rfl rfl hl.1 rfl (lv_room (Nat.le_of_ble_eq_true rfl)) dX12_common_14 ⟨Nat.le_of_ble_eq_true rfl, Nat.le_of_ble_eq_true rfl⟩)) (fun r_3 hw => ?_)
    have hrr_3 := hw
    rw [hQ9]
    exact W.lret (v := r_3) hx hb hr (fun t ht hW => ⟨r_3, rfl, hrr_3, ht⟩) (fun q h => by cases h) dX12_common_17
  · have c_1 : p1.toInt = 0 := cv_ceq c_1
    refine lv_lload_n hx hb dX12_common_6 rfl (lv_at hl 0 rfl) ?_
    refine lv_goto (tgt := 17) hx hb dX12_common_7 (by decide) ?_
    rw [hQ9]
    exact W.lret (v := p0) hx hb hr (fun t ht hW => ⟨p0, rfl, (by omega), ht⟩) (fun q h => by cases h) dX12_common_17

/- X12_common -/
set_option maxHeartbeats 4000000 in
set_option maxRecDepth 100000 in
theorem m_commonO13 (l : Launch) (dC : Nat → ClassId) (dI : Nat → Nat → Nat) (cyI cyB cyJ cyZ cyH cyN : ClassId) (p0 p1 : Int64) (g0 : (-8191) ≤ p0.toInt ∧ p0.toInt ≤ 8191) (g1 : p1.toInt.natAbs < p0.toInt.natAbs) : Met l yX12_common (wk yX12_common cX12_common 4 (some .long)) ({ frames := 26, cells := 0, slots := 0, locals := 635 }) (va_Pc [.long p0, .long p1] (fun _ => True)) (vp_Sl (fun r : Int64 => r.toInt ≠ 0)) 0 0 (fun _ => False) := by
  refine Met.ofW (cc := cX12_common) (maxL := 4) (ret := (some .long)) (by decide) rfl ?_
  intro p e s m args below meth c s₁ B hml hv
  obtain ⟨rfl, -⟩ := hv
  have hx := B.exec
  have hb := B.bytes
  have hr := B.returns
  have hts : ∀ w ∈ uU, w.before ([.long p0, .long p1] : List Value).toArray s = true := fun w h => atoms_spec (ws := wk yX12_common cX12_common 4 (some .long)) B.pre w (List.mem_cons_of_mem _ h)
  have hown : s.vm.findClass RX12 = some m.cls := findClass_of_methodNamed B.named
  have hlocks := B.notSynchronized
  have hl := lv_entry ([.long p0, .long p1]) (n := 4) (Nat.le_of_ble_eq_true rfl)
  rw [lg_entry_eq]
  generalize (lg_sl ([.long p0, .long p1]) ++ List.replicate (4 - (lg_sl ([.long p0, .long p1])).length) Slot.unset).toArray = ls at hl ⊢
  have hl : lv_has ls 4 [(0, .long p0), (2, .long p1)] := hl
  obtain ⟨Q9, hQ9⟩ : ∃ Q9 : State → Prop, Q9 = MQ below (vp_Sl (fun r : Int64 => r.toInt ≠ 0)) ([.long p0, .long p1] : List Value).toArray s 0 0 (fun _ => False) := ⟨_, rfl⟩
  rw [← hQ9]
  refine lv_lload_n hx hb dX12_common_0 rfl (lv_at hl 1 rfl) ?_
  refine lv_lconst (v := 0) hx hb dX12_common_1 (by decide) ?_
  refine W.lcmp hx hb dX12_common_2 ?_
  refine lv_if_ne (tgt := 10) hx hb dX12_common_3 (by decide) (fun c_1 => ?_) (fun c_1 => ?_)
  · have c_1 : p1.toInt ≠ 0 := cv_cne c_1
    refine lv_lload_n hx hb dX12_common_10 rfl (lv_at hl 1 rfl) ?_
    refine lv_lload_n hx hb dX12_common_11 rfl (lv_at hl 0 rfl) ?_
    refine lv_lload_n hx hb dX12_common_12 rfl (lv_at hl 1 rfl) ?_
    refine lv_lrem hx hb dX12_common_13 (fun q => by have := congrArg Int64.toInt q; have h0 : (0 : Int64).toInt = 0 := rfl; omega) ?_
    refine lv_topl (fun y_2 ey_2 => ?_)
    have fy_2 : y_2.toInt = p0.toInt.tmod p1.toInt := by rw [ey_2]; exact cv_remT (by omega)
    have gy_2 : 2 * y_2.toInt.natAbs < p0.toInt.natAbs := by rw [fy_2, Int.natAbs_tmod]; exact mod_half (by omega) (by omega)
    refine vp_callSl (va_Run.run (va_runS (As := [.long p1, .long y_2]) (rest := []) ⟨hx, hb, hml, hown, hts⟩ (m_commonE12 l dC dI cyI cyB cyJ cyZ cyH cyN p1 y_2 (by omega) (by omega)) (va_cwS 2 hts (gdS wd_8_173 wd_8_174 wd_1_11 wd_8_175) rfl rfl rfl (by decide +kernel) ⟨Nat.le_of_ble_eq_true rfl, Nat.le_of_ble_eq_true rfl⟩) ⟨fun a U g mk q => q, fun U hU hW => ⟨rfl, trivial⟩⟩ rfl rfl hl.1 rfl (lv_room (Nat.le_of_ble_eq_true rfl)) dX12_common_14 ⟨Nat.le_of_ble_eq_true rfl, Nat.le_of_ble_eq_true rfl⟩)) (fun r_3 hw => ?_)
    have hrr_3 := hw
    rw [hQ9]
    exact W.lret (v := r_3) hx hb hr (fun t ht hW => ⟨r_3, rfl, hrr_3, ht⟩) (fun q h => by cases h) dX12_common_17
  · have c_1 : p1.toInt = 0 := cv_ceq c_1
    refine lv_lload_n hx hb dX12_common_6 rfl (lv_at hl 0 rfl) ?_
    refine lv_goto (tgt := 17) hx hb dX12_common_7 (by decide) ?_
    rw [hQ9]
    exact W.lret (v := p0) hx hb hr (fun t ht hW => ⟨p0, rfl, (by omega), ht⟩) (fun q h => by cases h) dX12_common_17

/- X12_common -/
set_option maxHeartbeats 4000000 in
set_option maxRecDepth 100000 in
theorem m_commonE13 (l : Launch) (dC : Nat → ClassId) (dI : Nat → Nat → Nat) (cyI cyB cyJ cyZ cyH cyN : ClassId) (p0 p1 : Int64) (g0 : (-8191) ≤ p1.toInt ∧ p1.toInt ≤ 8191) (g1 : ¬ (p0.toInt = 0 ∧ p1.toInt = 0)) : Met l yX12_common (wk yX12_common cX12_common 4 (some .long)) ({ frames := 27, cells := 0, slots := 0, locals := 658 }) (va_Pc [.long p0, .long p1] (fun _ => True)) (vp_Sl (fun r : Int64 => r.toInt ≠ 0)) 0 0 (fun _ => False) := by
  refine Met.ofW (cc := cX12_common) (maxL := 4) (ret := (some .long)) (by decide) rfl ?_
  intro p e s m args below meth c s₁ B hml hv
  obtain ⟨rfl, -⟩ := hv
  have hx := B.exec
  have hb := B.bytes
  have hr := B.returns
  have hts : ∀ w ∈ uU, w.before ([.long p0, .long p1] : List Value).toArray s = true := fun w h => atoms_spec (ws := wk yX12_common cX12_common 4 (some .long)) B.pre w (List.mem_cons_of_mem _ h)
  have hown : s.vm.findClass RX12 = some m.cls := findClass_of_methodNamed B.named
  have hlocks := B.notSynchronized
  have hl := lv_entry ([.long p0, .long p1]) (n := 4) (Nat.le_of_ble_eq_true rfl)
  rw [lg_entry_eq]
  generalize (lg_sl ([.long p0, .long p1]) ++ List.replicate (4 - (lg_sl ([.long p0, .long p1])).length) Slot.unset).toArray = ls at hl ⊢
  have hl : lv_has ls 4 [(0, .long p0), (2, .long p1)] := hl
  obtain ⟨Q9, hQ9⟩ : ∃ Q9 : State → Prop, Q9 = MQ below (vp_Sl (fun r : Int64 => r.toInt ≠ 0)) ([.long p0, .long p1] : List Value).toArray s 0 0 (fun _ => False) := ⟨_, rfl⟩
  rw [← hQ9]
  refine lv_lload_n hx hb dX12_common_0 rfl (lv_at hl 1 rfl) ?_
  refine lv_lconst (v := 0) hx hb dX12_common_1 (by decide) ?_
  refine W.lcmp hx hb dX12_common_2 ?_
  refine lv_if_ne (tgt := 10) hx hb dX12_common_3 (by decide) (fun c_1 => ?_) (fun c_1 => ?_)
  · have c_1 : p1.toInt ≠ 0 := cv_cne c_1
    refine lv_lload_n hx hb dX12_common_10 rfl (lv_at hl 1 rfl) ?_
    refine lv_lload_n hx hb dX12_common_11 rfl (lv_at hl 0 rfl) ?_
    refine lv_lload_n hx hb dX12_common_12 rfl (lv_at hl 1 rfl) ?_
    refine lv_lrem hx hb dX12_common_13 (fun q => by have := congrArg Int64.toInt q; have h0 : (0 : Int64).toInt = 0 := rfl; omega) ?_
    refine lv_topl (fun y_2 ey_2 => ?_)
    have fy_2 : y_2.toInt = p0.toInt.tmod p1.toInt := by rw [ey_2]; exact cv_remT (by omega)
    have gy_2 : y_2.toInt.natAbs < p1.toInt.natAbs := by rw [fy_2, Int.natAbs_tmod]; exact Nat.mod_lt _ (by omega)
    refine vp_callSl (va_Run.run (va_runS (As := [.long p1, .long y_2]) (rest := []) ⟨hx, hb, hml, hown, hts⟩ (m_commonO13 l dC dI cyI cyB cyJ cyZ cyH cyN p1 y_2 (by omega) (by omega)) (va_cwS 2 hts (gdS wd_8_173 wd_8_174 wd_1_11 wd_8_175) rfl rfl rfl (by decide +kernel) ⟨Nat.le_of_ble_eq_true rfl, Nat.le_of_ble_eq_true rfl⟩) ⟨fun a U g mk q => q, fun U hU hW => ⟨rfl, trivial⟩⟩ rfl rfl hl.1 rfl (lv_room (Nat.le_of_ble_eq_true rfl)) dX12_common_14 ⟨Nat.le_of_ble_eq_true rfl, Nat.le_of_ble_eq_true rfl⟩)) (fun r_3 hw => ?_)
    have hrr_3 := hw
    rw [hQ9]
    exact W.lret (v := r_3) hx hb hr (fun t ht hW => ⟨r_3, rfl, hrr_3, ht⟩) (fun q h => by cases h) dX12_common_17
  · have c_1 : p1.toInt = 0 := cv_ceq c_1
    refine lv_lload_n hx hb dX12_common_6 rfl (lv_at hl 0 rfl) ?_
    refine lv_goto (tgt := 17) hx hb dX12_common_7 (by decide) ?_
    rw [hQ9]
    exact W.lret (v := p0) hx hb hr (fun t ht hW => ⟨p0, rfl, (by omega), ht⟩) (fun q h => by cases h) dX12_common_17

/- X12_common -/
set_option maxHeartbeats 4000000 in
set_option maxRecDepth 100000 in
theorem m_commonO14 (l : Launch) (dC : Nat → ClassId) (dI : Nat → Nat → Nat) (cyI cyB cyJ cyZ cyH cyN : ClassId) (p0 p1 : Int64) (g0 : (-16383) ≤ p0.toInt ∧ p0.toInt ≤ 16383) (g1 : p1.toInt.natAbs < p0.toInt.natAbs) : Met l yX12_common (wk yX12_common cX12_common 4 (some .long)) ({ frames := 28, cells := 0, slots := 0, locals := 681 }) (va_Pc [.long p0, .long p1] (fun _ => True)) (vp_Sl (fun r : Int64 => r.toInt ≠ 0)) 0 0 (fun _ => False) := by
  refine Met.ofW (cc := cX12_common) (maxL := 4) (ret := (some .long)) (by decide) rfl ?_
  intro p e s m args below meth c s₁ B hml hv
  obtain ⟨rfl, -⟩ := hv
  have hx := B.exec
  have hb := B.bytes
  have hr := B.returns
  have hts : ∀ w ∈ uU, w.before ([.long p0, .long p1] : List Value).toArray s = true := fun w h => atoms_spec (ws := wk yX12_common cX12_common 4 (some .long)) B.pre w (List.mem_cons_of_mem _ h)
  have hown : s.vm.findClass RX12 = some m.cls := findClass_of_methodNamed B.named
  have hlocks := B.notSynchronized
  have hl := lv_entry ([.long p0, .long p1]) (n := 4) (Nat.le_of_ble_eq_true rfl)
  rw [lg_entry_eq]
  generalize (lg_sl ([.long p0, .long p1]) ++ List.replicate (4 - (lg_sl ([.long p0, .long p1])).length) Slot.unset).toArray = ls at hl ⊢
  have hl : lv_has ls 4 [(0, .long p0), (2, .long p1)] := hl
  obtain ⟨Q9, hQ9⟩ : ∃ Q9 : State → Prop, Q9 = MQ below (vp_Sl (fun r : Int64 => r.toInt ≠ 0)) ([.long p0, .long p1] : List Value).toArray s 0 0 (fun _ => False) := ⟨_, rfl⟩
  rw [← hQ9]
  refine lv_lload_n hx hb dX12_common_0 rfl (lv_at hl 1 rfl) ?_
  refine lv_lconst (v := 0) hx hb dX12_common_1 (by decide) ?_
  refine W.lcmp hx hb dX12_common_2 ?_
  refine lv_if_ne (tgt := 10) hx hb dX12_common_3 (by decide) (fun c_1 => ?_) (fun c_1 => ?_)
  · have c_1 : p1.toInt ≠ 0 := cv_cne c_1
    refine lv_lload_n hx hb dX12_common_10 rfl (lv_at hl 1 rfl) ?_
    refine lv_lload_n hx hb dX12_common_11 rfl (lv_at hl 0 rfl) ?_
    refine lv_lload_n hx hb dX12_common_12 rfl (lv_at hl 1 rfl) ?_
    refine lv_lrem hx hb dX12_common_13 (fun q => by have := congrArg Int64.toInt q; have h0 : (0 : Int64).toInt = 0 := rfl; omega) ?_
    refine lv_topl (fun y_2 ey_2 => ?_)
    have fy_2 : y_2.toInt = p0.toInt.tmod p1.toInt := by rw [ey_2]; exact cv_remT (by omega)
    have gy_2 : 2 * y_2.toInt.natAbs < p0.toInt.natAbs := by rw [fy_2, Int.natAbs_tmod]; exact mod_half (by omega) (by omega)
    refine vp_callSl (va_Run.run (va_runS (As := [.long p1, .long y_2]) (rest := []) ⟨hx, hb, hml, hown, hts⟩ (m_commonE13 l dC dI cyI cyB cyJ cyZ cyH cyN p1 y_2 (by omega) (by omega)) (va_cwS 2 hts (gdS wd_8_173 wd_8_174 wd_1_11 wd_8_175) rfl rfl rfl (by decide +kernel) ⟨Nat.le_of_ble_eq_true rfl, Nat.le_of_ble_eq_true rfl⟩) ⟨fun a U g mk q => q, fun U hU hW => ⟨rfl, trivial⟩⟩ rfl rfl hl.1 rfl (lv_room (Nat.le_of_ble_eq_true rfl)) dX12_common_14 ⟨Nat.le_of_ble_eq_true rfl, Nat.le_of_ble_eq_true rfl⟩)) (fun r_3 hw => ?_)
    have hrr_3 := hw
    rw [hQ9]
    exact W.lret (v := r_3) hx hb hr (fun t ht hW => ⟨r_3, rfl, hrr_3, ht⟩) (fun q h => by cases h) dX12_common_17
  · have c_1 : p1.toInt = 0 := cv_ceq c_1
    refine lv_lload_n hx hb dX12_common_6 rfl (lv_at hl 0 rfl) ?_
    refine lv_goto (tgt := 17) hx hb dX12_common_7 (by decide) ?_
    rw [hQ9]
    exact W.lret (v := p0) hx hb hr (fun t ht hW => ⟨p0, rfl, (by omega), ht⟩) (fun q h => by cases h) dX12_common_17

/- X12_common -/
set_option maxHeartbeats 4000000 in
set_option maxRecDepth 100000 in
theorem m_commonE14 (l : Launch) (dC : Nat → ClassId) (dI : Nat → Nat → Nat) (cyI cyB cyJ cyZ cyH cyN : ClassId) (p0 p1 : Int64) (g0 : (-16383) ≤ p1.toInt ∧ p1.toInt ≤ 16383) (g1 : ¬ (p0.toInt = 0 ∧ p1.toInt = 0)) : Met l yX12_common (wk yX12_common cX12_common 4 (some .long)) ({ frames := 29, cells := 0, slots := 0, locals := 704 }) (va_Pc [.long p0, .long p1] (fun _ => True)) (vp_Sl (fun r : Int64 => r.toInt ≠ 0)) 0 0 (fun _ => False) := by
  refine Met.ofW (cc := cX12_common) (maxL := 4) (ret := (some .long)) (by decide) rfl ?_
  intro p e s m args below meth c s₁ B hml hv
  obtain ⟨rfl, -⟩ := hv
  have hx := B.exec
  have hb := B.bytes
  have hr := B.returns
  have hts : ∀ w ∈ uU, w.before ([.long p0, .long p1] : List Value).toArray s = true := fun w h => atoms_spec (ws := wk yX12_common cX12_common 4 (some .long)) B.pre w (List.mem_cons_of_mem _ h)
  have hown : s.vm.findClass RX12 = some m.cls := findClass_of_methodNamed B.named
  have hlocks := B.notSynchronized
  have hl := lv_entry ([.long p0, .long p1]) (n := 4) (Nat.le_of_ble_eq_true rfl)
  rw [lg_entry_eq]
  generalize (lg_sl ([.long p0, .long p1]) ++ List.replicate (4 - (lg_sl ([.long p0, .long p1])).length) Slot.unset).toArray = ls at hl ⊢
  have hl : lv_has ls 4 [(0, .long p0), (2, .long p1)] := hl
  obtain ⟨Q9, hQ9⟩ : ∃ Q9 : State → Prop, Q9 = MQ below (vp_Sl (fun r : Int64 => r.toInt ≠ 0)) ([.long p0, .long p1] : List Value).toArray s 0 0 (fun _ => False) := ⟨_, rfl⟩
  rw [← hQ9]
  refine lv_lload_n hx hb dX12_common_0 rfl (lv_at hl 1 rfl) ?_
  refine lv_lconst (v := 0) hx hb dX12_common_1 (by decide) ?_
  refine W.lcmp hx hb dX12_common_2 ?_
  refine lv_if_ne (tgt := 10) hx hb dX12_common_3 (by decide) (fun c_1 => ?_) (fun c_1 => ?_)
  · have c_1 : p1.toInt ≠ 0 := cv_cne c_1
    refine lv_lload_n hx hb dX12_common_10 rfl (lv_at hl 1 rfl) ?_
    refine lv_lload_n hx hb dX12_common_11 rfl (lv_at hl 0 rfl) ?_
    refine lv_lload_n hx hb dX12_common_12 rfl (lv_at hl 1 rfl) ?_
    refine lv_lrem hx hb dX12_common_13 (fun q => by have := congrArg Int64.toInt q; have h0 : (0 : Int64).toInt = 0 := rfl; omega) ?_
    refine lv_topl (fun y_2 ey_2 => ?_)
    have fy_2 : y_2.toInt = p0.toInt.tmod p1.toInt := by rw [ey_2]; exact cv_remT (by omega)
    have gy_2 : y_2.toInt.natAbs < p1.toInt.natAbs := by rw [fy_2, Int.natAbs_tmod]; exact Nat.mod_lt _ (by omega)
    refine vp_callSl (va_Run.run (va_runS (As := [.long p1, .long y_2]) (rest := []) ⟨hx, hb, hml, hown, hts⟩ (m_commonO14 l dC dI cyI cyB cyJ cyZ cyH cyN p1 y_2 (by omega) (by omega)) (va_cwS 2 hts (gdS wd_8_173 wd_8_174 wd_1_11 wd_8_175) rfl rfl rfl (by decide +kernel) ⟨Nat.le_of_ble_eq_true rfl, Nat.le_of_ble_eq_true rfl⟩) ⟨fun a U g mk q => q, fun U hU hW => ⟨rfl, trivial⟩⟩ rfl rfl hl.1 rfl (lv_room (Nat.le_of_ble_eq_true rfl)) dX12_common_14 ⟨Nat.le_of_ble_eq_true rfl, Nat.le_of_ble_eq_true rfl⟩)) (fun r_3 hw => ?_)
    have hrr_3 := hw
    rw [hQ9]
    exact W.lret (v := r_3) hx hb hr (fun t ht hW => ⟨r_3, rfl, hrr_3, ht⟩) (fun q h => by cases h) dX12_common_17
  · have c_1 : p1.toInt = 0 := cv_ceq c_1
    refine lv_lload_n hx hb dX12_common_6 rfl (lv_at hl 0 rfl) ?_
    refine lv_goto (tgt := 17) hx hb dX12_common_7 (by decide) ?_
    rw [hQ9]
    exact W.lret (v := p0) hx hb hr (fun t ht hW => ⟨p0, rfl, (by omega), ht⟩) (fun q h => by cases h) dX12_common_17

/- X12_common -/
set_option maxHeartbeats 4000000 in
set_option maxRecDepth 100000 in
theorem m_commonO15 (l : Launch) (dC : Nat → ClassId) (dI : Nat → Nat → Nat) (cyI cyB cyJ cyZ cyH cyN : ClassId) (p0 p1 : Int64) (g0 : (-32767) ≤ p0.toInt ∧ p0.toInt ≤ 32767) (g1 : p1.toInt.natAbs < p0.toInt.natAbs) : Met l yX12_common (wk yX12_common cX12_common 4 (some .long)) ({ frames := 30, cells := 0, slots := 0, locals := 727 }) (va_Pc [.long p0, .long p1] (fun _ => True)) (vp_Sl (fun r : Int64 => r.toInt ≠ 0)) 0 0 (fun _ => False) := by
  refine Met.ofW (cc := cX12_common) (maxL := 4) (ret := (some .long)) (by decide) rfl ?_
  intro p e s m args below meth c s₁ B hml hv
  obtain ⟨rfl, -⟩ := hv
  have hx := B.exec
  have hb := B.bytes
  have hr := B.returns
  have hts : ∀ w ∈ uU, w.before ([.long p0, .long p1] : List Value).toArray s = true := fun w h => atoms_spec (ws := wk yX12_common cX12_common 4 (some .long)) B.pre w (List.mem_cons_of_mem _ h)
  have hown : s.vm.findClass RX12 = some m.cls := findClass_of_methodNamed B.named
  have hlocks := B.notSynchronized
  have hl := lv_entry ([.long p0, .long p1]) (n := 4) (Nat.le_of_ble_eq_true rfl)
  rw [lg_entry_eq]
  generalize (lg_sl ([.long p0, .long p1]) ++ List.replicate (4 - (lg_sl ([.long p0, .long p1])).length) Slot.unset).toArray = ls at hl ⊢
  have hl : lv_has ls 4 [(0, .long p0), (2, .long p1)] := hl
  obtain ⟨Q9, hQ9⟩ : ∃ Q9 : State → Prop, Q9 = MQ below (vp_Sl (fun r : Int64 => r.toInt ≠ 0)) ([.long p0, .long p1] : List Value).toArray s 0 0 (fun _ => False) := ⟨_, rfl⟩
  rw [← hQ9]
  refine lv_lload_n hx hb dX12_common_0 rfl (lv_at hl 1 rfl) ?_
  refine lv_lconst (v := 0) hx hb dX12_common_1 (by decide) ?_
  refine W.lcmp hx hb dX12_common_2 ?_
  refine lv_if_ne (tgt := 10) hx hb dX12_common_3 (by decide) (fun c_1 => ?_) (fun c_1 => ?_)
  · have c_1 : p1.toInt ≠ 0 := cv_cne c_1
    refine lv_lload_n hx hb dX12_common_10 rfl (lv_at hl 1 rfl) ?_
    refine lv_lload_n hx hb dX12_common_11 rfl (lv_at hl 0 rfl) ?_
    refine lv_lload_n hx hb dX12_common_12 rfl (lv_at hl 1 rfl) ?_
    refine lv_lrem hx hb dX12_common_13 (fun q => by have := congrArg Int64.toInt q; have h0 : (0 : Int64).toInt = 0 := rfl; omega) ?_
    refine lv_topl (fun y_2 ey_2 => ?_)
    have fy_2 : y_2.toInt = p0.toInt.tmod p1.toInt := by rw [ey_2]; exact cv_remT (by omega)
    have gy_2 : 2 * y_2.toInt.natAbs < p0.toInt.natAbs := by rw [fy_2, Int.natAbs_tmod]; exact mod_half (by omega) (by omega)
    refine vp_callSl (va_Run.run (va_runS (As := [.long p1, .long y_2]) (rest := []) ⟨hx, hb, hml, hown, hts⟩ (m_commonE14 l dC dI cyI cyB cyJ cyZ cyH cyN p1 y_2 (by omega) (by omega)) (va_cwS 2 hts (gdS wd_8_173 wd_8_174 wd_1_11 wd_8_175) rfl rfl rfl (by decide +kernel) ⟨Nat.le_of_ble_eq_true rfl, Nat.le_of_ble_eq_true rfl⟩) ⟨fun a U g mk q => q, fun U hU hW => ⟨rfl, trivial⟩⟩ rfl rfl hl.1 rfl (lv_room (Nat.le_of_ble_eq_true rfl)) dX12_common_14 ⟨Nat.le_of_ble_eq_true rfl, Nat.le_of_ble_eq_true rfl⟩)) (fun r_3 hw => ?_)
    have hrr_3 := hw
    rw [hQ9]
    exact W.lret (v := r_3) hx hb hr (fun t ht hW => ⟨r_3, rfl, hrr_3, ht⟩) (fun q h => by cases h) dX12_common_17
  · have c_1 : p1.toInt = 0 := cv_ceq c_1
    refine lv_lload_n hx hb dX12_common_6 rfl (lv_at hl 0 rfl) ?_
    refine lv_goto (tgt := 17) hx hb dX12_common_7 (by decide) ?_
    rw [hQ9]
    exact W.lret (v := p0) hx hb hr (fun t ht hW => ⟨p0, rfl, (by omega), ht⟩) (fun q h => by cases h) dX12_common_17

/- X12_common -/
set_option maxHeartbeats 4000000 in
set_option maxRecDepth 100000 in
theorem m_commonE15 (l : Launch) (dC : Nat → ClassId) (dI : Nat → Nat → Nat) (cyI cyB cyJ cyZ cyH cyN : ClassId) (p0 p1 : Int64) (g0 : (-32767) ≤ p1.toInt ∧ p1.toInt ≤ 32767) (g1 : ¬ (p0.toInt = 0 ∧ p1.toInt = 0)) : Met l yX12_common (wk yX12_common cX12_common 4 (some .long)) ({ frames := 31, cells := 0, slots := 0, locals := 750 }) (va_Pc [.long p0, .long p1] (fun _ => True)) (vp_Sl (fun r : Int64 => r.toInt ≠ 0)) 0 0 (fun _ => False) := by
  refine Met.ofW (cc := cX12_common) (maxL := 4) (ret := (some .long)) (by decide) rfl ?_
  intro p e s m args below meth c s₁ B hml hv
  obtain ⟨rfl, -⟩ := hv
  have hx := B.exec
  have hb := B.bytes
  have hr := B.returns
  have hts : ∀ w ∈ uU, w.before ([.long p0, .long p1] : List Value).toArray s = true := fun w h => atoms_spec (ws := wk yX12_common cX12_common 4 (some .long)) B.pre w (List.mem_cons_of_mem _ h)
  have hown : s.vm.findClass RX12 = some m.cls := findClass_of_methodNamed B.named
  have hlocks := B.notSynchronized
  have hl := lv_entry ([.long p0, .long p1]) (n := 4) (Nat.le_of_ble_eq_true rfl)
  rw [lg_entry_eq]
  generalize (lg_sl ([.long p0, .long p1]) ++ List.replicate (4 - (lg_sl ([.long p0, .long p1])).length) Slot.unset).toArray = ls at hl ⊢
  have hl : lv_has ls 4 [(0, .long p0), (2, .long p1)] := hl
  obtain ⟨Q9, hQ9⟩ : ∃ Q9 : State → Prop, Q9 = MQ below (vp_Sl (fun r : Int64 => r.toInt ≠ 0)) ([.long p0, .long p1] : List Value).toArray s 0 0 (fun _ => False) := ⟨_, rfl⟩
  rw [← hQ9]
  refine lv_lload_n hx hb dX12_common_0 rfl (lv_at hl 1 rfl) ?_
  refine lv_lconst (v := 0) hx hb dX12_common_1 (by decide) ?_
  refine W.lcmp hx hb dX12_common_2 ?_
  refine lv_if_ne (tgt := 10) hx hb dX12_common_3 (by decide) (fun c_1 => ?_) (fun c_1 => ?_)
  · have c_1 : p1.toInt ≠ 0 := cv_cne c_1
    refine lv_lload_n hx hb dX12_common_10 rfl (lv_at hl 1 rfl) ?_
    refine lv_lload_n hx hb dX12_common_11 rfl (lv_at hl 0 rfl) ?_
    refine lv_lload_n hx hb dX12_common_12 rfl (lv_at hl 1 rfl) ?_
    refine lv_lrem hx hb dX12_common_13 (fun q => by have := congrArg Int64.toInt q; have h0 : (0 : Int64).toInt = 0 := rfl; omega) ?_
    refine lv_topl (fun y_2 ey_2 => ?_)
    have fy_2 : y_2.toInt = p0.toInt.tmod p1.toInt := by rw [ey_2]; exact cv_remT (by omega)
    have gy_2 : y_2.toInt.natAbs < p1.toInt.natAbs := by rw [fy_2, Int.natAbs_tmod]; exact Nat.mod_lt _ (by omega)
    refine vp_callSl (va_Run.run (va_runS (As := [.long p1, .long y_2]) (rest := []) ⟨hx, hb, hml, hown, hts⟩ (m_commonO15 l dC dI cyI cyB cyJ cyZ cyH cyN p1 y_2 (by omega) (by omega)) (va_cwS 2 hts (gdS wd_8_173 wd_8_174 wd_1_11 wd_8_175) rfl rfl rfl (by decide +kernel) ⟨Nat.le_of_ble_eq_true rfl, Nat.le_of_ble_eq_true rfl⟩) ⟨fun a U g mk q => q, fun U hU hW => ⟨rfl, trivial⟩⟩ rfl rfl hl.1 rfl (lv_room (Nat.le_of_ble_eq_true rfl)) dX12_common_14 ⟨Nat.le_of_ble_eq_true rfl, Nat.le_of_ble_eq_true rfl⟩)) (fun r_3 hw => ?_)
    have hrr_3 := hw
    rw [hQ9]
    exact W.lret (v := r_3) hx hb hr (fun t ht hW => ⟨r_3, rfl, hrr_3, ht⟩) (fun q h => by cases h) dX12_common_17
  · have c_1 : p1.toInt = 0 := cv_ceq c_1
    refine lv_lload_n hx hb dX12_common_6 rfl (lv_at hl 0 rfl) ?_
    refine lv_goto (tgt := 17) hx hb dX12_common_7 (by decide) ?_
    rw [hQ9]
    exact W.lret (v := p0) hx hb hr (fun t ht hW => ⟨p0, rfl, (by omega), ht⟩) (fun q h => by cases h) dX12_common_17

/- X12_common -/
set_option maxHeartbeats 4000000 in
set_option maxRecDepth 100000 in
theorem m_commonO16 (l : Launch) (dC : Nat → ClassId) (dI : Nat → Nat → Nat) (cyI cyB cyJ cyZ cyH cyN : ClassId) (p0 p1 : Int64) (g0 : (-65535) ≤ p0.toInt ∧ p0.toInt ≤ 65535) (g1 : p1.toInt.natAbs < p0.toInt.natAbs) : Met l yX12_common (wk yX12_common cX12_common 4 (some .long)) ({ frames := 32, cells := 0, slots := 0, locals := 773 }) (va_Pc [.long p0, .long p1] (fun _ => True)) (vp_Sl (fun r : Int64 => r.toInt ≠ 0)) 0 0 (fun _ => False) := by
  refine Met.ofW (cc := cX12_common) (maxL := 4) (ret := (some .long)) (by decide) rfl ?_
  intro p e s m args below meth c s₁ B hml hv
  obtain ⟨rfl, -⟩ := hv
  have hx := B.exec
  have hb := B.bytes
  have hr := B.returns
  have hts : ∀ w ∈ uU, w.before ([.long p0, .long p1] : List Value).toArray s = true := fun w h => atoms_spec (ws := wk yX12_common cX12_common 4 (some .long)) B.pre w (List.mem_cons_of_mem _ h)
  have hown : s.vm.findClass RX12 = some m.cls := findClass_of_methodNamed B.named
  have hlocks := B.notSynchronized
  have hl := lv_entry ([.long p0, .long p1]) (n := 4) (Nat.le_of_ble_eq_true rfl)
  rw [lg_entry_eq]
  generalize (lg_sl ([.long p0, .long p1]) ++ List.replicate (4 - (lg_sl ([.long p0, .long p1])).length) Slot.unset).toArray = ls at hl ⊢
  have hl : lv_has ls 4 [(0, .long p0), (2, .long p1)] := hl
  obtain ⟨Q9, hQ9⟩ : ∃ Q9 : State → Prop, Q9 = MQ below (vp_Sl (fun r : Int64 => r.toInt ≠ 0)) ([.long p0, .long p1] : List Value).toArray s 0 0 (fun _ => False) := ⟨_, rfl⟩
  rw [← hQ9]
  refine lv_lload_n hx hb dX12_common_0 rfl (lv_at hl 1 rfl) ?_
  refine lv_lconst (v := 0) hx hb dX12_common_1 (by decide) ?_
  refine W.lcmp hx hb dX12_common_2 ?_
  refine lv_if_ne (tgt := 10) hx hb dX12_common_3 (by decide) (fun c_1 => ?_) (fun c_1 => ?_)
  · have c_1 : p1.toInt ≠ 0 := cv_cne c_1
    refine lv_lload_n hx hb dX12_common_10 rfl (lv_at hl 1 rfl) ?_
    refine lv_lload_n hx hb dX12_common_11 rfl (lv_at hl 0 rfl) ?_
    refine lv_lload_n hx hb dX12_common_12 rfl (lv_at hl 1 rfl) ?_
    refine lv_lrem hx hb dX12_common_13 (fun q => by have := congrArg Int64.toInt q; have h0 : (0 : Int64).toInt = 0 := rfl; omega) ?_
    refine lv_topl (fun y_2 ey_2 => ?_)
    have fy_2 : y_2.toInt = p0.toInt.tmod p1.toInt := by rw [ey_2]; exact cv_remT (by omega)
    have gy_2 : 2 * y_2.toInt.natAbs < p0.toInt.natAbs := by rw [fy_2, Int.natAbs_tmod]; exact mod_half (by omega) (by omega)
    refine vp_callSl (va_Run.run (va_runS (As := [.long p1, .long y_2]) (rest := []) ⟨hx, hb, hml, hown, hts⟩ (m_commonE15 l dC dI cyI cyB cyJ cyZ cyH cyN p1 y_2 (by omega) (by omega)) (va_cwS 2 hts (gdS wd_8_173 wd_8_174 wd_1_11 wd_8_175) rfl rfl rfl (by decide +kernel) ⟨Nat.le_of_ble_eq_true rfl, Nat.le_of_ble_eq_true rfl⟩) ⟨fun a U g mk q => q, fun U hU hW => ⟨rfl, trivial⟩⟩ rfl rfl hl.1 rfl (lv_room (Nat.le_of_ble_eq_true rfl)) dX12_common_14 ⟨Nat.le_of_ble_eq_true rfl, Nat.le_of_ble_eq_true rfl⟩)) (fun r_3 hw => ?_)
    have hrr_3 := hw
    rw [hQ9]
    exact W.lret (v := r_3) hx hb hr (fun t ht hW => ⟨r_3, rfl, hrr_3, ht⟩) (fun q h => by cases h) dX12_common_17
  · have c_1 : p1.toInt = 0 := cv_ceq c_1
    refine lv_lload_n hx hb dX12_common_6 rfl (lv_at hl 0 rfl) ?_
    refine lv_goto (tgt := 17) hx hb dX12_common_7 (by decide) ?_
    rw [hQ9]
    exact W.lret (v := p0) hx hb hr (fun t ht hW => ⟨p0, rfl, (by omega), ht⟩) (fun q h => by cases h) dX12_common_17

/- X12_common -/
set_option maxHeartbeats 4000000 in
set_option maxRecDepth 100000 in
theorem m_commonE16 (l : Launch) (dC : Nat → ClassId) (dI : Nat → Nat → Nat) (cyI cyB cyJ cyZ cyH cyN : ClassId) (p0 p1 : Int64) (g0 : (-65535) ≤ p1.toInt ∧ p1.toInt ≤ 65535) (g1 : ¬ (p0.toInt = 0 ∧ p1.toInt = 0)) : Met l yX12_common (wk yX12_common cX12_common 4 (some .long)) ({ frames := 33, cells := 0, slots := 0, locals := 796 }) (va_Pc [.long p0, .long p1] (fun _ => True)) (vp_Sl (fun r : Int64 => r.toInt ≠ 0)) 0 0 (fun _ => False) := by
  refine Met.ofW (cc := cX12_common) (maxL := 4) (ret := (some .long)) (by decide) rfl ?_
  intro p e s m args below meth c s₁ B hml hv
  obtain ⟨rfl, -⟩ := hv
  have hx := B.exec
  have hb := B.bytes
  have hr := B.returns
  have hts : ∀ w ∈ uU, w.before ([.long p0, .long p1] : List Value).toArray s = true := fun w h => atoms_spec (ws := wk yX12_common cX12_common 4 (some .long)) B.pre w (List.mem_cons_of_mem _ h)
  have hown : s.vm.findClass RX12 = some m.cls := findClass_of_methodNamed B.named
  have hlocks := B.notSynchronized
  have hl := lv_entry ([.long p0, .long p1]) (n := 4) (Nat.le_of_ble_eq_true rfl)
  rw [lg_entry_eq]
  generalize (lg_sl ([.long p0, .long p1]) ++ List.replicate (4 - (lg_sl ([.long p0, .long p1])).length) Slot.unset).toArray = ls at hl ⊢
  have hl : lv_has ls 4 [(0, .long p0), (2, .long p1)] := hl
  obtain ⟨Q9, hQ9⟩ : ∃ Q9 : State → Prop, Q9 = MQ below (vp_Sl (fun r : Int64 => r.toInt ≠ 0)) ([.long p0, .long p1] : List Value).toArray s 0 0 (fun _ => False) := ⟨_, rfl⟩
  rw [← hQ9]
  refine lv_lload_n hx hb dX12_common_0 rfl (lv_at hl 1 rfl) ?_
  refine lv_lconst (v := 0) hx hb dX12_common_1 (by decide) ?_
  refine W.lcmp hx hb dX12_common_2 ?_
  refine lv_if_ne (tgt := 10) hx hb dX12_common_3 (by decide) (fun c_1 => ?_) (fun c_1 => ?_)
  · have c_1 : p1.toInt ≠ 0 := cv_cne c_1
    refine lv_lload_n hx hb dX12_common_10 rfl (lv_at hl 1 rfl) ?_
    refine lv_lload_n hx hb dX12_common_11 rfl (lv_at hl 0 rfl) ?_
    refine lv_lload_n hx hb dX12_common_12 rfl (lv_at hl 1 rfl) ?_
    refine lv_lrem hx hb dX12_common_13 (fun q => by have := congrArg Int64.toInt q; have h0 : (0 : Int64).toInt = 0 := rfl; omega) ?_
    refine lv_topl (fun y_2 ey_2 => ?_)
    have fy_2 : y_2.toInt = p0.toInt.tmod p1.toInt := by rw [ey_2]; exact cv_remT (by omega)
    have gy_2 : y_2.toInt.natAbs < p1.toInt.natAbs := by rw [fy_2, Int.natAbs_tmod]; exact Nat.mod_lt _ (by omega)
    refine vp_callSl (va_Run.run (va_runS (As := [.long p1, .long y_2]) (rest := []) ⟨hx, hb, hml, hown, hts⟩ (m_commonO16 l dC dI cyI cyB cyJ cyZ cyH cyN p1 y_2 (by omega) (by omega)) (va_cwS 2 hts (gdS wd_8_173 wd_8_174 wd_1_11 wd_8_175) rfl rfl rfl (by decide +kernel) ⟨Nat.le_of_ble_eq_true rfl, Nat.le_of_ble_eq_true rfl⟩) ⟨fun a U g mk q => q, fun U hU hW => ⟨rfl, trivial⟩⟩ rfl rfl hl.1 rfl (lv_room (Nat.le_of_ble_eq_true rfl)) dX12_common_14 ⟨Nat.le_of_ble_eq_true rfl, Nat.le_of_ble_eq_true rfl⟩)) (fun r_3 hw => ?_)
    have hrr_3 := hw
    rw [hQ9]
    exact W.lret (v := r_3) hx hb hr (fun t ht hW => ⟨r_3, rfl, hrr_3, ht⟩) (fun q h => by cases h) dX12_common_17
  · have c_1 : p1.toInt = 0 := cv_ceq c_1
    refine lv_lload_n hx hb dX12_common_6 rfl (lv_at hl 0 rfl) ?_
    refine lv_goto (tgt := 17) hx hb dX12_common_7 (by decide) ?_
    rw [hQ9]
    exact W.lret (v := p0) hx hb hr (fun t ht hW => ⟨p0, rfl, (by omega), ht⟩) (fun q h => by cases h) dX12_common_17

/- X12_common -/
set_option maxHeartbeats 4000000 in
set_option maxRecDepth 100000 in
theorem m_commonO17 (l : Launch) (dC : Nat → ClassId) (dI : Nat → Nat → Nat) (cyI cyB cyJ cyZ cyH cyN : ClassId) (p0 p1 : Int64) (g0 : (-131071) ≤ p0.toInt ∧ p0.toInt ≤ 131071) (g1 : p1.toInt.natAbs < p0.toInt.natAbs) : Met l yX12_common (wk yX12_common cX12_common 4 (some .long)) ({ frames := 34, cells := 0, slots := 0, locals := 819 }) (va_Pc [.long p0, .long p1] (fun _ => True)) (vp_Sl (fun r : Int64 => r.toInt ≠ 0)) 0 0 (fun _ => False) := by
  refine Met.ofW (cc := cX12_common) (maxL := 4) (ret := (some .long)) (by decide) rfl ?_
  intro p e s m args below meth c s₁ B hml hv
  obtain ⟨rfl, -⟩ := hv
  have hx := B.exec
  have hb := B.bytes
  have hr := B.returns
  have hts : ∀ w ∈ uU, w.before ([.long p0, .long p1] : List Value).toArray s = true := fun w h => atoms_spec (ws := wk yX12_common cX12_common 4 (some .long)) B.pre w (List.mem_cons_of_mem _ h)
  have hown : s.vm.findClass RX12 = some m.cls := findClass_of_methodNamed B.named
  have hlocks := B.notSynchronized
  have hl := lv_entry ([.long p0, .long p1]) (n := 4) (Nat.le_of_ble_eq_true rfl)
  rw [lg_entry_eq]
  generalize (lg_sl ([.long p0, .long p1]) ++ List.replicate (4 - (lg_sl ([.long p0, .long p1])).length) Slot.unset).toArray = ls at hl ⊢
  have hl : lv_has ls 4 [(0, .long p0), (2, .long p1)] := hl
  obtain ⟨Q9, hQ9⟩ : ∃ Q9 : State → Prop, Q9 = MQ below (vp_Sl (fun r : Int64 => r.toInt ≠ 0)) ([.long p0, .long p1] : List Value).toArray s 0 0 (fun _ => False) := ⟨_, rfl⟩
  rw [← hQ9]
  refine lv_lload_n hx hb dX12_common_0 rfl (lv_at hl 1 rfl) ?_
  refine lv_lconst (v := 0) hx hb dX12_common_1 (by decide) ?_
  refine W.lcmp hx hb dX12_common_2 ?_
  refine lv_if_ne (tgt := 10) hx hb dX12_common_3 (by decide) (fun c_1 => ?_) (fun c_1 => ?_)
  · have c_1 : p1.toInt ≠ 0 := cv_cne c_1
    refine lv_lload_n hx hb dX12_common_10 rfl (lv_at hl 1 rfl) ?_
    refine lv_lload_n hx hb dX12_common_11 rfl (lv_at hl 0 rfl) ?_
    refine lv_lload_n hx hb dX12_common_12 rfl (lv_at hl 1 rfl) ?_
    refine lv_lrem hx hb dX12_common_13 (fun q => by have := congrArg Int64.toInt q; have h0 : (0 : Int64).toInt = 0 := rfl; omega) ?_
    refine lv_topl (fun y_2 ey_2 => ?_)
    have fy_2 : y_2.toInt = p0.toInt.tmod p1.toInt := by rw [ey_2]; exact cv_remT (by omega)
    have gy_2 : 2 * y_2.toInt.natAbs < p0.toInt.natAbs := by rw [fy_2, Int.natAbs_tmod]; exact mod_half (by omega) (by omega)
    refine vp_callSl (va_Run.run (va_runS (As := [.long p1, .long y_2]) (rest := []) ⟨hx, hb, hml, hown, hts⟩ (m_commonE16 l dC dI cyI cyB cyJ cyZ cyH cyN p1 y_2 (by omega) (by omega)) (va_cwS 2 hts (gdS wd_8_173 wd_8_174 wd_1_11 wd_8_175) rfl rfl rfl (by decide +kernel) ⟨Nat.le_of_ble_eq_true rfl, Nat.le_of_ble_eq_true rfl⟩) ⟨fun a U g mk q => q, fun U hU hW => ⟨rfl, trivial⟩⟩ rfl rfl hl.1 rfl (lv_room (Nat.le_of_ble_eq_true rfl)) dX12_common_14 ⟨Nat.le_of_ble_eq_true rfl, Nat.le_of_ble_eq_true rfl⟩)) (fun r_3 hw => ?_)
    have hrr_3 := hw
    rw [hQ9]
    exact W.lret (v := r_3) hx hb hr (fun t ht hW => ⟨r_3, rfl, hrr_3, ht⟩) (fun q h => by cases h) dX12_common_17
  · have c_1 : p1.toInt = 0 := cv_ceq c_1
    refine lv_lload_n hx hb dX12_common_6 rfl (lv_at hl 0 rfl) ?_
    refine lv_goto (tgt := 17) hx hb dX12_common_7 (by decide) ?_
    rw [hQ9]
    exact W.lret (v := p0) hx hb hr (fun t ht hW => ⟨p0, rfl, (by omega), ht⟩) (fun q h => by cases h) dX12_common_17

/- X12_common -/
set_option maxHeartbeats 4000000 in
set_option maxRecDepth 100000 in
theorem m_commonE17 (l : Launch) (dC : Nat → ClassId) (dI : Nat → Nat → Nat) (cyI cyB cyJ cyZ cyH cyN : ClassId) (p0 p1 : Int64) (g0 : (-131071) ≤ p1.toInt ∧ p1.toInt ≤ 131071) (g1 : ¬ (p0.toInt = 0 ∧ p1.toInt = 0)) : Met l yX12_common (wk yX12_common cX12_common 4 (some .long)) ({ frames := 35, cells := 0, slots := 0, locals := 842 }) (va_Pc [.long p0, .long p1] (fun _ => True)) (vp_Sl (fun r : Int64 => r.toInt ≠ 0)) 0 0 (fun _ => False) := by
  refine Met.ofW (cc := cX12_common) (maxL := 4) (ret := (some .long)) (by decide) rfl ?_
  intro p e s m args below meth c s₁ B hml hv
  obtain ⟨rfl, -⟩ := hv
  have hx := B.exec
  have hb := B.bytes
  have hr := B.returns
  have hts : ∀ w ∈ uU, w.before ([.long p0, .long p1] : List Value).toArray s = true := fun w h => atoms_spec (ws := wk yX12_common cX12_common 4 (some .long)) B.pre w (List.mem_cons_of_mem _ h)
  have hown : s.vm.findClass RX12 = some m.cls := findClass_of_methodNamed B.named
  have hlocks := B.notSynchronized
  have hl := lv_entry ([.long p0, .long p1]) (n := 4) (Nat.le_of_ble_eq_true rfl)
  rw [lg_entry_eq]
  generalize (lg_sl ([.long p0, .long p1]) ++ List.replicate (4 - (lg_sl ([.long p0, .long p1])).length) Slot.unset).toArray = ls at hl ⊢
  have hl : lv_has ls 4 [(0, .long p0), (2, .long p1)] := hl
  obtain ⟨Q9, hQ9⟩ : ∃ Q9 : State → Prop, Q9 = MQ below (vp_Sl (fun r : Int64 => r.toInt ≠ 0)) ([.long p0, .long p1] : List Value).toArray s 0 0 (fun _ => False) := ⟨_, rfl⟩
  rw [← hQ9]
  refine lv_lload_n hx hb dX12_common_0 rfl (lv_at hl 1 rfl) ?_
  refine lv_lconst (v := 0) hx hb dX12_common_1 (by decide) ?_
  refine W.lcmp hx hb dX12_common_2 ?_
  refine lv_if_ne (tgt := 10) hx hb dX12_common_3 (by decide) (fun c_1 => ?_) (fun c_1 => ?_)
  · have c_1 : p1.toInt ≠ 0 := cv_cne c_1
    refine lv_lload_n hx hb dX12_common_10 rfl (lv_at hl 1 rfl) ?_
    refine lv_lload_n hx hb dX12_common_11 rfl (lv_at hl 0 rfl) ?_
    refine lv_lload_n hx hb dX12_common_12 rfl (lv_at hl 1 rfl) ?_
    refine lv_lrem hx hb dX12_common_13 (fun q => by have := congrArg Int64.toInt q; have h0 : (0 : Int64).toInt = 0 := rfl; omega) ?_
    refine lv_topl (fun y_2 ey_2 => ?_)
    have fy_2 : y_2.toInt = p0.toInt.tmod p1.toInt := by rw [ey_2]; exact cv_remT (by omega)
    have gy_2 : y_2.toInt.natAbs < p1.toInt.natAbs := by rw [fy_2, Int.natAbs_tmod]; exact Nat.mod_lt _ (by omega)
    refine vp_callSl (va_Run.run (va_runS (As := [.long p1, .long y_2]) (rest := []) ⟨hx, hb, hml, hown, hts⟩ (m_commonO17 l dC dI cyI cyB cyJ cyZ cyH cyN p1 y_2 (by omega) (by omega)) (va_cwS 2 hts (gdS wd_8_173 wd_8_174 wd_1_11 wd_8_175) rfl rfl rfl (by decide +kernel) ⟨Nat.le_of_ble_eq_true rfl, Nat.le_of_ble_eq_true rfl⟩) ⟨fun a U g mk q => q, fun U hU hW => ⟨rfl, trivial⟩⟩ rfl rfl hl.1 rfl (lv_room (Nat.le_of_ble_eq_true rfl)) dX12_common_14 ⟨Nat.le_of_ble_eq_true rfl, Nat.le_of_ble_eq_true rfl⟩)) (fun r_3 hw => ?_)
    have hrr_3 := hw
    rw [hQ9]
    exact W.lret (v := r_3) hx hb hr (fun t ht hW => ⟨r_3, rfl, hrr_3, ht⟩) (fun q h => by cases h) dX12_common_17
  · have c_1 : p1.toInt = 0 := cv_ceq c_1
    refine lv_lload_n hx hb dX12_common_6 rfl (lv_at hl 0 rfl) ?_
    refine lv_goto (tgt := 17) hx hb dX12_common_7 (by decide) ?_
    rw [hQ9]
    exact W.lret (v := p0) hx hb hr (fun t ht hW => ⟨p0, rfl, (by omega), ht⟩) (fun q h => by cases h) dX12_common_17

/- X12_common -/
set_option maxHeartbeats 4000000 in
set_option maxRecDepth 100000 in
theorem m_commonO18 (l : Launch) (dC : Nat → ClassId) (dI : Nat → Nat → Nat) (cyI cyB cyJ cyZ cyH cyN : ClassId) (p0 p1 : Int64) (g0 : (-262143) ≤ p0.toInt ∧ p0.toInt ≤ 262143) (g1 : p1.toInt.natAbs < p0.toInt.natAbs) : Met l yX12_common (wk yX12_common cX12_common 4 (some .long)) ({ frames := 36, cells := 0, slots := 0, locals := 865 }) (va_Pc [.long p0, .long p1] (fun _ => True)) (vp_Sl (fun r : Int64 => r.toInt ≠ 0)) 0 0 (fun _ => False) := by
  refine Met.ofW (cc := cX12_common) (maxL := 4) (ret := (some .long)) (by decide) rfl ?_
  intro p e s m args below meth c s₁ B hml hv
  obtain ⟨rfl, -⟩ := hv
  have hx := B.exec
  have hb := B.bytes
  have hr := B.returns
  have hts : ∀ w ∈ uU, w.before ([.long p0, .long p1] : List Value).toArray s = true := fun w h => atoms_spec (ws := wk yX12_common cX12_common 4 (some .long)) B.pre w (List.mem_cons_of_mem _ h)
  have hown : s.vm.findClass RX12 = some m.cls := findClass_of_methodNamed B.named
  have hlocks := B.notSynchronized
  have hl := lv_entry ([.long p0, .long p1]) (n := 4) (Nat.le_of_ble_eq_true rfl)
  rw [lg_entry_eq]
  generalize (lg_sl ([.long p0, .long p1]) ++ List.replicate (4 - (lg_sl ([.long p0, .long p1])).length) Slot.unset).toArray = ls at hl ⊢
  have hl : lv_has ls 4 [(0, .long p0), (2, .long p1)] := hl
  obtain ⟨Q9, hQ9⟩ : ∃ Q9 : State → Prop, Q9 = MQ below (vp_Sl (fun r : Int64 => r.toInt ≠ 0)) ([.long p0, .long p1] : List Value).toArray s 0 0 (fun _ => False) := ⟨_, rfl⟩
  rw [← hQ9]
  refine lv_lload_n hx hb dX12_common_0 rfl (lv_at hl 1 rfl) ?_
  refine lv_lconst (v := 0) hx hb dX12_common_1 (by decide) ?_
  refine W.lcmp hx hb dX12_common_2 ?_
  refine lv_if_ne (tgt := 10) hx hb dX12_common_3 (by decide) (fun c_1 => ?_) (fun c_1 => ?_)
  · have c_1 : p1.toInt ≠ 0 := cv_cne c_1
    refine lv_lload_n hx hb dX12_common_10 rfl (lv_at hl 1 rfl) ?_
    refine lv_lload_n hx hb dX12_common_11 rfl (lv_at hl 0 rfl) ?_
    refine lv_lload_n hx hb dX12_common_12 rfl (lv_at hl 1 rfl) ?_
    refine lv_lrem hx hb dX12_common_13 (fun q => by have := congrArg Int64.toInt q; have h0 : (0 : Int64).toInt = 0 := rfl; omega) ?_
    refine lv_topl (fun y_2 ey_2 => ?_)
    have fy_2 : y_2.toInt = p0.toInt.tmod p1.toInt := by rw [ey_2]; exact cv_remT (by omega)
    have gy_2 : 2 * y_2.toInt.natAbs < p0.toInt.natAbs := by rw [fy_2, Int.natAbs_tmod]; exact mod_half (by omega) (by omega)
    refine vp_callSl (va_Run.run (va_runS (As := [.long p1, .long y_2]) (rest := []) ⟨hx, hb, hml, hown, hts⟩ (m_commonE17 l dC dI cyI cyB cyJ cyZ cyH cyN p1 y_2 (by omega) (by omega)) (va_cwS 2 hts (gdS wd_8_173 wd_8_174 wd_1_11 wd_8_175) rfl rfl rfl (by decide +kernel) ⟨Nat.le_of_ble_eq_true rfl, Nat.le_of_ble_eq_true rfl⟩) ⟨fun a U g mk q => q, fun U hU hW => ⟨rfl, trivial⟩⟩ rfl rfl hl.1 rfl (lv_room (Nat.le_of_ble_eq_true rfl)) dX12_common_14 ⟨Nat.le_of_ble_eq_true rfl, Nat.le_of_ble_eq_true rfl⟩)) (fun r_3 hw => ?_)
    have hrr_3 := hw
    rw [hQ9]
    exact W.lret (v := r_3) hx hb hr (fun t ht hW => ⟨r_3, rfl, hrr_3, ht⟩) (fun q h => by cases h) dX12_common_17
  · have c_1 : p1.toInt = 0 := cv_ceq c_1
    refine lv_lload_n hx hb dX12_common_6 rfl (lv_at hl 0 rfl) ?_
    refine lv_goto (tgt := 17) hx hb dX12_common_7 (by decide) ?_
    rw [hQ9]
    exact W.lret (v := p0) hx hb hr (fun t ht hW => ⟨p0, rfl, (by omega), ht⟩) (fun q h => by cases h) dX12_common_17

/- X12_common -/
set_option maxHeartbeats 4000000 in
set_option maxRecDepth 100000 in
theorem m_commonE18 (l : Launch) (dC : Nat → ClassId) (dI : Nat → Nat → Nat) (cyI cyB cyJ cyZ cyH cyN : ClassId) (p0 p1 : Int64) (g0 : (-262143) ≤ p1.toInt ∧ p1.toInt ≤ 262143) (g1 : ¬ (p0.toInt = 0 ∧ p1.toInt = 0)) : Met l yX12_common (wk yX12_common cX12_common 4 (some .long)) ({ frames := 37, cells := 0, slots := 0, locals := 888 }) (va_Pc [.long p0, .long p1] (fun _ => True)) (vp_Sl (fun r : Int64 => r.toInt ≠ 0)) 0 0 (fun _ => False) := by
  refine Met.ofW (cc := cX12_common) (maxL := 4) (ret := (some .long)) (by decide) rfl ?_
  intro p e s m args below meth c s₁ B hml hv
  obtain ⟨rfl, -⟩ := hv
  have hx := B.exec
  have hb := B.bytes
  have hr := B.returns
  have hts : ∀ w ∈ uU, w.before ([.long p0, .long p1] : List Value).toArray s = true := fun w h => atoms_spec (ws := wk yX12_common cX12_common 4 (some .long)) B.pre w (List.mem_cons_of_mem _ h)
  have hown : s.vm.findClass RX12 = some m.cls := findClass_of_methodNamed B.named
  have hlocks := B.notSynchronized
  have hl := lv_entry ([.long p0, .long p1]) (n := 4) (Nat.le_of_ble_eq_true rfl)
  rw [lg_entry_eq]
  generalize (lg_sl ([.long p0, .long p1]) ++ List.replicate (4 - (lg_sl ([.long p0, .long p1])).length) Slot.unset).toArray = ls at hl ⊢
  have hl : lv_has ls 4 [(0, .long p0), (2, .long p1)] := hl
  obtain ⟨Q9, hQ9⟩ : ∃ Q9 : State → Prop, Q9 = MQ below (vp_Sl (fun r : Int64 => r.toInt ≠ 0)) ([.long p0, .long p1] : List Value).toArray s 0 0 (fun _ => False) := ⟨_, rfl⟩
  rw [← hQ9]
  refine lv_lload_n hx hb dX12_common_0 rfl (lv_at hl 1 rfl) ?_
  refine lv_lconst (v := 0) hx hb dX12_common_1 (by decide) ?_
  refine W.lcmp hx hb dX12_common_2 ?_
  refine lv_if_ne (tgt := 10) hx hb dX12_common_3 (by decide) (fun c_1 => ?_) (fun c_1 => ?_)
  · have c_1 : p1.toInt ≠ 0 := cv_cne c_1
    refine lv_lload_n hx hb dX12_common_10 rfl (lv_at hl 1 rfl) ?_
    refine lv_lload_n hx hb dX12_common_11 rfl (lv_at hl 0 rfl) ?_
    refine lv_lload_n hx hb dX12_common_12 rfl (lv_at hl 1 rfl) ?_
    refine lv_lrem hx hb dX12_common_13 (fun q => by have := congrArg Int64.toInt q; have h0 : (0 : Int64).toInt = 0 := rfl; omega) ?_
    refine lv_topl (fun y_2 ey_2 => ?_)
    have fy_2 : y_2.toInt = p0.toInt.tmod p1.toInt := by rw [ey_2]; exact cv_remT (by omega)
    have gy_2 : y_2.toInt.natAbs < p1.toInt.natAbs := by rw [fy_2, Int.natAbs_tmod]; exact Nat.mod_lt _ (by omega)
    refine vp_callSl (va_Run.run (va_runS (As := [.long p1, .long y_2]) (rest := []) ⟨hx, hb, hml, hown, hts⟩ (m_commonO18 l dC dI cyI cyB cyJ cyZ cyH cyN p1 y_2 (by omega) (by omega)) (va_cwS 2 hts (gdS wd_8_173 wd_8_174 wd_1_11 wd_8_175) rfl rfl rfl (by decide +kernel) ⟨Nat.le_of_ble_eq_true rfl, Nat.le_of_ble_eq_true rfl⟩) ⟨fun a U g mk q => q, fun U hU hW => ⟨rfl, trivial⟩⟩ rfl rfl hl.1 rfl (lv_room (Nat.le_of_ble_eq_true rfl)) dX12_common_14 ⟨Nat.le_of_ble_eq_true rfl, Nat.le_of_ble_eq_true rfl⟩)) (fun r_3 hw => ?_)
    have hrr_3 := hw
    rw [hQ9]
    exact W.lret (v := r_3) hx hb hr (fun t ht hW => ⟨r_3, rfl, hrr_3, ht⟩) (fun q h => by cases h) dX12_common_17
  · have c_1 : p1.toInt = 0 := cv_ceq c_1
    refine lv_lload_n hx hb dX12_common_6 rfl (lv_at hl 0 rfl) ?_
    refine lv_goto (tgt := 17) hx hb dX12_common_7 (by decide) ?_
    rw [hQ9]
    exact W.lret (v := p0) hx hb hr (fun t ht hW => ⟨p0, rfl, (by omega), ht⟩) (fun q h => by cases h) dX12_common_17

/- X12_common -/
set_option maxHeartbeats 4000000 in
set_option maxRecDepth 100000 in
theorem m_commonO19 (l : Launch) (dC : Nat → ClassId) (dI : Nat → Nat → Nat) (cyI cyB cyJ cyZ cyH cyN : ClassId) (p0 p1 : Int64) (g0 : (-524287) ≤ p0.toInt ∧ p0.toInt ≤ 524287) (g1 : p1.toInt.natAbs < p0.toInt.natAbs) : Met l yX12_common (wk yX12_common cX12_common 4 (some .long)) ({ frames := 38, cells := 0, slots := 0, locals := 911 }) (va_Pc [.long p0, .long p1] (fun _ => True)) (vp_Sl (fun r : Int64 => r.toInt ≠ 0)) 0 0 (fun _ => False) := by
  refine Met.ofW (cc := cX12_common) (maxL := 4) (ret := (some .long)) (by decide) rfl ?_
  intro p e s m args below meth c s₁ B hml hv
  obtain ⟨rfl, -⟩ := hv
  have hx := B.exec
  have hb := B.bytes
  have hr := B.returns
  have hts : ∀ w ∈ uU, w.before ([.long p0, .long p1] : List Value).toArray s = true := fun w h => atoms_spec (ws := wk yX12_common cX12_common 4 (some .long)) B.pre w (List.mem_cons_of_mem _ h)
  have hown : s.vm.findClass RX12 = some m.cls := findClass_of_methodNamed B.named
  have hlocks := B.notSynchronized
  have hl := lv_entry ([.long p0, .long p1]) (n := 4) (Nat.le_of_ble_eq_true rfl)
  rw [lg_entry_eq]
  generalize (lg_sl ([.long p0, .long p1]) ++ List.replicate (4 - (lg_sl ([.long p0, .long p1])).length) Slot.unset).toArray = ls at hl ⊢
  have hl : lv_has ls 4 [(0, .long p0), (2, .long p1)] := hl
  obtain ⟨Q9, hQ9⟩ : ∃ Q9 : State → Prop, Q9 = MQ below (vp_Sl (fun r : Int64 => r.toInt ≠ 0)) ([.long p0, .long p1] : List Value).toArray s 0 0 (fun _ => False) := ⟨_, rfl⟩
  rw [← hQ9]
  refine lv_lload_n hx hb dX12_common_0 rfl (lv_at hl 1 rfl) ?_
  refine lv_lconst (v := 0) hx hb dX12_common_1 (by decide) ?_
  refine W.lcmp hx hb dX12_common_2 ?_
  refine lv_if_ne (tgt := 10) hx hb dX12_common_3 (by decide) (fun c_1 => ?_) (fun c_1 => ?_)
  · have c_1 : p1.toInt ≠ 0 := cv_cne c_1
    refine lv_lload_n hx hb dX12_common_10 rfl (lv_at hl 1 rfl) ?_
    refine lv_lload_n hx hb dX12_common_11 rfl (lv_at hl 0 rfl) ?_
    refine lv_lload_n hx hb dX12_common_12 rfl (lv_at hl 1 rfl) ?_
    refine lv_lrem hx hb dX12_common_13 (fun q => by have := congrArg Int64.toInt q; have h0 : (0 : Int64).toInt = 0 := rfl; omega) ?_
    refine lv_topl (fun y_2 ey_2 => ?_)
    have fy_2 : y_2.toInt = p0.toInt.tmod p1.toInt := by rw [ey_2]; exact cv_remT (by omega)
    have gy_2 : 2 * y_2.toInt.natAbs < p0.toInt.natAbs := by rw [fy_2, Int.natAbs_tmod]; exact mod_half (by omega) (by omega)
    refine vp_callSl (va_Run.run (va_runS (As := [.long p1, .long y_2]) (rest := []) ⟨hx, hb, hml, hown, hts⟩ (m_commonE18 l dC dI cyI cyB cyJ cyZ cyH cyN p1 y_2 (by omega) (by omega)) (va_cwS 2 hts (gdS wd_8_173 wd_8_174 wd_1_11 wd_8_175) rfl rfl rfl (by decide +kernel) ⟨Nat.le_of_ble_eq_true rfl, Nat.le_of_ble_eq_true rfl⟩) ⟨fun a U g mk q => q, fun U hU hW => ⟨rfl, trivial⟩⟩ rfl rfl hl.1 rfl (lv_room (Nat.le_of_ble_eq_true rfl)) dX12_common_14 ⟨Nat.le_of_ble_eq_true rfl, Nat.le_of_ble_eq_true rfl⟩)) (fun r_3 hw => ?_)
    have hrr_3 := hw
    rw [hQ9]
    exact W.lret (v := r_3) hx hb hr (fun t ht hW => ⟨r_3, rfl, hrr_3, ht⟩) (fun q h => by cases h) dX12_common_17
  · have c_1 : p1.toInt = 0 := cv_ceq c_1
    refine lv_lload_n hx hb dX12_common_6 rfl (lv_at hl 0 rfl) ?_
    refine lv_goto (tgt := 17) hx hb dX12_common_7 (by decide) ?_
    rw [hQ9]
    exact W.lret (v := p0) hx hb hr (fun t ht hW => ⟨p0, rfl, (by omega), ht⟩) (fun q h => by cases h) dX12_common_17

/- X12_common -/
set_option maxHeartbeats 4000000 in
set_option maxRecDepth 100000 in
theorem m_commonE19 (l : Launch) (dC : Nat → ClassId) (dI : Nat → Nat → Nat) (cyI cyB cyJ cyZ cyH cyN : ClassId) (p0 p1 : Int64) (g0 : (-524287) ≤ p1.toInt ∧ p1.toInt ≤ 524287) (g1 : ¬ (p0.toInt = 0 ∧ p1.toInt = 0)) : Met l yX12_common (wk yX12_common cX12_common 4 (some .long)) ({ frames := 39, cells := 0, slots := 0, locals := 934 }) (va_Pc [.long p0, .long p1] (fun _ => True)) (vp_Sl (fun r : Int64 => r.toInt ≠ 0)) 0 0 (fun _ => False) := by
  refine Met.ofW (cc := cX12_common) (maxL := 4) (ret := (some .long)) (by decide) rfl ?_
  intro p e s m args below meth c s₁ B hml hv
  obtain ⟨rfl, -⟩ := hv
  have hx := B.exec
  have hb := B.bytes
  have hr := B.returns
  have hts : ∀ w ∈ uU, w.before ([.long p0, .long p1] : List Value).toArray s = true := fun w h => atoms_spec (ws := wk yX12_common cX12_common 4 (some .long)) B.pre w (List.mem_cons_of_mem _ h)
  have hown : s.vm.findClass RX12 = some m.cls := findClass_of_methodNamed B.named
  have hlocks := B.notSynchronized
  have hl := lv_entry ([.long p0, .long p1]) (n := 4) (Nat.le_of_ble_eq_true rfl)
  rw [lg_entry_eq]
  generalize (lg_sl ([.long p0, .long p1]) ++ List.replicate (4 - (lg_sl ([.long p0, .long p1])).length) Slot.unset).toArray = ls at hl ⊢
  have hl : lv_has ls 4 [(0, .long p0), (2, .long p1)] := hl
  obtain ⟨Q9, hQ9⟩ : ∃ Q9 : State → Prop, Q9 = MQ below (vp_Sl (fun r : Int64 => r.toInt ≠ 0)) ([.long p0, .long p1] : List Value).toArray s 0 0 (fun _ => False) := ⟨_, rfl⟩
  rw [← hQ9]
  refine lv_lload_n hx hb dX12_common_0 rfl (lv_at hl 1 rfl) ?_
  refine lv_lconst (v := 0) hx hb dX12_common_1 (by decide) ?_
  refine W.lcmp hx hb dX12_common_2 ?_
  refine lv_if_ne (tgt := 10) hx hb dX12_common_3 (by decide) (fun c_1 => ?_) (fun c_1 => ?_)
  · have c_1 : p1.toInt ≠ 0 := cv_cne c_1
    refine lv_lload_n hx hb dX12_common_10 rfl (lv_at hl 1 rfl) ?_
    refine lv_lload_n hx hb dX12_common_11 rfl (lv_at hl 0 rfl) ?_
    refine lv_lload_n hx hb dX12_common_12 rfl (lv_at hl 1 rfl) ?_
    refine lv_lrem hx hb dX12_common_13 (fun q => by have := congrArg Int64.toInt q; have h0 : (0 : Int64).toInt = 0 := rfl; omega) ?_
    refine lv_topl (fun y_2 ey_2 => ?_)
    have fy_2 : y_2.toInt = p0.toInt.tmod p1.toInt := by rw [ey_2]; exact cv_remT (by omega)
    have gy_2 : y_2.toInt.natAbs < p1.toInt.natAbs := by rw [fy_2, Int.natAbs_tmod]; exact Nat.mod_lt _ (by omega)
    refine vp_callSl (va_Run.run (va_runS (As := [.long p1, .long y_2]) (rest := []) ⟨hx, hb, hml, hown, hts⟩ (m_commonO19 l dC dI cyI cyB cyJ cyZ cyH cyN p1 y_2 (by omega) (by omega)) (va_cwS 2 hts (gdS wd_8_173 wd_8_174 wd_1_11 wd_8_175) rfl rfl rfl (by decide +kernel) ⟨Nat.le_of_ble_eq_true rfl, Nat.le_of_ble_eq_true rfl⟩) ⟨fun a U g mk q => q, fun U hU hW => ⟨rfl, trivial⟩⟩ rfl rfl hl.1 rfl (lv_room (Nat.le_of_ble_eq_true rfl)) dX12_common_14 ⟨Nat.le_of_ble_eq_true rfl, Nat.le_of_ble_eq_true rfl⟩)) (fun r_3 hw => ?_)
    have hrr_3 := hw
    rw [hQ9]
    exact W.lret (v := r_3) hx hb hr (fun t ht hW => ⟨r_3, rfl, hrr_3, ht⟩) (fun q h => by cases h) dX12_common_17
  · have c_1 : p1.toInt = 0 := cv_ceq c_1
    refine lv_lload_n hx hb dX12_common_6 rfl (lv_at hl 0 rfl) ?_
    refine lv_goto (tgt := 17) hx hb dX12_common_7 (by decide) ?_
    rw [hQ9]
    exact W.lret (v := p0) hx hb hr (fun t ht hW => ⟨p0, rfl, (by omega), ht⟩) (fun q h => by cases h) dX12_common_17

/- X12_common -/
set_option maxHeartbeats 4000000 in
set_option maxRecDepth 100000 in
theorem m_commonO20 (l : Launch) (dC : Nat → ClassId) (dI : Nat → Nat → Nat) (cyI cyB cyJ cyZ cyH cyN : ClassId) (p0 p1 : Int64) (g0 : (-1048575) ≤ p0.toInt ∧ p0.toInt ≤ 1048575) (g1 : p1.toInt.natAbs < p0.toInt.natAbs) : Met l yX12_common (wk yX12_common cX12_common 4 (some .long)) ({ frames := 40, cells := 0, slots := 0, locals := 957 }) (va_Pc [.long p0, .long p1] (fun _ => True)) (vp_Sl (fun r : Int64 => r.toInt ≠ 0)) 0 0 (fun _ => False) := by
  refine Met.ofW (cc := cX12_common) (maxL := 4) (ret := (some .long)) (by decide) rfl ?_
  intro p e s m args below meth c s₁ B hml hv
  obtain ⟨rfl, -⟩ := hv
  have hx := B.exec
  have hb := B.bytes
  have hr := B.returns
  have hts : ∀ w ∈ uU, w.before ([.long p0, .long p1] : List Value).toArray s = true := fun w h => atoms_spec (ws := wk yX12_common cX12_common 4 (some .long)) B.pre w (List.mem_cons_of_mem _ h)
  have hown : s.vm.findClass RX12 = some m.cls := findClass_of_methodNamed B.named
  have hlocks := B.notSynchronized
  have hl := lv_entry ([.long p0, .long p1]) (n := 4) (Nat.le_of_ble_eq_true rfl)
  rw [lg_entry_eq]
  generalize (lg_sl ([.long p0, .long p1]) ++ List.replicate (4 - (lg_sl ([.long p0, .long p1])).length) Slot.unset).toArray = ls at hl ⊢
  have hl : lv_has ls 4 [(0, .long p0), (2, .long p1)] := hl
  obtain ⟨Q9, hQ9⟩ : ∃ Q9 : State → Prop, Q9 = MQ below (vp_Sl (fun r : Int64 => r.toInt ≠ 0)) ([.long p0, .long p1] : List Value).toArray s 0 0 (fun _ => False) := ⟨_, rfl⟩
  rw [← hQ9]
  refine lv_lload_n hx hb dX12_common_0 rfl (lv_at hl 1 rfl) ?_
  refine lv_lconst (v := 0) hx hb dX12_common_1 (by decide) ?_
  refine W.lcmp hx hb dX12_common_2 ?_
  refine lv_if_ne (tgt := 10) hx hb dX12_common_3 (by decide) (fun c_1 => ?_) (fun c_1 => ?_)
  · have c_1 : p1.toInt ≠ 0 := cv_cne c_1
    refine lv_lload_n hx hb dX12_common_10 rfl (lv_at hl 1 rfl) ?_
    refine lv_lload_n hx hb dX12_common_11 rfl (lv_at hl 0 rfl) ?_
    refine lv_lload_n hx hb dX12_common_12 rfl (lv_at hl 1 rfl) ?_
    refine lv_lrem hx hb dX12_common_13 (fun q => by have := congrArg Int64.toInt q; have h0 : (0 : Int64).toInt = 0 := rfl; omega) ?_
    refine lv_topl (fun y_2 ey_2 => ?_)
    have fy_2 : y_2.toInt = p0.toInt.tmod p1.toInt := by rw [ey_2]; exact cv_remT (by omega)
    have gy_2 : 2 * y_2.toInt.natAbs < p0.toInt.natAbs := by rw [fy_2, Int.natAbs_tmod]; exact mod_half (by omega) (by omega)
    refine vp_callSl (va_Run.run (va_runS (As := [.long p1, .long y_2]) (rest := []) ⟨hx, hb, hml, hown, hts⟩ (m_commonE19 l dC dI cyI cyB cyJ cyZ cyH cyN p1 y_2 (by omega) (by omega)) (va_cwS 2 hts (gdS wd_8_173 wd_8_174 wd_1_11 wd_8_175) rfl rfl rfl (by decide +kernel) ⟨Nat.le_of_ble_eq_true rfl, Nat.le_of_ble_eq_true rfl⟩) ⟨fun a U g mk q => q, fun U hU hW => ⟨rfl, trivial⟩⟩ rfl rfl hl.1 rfl (lv_room (Nat.le_of_ble_eq_true rfl)) dX12_common_14 ⟨Nat.le_of_ble_eq_true rfl, Nat.le_of_ble_eq_true rfl⟩)) (fun r_3 hw => ?_)
    have hrr_3 := hw
    rw [hQ9]
    exact W.lret (v := r_3) hx hb hr (fun t ht hW => ⟨r_3, rfl, hrr_3, ht⟩) (fun q h => by cases h) dX12_common_17
  · have c_1 : p1.toInt = 0 := cv_ceq c_1
    refine lv_lload_n hx hb dX12_common_6 rfl (lv_at hl 0 rfl) ?_
    refine lv_goto (tgt := 17) hx hb dX12_common_7 (by decide) ?_
    rw [hQ9]
    exact W.lret (v := p0) hx hb hr (fun t ht hW => ⟨p0, rfl, (by omega), ht⟩) (fun q h => by cases h) dX12_common_17

/- X12_common -/
set_option maxHeartbeats 4000000 in
set_option maxRecDepth 100000 in
theorem m_commonE20 (l : Launch) (dC : Nat → ClassId) (dI : Nat → Nat → Nat) (cyI cyB cyJ cyZ cyH cyN : ClassId) (p0 p1 : Int64) (g0 : (-1048575) ≤ p1.toInt ∧ p1.toInt ≤ 1048575) (g1 : ¬ (p0.toInt = 0 ∧ p1.toInt = 0)) : Met l yX12_common (wk yX12_common cX12_common 4 (some .long)) ({ frames := 41, cells := 0, slots := 0, locals := 980 }) (va_Pc [.long p0, .long p1] (fun _ => True)) (vp_Sl (fun r : Int64 => r.toInt ≠ 0)) 0 0 (fun _ => False) := by
  refine Met.ofW (cc := cX12_common) (maxL := 4) (ret := (some .long)) (by decide) rfl ?_
  intro p e s m args below meth c s₁ B hml hv
  obtain ⟨rfl, -⟩ := hv
  have hx := B.exec
  have hb := B.bytes
  have hr := B.returns
  have hts : ∀ w ∈ uU, w.before ([.long p0, .long p1] : List Value).toArray s = true := fun w h => atoms_spec (ws := wk yX12_common cX12_common 4 (some .long)) B.pre w (List.mem_cons_of_mem _ h)
  have hown : s.vm.findClass RX12 = some m.cls := findClass_of_methodNamed B.named
  have hlocks := B.notSynchronized
  have hl := lv_entry ([.long p0, .long p1]) (n := 4) (Nat.le_of_ble_eq_true rfl)
  rw [lg_entry_eq]
  generalize (lg_sl ([.long p0, .long p1]) ++ List.replicate (4 - (lg_sl ([.long p0, .long p1])).length) Slot.unset).toArray = ls at hl ⊢
  have hl : lv_has ls 4 [(0, .long p0), (2, .long p1)] := hl
  obtain ⟨Q9, hQ9⟩ : ∃ Q9 : State → Prop, Q9 = MQ below (vp_Sl (fun r : Int64 => r.toInt ≠ 0)) ([.long p0, .long p1] : List Value).toArray s 0 0 (fun _ => False) := ⟨_, rfl⟩
  rw [← hQ9]
  refine lv_lload_n hx hb dX12_common_0 rfl (lv_at hl 1 rfl) ?_
  refine lv_lconst (v := 0) hx hb dX12_common_1 (by decide) ?_
  refine W.lcmp hx hb dX12_common_2 ?_
  refine lv_if_ne (tgt := 10) hx hb dX12_common_3 (by decide) (fun c_1 => ?_) (fun c_1 => ?_)
  · have c_1 : p1.toInt ≠ 0 := cv_cne c_1
    refine lv_lload_n hx hb dX12_common_10 rfl (lv_at hl 1 rfl) ?_
    refine lv_lload_n hx hb dX12_common_11 rfl (lv_at hl 0 rfl) ?_
    refine lv_lload_n hx hb dX12_common_12 rfl (lv_at hl 1 rfl) ?_
    refine lv_lrem hx hb dX12_common_13 (fun q => by have := congrArg Int64.toInt q; have h0 : (0 : Int64).toInt = 0 := rfl; omega) ?_
    refine lv_topl (fun y_2 ey_2 => ?_)
    have fy_2 : y_2.toInt = p0.toInt.tmod p1.toInt := by rw [ey_2]; exact cv_remT (by omega)
    have gy_2 : y_2.toInt.natAbs < p1.toInt.natAbs := by rw [fy_2, Int.natAbs_tmod]; exact Nat.mod_lt _ (by omega)
    refine vp_callSl (va_Run.run (va_runS (As := [.long p1, .long y_2]) (rest := []) ⟨hx, hb, hml, hown, hts⟩ (m_commonO20 l dC dI cyI cyB cyJ cyZ cyH cyN p1 y_2 (by omega) (by omega)) (va_cwS 2 hts (gdS wd_8_173 wd_8_174 wd_1_11 wd_8_175) rfl rfl rfl (by decide +kernel) ⟨Nat.le_of_ble_eq_true rfl, Nat.le_of_ble_eq_true rfl⟩) ⟨fun a U g mk q => q, fun U hU hW => ⟨rfl, trivial⟩⟩ rfl rfl hl.1 rfl (lv_room (Nat.le_of_ble_eq_true rfl)) dX12_common_14 ⟨Nat.le_of_ble_eq_true rfl, Nat.le_of_ble_eq_true rfl⟩)) (fun r_3 hw => ?_)
    have hrr_3 := hw
    rw [hQ9]
    exact W.lret (v := r_3) hx hb hr (fun t ht hW => ⟨r_3, rfl, hrr_3, ht⟩) (fun q h => by cases h) dX12_common_17
  · have c_1 : p1.toInt = 0 := cv_ceq c_1
    refine lv_lload_n hx hb dX12_common_6 rfl (lv_at hl 0 rfl) ?_
    refine lv_goto (tgt := 17) hx hb dX12_common_7 (by decide) ?_
    rw [hQ9]
    exact W.lret (v := p0) hx hb hr (fun t ht hW => ⟨p0, rfl, (by omega), ht⟩) (fun q h => by cases h) dX12_common_17

/- X12_common -/
set_option maxHeartbeats 4000000 in
set_option maxRecDepth 100000 in
theorem m_commonO21 (l : Launch) (dC : Nat → ClassId) (dI : Nat → Nat → Nat) (cyI cyB cyJ cyZ cyH cyN : ClassId) (p0 p1 : Int64) (g0 : (-2097151) ≤ p0.toInt ∧ p0.toInt ≤ 2097151) (g1 : p1.toInt.natAbs < p0.toInt.natAbs) : Met l yX12_common (wk yX12_common cX12_common 4 (some .long)) ({ frames := 42, cells := 0, slots := 0, locals := 1003 }) (va_Pc [.long p0, .long p1] (fun _ => True)) (vp_Sl (fun r : Int64 => r.toInt ≠ 0)) 0 0 (fun _ => False) := by
  refine Met.ofW (cc := cX12_common) (maxL := 4) (ret := (some .long)) (by decide) rfl ?_
  intro p e s m args below meth c s₁ B hml hv
  obtain ⟨rfl, -⟩ := hv
  have hx := B.exec
  have hb := B.bytes
  have hr := B.returns
  have hts : ∀ w ∈ uU, w.before ([.long p0, .long p1] : List Value).toArray s = true := fun w h => atoms_spec (ws := wk yX12_common cX12_common 4 (some .long)) B.pre w (List.mem_cons_of_mem _ h)
  have hown : s.vm.findClass RX12 = some m.cls := findClass_of_methodNamed B.named
  have hlocks := B.notSynchronized
  have hl := lv_entry ([.long p0, .long p1]) (n := 4) (Nat.le_of_ble_eq_true rfl)
  rw [lg_entry_eq]
  generalize (lg_sl ([.long p0, .long p1]) ++ List.replicate (4 - (lg_sl ([.long p0, .long p1])).length) Slot.unset).toArray = ls at hl ⊢
  have hl : lv_has ls 4 [(0, .long p0), (2, .long p1)] := hl
  obtain ⟨Q9, hQ9⟩ : ∃ Q9 : State → Prop, Q9 = MQ below (vp_Sl (fun r : Int64 => r.toInt ≠ 0)) ([.long p0, .long p1] : List Value).toArray s 0 0 (fun _ => False) := ⟨_, rfl⟩
  rw [← hQ9]
  refine lv_lload_n hx hb dX12_common_0 rfl (lv_at hl 1 rfl) ?_
  refine lv_lconst (v := 0) hx hb dX12_common_1 (by decide) ?_
  refine W.lcmp hx hb dX12_common_2 ?_
  refine lv_if_ne (tgt := 10) hx hb dX12_common_3 (by decide) (fun c_1 => ?_) (fun c_1 => ?_)
  · have c_1 : p1.toInt ≠ 0 := cv_cne c_1
    refine lv_lload_n hx hb dX12_common_10 rfl (lv_at hl 1 rfl) ?_
    refine lv_lload_n hx hb dX12_common_11 rfl (lv_at hl 0 rfl) ?_
    refine lv_lload_n hx hb dX12_common_12 rfl (lv_at hl 1 rfl) ?_
    refine lv_lrem hx hb dX12_common_13 (fun q => by have := congrArg Int64.toInt q; have h0 : (0 : Int64).toInt = 0 := rfl; omega) ?_
    refine lv_topl (fun y_2 ey_2 => ?_)
    have fy_2 : y_2.toInt = p0.toInt.tmod p1.toInt := by rw [ey_2]; exact cv_remT (by omega)
    have gy_2 : 2 * y_2.toInt.natAbs < p0.toInt.natAbs := by rw [fy_2, Int.natAbs_tmod]; exact mod_half (by omega) (by omega)
    refine vp_callSl (va_Run.run (va_runS (As := [.long p1, .long y_2]) (rest := []) ⟨hx, hb, hml, hown, hts⟩ (m_commonE20 l dC dI cyI cyB cyJ cyZ cyH cyN p1 y_2 (by omega) (by omega)) (va_cwS 2 hts (gdS wd_8_173 wd_8_174 wd_1_11 wd_8_175) rfl rfl rfl (by decide +kernel) ⟨Nat.le_of_ble_eq_true rfl, Nat.le_of_ble_eq_true rfl⟩) ⟨fun a U g mk q => q, fun U hU hW => ⟨rfl, trivial⟩⟩ rfl rfl hl.1 rfl (lv_room (Nat.le_of_ble_eq_true rfl)) dX12_common_14 ⟨Nat.le_of_ble_eq_true rfl, Nat.le_of_ble_eq_true rfl⟩)) (fun r_3 hw => ?_)
    have hrr_3 := hw
    rw [hQ9]
    exact W.lret (v := r_3) hx hb hr (fun t ht hW => ⟨r_3, rfl, hrr_3, ht⟩) (fun q h => by cases h) dX12_common_17
  · have c_1 : p1.toInt = 0 := cv_ceq c_1
    refine lv_lload_n hx hb dX12_common_6 rfl (lv_at hl 0 rfl) ?_
    refine lv_goto (tgt := 17) hx hb dX12_common_7 (by decide) ?_
    rw [hQ9]
    exact W.lret (v := p0) hx hb hr (fun t ht hW => ⟨p0, rfl, (by omega), ht⟩) (fun q h => by cases h) dX12_common_17

/- X12_common -/
set_option maxHeartbeats 4000000 in
set_option maxRecDepth 100000 in
theorem m_commonE21 (l : Launch) (dC : Nat → ClassId) (dI : Nat → Nat → Nat) (cyI cyB cyJ cyZ cyH cyN : ClassId) (p0 p1 : Int64) (g0 : (-2097151) ≤ p1.toInt ∧ p1.toInt ≤ 2097151) (g1 : ¬ (p0.toInt = 0 ∧ p1.toInt = 0)) : Met l yX12_common (wk yX12_common cX12_common 4 (some .long)) ({ frames := 43, cells := 0, slots := 0, locals := 1026 }) (va_Pc [.long p0, .long p1] (fun _ => True)) (vp_Sl (fun r : Int64 => r.toInt ≠ 0)) 0 0 (fun _ => False) := by
  refine Met.ofW (cc := cX12_common) (maxL := 4) (ret := (some .long)) (by decide) rfl ?_
  intro p e s m args below meth c s₁ B hml hv
  obtain ⟨rfl, -⟩ := hv
  have hx := B.exec
  have hb := B.bytes
  have hr := B.returns
  have hts : ∀ w ∈ uU, w.before ([.long p0, .long p1] : List Value).toArray s = true := fun w h => atoms_spec (ws := wk yX12_common cX12_common 4 (some .long)) B.pre w (List.mem_cons_of_mem _ h)
  have hown : s.vm.findClass RX12 = some m.cls := findClass_of_methodNamed B.named
  have hlocks := B.notSynchronized
  have hl := lv_entry ([.long p0, .long p1]) (n := 4) (Nat.le_of_ble_eq_true rfl)
  rw [lg_entry_eq]
  generalize (lg_sl ([.long p0, .long p1]) ++ List.replicate (4 - (lg_sl ([.long p0, .long p1])).length) Slot.unset).toArray = ls at hl ⊢
  have hl : lv_has ls 4 [(0, .long p0), (2, .long p1)] := hl
  obtain ⟨Q9, hQ9⟩ : ∃ Q9 : State → Prop, Q9 = MQ below (vp_Sl (fun r : Int64 => r.toInt ≠ 0)) ([.long p0, .long p1] : List Value).toArray s 0 0 (fun _ => False) := ⟨_, rfl⟩
  rw [← hQ9]
  refine lv_lload_n hx hb dX12_common_0 rfl (lv_at hl 1 rfl) ?_
  refine lv_lconst (v := 0) hx hb dX12_common_1 (by decide) ?_
  refine W.lcmp hx hb dX12_common_2 ?_
  refine lv_if_ne (tgt := 10) hx hb dX12_common_3 (by decide) (fun c_1 => ?_) (fun c_1 => ?_)
  · have c_1 : p1.toInt ≠ 0 := cv_cne c_1
    refine lv_lload_n hx hb dX12_common_10 rfl (lv_at hl 1 rfl) ?_
    refine lv_lload_n hx hb dX12_common_11 rfl (lv_at hl 0 rfl) ?_
    refine lv_lload_n hx hb dX12_common_12 rfl (lv_at hl 1 rfl) ?_
    refine lv_lrem hx hb dX12_common_13 (fun q => by have := congrArg Int64.toInt q; have h0 : (0 : Int64).toInt = 0 := rfl; omega) ?_
    refine lv_topl (fun y_2 ey_2 => ?_)
    have fy_2 : y_2.toInt = p0.toInt.tmod p1.toInt := by rw [ey_2]; exact cv_remT (by omega)
    have gy_2 : y_2.toInt.natAbs < p1.toInt.natAbs := by rw [fy_2, Int.natAbs_tmod]; exact Nat.mod_lt _ (by omega)
    refine vp_callSl (va_Run.run (va_runS (As := [.long p1, .long y_2]) (rest := []) ⟨hx, hb, hml, hown, hts⟩ (m_commonO21 l dC dI cyI cyB cyJ cyZ cyH cyN p1 y_2 (by omega) (by omega)) (va_cwS 2 hts (gdS wd_8_173 wd_8_174 wd_1_11 wd_8_175) rfl rfl rfl (by decide +kernel) ⟨Nat.le_of_ble_eq_true rfl, Nat.le_of_ble_eq_true rfl⟩) ⟨fun a U g mk q => q, fun U hU hW => ⟨rfl, trivial⟩⟩ rfl rfl hl.1 rfl (lv_room (Nat.le_of_ble_eq_true rfl)) dX12_common_14 ⟨Nat.le_of_ble_eq_true rfl, Nat.le_of_ble_eq_true rfl⟩)) (fun r_3 hw => ?_)
    have hrr_3 := hw
    rw [hQ9]
    exact W.lret (v := r_3) hx hb hr (fun t ht hW => ⟨r_3, rfl, hrr_3, ht⟩) (fun q h => by cases h) dX12_common_17
  · have c_1 : p1.toInt = 0 := cv_ceq c_1
    refine lv_lload_n hx hb dX12_common_6 rfl (lv_at hl 0 rfl) ?_
    refine lv_goto (tgt := 17) hx hb dX12_common_7 (by decide) ?_
    rw [hQ9]
    exact W.lret (v := p0) hx hb hr (fun t ht hW => ⟨p0, rfl, (by omega), ht⟩) (fun q h => by cases h) dX12_common_17

/- X12_common -/
set_option maxHeartbeats 4000000 in
set_option maxRecDepth 100000 in
theorem m_commonO22 (l : Launch) (dC : Nat → ClassId) (dI : Nat → Nat → Nat) (cyI cyB cyJ cyZ cyH cyN : ClassId) (p0 p1 : Int64) (g0 : (-4194303) ≤ p0.toInt ∧ p0.toInt ≤ 4194303) (g1 : p1.toInt.natAbs < p0.toInt.natAbs) : Met l yX12_common (wk yX12_common cX12_common 4 (some .long)) ({ frames := 44, cells := 0, slots := 0, locals := 1049 }) (va_Pc [.long p0, .long p1] (fun _ => True)) (vp_Sl (fun r : Int64 => r.toInt ≠ 0)) 0 0 (fun _ => False) := by
  refine Met.ofW (cc := cX12_common) (maxL := 4) (ret := (some .long)) (by decide) rfl ?_
  intro p e s m args below meth c s₁ B hml hv
  obtain ⟨rfl, -⟩ := hv
  have hx := B.exec
  have hb := B.bytes
  have hr := B.returns
  have hts : ∀ w ∈ uU, w.before ([.long p0, .long p1] : List Value).toArray s = true := fun w h => atoms_spec (ws := wk yX12_common cX12_common 4 (some .long)) B.pre w (List.mem_cons_of_mem _ h)
  have hown : s.vm.findClass RX12 = some m.cls := findClass_of_methodNamed B.named
  have hlocks := B.notSynchronized
  have hl := lv_entry ([.long p0, .long p1]) (n := 4) (Nat.le_of_ble_eq_true rfl)
  rw [lg_entry_eq]
  generalize (lg_sl ([.long p0, .long p1]) ++ List.replicate (4 - (lg_sl ([.long p0, .long p1])).length) Slot.unset).toArray = ls at hl ⊢
  have hl : lv_has ls 4 [(0, .long p0), (2, .long p1)] := hl
  obtain ⟨Q9, hQ9⟩ : ∃ Q9 : State → Prop, Q9 = MQ below (vp_Sl (fun r : Int64 => r.toInt ≠ 0)) ([.long p0, .long p1] : List Value).toArray s 0 0 (fun _ => False) := ⟨_, rfl⟩
  rw [← hQ9]
  refine lv_lload_n hx hb dX12_common_0 rfl (lv_at hl 1 rfl) ?_
  refine lv_lconst (v := 0) hx hb dX12_common_1 (by decide) ?_
  refine W.lcmp hx hb dX12_common_2 ?_
  refine lv_if_ne (tgt := 10) hx hb dX12_common_3 (by decide) (fun c_1 => ?_) (fun c_1 => ?_)
  · have c_1 : p1.toInt ≠ 0 := cv_cne c_1
    refine lv_lload_n hx hb dX12_common_10 rfl (lv_at hl 1 rfl) ?_
    refine lv_lload_n hx hb dX12_common_11 rfl (lv_at hl 0 rfl) ?_
    refine lv_lload_n hx hb dX12_common_12 rfl (lv_at hl 1 rfl) ?_
    refine lv_lrem hx hb dX12_common_13 (fun q => by have := congrArg Int64.toInt q; have h0 : (0 : Int64).toInt = 0 := rfl; omega) ?_
    refine lv_topl (fun y_2 ey_2 => ?_)
    have fy_2 : y_2.toInt = p0.toInt.tmod p1.toInt := by rw [ey_2]; exact cv_remT (by omega)
    have gy_2 : 2 * y_2.toInt.natAbs < p0.toInt.natAbs := by rw [fy_2, Int.natAbs_tmod]; exact mod_half (by omega) (by omega)
    refine vp_callSl (va_Run.run (va_runS (As := [.long p1, .long y_2]) (rest := []) ⟨hx, hb, hml, hown, hts⟩ (m_commonE21 l dC dI cyI cyB cyJ cyZ cyH cyN p1 y_2 (by omega) (by omega)) (va_cwS 2 hts (gdS wd_8_173 wd_8_174 wd_1_11 wd_8_175) rfl rfl rfl (by decide +kernel) ⟨Nat.le_of_ble_eq_true rfl, Nat.le_of_ble_eq_true rfl⟩) ⟨fun a U g mk q => q, fun U hU hW => ⟨rfl, trivial⟩⟩ rfl rfl hl.1 rfl (lv_room (Nat.le_of_ble_eq_true rfl)) dX12_common_14 ⟨Nat.le_of_ble_eq_true rfl, Nat.le_of_ble_eq_true rfl⟩)) (fun r_3 hw => ?_)
    have hrr_3 := hw
    rw [hQ9]
    exact W.lret (v := r_3) hx hb hr (fun t ht hW => ⟨r_3, rfl, hrr_3, ht⟩) (fun q h => by cases h) dX12_common_17
  · have c_1 : p1.toInt = 0 := cv_ceq c_1
    refine lv_lload_n hx hb dX12_common_6 rfl (lv_at hl 0 rfl) ?_
    refine lv_goto (tgt := 17) hx hb dX12_common_7 (by decide) ?_
    rw [hQ9]
    exact W.lret (v := p0) hx hb hr (fun t ht hW => ⟨p0, rfl, (by omega), ht⟩) (fun q h => by cases h) dX12_common_17

/- X12_common -/
set_option maxHeartbeats 4000000 in
set_option maxRecDepth 100000 in
theorem m_commonE22 (l : Launch) (dC : Nat → ClassId) (dI : Nat → Nat → Nat) (cyI cyB cyJ cyZ cyH cyN : ClassId) (p0 p1 : Int64) (g0 : (-4194303) ≤ p1.toInt ∧ p1.toInt ≤ 4194303) (g1 : ¬ (p0.toInt = 0 ∧ p1.toInt = 0)) : Met l yX12_common (wk yX12_common cX12_common 4 (some .long)) ({ frames := 45, cells := 0, slots := 0, locals := 1072 }) (va_Pc [.long p0, .long p1] (fun _ => True)) (vp_Sl (fun r : Int64 => r.toInt ≠ 0)) 0 0 (fun _ => False) := by
  refine Met.ofW (cc := cX12_common) (maxL := 4) (ret := (some .long)) (by decide) rfl ?_
  intro p e s m args below meth c s₁ B hml hv
  obtain ⟨rfl, -⟩ := hv
  have hx := B.exec
  have hb := B.bytes
  have hr := B.returns
  have hts : ∀ w ∈ uU, w.before ([.long p0, .long p1] : List Value).toArray s = true := fun w h => atoms_spec (ws := wk yX12_common cX12_common 4 (some .long)) B.pre w (List.mem_cons_of_mem _ h)
  have hown : s.vm.findClass RX12 = some m.cls := findClass_of_methodNamed B.named
  have hlocks := B.notSynchronized
  have hl := lv_entry ([.long p0, .long p1]) (n := 4) (Nat.le_of_ble_eq_true rfl)
  rw [lg_entry_eq]
  generalize (lg_sl ([.long p0, .long p1]) ++ List.replicate (4 - (lg_sl ([.long p0, .long p1])).length) Slot.unset).toArray = ls at hl ⊢
  have hl : lv_has ls 4 [(0, .long p0), (2, .long p1)] := hl
  obtain ⟨Q9, hQ9⟩ : ∃ Q9 : State → Prop, Q9 = MQ below (vp_Sl (fun r : Int64 => r.toInt ≠ 0)) ([.long p0, .long p1] : List Value).toArray s 0 0 (fun _ => False) := ⟨_, rfl⟩
  rw [← hQ9]
  refine lv_lload_n hx hb dX12_common_0 rfl (lv_at hl 1 rfl) ?_
  refine lv_lconst (v := 0) hx hb dX12_common_1 (by decide) ?_
  refine W.lcmp hx hb dX12_common_2 ?_
  refine lv_if_ne (tgt := 10) hx hb dX12_common_3 (by decide) (fun c_1 => ?_) (fun c_1 => ?_)
  · have c_1 : p1.toInt ≠ 0 := cv_cne c_1
    refine lv_lload_n hx hb dX12_common_10 rfl (lv_at hl 1 rfl) ?_
    refine lv_lload_n hx hb dX12_common_11 rfl (lv_at hl 0 rfl) ?_
    refine lv_lload_n hx hb dX12_common_12 rfl (lv_at hl 1 rfl) ?_
    refine lv_lrem hx hb dX12_common_13 (fun q => by have := congrArg Int64.toInt q; have h0 : (0 : Int64).toInt = 0 := rfl; omega) ?_
    refine lv_topl (fun y_2 ey_2 => ?_)
    have fy_2 : y_2.toInt = p0.toInt.tmod p1.toInt := by rw [ey_2]; exact cv_remT (by omega)
    have gy_2 : y_2.toInt.natAbs < p1.toInt.natAbs := by rw [fy_2, Int.natAbs_tmod]; exact Nat.mod_lt _ (by omega)
    refine vp_callSl (va_Run.run (va_runS (As := [.long p1, .long y_2]) (rest := []) ⟨hx, hb, hml, hown, hts⟩ (m_commonO22 l dC dI cyI cyB cyJ cyZ cyH cyN p1 y_2 (by omega) (by omega)) (va_cwS 2 hts (gdS wd_8_173 wd_8_174 wd_1_11 wd_8_175) rfl rfl rfl (by decide +kernel) ⟨Nat.le_of_ble_eq_true rfl, Nat.le_of_ble_eq_true rfl⟩) ⟨fun a U g mk q => q, fun U hU hW => ⟨rfl, trivial⟩⟩ rfl rfl hl.1 rfl (lv_room (Nat.le_of_ble_eq_true rfl)) dX12_common_14 ⟨Nat.le_of_ble_eq_true rfl, Nat.le_of_ble_eq_true rfl⟩)) (fun r_3 hw => ?_)
    have hrr_3 := hw
    rw [hQ9]
    exact W.lret (v := r_3) hx hb hr (fun t ht hW => ⟨r_3, rfl, hrr_3, ht⟩) (fun q h => by cases h) dX12_common_17
  · have c_1 : p1.toInt = 0 := cv_ceq c_1
    refine lv_lload_n hx hb dX12_common_6 rfl (lv_at hl 0 rfl) ?_
    refine lv_goto (tgt := 17) hx hb dX12_common_7 (by decide) ?_
    rw [hQ9]
    exact W.lret (v := p0) hx hb hr (fun t ht hW => ⟨p0, rfl, (by omega), ht⟩) (fun q h => by cases h) dX12_common_17

/- X12_common -/
set_option maxHeartbeats 4000000 in
set_option maxRecDepth 100000 in
theorem m_commonO23 (l : Launch) (dC : Nat → ClassId) (dI : Nat → Nat → Nat) (cyI cyB cyJ cyZ cyH cyN : ClassId) (p0 p1 : Int64) (g0 : (-8388607) ≤ p0.toInt ∧ p0.toInt ≤ 8388607) (g1 : p1.toInt.natAbs < p0.toInt.natAbs) : Met l yX12_common (wk yX12_common cX12_common 4 (some .long)) ({ frames := 46, cells := 0, slots := 0, locals := 1095 }) (va_Pc [.long p0, .long p1] (fun _ => True)) (vp_Sl (fun r : Int64 => r.toInt ≠ 0)) 0 0 (fun _ => False) := by
  refine Met.ofW (cc := cX12_common) (maxL := 4) (ret := (some .long)) (by decide) rfl ?_
  intro p e s m args below meth c s₁ B hml hv
  obtain ⟨rfl, -⟩ := hv
  have hx := B.exec
  have hb := B.bytes
  have hr := B.returns
  have hts : ∀ w ∈ uU, w.before ([.long p0, .long p1] : List Value).toArray s = true := fun w h => atoms_spec (ws := wk yX12_common cX12_common 4 (some .long)) B.pre w (List.mem_cons_of_mem _ h)
  have hown : s.vm.findClass RX12 = some m.cls := findClass_of_methodNamed B.named
  have hlocks := B.notSynchronized
  have hl := lv_entry ([.long p0, .long p1]) (n := 4) (Nat.le_of_ble_eq_true rfl)
  rw [lg_entry_eq]
  generalize (lg_sl ([.long p0, .long p1]) ++ List.replicate (4 - (lg_sl ([.long p0, .long p1])).length) Slot.unset).toArray = ls at hl ⊢
  have hl : lv_has ls 4 [(0, .long p0), (2, .long p1)] := hl
  obtain ⟨Q9, hQ9⟩ : ∃ Q9 : State → Prop, Q9 = MQ below (vp_Sl (fun r : Int64 => r.toInt ≠ 0)) ([.long p0, .long p1] : List Value).toArray s 0 0 (fun _ => False) := ⟨_, rfl⟩
  rw [← hQ9]
  refine lv_lload_n hx hb dX12_common_0 rfl (lv_at hl 1 rfl) ?_
  refine lv_lconst (v := 0) hx hb dX12_common_1 (by decide) ?_
  refine W.lcmp hx hb dX12_common_2 ?_
  refine lv_if_ne (tgt := 10) hx hb dX12_common_3 (by decide) (fun c_1 => ?_) (fun c_1 => ?_)
  · have c_1 : p1.toInt ≠ 0 := cv_cne c_1
    refine lv_lload_n hx hb dX12_common_10 rfl (lv_at hl 1 rfl) ?_
    refine lv_lload_n hx hb dX12_common_11 rfl (lv_at hl 0 rfl) ?_
    refine lv_lload_n hx hb dX12_common_12 rfl (lv_at hl 1 rfl) ?_
    refine lv_lrem hx hb dX12_common_13 (fun q => by have := congrArg Int64.toInt q; have h0 : (0 : Int64).toInt = 0 := rfl; omega) ?_
    refine lv_topl (fun y_2 ey_2 => ?_)
    have fy_2 : y_2.toInt = p0.toInt.tmod p1.toInt := by rw [ey_2]; exact cv_remT (by omega)
    have gy_2 : 2 * y_2.toInt.natAbs < p0.toInt.natAbs := by rw [fy_2, Int.natAbs_tmod]; exact mod_half (by omega) (by omega)
    refine vp_callSl (va_Run.run (va_runS (As := [.long p1, .long y_2]) (rest := []) ⟨hx, hb, hml, hown, hts⟩ (m_commonE22 l dC dI cyI cyB cyJ cyZ cyH cyN p1 y_2 (by omega) (by omega)) (va_cwS 2 hts (gdS wd_8_173 wd_8_174 wd_1_11 wd_8_175) rfl rfl rfl (by decide +kernel) ⟨Nat.le_of_ble_eq_true rfl, Nat.le_of_ble_eq_true rfl⟩) ⟨fun a U g mk q => q, fun U hU hW => ⟨rfl, trivial⟩⟩ rfl rfl hl.1 rfl (lv_room (Nat.le_of_ble_eq_true rfl)) dX12_common_14 ⟨Nat.le_of_ble_eq_true rfl, Nat.le_of_ble_eq_true rfl⟩)) (fun r_3 hw => ?_)
    have hrr_3 := hw
    rw [hQ9]
    exact W.lret (v := r_3) hx hb hr (fun t ht hW => ⟨r_3, rfl, hrr_3, ht⟩) (fun q h => by cases h) dX12_common_17
  · have c_1 : p1.toInt = 0 := cv_ceq c_1
    refine lv_lload_n hx hb dX12_common_6 rfl (lv_at hl 0 rfl) ?_
    refine lv_goto (tgt := 17) hx hb dX12_common_7 (by decide) ?_
    rw [hQ9]
    exact W.lret (v := p0) hx hb hr (fun t ht hW => ⟨p0, rfl, (by omega), ht⟩) (fun q h => by cases h) dX12_common_17

/- X12_common -/
set_option maxHeartbeats 4000000 in
set_option maxRecDepth 100000 in
theorem m_commonE23 (l : Launch) (dC : Nat → ClassId) (dI : Nat → Nat → Nat) (cyI cyB cyJ cyZ cyH cyN : ClassId) (p0 p1 : Int64) (g0 : (-8388607) ≤ p1.toInt ∧ p1.toInt ≤ 8388607) (g1 : ¬ (p0.toInt = 0 ∧ p1.toInt = 0)) : Met l yX12_common (wk yX12_common cX12_common 4 (some .long)) ({ frames := 47, cells := 0, slots := 0, locals := 1118 }) (va_Pc [.long p0, .long p1] (fun _ => True)) (vp_Sl (fun r : Int64 => r.toInt ≠ 0)) 0 0 (fun _ => False) := by
  refine Met.ofW (cc := cX12_common) (maxL := 4) (ret := (some .long)) (by decide) rfl ?_
  intro p e s m args below meth c s₁ B hml hv
  obtain ⟨rfl, -⟩ := hv
  have hx := B.exec
  have hb := B.bytes
  have hr := B.returns
  have hts : ∀ w ∈ uU, w.before ([.long p0, .long p1] : List Value).toArray s = true := fun w h => atoms_spec (ws := wk yX12_common cX12_common 4 (some .long)) B.pre w (List.mem_cons_of_mem _ h)
  have hown : s.vm.findClass RX12 = some m.cls := findClass_of_methodNamed B.named
  have hlocks := B.notSynchronized
  have hl := lv_entry ([.long p0, .long p1]) (n := 4) (Nat.le_of_ble_eq_true rfl)
  rw [lg_entry_eq]
  generalize (lg_sl ([.long p0, .long p1]) ++ List.replicate (4 - (lg_sl ([.long p0, .long p1])).length) Slot.unset).toArray = ls at hl ⊢
  have hl : lv_has ls 4 [(0, .long p0), (2, .long p1)] := hl
  obtain ⟨Q9, hQ9⟩ : ∃ Q9 : State → Prop, Q9 = MQ below (vp_Sl (fun r : Int64 => r.toInt ≠ 0)) ([.long p0, .long p1] : List Value).toArray s 0 0 (fun _ => False) := ⟨_, rfl⟩
  rw [← hQ9]
  refine lv_lload_n hx hb dX12_common_0 rfl (lv_at hl 1 rfl) ?_
  refine lv_lconst (v := 0) hx hb dX12_common_1 (by decide) ?_
  refine W.lcmp hx hb dX12_common_2 ?_
  refine lv_if_ne (tgt := 10) hx hb dX12_common_3 (by decide) (fun c_1 => ?_) (fun c_1 => ?_)
  · have c_1 : p1.toInt ≠ 0 := cv_cne c_1
    refine lv_lload_n hx hb dX12_common_10 rfl (lv_at hl 1 rfl) ?_
    refine lv_lload_n hx hb dX12_common_11 rfl (lv_at hl 0 rfl) ?_
    refine lv_lload_n hx hb dX12_common_12 rfl (lv_at hl 1 rfl) ?_
    refine lv_lrem hx hb dX12_common_13 (fun q => by have := congrArg Int64.toInt q; have h0 : (0 : Int64).toInt = 0 := rfl; omega) ?_
    refine lv_topl (fun y_2 ey_2 => ?_)
    have fy_2 : y_2.toInt = p0.toInt.tmod p1.toInt := by rw [ey_2]; exact cv_remT (by omega)
    have gy_2 : y_2.toInt.natAbs < p1.toInt.natAbs := by rw [fy_2, Int.natAbs_tmod]; exact Nat.mod_lt _ (by omega)
    refine vp_callSl (va_Run.run (va_runS (As := [.long p1, .long y_2]) (rest := []) ⟨hx, hb, hml, hown, hts⟩ (m_commonO23 l dC dI cyI cyB cyJ cyZ cyH cyN p1 y_2 (by omega) (by omega)) (va_cwS 2 hts (gdS wd_8_173 wd_8_174 wd_1_11 wd_8_175) rfl rfl rfl (by decide +kernel) ⟨Nat.le_of_ble_eq_true rfl, Nat.le_of_ble_eq_true rfl⟩) ⟨fun a U g mk q => q, fun U hU hW => ⟨rfl, trivial⟩⟩ rfl rfl hl.1 rfl (lv_room (Nat.le_of_ble_eq_true rfl)) dX12_common_14 ⟨Nat.le_of_ble_eq_true rfl, Nat.le_of_ble_eq_true rfl⟩)) (fun r_3 hw => ?_)
    have hrr_3 := hw
    rw [hQ9]
    exact W.lret (v := r_3) hx hb hr (fun t ht hW => ⟨r_3, rfl, hrr_3, ht⟩) (fun q h => by cases h) dX12_common_17
  · have c_1 : p1.toInt = 0 := cv_ceq c_1
    refine lv_lload_n hx hb dX12_common_6 rfl (lv_at hl 0 rfl) ?_
    refine lv_goto (tgt := 17) hx hb dX12_common_7 (by decide) ?_
    rw [hQ9]
    exact W.lret (v := p0) hx hb hr (fun t ht hW => ⟨p0, rfl, (by omega), ht⟩) (fun q h => by cases h) dX12_common_17

/- X12_common -/
set_option maxHeartbeats 4000000 in
set_option maxRecDepth 100000 in
theorem m_commonO24 (l : Launch) (dC : Nat → ClassId) (dI : Nat → Nat → Nat) (cyI cyB cyJ cyZ cyH cyN : ClassId) (p0 p1 : Int64) (g0 : (-16777215) ≤ p0.toInt ∧ p0.toInt ≤ 16777215) (g1 : p1.toInt.natAbs < p0.toInt.natAbs) : Met l yX12_common (wk yX12_common cX12_common 4 (some .long)) ({ frames := 48, cells := 0, slots := 0, locals := 1141 }) (va_Pc [.long p0, .long p1] (fun _ => True)) (vp_Sl (fun r : Int64 => r.toInt ≠ 0)) 0 0 (fun _ => False) := by
  refine Met.ofW (cc := cX12_common) (maxL := 4) (ret := (some .long)) (by decide) rfl ?_
  intro p e s m args below meth c s₁ B hml hv
  obtain ⟨rfl, -⟩ := hv
  have hx := B.exec
  have hb := B.bytes
  have hr := B.returns
  have hts : ∀ w ∈ uU, w.before ([.long p0, .long p1] : List Value).toArray s = true := fun w h => atoms_spec (ws := wk yX12_common cX12_common 4 (some .long)) B.pre w (List.mem_cons_of_mem _ h)
  have hown : s.vm.findClass RX12 = some m.cls := findClass_of_methodNamed B.named
  have hlocks := B.notSynchronized
  have hl := lv_entry ([.long p0, .long p1]) (n := 4) (Nat.le_of_ble_eq_true rfl)
  rw [lg_entry_eq]
  generalize (lg_sl ([.long p0, .long p1]) ++ List.replicate (4 - (lg_sl ([.long p0, .long p1])).length) Slot.unset).toArray = ls at hl ⊢
  have hl : lv_has ls 4 [(0, .long p0), (2, .long p1)] := hl
  obtain ⟨Q9, hQ9⟩ : ∃ Q9 : State → Prop, Q9 = MQ below (vp_Sl (fun r : Int64 => r.toInt ≠ 0)) ([.long p0, .long p1] : List Value).toArray s 0 0 (fun _ => False) := ⟨_, rfl⟩
  rw [← hQ9]
  refine lv_lload_n hx hb dX12_common_0 rfl (lv_at hl 1 rfl) ?_
  refine lv_lconst (v := 0) hx hb dX12_common_1 (by decide) ?_
  refine W.lcmp hx hb dX12_common_2 ?_
  refine lv_if_ne (tgt := 10) hx hb dX12_common_3 (by decide) (fun c_1 => ?_) (fun c_1 => ?_)
  · have c_1 : p1.toInt ≠ 0 := cv_cne c_1
    refine lv_lload_n hx hb dX12_common_10 rfl (lv_at hl 1 rfl) ?_
    refine lv_lload_n hx hb dX12_common_11 rfl (lv_at hl 0 rfl) ?_
    refine lv_lload_n hx hb dX12_common_12 rfl (lv_at hl 1 rfl) ?_
    refine lv_lrem hx hb dX12_common_13 (fun q => by have := congrArg Int64.toInt q; have h0 : (0 : Int64).toInt = 0 := rfl; omega) ?_
    refine lv_topl (fun y_2 ey_2 => ?_)
    have fy_2 : y_2.toInt = p0.toInt.tmod p1.toInt := by rw [ey_2]; exact cv_remT (by omega)
    have gy_2 : 2 * y_2.toInt.natAbs < p0.toInt.natAbs := by rw [fy_2, Int.natAbs_tmod]; exact mod_half (by omega) (by omega)
    refine vp_callSl (va_Run.run (va_runS (As := [.long p1, .long y_2]) (rest := []) ⟨hx, hb, hml, hown, hts⟩ (m_commonE23 l dC dI cyI cyB cyJ cyZ cyH cyN p1 y_2 (by omega) (by omega)) (va_cwS 2 hts (gdS wd_8_173 wd_8_174 wd_1_11 wd_8_175) rfl rfl rfl (by decide +kernel) ⟨Nat.le_of_ble_eq_true rfl, Nat.le_of_ble_eq_true rfl⟩) ⟨fun a U g mk q => q, fun U hU hW => ⟨rfl, trivial⟩⟩ rfl rfl hl.1 rfl (lv_room (Nat.le_of_ble_eq_true rfl)) dX12_common_14 ⟨Nat.le_of_ble_eq_true rfl, Nat.le_of_ble_eq_true rfl⟩)) (fun r_3 hw => ?_)
    have hrr_3 := hw
    rw [hQ9]
    exact W.lret (v := r_3) hx hb hr (fun t ht hW => ⟨r_3, rfl, hrr_3, ht⟩) (fun q h => by cases h) dX12_common_17
  · have c_1 : p1.toInt = 0 := cv_ceq c_1
    refine lv_lload_n hx hb dX12_common_6 rfl (lv_at hl 0 rfl) ?_
    refine lv_goto (tgt := 17) hx hb dX12_common_7 (by decide) ?_
    rw [hQ9]
    exact W.lret (v := p0) hx hb hr (fun t ht hW => ⟨p0, rfl, (by omega), ht⟩) (fun q h => by cases h) dX12_common_17

/- X12_common -/
set_option maxHeartbeats 4000000 in
set_option maxRecDepth 100000 in
theorem m_commonE24 (l : Launch) (dC : Nat → ClassId) (dI : Nat → Nat → Nat) (cyI cyB cyJ cyZ cyH cyN : ClassId) (p0 p1 : Int64) (g0 : (-16777215) ≤ p1.toInt ∧ p1.toInt ≤ 16777215) (g1 : ¬ (p0.toInt = 0 ∧ p1.toInt = 0)) : Met l yX12_common (wk yX12_common cX12_common 4 (some .long)) ({ frames := 49, cells := 0, slots := 0, locals := 1164 }) (va_Pc [.long p0, .long p1] (fun _ => True)) (vp_Sl (fun r : Int64 => r.toInt ≠ 0)) 0 0 (fun _ => False) := by
  refine Met.ofW (cc := cX12_common) (maxL := 4) (ret := (some .long)) (by decide) rfl ?_
  intro p e s m args below meth c s₁ B hml hv
  obtain ⟨rfl, -⟩ := hv
  have hx := B.exec
  have hb := B.bytes
  have hr := B.returns
  have hts : ∀ w ∈ uU, w.before ([.long p0, .long p1] : List Value).toArray s = true := fun w h => atoms_spec (ws := wk yX12_common cX12_common 4 (some .long)) B.pre w (List.mem_cons_of_mem _ h)
  have hown : s.vm.findClass RX12 = some m.cls := findClass_of_methodNamed B.named
  have hlocks := B.notSynchronized
  have hl := lv_entry ([.long p0, .long p1]) (n := 4) (Nat.le_of_ble_eq_true rfl)
  rw [lg_entry_eq]
  generalize (lg_sl ([.long p0, .long p1]) ++ List.replicate (4 - (lg_sl ([.long p0, .long p1])).length) Slot.unset).toArray = ls at hl ⊢
  have hl : lv_has ls 4 [(0, .long p0), (2, .long p1)] := hl
  obtain ⟨Q9, hQ9⟩ : ∃ Q9 : State → Prop, Q9 = MQ below (vp_Sl (fun r : Int64 => r.toInt ≠ 0)) ([.long p0, .long p1] : List Value).toArray s 0 0 (fun _ => False) := ⟨_, rfl⟩
  rw [← hQ9]
  refine lv_lload_n hx hb dX12_common_0 rfl (lv_at hl 1 rfl) ?_
  refine lv_lconst (v := 0) hx hb dX12_common_1 (by decide) ?_
  refine W.lcmp hx hb dX12_common_2 ?_
  refine lv_if_ne (tgt := 10) hx hb dX12_common_3 (by decide) (fun c_1 => ?_) (fun c_1 => ?_)
  · have c_1 : p1.toInt ≠ 0 := cv_cne c_1
    refine lv_lload_n hx hb dX12_common_10 rfl (lv_at hl 1 rfl) ?_
    refine lv_lload_n hx hb dX12_common_11 rfl (lv_at hl 0 rfl) ?_
    refine lv_lload_n hx hb dX12_common_12 rfl (lv_at hl 1 rfl) ?_
    refine lv_lrem hx hb dX12_common_13 (fun q => by have := congrArg Int64.toInt q; have h0 : (0 : Int64).toInt = 0 := rfl; omega) ?_
    refine lv_topl (fun y_2 ey_2 => ?_)
    have fy_2 : y_2.toInt = p0.toInt.tmod p1.toInt := by rw [ey_2]; exact cv_remT (by omega)
    have gy_2 : y_2.toInt.natAbs < p1.toInt.natAbs := by rw [fy_2, Int.natAbs_tmod]; exact Nat.mod_lt _ (by omega)
    refine vp_callSl (va_Run.run (va_runS (As := [.long p1, .long y_2]) (rest := []) ⟨hx, hb, hml, hown, hts⟩ (m_commonO24 l dC dI cyI cyB cyJ cyZ cyH cyN p1 y_2 (by omega) (by omega)) (va_cwS 2 hts (gdS wd_8_173 wd_8_174 wd_1_11 wd_8_175) rfl rfl rfl (by decide +kernel) ⟨Nat.le_of_ble_eq_true rfl, Nat.le_of_ble_eq_true rfl⟩) ⟨fun a U g mk q => q, fun U hU hW => ⟨rfl, trivial⟩⟩ rfl rfl hl.1 rfl (lv_room (Nat.le_of_ble_eq_true rfl)) dX12_common_14 ⟨Nat.le_of_ble_eq_true rfl, Nat.le_of_ble_eq_true rfl⟩)) (fun r_3 hw => ?_)
    have hrr_3 := hw
    rw [hQ9]
    exact W.lret (v := r_3) hx hb hr (fun t ht hW => ⟨r_3, rfl, hrr_3, ht⟩) (fun q h => by cases h) dX12_common_17
  · have c_1 : p1.toInt = 0 := cv_ceq c_1
    refine lv_lload_n hx hb dX12_common_6 rfl (lv_at hl 0 rfl) ?_
    refine lv_goto (tgt := 17) hx hb dX12_common_7 (by decide) ?_
    rw [hQ9]
    exact W.lret (v := p0) hx hb hr (fun t ht hW => ⟨p0, rfl, (by omega), ht⟩) (fun q h => by cases h) dX12_common_17

/- X12_common -/
set_option maxHeartbeats 4000000 in
set_option maxRecDepth 100000 in
theorem m_commonO25 (l : Launch) (dC : Nat → ClassId) (dI : Nat → Nat → Nat) (cyI cyB cyJ cyZ cyH cyN : ClassId) (p0 p1 : Int64) (g0 : (-33554431) ≤ p0.toInt ∧ p0.toInt ≤ 33554431) (g1 : p1.toInt.natAbs < p0.toInt.natAbs) : Met l yX12_common (wk yX12_common cX12_common 4 (some .long)) ({ frames := 50, cells := 0, slots := 0, locals := 1187 }) (va_Pc [.long p0, .long p1] (fun _ => True)) (vp_Sl (fun r : Int64 => r.toInt ≠ 0)) 0 0 (fun _ => False) := by
  refine Met.ofW (cc := cX12_common) (maxL := 4) (ret := (some .long)) (by decide) rfl ?_
  intro p e s m args below meth c s₁ B hml hv
  obtain ⟨rfl, -⟩ := hv
  have hx := B.exec
  have hb := B.bytes
  have hr := B.returns
  have hts : ∀ w ∈ uU, w.before ([.long p0, .long p1] : List Value).toArray s = true := fun w h => atoms_spec (ws := wk yX12_common cX12_common 4 (some .long)) B.pre w (List.mem_cons_of_mem _ h)
  have hown : s.vm.findClass RX12 = some m.cls := findClass_of_methodNamed B.named
  have hlocks := B.notSynchronized
  have hl := lv_entry ([.long p0, .long p1]) (n := 4) (Nat.le_of_ble_eq_true rfl)
  rw [lg_entry_eq]
  generalize (lg_sl ([.long p0, .long p1]) ++ List.replicate (4 - (lg_sl ([.long p0, .long p1])).length) Slot.unset).toArray = ls at hl ⊢
  have hl : lv_has ls 4 [(0, .long p0), (2, .long p1)] := hl
  obtain ⟨Q9, hQ9⟩ : ∃ Q9 : State → Prop, Q9 = MQ below (vp_Sl (fun r : Int64 => r.toInt ≠ 0)) ([.long p0, .long p1] : List Value).toArray s 0 0 (fun _ => False) := ⟨_, rfl⟩
  rw [← hQ9]
  refine lv_lload_n hx hb dX12_common_0 rfl (lv_at hl 1 rfl) ?_
  refine lv_lconst (v := 0) hx hb dX12_common_1 (by decide) ?_
  refine W.lcmp hx hb dX12_common_2 ?_
  refine lv_if_ne (tgt := 10) hx hb dX12_common_3 (by decide) (fun c_1 => ?_) (fun c_1 => ?_)
  · have c_1 : p1.toInt ≠ 0 := cv_cne c_1
    refine lv_lload_n hx hb dX12_common_10 rfl (lv_at hl 1 rfl) ?_
    refine lv_lload_n hx hb dX12_common_11 rfl (lv_at hl 0 rfl) ?_
    refine lv_lload_n hx hb dX12_common_12 rfl (lv_at hl 1 rfl) ?_
    refine lv_lrem hx hb dX12_common_13 (fun q => by have := congrArg Int64.toInt q; have h0 : (0 : Int64).toInt = 0 := rfl; omega) ?_
    refine lv_topl (fun y_2 ey_2 => ?_)
    have fy_2 : y_2.toInt = p0.toInt.tmod p1.toInt := by rw [ey_2]; exact cv_remT (by omega)
    have gy_2 : 2 * y_2.toInt.natAbs < p0.toInt.natAbs := by rw [fy_2, Int.natAbs_tmod]; exact mod_half (by omega) (by omega)
    refine vp_callSl (va_Run.run (va_runS (As := [.long p1, .long y_2]) (rest := []) ⟨hx, hb, hml, hown, hts⟩ (m_commonE24 l dC dI cyI cyB cyJ cyZ cyH cyN p1 y_2 (by omega) (by omega)) (va_cwS 2 hts (gdS wd_8_173 wd_8_174 wd_1_11 wd_8_175) rfl rfl rfl (by decide +kernel) ⟨Nat.le_of_ble_eq_true rfl, Nat.le_of_ble_eq_true rfl⟩) ⟨fun a U g mk q => q, fun U hU hW => ⟨rfl, trivial⟩⟩ rfl rfl hl.1 rfl (lv_room (Nat.le_of_ble_eq_true rfl)) dX12_common_14 ⟨Nat.le_of_ble_eq_true rfl, Nat.le_of_ble_eq_true rfl⟩)) (fun r_3 hw => ?_)
    have hrr_3 := hw
    rw [hQ9]
    exact W.lret (v := r_3) hx hb hr (fun t ht hW => ⟨r_3, rfl, hrr_3, ht⟩) (fun q h => by cases h) dX12_common_17
  · have c_1 : p1.toInt = 0 := cv_ceq c_1
    refine lv_lload_n hx hb dX12_common_6 rfl (lv_at hl 0 rfl) ?_
    refine lv_goto (tgt := 17) hx hb dX12_common_7 (by decide) ?_
    rw [hQ9]
    exact W.lret (v := p0) hx hb hr (fun t ht hW => ⟨p0, rfl, (by omega), ht⟩) (fun q h => by cases h) dX12_common_17

/- X12_common -/
set_option maxHeartbeats 4000000 in
set_option maxRecDepth 100000 in
theorem m_commonE25 (l : Launch) (dC : Nat → ClassId) (dI : Nat → Nat → Nat) (cyI cyB cyJ cyZ cyH cyN : ClassId) (p0 p1 : Int64) (g0 : (-33554431) ≤ p1.toInt ∧ p1.toInt ≤ 33554431) (g1 : ¬ (p0.toInt = 0 ∧ p1.toInt = 0)) : Met l yX12_common (wk yX12_common cX12_common 4 (some .long)) ({ frames := 51, cells := 0, slots := 0, locals := 1210 }) (va_Pc [.long p0, .long p1] (fun _ => True)) (vp_Sl (fun r : Int64 => r.toInt ≠ 0)) 0 0 (fun _ => False) := by
  refine Met.ofW (cc := cX12_common) (maxL := 4) (ret := (some .long)) (by decide) rfl ?_
  intro p e s m args below meth c s₁ B hml hv
  obtain ⟨rfl, -⟩ := hv
  have hx := B.exec
  have hb := B.bytes
  have hr := B.returns
  have hts : ∀ w ∈ uU, w.before ([.long p0, .long p1] : List Value).toArray s = true := fun w h => atoms_spec (ws := wk yX12_common cX12_common 4 (some .long)) B.pre w (List.mem_cons_of_mem _ h)
  have hown : s.vm.findClass RX12 = some m.cls := findClass_of_methodNamed B.named
  have hlocks := B.notSynchronized
  have hl := lv_entry ([.long p0, .long p1]) (n := 4) (Nat.le_of_ble_eq_true rfl)
  rw [lg_entry_eq]
  generalize (lg_sl ([.long p0, .long p1]) ++ List.replicate (4 - (lg_sl ([.long p0, .long p1])).length) Slot.unset).toArray = ls at hl ⊢
  have hl : lv_has ls 4 [(0, .long p0), (2, .long p1)] := hl
  obtain ⟨Q9, hQ9⟩ : ∃ Q9 : State → Prop, Q9 = MQ below (vp_Sl (fun r : Int64 => r.toInt ≠ 0)) ([.long p0, .long p1] : List Value).toArray s 0 0 (fun _ => False) := ⟨_, rfl⟩
  rw [← hQ9]
  refine lv_lload_n hx hb dX12_common_0 rfl (lv_at hl 1 rfl) ?_
  refine lv_lconst (v := 0) hx hb dX12_common_1 (by decide) ?_
  refine W.lcmp hx hb dX12_common_2 ?_
  refine lv_if_ne (tgt := 10) hx hb dX12_common_3 (by decide) (fun c_1 => ?_) (fun c_1 => ?_)
  · have c_1 : p1.toInt ≠ 0 := cv_cne c_1
    refine lv_lload_n hx hb dX12_common_10 rfl (lv_at hl 1 rfl) ?_
    refine lv_lload_n hx hb dX12_common_11 rfl (lv_at hl 0 rfl) ?_
    refine lv_lload_n hx hb dX12_common_12 rfl (lv_at hl 1 rfl) ?_
    refine lv_lrem hx hb dX12_common_13 (fun q => by have := congrArg Int64.toInt q; have h0 : (0 : Int64).toInt = 0 := rfl; omega) ?_
    refine lv_topl (fun y_2 ey_2 => ?_)
    have fy_2 : y_2.toInt = p0.toInt.tmod p1.toInt := by rw [ey_2]; exact cv_remT (by omega)
    have gy_2 : y_2.toInt.natAbs < p1.toInt.natAbs := by rw [fy_2, Int.natAbs_tmod]; exact Nat.mod_lt _ (by omega)
    refine vp_callSl (va_Run.run (va_runS (As := [.long p1, .long y_2]) (rest := []) ⟨hx, hb, hml, hown, hts⟩ (m_commonO25 l dC dI cyI cyB cyJ cyZ cyH cyN p1 y_2 (by omega) (by omega)) (va_cwS 2 hts (gdS wd_8_173 wd_8_174 wd_1_11 wd_8_175) rfl rfl rfl (by decide +kernel) ⟨Nat.le_of_ble_eq_true rfl, Nat.le_of_ble_eq_true rfl⟩) ⟨fun a U g mk q => q, fun U hU hW => ⟨rfl, trivial⟩⟩ rfl rfl hl.1 rfl (lv_room (Nat.le_of_ble_eq_true rfl)) dX12_common_14 ⟨Nat.le_of_ble_eq_true rfl, Nat.le_of_ble_eq_true rfl⟩)) (fun r_3 hw => ?_)
    have hrr_3 := hw
    rw [hQ9]
    exact W.lret (v := r_3) hx hb hr (fun t ht hW => ⟨r_3, rfl, hrr_3, ht⟩) (fun q h => by cases h) dX12_common_17
  · have c_1 : p1.toInt = 0 := cv_ceq c_1
    refine lv_lload_n hx hb dX12_common_6 rfl (lv_at hl 0 rfl) ?_
    refine lv_goto (tgt := 17) hx hb dX12_common_7 (by decide) ?_
    rw [hQ9]
    exact W.lret (v := p0) hx hb hr (fun t ht hW => ⟨p0, rfl, (by omega), ht⟩) (fun q h => by cases h) dX12_common_17

/- X12_common -/
set_option maxHeartbeats 4000000 in
set_option maxRecDepth 100000 in
theorem m_commonO26 (l : Launch) (dC : Nat → ClassId) (dI : Nat → Nat → Nat) (cyI cyB cyJ cyZ cyH cyN : ClassId) (p0 p1 : Int64) (g0 : (-67108863) ≤ p0.toInt ∧ p0.toInt ≤ 67108863) (g1 : p1.toInt.natAbs < p0.toInt.natAbs) : Met l yX12_common (wk yX12_common cX12_common 4 (some .long)) ({ frames := 52, cells := 0, slots := 0, locals := 1233 }) (va_Pc [.long p0, .long p1] (fun _ => True)) (vp_Sl (fun r : Int64 => r.toInt ≠ 0)) 0 0 (fun _ => False) := by
  refine Met.ofW (cc := cX12_common) (maxL := 4) (ret := (some .long)) (by decide) rfl ?_
  intro p e s m args below meth c s₁ B hml hv
  obtain ⟨rfl, -⟩ := hv
  have hx := B.exec
  have hb := B.bytes
  have hr := B.returns
  have hts : ∀ w ∈ uU, w.before ([.long p0, .long p1] : List Value).toArray s = true := fun w h => atoms_spec (ws := wk yX12_common cX12_common 4 (some .long)) B.pre w (List.mem_cons_of_mem _ h)
  have hown : s.vm.findClass RX12 = some m.cls := findClass_of_methodNamed B.named
  have hlocks := B.notSynchronized
  have hl := lv_entry ([.long p0, .long p1]) (n := 4) (Nat.le_of_ble_eq_true rfl)
  rw [lg_entry_eq]
  generalize (lg_sl ([.long p0, .long p1]) ++ List.replicate (4 - (lg_sl ([.long p0, .long p1])).length) Slot.unset).toArray = ls at hl ⊢
  have hl : lv_has ls 4 [(0, .long p0), (2, .long p1)] := hl
  obtain ⟨Q9, hQ9⟩ : ∃ Q9 : State → Prop, Q9 = MQ below (vp_Sl (fun r : Int64 => r.toInt ≠ 0)) ([.long p0, .long p1] : List Value).toArray s 0 0 (fun _ => False) := ⟨_, rfl⟩
  rw [← hQ9]
  refine lv_lload_n hx hb dX12_common_0 rfl (lv_at hl 1 rfl) ?_
  refine lv_lconst (v := 0) hx hb dX12_common_1 (by decide) ?_
  refine W.lcmp hx hb dX12_common_2 ?_
  refine lv_if_ne (tgt := 10) hx hb dX12_common_3 (by decide) (fun c_1 => ?_) (fun c_1 => ?_)
  · have c_1 : p1.toInt ≠ 0 := cv_cne c_1
    refine lv_lload_n hx hb dX12_common_10 rfl (lv_at hl 1 rfl) ?_
    refine lv_lload_n hx hb dX12_common_11 rfl (lv_at hl 0 rfl) ?_
    refine lv_lload_n hx hb dX12_common_12 rfl (lv_at hl 1 rfl) ?_
    refine lv_lrem hx hb dX12_common_13 (fun q => by have := congrArg Int64.toInt q; have h0 : (0 : Int64).toInt = 0 := rfl; omega) ?_
    refine lv_topl (fun y_2 ey_2 => ?_)
    have fy_2 : y_2.toInt = p0.toInt.tmod p1.toInt := by rw [ey_2]; exact cv_remT (by omega)
    have gy_2 : 2 * y_2.toInt.natAbs < p0.toInt.natAbs := by rw [fy_2, Int.natAbs_tmod]; exact mod_half (by omega) (by omega)
    refine vp_callSl (va_Run.run (va_runS (As := [.long p1, .long y_2]) (rest := []) ⟨hx, hb, hml, hown, hts⟩ (m_commonE25 l dC dI cyI cyB cyJ cyZ cyH cyN p1 y_2 (by omega) (by omega)) (va_cwS 2 hts (gdS wd_8_173 wd_8_174 wd_1_11 wd_8_175) rfl rfl rfl (by decide +kernel) ⟨Nat.le_of_ble_eq_true rfl, Nat.le_of_ble_eq_true rfl⟩) ⟨fun a U g mk q => q, fun U hU hW => ⟨rfl, trivial⟩⟩ rfl rfl hl.1 rfl (lv_room (Nat.le_of_ble_eq_true rfl)) dX12_common_14 ⟨Nat.le_of_ble_eq_true rfl, Nat.le_of_ble_eq_true rfl⟩)) (fun r_3 hw => ?_)
    have hrr_3 := hw
    rw [hQ9]
    exact W.lret (v := r_3) hx hb hr (fun t ht hW => ⟨r_3, rfl, hrr_3, ht⟩) (fun q h => by cases h) dX12_common_17
  · have c_1 : p1.toInt = 0 := cv_ceq c_1
    refine lv_lload_n hx hb dX12_common_6 rfl (lv_at hl 0 rfl) ?_
    refine lv_goto (tgt := 17) hx hb dX12_common_7 (by decide) ?_
    rw [hQ9]
    exact W.lret (v := p0) hx hb hr (fun t ht hW => ⟨p0, rfl, (by omega), ht⟩) (fun q h => by cases h) dX12_common_17

/- X12_common -/
set_option maxHeartbeats 4000000 in
set_option maxRecDepth 100000 in
theorem m_commonE26 (l : Launch) (dC : Nat → ClassId) (dI : Nat → Nat → Nat) (cyI cyB cyJ cyZ cyH cyN : ClassId) (p0 p1 : Int64) (g0 : (-67108863) ≤ p1.toInt ∧ p1.toInt ≤ 67108863) (g1 : ¬ (p0.toInt = 0 ∧ p1.toInt = 0)) : Met l yX12_common (wk yX12_common cX12_common 4 (some .long)) ({ frames := 53, cells := 0, slots := 0, locals := 1256 }) (va_Pc [.long p0, .long p1] (fun _ => True)) (vp_Sl (fun r : Int64 => r.toInt ≠ 0)) 0 0 (fun _ => False) := by
  refine Met.ofW (cc := cX12_common) (maxL := 4) (ret := (some .long)) (by decide) rfl ?_
  intro p e s m args below meth c s₁ B hml hv
  obtain ⟨rfl, -⟩ := hv
  have hx := B.exec
  have hb := B.bytes
  have hr := B.returns
  have hts : ∀ w ∈ uU, w.before ([.long p0, .long p1] : List Value).toArray s = true := fun w h => atoms_spec (ws := wk yX12_common cX12_common 4 (some .long)) B.pre w (List.mem_cons_of_mem _ h)
  have hown : s.vm.findClass RX12 = some m.cls := findClass_of_methodNamed B.named
  have hlocks := B.notSynchronized
  have hl := lv_entry ([.long p0, .long p1]) (n := 4) (Nat.le_of_ble_eq_true rfl)
  rw [lg_entry_eq]
  generalize (lg_sl ([.long p0, .long p1]) ++ List.replicate (4 - (lg_sl ([.long p0, .long p1])).length) Slot.unset).toArray = ls at hl ⊢
  have hl : lv_has ls 4 [(0, .long p0), (2, .long p1)] := hl
  obtain ⟨Q9, hQ9⟩ : ∃ Q9 : State → Prop, Q9 = MQ below (vp_Sl (fun r : Int64 => r.toInt ≠ 0)) ([.long p0, .long p1] : List Value).toArray s 0 0 (fun _ => False) := ⟨_, rfl⟩
  rw [← hQ9]
  refine lv_lload_n hx hb dX12_common_0 rfl (lv_at hl 1 rfl) ?_
  refine lv_lconst (v := 0) hx hb dX12_common_1 (by decide) ?_
  refine W.lcmp hx hb dX12_common_2 ?_
  refine lv_if_ne (tgt := 10) hx hb dX12_common_3 (by decide) (fun c_1 => ?_) (fun c_1 => ?_)
  · have c_1 : p1.toInt ≠ 0 := cv_cne c_1
    refine lv_lload_n hx hb dX12_common_10 rfl (lv_at hl 1 rfl) ?_
    refine lv_lload_n hx hb dX12_common_11 rfl (lv_at hl 0 rfl) ?_
    refine lv_lload_n hx hb dX12_common_12 rfl (lv_at hl 1 rfl) ?_
    refine lv_lrem hx hb dX12_common_13 (fun q => by have := congrArg Int64.toInt q; have h0 : (0 : Int64).toInt = 0 := rfl; omega) ?_
    refine lv_topl (fun y_2 ey_2 => ?_)
    have fy_2 : y_2.toInt = p0.toInt.tmod p1.toInt := by rw [ey_2]; exact cv_remT (by omega)
    have gy_2 : y_2.toInt.natAbs < p1.toInt.natAbs := by rw [fy_2, Int.natAbs_tmod]; exact Nat.mod_lt _ (by omega)
    refine vp_callSl (va_Run.run (va_runS (As := [.long p1, .long y_2]) (rest := []) ⟨hx, hb, hml, hown, hts⟩ (m_commonO26 l dC dI cyI cyB cyJ cyZ cyH cyN p1 y_2 (by omega) (by omega)) (va_cwS 2 hts (gdS wd_8_173 wd_8_174 wd_1_11 wd_8_175) rfl rfl rfl (by decide +kernel) ⟨Nat.le_of_ble_eq_true rfl, Nat.le_of_ble_eq_true rfl⟩) ⟨fun a U g mk q => q, fun U hU hW => ⟨rfl, trivial⟩⟩ rfl rfl hl.1 rfl (lv_room (Nat.le_of_ble_eq_true rfl)) dX12_common_14 ⟨Nat.le_of_ble_eq_true rfl, Nat.le_of_ble_eq_true rfl⟩)) (fun r_3 hw => ?_)
    have hrr_3 := hw
    rw [hQ9]
    exact W.lret (v := r_3) hx hb hr (fun t ht hW => ⟨r_3, rfl, hrr_3, ht⟩) (fun q h => by cases h) dX12_common_17
  · have c_1 : p1.toInt = 0 := cv_ceq c_1
    refine lv_lload_n hx hb dX12_common_6 rfl (lv_at hl 0 rfl) ?_
    refine lv_goto (tgt := 17) hx hb dX12_common_7 (by decide) ?_
    rw [hQ9]
    exact W.lret (v := p0) hx hb hr (fun t ht hW => ⟨p0, rfl, (by omega), ht⟩) (fun q h => by cases h) dX12_common_17

/- X12_common -/
set_option maxHeartbeats 4000000 in
set_option maxRecDepth 100000 in
theorem m_commonO27 (l : Launch) (dC : Nat → ClassId) (dI : Nat → Nat → Nat) (cyI cyB cyJ cyZ cyH cyN : ClassId) (p0 p1 : Int64) (g0 : (-134217727) ≤ p0.toInt ∧ p0.toInt ≤ 134217727) (g1 : p1.toInt.natAbs < p0.toInt.natAbs) : Met l yX12_common (wk yX12_common cX12_common 4 (some .long)) ({ frames := 54, cells := 0, slots := 0, locals := 1279 }) (va_Pc [.long p0, .long p1] (fun _ => True)) (vp_Sl (fun r : Int64 => r.toInt ≠ 0)) 0 0 (fun _ => False) := by
  refine Met.ofW (cc := cX12_common) (maxL := 4) (ret := (some .long)) (by decide) rfl ?_
  intro p e s m args below meth c s₁ B hml hv
  obtain ⟨rfl, -⟩ := hv
  have hx := B.exec
  have hb := B.bytes
  have hr := B.returns
  have hts : ∀ w ∈ uU, w.before ([.long p0, .long p1] : List Value).toArray s = true := fun w h => atoms_spec (ws := wk yX12_common cX12_common 4 (some .long)) B.pre w (List.mem_cons_of_mem _ h)
  have hown : s.vm.findClass RX12 = some m.cls := findClass_of_methodNamed B.named
  have hlocks := B.notSynchronized
  have hl := lv_entry ([.long p0, .long p1]) (n := 4) (Nat.le_of_ble_eq_true rfl)
  rw [lg_entry_eq]
  generalize (lg_sl ([.long p0, .long p1]) ++ List.replicate (4 - (lg_sl ([.long p0, .long p1])).length) Slot.unset).toArray = ls at hl ⊢
  have hl : lv_has ls 4 [(0, .long p0), (2, .long p1)] := hl
  obtain ⟨Q9, hQ9⟩ : ∃ Q9 : State → Prop, Q9 = MQ below (vp_Sl (fun r : Int64 => r.toInt ≠ 0)) ([.long p0, .long p1] : List Value).toArray s 0 0 (fun _ => False) := ⟨_, rfl⟩
  rw [← hQ9]
  refine lv_lload_n hx hb dX12_common_0 rfl (lv_at hl 1 rfl) ?_
  refine lv_lconst (v := 0) hx hb dX12_common_1 (by decide) ?_
  refine W.lcmp hx hb dX12_common_2 ?_
  refine lv_if_ne (tgt := 10) hx hb dX12_common_3 (by decide) (fun c_1 => ?_) (fun c_1 => ?_)
  · have c_1 : p1.toInt ≠ 0 := cv_cne c_1
    refine lv_lload_n hx hb dX12_common_10 rfl (lv_at hl 1 rfl) ?_
    refine lv_lload_n hx hb dX12_common_11 rfl (lv_at hl 0 rfl) ?_
    refine lv_lload_n hx hb dX12_common_12 rfl (lv_at hl 1 rfl) ?_
    refine lv_lrem hx hb dX12_common_13 (fun q => by have := congrArg Int64.toInt q; have h0 : (0 : Int64).toInt = 0 := rfl; omega) ?_
    refine lv_topl (fun y_2 ey_2 => ?_)
    have fy_2 : y_2.toInt = p0.toInt.tmod p1.toInt := by rw [ey_2]; exact cv_remT (by omega)
    have gy_2 : 2 * y_2.toInt.natAbs < p0.toInt.natAbs := by rw [fy_2, Int.natAbs_tmod]; exact mod_half (by omega) (by omega)
    refine vp_callSl (va_Run.run (va_runS (As := [.long p1, .long y_2]) (rest := []) ⟨hx, hb, hml, hown, hts⟩ (m_commonE26 l dC dI cyI cyB cyJ cyZ cyH cyN p1 y_2 (by omega) (by omega)) (va_cwS 2 hts (gdS wd_8_173 wd_8_174 wd_1_11 wd_8_175) rfl rfl rfl (by decide +kernel) ⟨Nat.le_of_ble_eq_true rfl, Nat.le_of_ble_eq_true rfl⟩) ⟨fun a U g mk q => q, fun U hU hW => ⟨rfl, trivial⟩⟩ rfl rfl hl.1 rfl (lv_room (Nat.le_of_ble_eq_true rfl)) dX12_common_14 ⟨Nat.le_of_ble_eq_true rfl, Nat.le_of_ble_eq_true rfl⟩)) (fun r_3 hw => ?_)
    have hrr_3 := hw
    rw [hQ9]
    exact W.lret (v := r_3) hx hb hr (fun t ht hW => ⟨r_3, rfl, hrr_3, ht⟩) (fun q h => by cases h) dX12_common_17
  · have c_1 : p1.toInt = 0 := cv_ceq c_1
    refine lv_lload_n hx hb dX12_common_6 rfl (lv_at hl 0 rfl) ?_
    refine lv_goto (tgt := 17) hx hb dX12_common_7 (by decide) ?_
    rw [hQ9]
    exact W.lret (v := p0) hx hb hr (fun t ht hW => ⟨p0, rfl, (by omega), ht⟩) (fun q h => by cases h) dX12_common_17

/- X12_common -/
set_option maxHeartbeats 4000000 in
set_option maxRecDepth 100000 in
theorem m_commonE27 (l : Launch) (dC : Nat → ClassId) (dI : Nat → Nat → Nat) (cyI cyB cyJ cyZ cyH cyN : ClassId) (p0 p1 : Int64) (g0 : (-134217727) ≤ p1.toInt ∧ p1.toInt ≤ 134217727) (g1 : ¬ (p0.toInt = 0 ∧ p1.toInt = 0)) : Met l yX12_common (wk yX12_common cX12_common 4 (some .long)) ({ frames := 55, cells := 0, slots := 0, locals := 1302 }) (va_Pc [.long p0, .long p1] (fun _ => True)) (vp_Sl (fun r : Int64 => r.toInt ≠ 0)) 0 0 (fun _ => False) := by
  refine Met.ofW (cc := cX12_common) (maxL := 4) (ret := (some .long)) (by decide) rfl ?_
  intro p e s m args below meth c s₁ B hml hv
  obtain ⟨rfl, -⟩ := hv
  have hx := B.exec
  have hb := B.bytes
  have hr := B.returns
  have hts : ∀ w ∈ uU, w.before ([.long p0, .long p1] : List Value).toArray s = true := fun w h => atoms_spec (ws := wk yX12_common cX12_common 4 (some .long)) B.pre w (List.mem_cons_of_mem _ h)
  have hown : s.vm.findClass RX12 = some m.cls := findClass_of_methodNamed B.named
  have hlocks := B.notSynchronized
  have hl := lv_entry ([.long p0, .long p1]) (n := 4) (Nat.le_of_ble_eq_true rfl)
  rw [lg_entry_eq]
  generalize (lg_sl ([.long p0, .long p1]) ++ List.replicate (4 - (lg_sl ([.long p0, .long p1])).length) Slot.unset).toArray = ls at hl ⊢
  have hl : lv_has ls 4 [(0, .long p0), (2, .long p1)] := hl
  obtain ⟨Q9, hQ9⟩ : ∃ Q9 : State → Prop, Q9 = MQ below (vp_Sl (fun r : Int64 => r.toInt ≠ 0)) ([.long p0, .long p1] : List Value).toArray s 0 0 (fun _ => False) := ⟨_, rfl⟩
  rw [← hQ9]
  refine lv_lload_n hx hb dX12_common_0 rfl (lv_at hl 1 rfl) ?_
  refine lv_lconst (v := 0) hx hb dX12_common_1 (by decide) ?_
  refine W.lcmp hx hb dX12_common_2 ?_
  refine lv_if_ne (tgt := 10) hx hb dX12_common_3 (by decide) (fun c_1 => ?_) (fun c_1 => ?_)
  · have c_1 : p1.toInt ≠ 0 := cv_cne c_1
    refine lv_lload_n hx hb dX12_common_10 rfl (lv_at hl 1 rfl) ?_
    refine lv_lload_n hx hb dX12_common_11 rfl (lv_at hl 0 rfl) ?_
    refine lv_lload_n hx hb dX12_common_12 rfl (lv_at hl 1 rfl) ?_
    refine lv_lrem hx hb dX12_common_13 (fun q => by have := congrArg Int64.toInt q; have h0 : (0 : Int64).toInt = 0 := rfl; omega) ?_
    refine lv_topl (fun y_2 ey_2 => ?_)
    have fy_2 : y_2.toInt = p0.toInt.tmod p1.toInt := by rw [ey_2]; exact cv_remT (by omega)
    have gy_2 : y_2.toInt.natAbs < p1.toInt.natAbs := by rw [fy_2, Int.natAbs_tmod]; exact Nat.mod_lt _ (by omega)
    refine vp_callSl (va_Run.run (va_runS (As := [.long p1, .long y_2]) (rest := []) ⟨hx, hb, hml, hown, hts⟩ (m_commonO27 l dC dI cyI cyB cyJ cyZ cyH cyN p1 y_2 (by omega) (by omega)) (va_cwS 2 hts (gdS wd_8_173 wd_8_174 wd_1_11 wd_8_175) rfl rfl rfl (by decide +kernel) ⟨Nat.le_of_ble_eq_true rfl, Nat.le_of_ble_eq_true rfl⟩) ⟨fun a U g mk q => q, fun U hU hW => ⟨rfl, trivial⟩⟩ rfl rfl hl.1 rfl (lv_room (Nat.le_of_ble_eq_true rfl)) dX12_common_14 ⟨Nat.le_of_ble_eq_true rfl, Nat.le_of_ble_eq_true rfl⟩)) (fun r_3 hw => ?_)
    have hrr_3 := hw
    rw [hQ9]
    exact W.lret (v := r_3) hx hb hr (fun t ht hW => ⟨r_3, rfl, hrr_3, ht⟩) (fun q h => by cases h) dX12_common_17
  · have c_1 : p1.toInt = 0 := cv_ceq c_1
    refine lv_lload_n hx hb dX12_common_6 rfl (lv_at hl 0 rfl) ?_
    refine lv_goto (tgt := 17) hx hb dX12_common_7 (by decide) ?_
    rw [hQ9]
    exact W.lret (v := p0) hx hb hr (fun t ht hW => ⟨p0, rfl, (by omega), ht⟩) (fun q h => by cases h) dX12_common_17

/- X12_common -/
set_option maxHeartbeats 4000000 in
set_option maxRecDepth 100000 in
theorem m_commonO28 (l : Launch) (dC : Nat → ClassId) (dI : Nat → Nat → Nat) (cyI cyB cyJ cyZ cyH cyN : ClassId) (p0 p1 : Int64) (g0 : (-268435455) ≤ p0.toInt ∧ p0.toInt ≤ 268435455) (g1 : p1.toInt.natAbs < p0.toInt.natAbs) : Met l yX12_common (wk yX12_common cX12_common 4 (some .long)) ({ frames := 56, cells := 0, slots := 0, locals := 1325 }) (va_Pc [.long p0, .long p1] (fun _ => True)) (vp_Sl (fun r : Int64 => r.toInt ≠ 0)) 0 0 (fun _ => False) := by
  refine Met.ofW (cc := cX12_common) (maxL := 4) (ret := (some .long)) (by decide) rfl ?_
  intro p e s m args below meth c s₁ B hml hv
  obtain ⟨rfl, -⟩ := hv
  have hx := B.exec
  have hb := B.bytes
  have hr := B.returns
  have hts : ∀ w ∈ uU, w.before ([.long p0, .long p1] : List Value).toArray s = true := fun w h => atoms_spec (ws := wk yX12_common cX12_common 4 (some .long)) B.pre w (List.mem_cons_of_mem _ h)
  have hown : s.vm.findClass RX12 = some m.cls := findClass_of_methodNamed B.named
  have hlocks := B.notSynchronized
  have hl := lv_entry ([.long p0, .long p1]) (n := 4) (Nat.le_of_ble_eq_true rfl)
  rw [lg_entry_eq]
  generalize (lg_sl ([.long p0, .long p1]) ++ List.replicate (4 - (lg_sl ([.long p0, .long p1])).length) Slot.unset).toArray = ls at hl ⊢
  have hl : lv_has ls 4 [(0, .long p0), (2, .long p1)] := hl
  obtain ⟨Q9, hQ9⟩ : ∃ Q9 : State → Prop, Q9 = MQ below (vp_Sl (fun r : Int64 => r.toInt ≠ 0)) ([.long p0, .long p1] : List Value).toArray s 0 0 (fun _ => False) := ⟨_, rfl⟩
  rw [← hQ9]
  refine lv_lload_n hx hb dX12_common_0 rfl (lv_at hl 1 rfl) ?_
  refine lv_lconst (v := 0) hx hb dX12_common_1 (by decide) ?_
  refine W.lcmp hx hb dX12_common_2 ?_
  refine lv_if_ne (tgt := 10) hx hb dX12_common_3 (by decide) (fun c_1 => ?_) (fun c_1 => ?_)
  · have c_1 : p1.toInt ≠ 0 := cv_cne c_1
    refine lv_lload_n hx hb dX12_common_10 rfl (lv_at hl 1 rfl) ?_
    refine lv_lload_n hx hb dX12_common_11 rfl (lv_at hl 0 rfl) ?_
    refine lv_lload_n hx hb dX12_common_12 rfl (lv_at hl 1 rfl) ?_
    refine lv_lrem hx hb dX12_common_13 (fun q => by have := congrArg Int64.toInt q; have h0 : (0 : Int64).toInt = 0 := rfl; omega) ?_
    refine lv_topl (fun y_2 ey_2 => ?_)
    have fy_2 : y_2.toInt = p0.toInt.tmod p1.toInt := by rw [ey_2]; exact cv_remT (by omega)
    have gy_2 : 2 * y_2.toInt.natAbs < p0.toInt.natAbs := by rw [fy_2, Int.natAbs_tmod]; exact mod_half (by omega) (by omega)
    refine vp_callSl (va_Run.run (va_runS (As := [.long p1, .long y_2]) (rest := []) ⟨hx, hb, hml, hown, hts⟩ (m_commonE27 l dC dI cyI cyB cyJ cyZ cyH cyN p1 y_2 (by omega) (by omega)) (va_cwS 2 hts (gdS wd_8_173 wd_8_174 wd_1_11 wd_8_175) rfl rfl rfl (by decide +kernel) ⟨Nat.le_of_ble_eq_true rfl, Nat.le_of_ble_eq_true rfl⟩) ⟨fun a U g mk q => q, fun U hU hW => ⟨rfl, trivial⟩⟩ rfl rfl hl.1 rfl (lv_room (Nat.le_of_ble_eq_true rfl)) dX12_common_14 ⟨Nat.le_of_ble_eq_true rfl, Nat.le_of_ble_eq_true rfl⟩)) (fun r_3 hw => ?_)
    have hrr_3 := hw
    rw [hQ9]
    exact W.lret (v := r_3) hx hb hr (fun t ht hW => ⟨r_3, rfl, hrr_3, ht⟩) (fun q h => by cases h) dX12_common_17
  · have c_1 : p1.toInt = 0 := cv_ceq c_1
    refine lv_lload_n hx hb dX12_common_6 rfl (lv_at hl 0 rfl) ?_
    refine lv_goto (tgt := 17) hx hb dX12_common_7 (by decide) ?_
    rw [hQ9]
    exact W.lret (v := p0) hx hb hr (fun t ht hW => ⟨p0, rfl, (by omega), ht⟩) (fun q h => by cases h) dX12_common_17

/- X12_common -/
set_option maxHeartbeats 4000000 in
set_option maxRecDepth 100000 in
theorem m_commonE28 (l : Launch) (dC : Nat → ClassId) (dI : Nat → Nat → Nat) (cyI cyB cyJ cyZ cyH cyN : ClassId) (p0 p1 : Int64) (g0 : (-268435455) ≤ p1.toInt ∧ p1.toInt ≤ 268435455) (g1 : ¬ (p0.toInt = 0 ∧ p1.toInt = 0)) : Met l yX12_common (wk yX12_common cX12_common 4 (some .long)) ({ frames := 57, cells := 0, slots := 0, locals := 1348 }) (va_Pc [.long p0, .long p1] (fun _ => True)) (vp_Sl (fun r : Int64 => r.toInt ≠ 0)) 0 0 (fun _ => False) := by
  refine Met.ofW (cc := cX12_common) (maxL := 4) (ret := (some .long)) (by decide) rfl ?_
  intro p e s m args below meth c s₁ B hml hv
  obtain ⟨rfl, -⟩ := hv
  have hx := B.exec
  have hb := B.bytes
  have hr := B.returns
  have hts : ∀ w ∈ uU, w.before ([.long p0, .long p1] : List Value).toArray s = true := fun w h => atoms_spec (ws := wk yX12_common cX12_common 4 (some .long)) B.pre w (List.mem_cons_of_mem _ h)
  have hown : s.vm.findClass RX12 = some m.cls := findClass_of_methodNamed B.named
  have hlocks := B.notSynchronized
  have hl := lv_entry ([.long p0, .long p1]) (n := 4) (Nat.le_of_ble_eq_true rfl)
  rw [lg_entry_eq]
  generalize (lg_sl ([.long p0, .long p1]) ++ List.replicate (4 - (lg_sl ([.long p0, .long p1])).length) Slot.unset).toArray = ls at hl ⊢
  have hl : lv_has ls 4 [(0, .long p0), (2, .long p1)] := hl
  obtain ⟨Q9, hQ9⟩ : ∃ Q9 : State → Prop, Q9 = MQ below (vp_Sl (fun r : Int64 => r.toInt ≠ 0)) ([.long p0, .long p1] : List Value).toArray s 0 0 (fun _ => False) := ⟨_, rfl⟩
  rw [← hQ9]
  refine lv_lload_n hx hb dX12_common_0 rfl (lv_at hl 1 rfl) ?_
  refine lv_lconst (v := 0) hx hb dX12_common_1 (by decide) ?_
  refine W.lcmp hx hb dX12_common_2 ?_
  refine lv_if_ne (tgt := 10) hx hb dX12_common_3 (by decide) (fun c_1 => ?_) (fun c_1 => ?_)
  · have c_1 : p1.toInt ≠ 0 := cv_cne c_1
    refine lv_lload_n hx hb dX12_common_10 rfl (lv_at hl 1 rfl) ?_
    refine lv_lload_n hx hb dX12_common_11 rfl (lv_at hl 0 rfl) ?_
    refine lv_lload_n hx hb dX12_common_12 rfl (lv_at hl 1 rfl) ?_
    refine lv_lrem hx hb dX12_common_13 (fun q => by have := congrArg Int64.toInt q; have h0 : (0 : Int64).toInt = 0 := rfl; omega) ?_
    refine lv_topl (fun y_2 ey_2 => ?_)
    have fy_2 : y_2.toInt = p0.toInt.tmod p1.toInt := by rw [ey_2]; exact cv_remT (by omega)
    have gy_2 : y_2.toInt.natAbs < p1.toInt.natAbs := by rw [fy_2, Int.natAbs_tmod]; exact Nat.mod_lt _ (by omega)
    refine vp_callSl (va_Run.run (va_runS (As := [.long p1, .long y_2]) (rest := []) ⟨hx, hb, hml, hown, hts⟩ (m_commonO28 l dC dI cyI cyB cyJ cyZ cyH cyN p1 y_2 (by omega) (by omega)) (va_cwS 2 hts (gdS wd_8_173 wd_8_174 wd_1_11 wd_8_175) rfl rfl rfl (by decide +kernel) ⟨Nat.le_of_ble_eq_true rfl, Nat.le_of_ble_eq_true rfl⟩) ⟨fun a U g mk q => q, fun U hU hW => ⟨rfl, trivial⟩⟩ rfl rfl hl.1 rfl (lv_room (Nat.le_of_ble_eq_true rfl)) dX12_common_14 ⟨Nat.le_of_ble_eq_true rfl, Nat.le_of_ble_eq_true rfl⟩)) (fun r_3 hw => ?_)
    have hrr_3 := hw
    rw [hQ9]
    exact W.lret (v := r_3) hx hb hr (fun t ht hW => ⟨r_3, rfl, hrr_3, ht⟩) (fun q h => by cases h) dX12_common_17
  · have c_1 : p1.toInt = 0 := cv_ceq c_1
    refine lv_lload_n hx hb dX12_common_6 rfl (lv_at hl 0 rfl) ?_
    refine lv_goto (tgt := 17) hx hb dX12_common_7 (by decide) ?_
    rw [hQ9]
    exact W.lret (v := p0) hx hb hr (fun t ht hW => ⟨p0, rfl, (by omega), ht⟩) (fun q h => by cases h) dX12_common_17

/- X12_common -/
set_option maxHeartbeats 4000000 in
set_option maxRecDepth 100000 in
theorem m_commonO29 (l : Launch) (dC : Nat → ClassId) (dI : Nat → Nat → Nat) (cyI cyB cyJ cyZ cyH cyN : ClassId) (p0 p1 : Int64) (g0 : (-536870911) ≤ p0.toInt ∧ p0.toInt ≤ 536870911) (g1 : p1.toInt.natAbs < p0.toInt.natAbs) : Met l yX12_common (wk yX12_common cX12_common 4 (some .long)) ({ frames := 58, cells := 0, slots := 0, locals := 1371 }) (va_Pc [.long p0, .long p1] (fun _ => True)) (vp_Sl (fun r : Int64 => r.toInt ≠ 0)) 0 0 (fun _ => False) := by
  refine Met.ofW (cc := cX12_common) (maxL := 4) (ret := (some .long)) (by decide) rfl ?_
  intro p e s m args below meth c s₁ B hml hv
  obtain ⟨rfl, -⟩ := hv
  have hx := B.exec
  have hb := B.bytes
  have hr := B.returns
  have hts : ∀ w ∈ uU, w.before ([.long p0, .long p1] : List Value).toArray s = true := fun w h => atoms_spec (ws := wk yX12_common cX12_common 4 (some .long)) B.pre w (List.mem_cons_of_mem _ h)
  have hown : s.vm.findClass RX12 = some m.cls := findClass_of_methodNamed B.named
  have hlocks := B.notSynchronized
  have hl := lv_entry ([.long p0, .long p1]) (n := 4) (Nat.le_of_ble_eq_true rfl)
  rw [lg_entry_eq]
  generalize (lg_sl ([.long p0, .long p1]) ++ List.replicate (4 - (lg_sl ([.long p0, .long p1])).length) Slot.unset).toArray = ls at hl ⊢
  have hl : lv_has ls 4 [(0, .long p0), (2, .long p1)] := hl
  obtain ⟨Q9, hQ9⟩ : ∃ Q9 : State → Prop, Q9 = MQ below (vp_Sl (fun r : Int64 => r.toInt ≠ 0)) ([.long p0, .long p1] : List Value).toArray s 0 0 (fun _ => False) := ⟨_, rfl⟩
  rw [← hQ9]
  refine lv_lload_n hx hb dX12_common_0 rfl (lv_at hl 1 rfl) ?_
  refine lv_lconst (v := 0) hx hb dX12_common_1 (by decide) ?_
  refine W.lcmp hx hb dX12_common_2 ?_
  refine lv_if_ne (tgt := 10) hx hb dX12_common_3 (by decide) (fun c_1 => ?_) (fun c_1 => ?_)
  · have c_1 : p1.toInt ≠ 0 := cv_cne c_1
    refine lv_lload_n hx hb dX12_common_10 rfl (lv_at hl 1 rfl) ?_
    refine lv_lload_n hx hb dX12_common_11 rfl (lv_at hl 0 rfl) ?_
    refine lv_lload_n hx hb dX12_common_12 rfl (lv_at hl 1 rfl) ?_
    refine lv_lrem hx hb dX12_common_13 (fun q => by have := congrArg Int64.toInt q; have h0 : (0 : Int64).toInt = 0 := rfl; omega) ?_
    refine lv_topl (fun y_2 ey_2 => ?_)
    have fy_2 : y_2.toInt = p0.toInt.tmod p1.toInt := by rw [ey_2]; exact cv_remT (by omega)
    have gy_2 : 2 * y_2.toInt.natAbs < p0.toInt.natAbs := by rw [fy_2, Int.natAbs_tmod]; exact mod_half (by omega) (by omega)
    refine vp_callSl (va_Run.run (va_runS (As := [.long p1, .long y_2]) (rest := []) ⟨hx, hb, hml, hown, hts⟩ (m_commonE28 l dC dI cyI cyB cyJ cyZ cyH cyN p1 y_2 (by omega) (by omega)) (va_cwS 2 hts (gdS wd_8_173 wd_8_174 wd_1_11 wd_8_175) rfl rfl rfl (by decide +kernel) ⟨Nat.le_of_ble_eq_true rfl, Nat.le_of_ble_eq_true rfl⟩) ⟨fun a U g mk q => q, fun U hU hW => ⟨rfl, trivial⟩⟩ rfl rfl hl.1 rfl (lv_room (Nat.le_of_ble_eq_true rfl)) dX12_common_14 ⟨Nat.le_of_ble_eq_true rfl, Nat.le_of_ble_eq_true rfl⟩)) (fun r_3 hw => ?_)
    have hrr_3 := hw
    rw [hQ9]
    exact W.lret (v := r_3) hx hb hr (fun t ht hW => ⟨r_3, rfl, hrr_3, ht⟩) (fun q h => by cases h) dX12_common_17
  · have c_1 : p1.toInt = 0 := cv_ceq c_1
    refine lv_lload_n hx hb dX12_common_6 rfl (lv_at hl 0 rfl) ?_
    refine lv_goto (tgt := 17) hx hb dX12_common_7 (by decide) ?_
    rw [hQ9]
    exact W.lret (v := p0) hx hb hr (fun t ht hW => ⟨p0, rfl, (by omega), ht⟩) (fun q h => by cases h) dX12_common_17

/- X12_common -/
set_option maxHeartbeats 4000000 in
set_option maxRecDepth 100000 in
theorem m_commonE29 (l : Launch) (dC : Nat → ClassId) (dI : Nat → Nat → Nat) (cyI cyB cyJ cyZ cyH cyN : ClassId) (p0 p1 : Int64) (g0 : (-536870911) ≤ p1.toInt ∧ p1.toInt ≤ 536870911) (g1 : ¬ (p0.toInt = 0 ∧ p1.toInt = 0)) : Met l yX12_common (wk yX12_common cX12_common 4 (some .long)) ({ frames := 59, cells := 0, slots := 0, locals := 1394 }) (va_Pc [.long p0, .long p1] (fun _ => True)) (vp_Sl (fun r : Int64 => r.toInt ≠ 0)) 0 0 (fun _ => False) := by
  refine Met.ofW (cc := cX12_common) (maxL := 4) (ret := (some .long)) (by decide) rfl ?_
  intro p e s m args below meth c s₁ B hml hv
  obtain ⟨rfl, -⟩ := hv
  have hx := B.exec
  have hb := B.bytes
  have hr := B.returns
  have hts : ∀ w ∈ uU, w.before ([.long p0, .long p1] : List Value).toArray s = true := fun w h => atoms_spec (ws := wk yX12_common cX12_common 4 (some .long)) B.pre w (List.mem_cons_of_mem _ h)
  have hown : s.vm.findClass RX12 = some m.cls := findClass_of_methodNamed B.named
  have hlocks := B.notSynchronized
  have hl := lv_entry ([.long p0, .long p1]) (n := 4) (Nat.le_of_ble_eq_true rfl)
  rw [lg_entry_eq]
  generalize (lg_sl ([.long p0, .long p1]) ++ List.replicate (4 - (lg_sl ([.long p0, .long p1])).length) Slot.unset).toArray = ls at hl ⊢
  have hl : lv_has ls 4 [(0, .long p0), (2, .long p1)] := hl
  obtain ⟨Q9, hQ9⟩ : ∃ Q9 : State → Prop, Q9 = MQ below (vp_Sl (fun r : Int64 => r.toInt ≠ 0)) ([.long p0, .long p1] : List Value).toArray s 0 0 (fun _ => False) := ⟨_, rfl⟩
  rw [← hQ9]
  refine lv_lload_n hx hb dX12_common_0 rfl (lv_at hl 1 rfl) ?_
  refine lv_lconst (v := 0) hx hb dX12_common_1 (by decide) ?_
  refine W.lcmp hx hb dX12_common_2 ?_
  refine lv_if_ne (tgt := 10) hx hb dX12_common_3 (by decide) (fun c_1 => ?_) (fun c_1 => ?_)
  · have c_1 : p1.toInt ≠ 0 := cv_cne c_1
    refine lv_lload_n hx hb dX12_common_10 rfl (lv_at hl 1 rfl) ?_
    refine lv_lload_n hx hb dX12_common_11 rfl (lv_at hl 0 rfl) ?_
    refine lv_lload_n hx hb dX12_common_12 rfl (lv_at hl 1 rfl) ?_
    refine lv_lrem hx hb dX12_common_13 (fun q => by have := congrArg Int64.toInt q; have h0 : (0 : Int64).toInt = 0 := rfl; omega) ?_
    refine lv_topl (fun y_2 ey_2 => ?_)
    have fy_2 : y_2.toInt = p0.toInt.tmod p1.toInt := by rw [ey_2]; exact cv_remT (by omega)
    have gy_2 : y_2.toInt.natAbs < p1.toInt.natAbs := by rw [fy_2, Int.natAbs_tmod]; exact Nat.mod_lt _ (by omega)
    refine vp_callSl (va_Run.run (va_runS (As := [.long p1, .long y_2]) (rest := []) ⟨hx, hb, hml, hown, hts⟩ (m_commonO29 l dC dI cyI cyB cyJ cyZ cyH cyN p1 y_2 (by omega) (by omega)) (va_cwS 2 hts (gdS wd_8_173 wd_8_174 wd_1_11 wd_8_175) rfl rfl rfl (by decide +kernel) ⟨Nat.le_of_ble_eq_true rfl, Nat.le_of_ble_eq_true rfl⟩) ⟨fun a U g mk q => q, fun U hU hW => ⟨rfl, trivial⟩⟩ rfl rfl hl.1 rfl (lv_room (Nat.le_of_ble_eq_true rfl)) dX12_common_14 ⟨Nat.le_of_ble_eq_true rfl, Nat.le_of_ble_eq_true rfl⟩)) (fun r_3 hw => ?_)
    have hrr_3 := hw
    rw [hQ9]
    exact W.lret (v := r_3) hx hb hr (fun t ht hW => ⟨r_3, rfl, hrr_3, ht⟩) (fun q h => by cases h) dX12_common_17
  · have c_1 : p1.toInt = 0 := cv_ceq c_1
    refine lv_lload_n hx hb dX12_common_6 rfl (lv_at hl 0 rfl) ?_
    refine lv_goto (tgt := 17) hx hb dX12_common_7 (by decide) ?_
    rw [hQ9]
    exact W.lret (v := p0) hx hb hr (fun t ht hW => ⟨p0, rfl, (by omega), ht⟩) (fun q h => by cases h) dX12_common_17

/- X12_common -/
set_option maxHeartbeats 4000000 in
set_option maxRecDepth 100000 in
theorem m_commonO30 (l : Launch) (dC : Nat → ClassId) (dI : Nat → Nat → Nat) (cyI cyB cyJ cyZ cyH cyN : ClassId) (p0 p1 : Int64) (g0 : (-1073741823) ≤ p0.toInt ∧ p0.toInt ≤ 1073741823) (g1 : p1.toInt.natAbs < p0.toInt.natAbs) : Met l yX12_common (wk yX12_common cX12_common 4 (some .long)) ({ frames := 60, cells := 0, slots := 0, locals := 1417 }) (va_Pc [.long p0, .long p1] (fun _ => True)) (vp_Sl (fun r : Int64 => r.toInt ≠ 0)) 0 0 (fun _ => False) := by
  refine Met.ofW (cc := cX12_common) (maxL := 4) (ret := (some .long)) (by decide) rfl ?_
  intro p e s m args below meth c s₁ B hml hv
  obtain ⟨rfl, -⟩ := hv
  have hx := B.exec
  have hb := B.bytes
  have hr := B.returns
  have hts : ∀ w ∈ uU, w.before ([.long p0, .long p1] : List Value).toArray s = true := fun w h => atoms_spec (ws := wk yX12_common cX12_common 4 (some .long)) B.pre w (List.mem_cons_of_mem _ h)
  have hown : s.vm.findClass RX12 = some m.cls := findClass_of_methodNamed B.named
  have hlocks := B.notSynchronized
  have hl := lv_entry ([.long p0, .long p1]) (n := 4) (Nat.le_of_ble_eq_true rfl)
  rw [lg_entry_eq]
  generalize (lg_sl ([.long p0, .long p1]) ++ List.replicate (4 - (lg_sl ([.long p0, .long p1])).length) Slot.unset).toArray = ls at hl ⊢
  have hl : lv_has ls 4 [(0, .long p0), (2, .long p1)] := hl
  obtain ⟨Q9, hQ9⟩ : ∃ Q9 : State → Prop, Q9 = MQ below (vp_Sl (fun r : Int64 => r.toInt ≠ 0)) ([.long p0, .long p1] : List Value).toArray s 0 0 (fun _ => False) := ⟨_, rfl⟩
  rw [← hQ9]
  refine lv_lload_n hx hb dX12_common_0 rfl (lv_at hl 1 rfl) ?_
  refine lv_lconst (v := 0) hx hb dX12_common_1 (by decide) ?_
  refine W.lcmp hx hb dX12_common_2 ?_
  refine lv_if_ne (tgt := 10) hx hb dX12_common_3 (by decide) (fun c_1 => ?_) (fun c_1 => ?_)
  · have c_1 : p1.toInt ≠ 0 := cv_cne c_1
    refine lv_lload_n hx hb dX12_common_10 rfl (lv_at hl 1 rfl) ?_
    refine lv_lload_n hx hb dX12_common_11 rfl (lv_at hl 0 rfl) ?_
    refine lv_lload_n hx hb dX12_common_12 rfl (lv_at hl 1 rfl) ?_
    refine lv_lrem hx hb dX12_common_13 (fun q => by have := congrArg Int64.toInt q; have h0 : (0 : Int64).toInt = 0 := rfl; omega) ?_
    refine lv_topl (fun y_2 ey_2 => ?_)
    have fy_2 : y_2.toInt = p0.toInt.tmod p1.toInt := by rw [ey_2]; exact cv_remT (by omega)
    have gy_2 : 2 * y_2.toInt.natAbs < p0.toInt.natAbs := by rw [fy_2, Int.natAbs_tmod]; exact mod_half (by omega) (by omega)
    refine vp_callSl (va_Run.run (va_runS (As := [.long p1, .long y_2]) (rest := []) ⟨hx, hb, hml, hown, hts⟩ (m_commonE29 l dC dI cyI cyB cyJ cyZ cyH cyN p1 y_2 (by omega) (by omega)) (va_cwS 2 hts (gdS wd_8_173 wd_8_174 wd_1_11 wd_8_175) rfl rfl rfl (by decide +kernel) ⟨Nat.le_of_ble_eq_true rfl, Nat.le_of_ble_eq_true rfl⟩) ⟨fun a U g mk q => q, fun U hU hW => ⟨rfl, trivial⟩⟩ rfl rfl hl.1 rfl (lv_room (Nat.le_of_ble_eq_true rfl)) dX12_common_14 ⟨Nat.le_of_ble_eq_true rfl, Nat.le_of_ble_eq_true rfl⟩)) (fun r_3 hw => ?_)
    have hrr_3 := hw
    rw [hQ9]
    exact W.lret (v := r_3) hx hb hr (fun t ht hW => ⟨r_3, rfl, hrr_3, ht⟩) (fun q h => by cases h) dX12_common_17
  · have c_1 : p1.toInt = 0 := cv_ceq c_1
    refine lv_lload_n hx hb dX12_common_6 rfl (lv_at hl 0 rfl) ?_
    refine lv_goto (tgt := 17) hx hb dX12_common_7 (by decide) ?_
    rw [hQ9]
    exact W.lret (v := p0) hx hb hr (fun t ht hW => ⟨p0, rfl, (by omega), ht⟩) (fun q h => by cases h) dX12_common_17

/- X12_common -/
set_option maxHeartbeats 4000000 in
set_option maxRecDepth 100000 in
theorem m_commonE30 (l : Launch) (dC : Nat → ClassId) (dI : Nat → Nat → Nat) (cyI cyB cyJ cyZ cyH cyN : ClassId) (p0 p1 : Int64) (g0 : (-1073741823) ≤ p1.toInt ∧ p1.toInt ≤ 1073741823) (g1 : ¬ (p0.toInt = 0 ∧ p1.toInt = 0)) : Met l yX12_common (wk yX12_common cX12_common 4 (some .long)) ({ frames := 61, cells := 0, slots := 0, locals := 1440 }) (va_Pc [.long p0, .long p1] (fun _ => True)) (vp_Sl (fun r : Int64 => r.toInt ≠ 0)) 0 0 (fun _ => False) := by
  refine Met.ofW (cc := cX12_common) (maxL := 4) (ret := (some .long)) (by decide) rfl ?_
  intro p e s m args below meth c s₁ B hml hv
  obtain ⟨rfl, -⟩ := hv
  have hx := B.exec
  have hb := B.bytes
  have hr := B.returns
  have hts : ∀ w ∈ uU, w.before ([.long p0, .long p1] : List Value).toArray s = true := fun w h => atoms_spec (ws := wk yX12_common cX12_common 4 (some .long)) B.pre w (List.mem_cons_of_mem _ h)
  have hown : s.vm.findClass RX12 = some m.cls := findClass_of_methodNamed B.named
  have hlocks := B.notSynchronized
  have hl := lv_entry ([.long p0, .long p1]) (n := 4) (Nat.le_of_ble_eq_true rfl)
  rw [lg_entry_eq]
  generalize (lg_sl ([.long p0, .long p1]) ++ List.replicate (4 - (lg_sl ([.long p0, .long p1])).length) Slot.unset).toArray = ls at hl ⊢
  have hl : lv_has ls 4 [(0, .long p0), (2, .long p1)] := hl
  obtain ⟨Q9, hQ9⟩ : ∃ Q9 : State → Prop, Q9 = MQ below (vp_Sl (fun r : Int64 => r.toInt ≠ 0)) ([.long p0, .long p1] : List Value).toArray s 0 0 (fun _ => False) := ⟨_, rfl⟩
  rw [← hQ9]
  refine lv_lload_n hx hb dX12_common_0 rfl (lv_at hl 1 rfl) ?_
  refine lv_lconst (v := 0) hx hb dX12_common_1 (by decide) ?_
  refine W.lcmp hx hb dX12_common_2 ?_
  refine lv_if_ne (tgt := 10) hx hb dX12_common_3 (by decide) (fun c_1 => ?_) (fun c_1 => ?_)
  · have c_1 : p1.toInt ≠ 0 := cv_cne c_1
    refine lv_lload_n hx hb dX12_common_10 rfl (lv_at hl 1 rfl) ?_
    refine lv_lload_n hx hb dX12_common_11 rfl (lv_at hl 0 rfl) ?_
    refine lv_lload_n hx hb dX12_common_12 rfl (lv_at hl 1 rfl) ?_
    refine lv_lrem hx hb dX12_common_13 (fun q => by have := congrArg Int64.toInt q; have h0 : (0 : Int64).toInt = 0 := rfl; omega) ?_
    refine lv_topl (fun y_2 ey_2 => ?_)
    have fy_2 : y_2.toInt = p0.toInt.tmod p1.toInt := by rw [ey_2]; exact cv_remT (by omega)
    have gy_2 : y_2.toInt.natAbs < p1.toInt.natAbs := by rw [fy_2, Int.natAbs_tmod]; exact Nat.mod_lt _ (by omega)
    refine vp_callSl (va_Run.run (va_runS (As := [.long p1, .long y_2]) (rest := []) ⟨hx, hb, hml, hown, hts⟩ (m_commonO30 l dC dI cyI cyB cyJ cyZ cyH cyN p1 y_2 (by omega) (by omega)) (va_cwS 2 hts (gdS wd_8_173 wd_8_174 wd_1_11 wd_8_175) rfl rfl rfl (by decide +kernel) ⟨Nat.le_of_ble_eq_true rfl, Nat.le_of_ble_eq_true rfl⟩) ⟨fun a U g mk q => q, fun U hU hW => ⟨rfl, trivial⟩⟩ rfl rfl hl.1 rfl (lv_room (Nat.le_of_ble_eq_true rfl)) dX12_common_14 ⟨Nat.le_of_ble_eq_true rfl, Nat.le_of_ble_eq_true rfl⟩)) (fun r_3 hw => ?_)
    have hrr_3 := hw
    rw [hQ9]
    exact W.lret (v := r_3) hx hb hr (fun t ht hW => ⟨r_3, rfl, hrr_3, ht⟩) (fun q h => by cases h) dX12_common_17
  · have c_1 : p1.toInt = 0 := cv_ceq c_1
    refine lv_lload_n hx hb dX12_common_6 rfl (lv_at hl 0 rfl) ?_
    refine lv_goto (tgt := 17) hx hb dX12_common_7 (by decide) ?_
    rw [hQ9]
    exact W.lret (v := p0) hx hb hr (fun t ht hW => ⟨p0, rfl, (by omega), ht⟩) (fun q h => by cases h) dX12_common_17

/- X12_common -/
set_option maxHeartbeats 4000000 in
set_option maxRecDepth 100000 in
theorem m_commonO31 (l : Launch) (dC : Nat → ClassId) (dI : Nat → Nat → Nat) (cyI cyB cyJ cyZ cyH cyN : ClassId) (p0 p1 : Int64) (g0 : (-2147483647) ≤ p0.toInt ∧ p0.toInt ≤ 2147483647) (g1 : p1.toInt.natAbs < p0.toInt.natAbs) : Met l yX12_common (wk yX12_common cX12_common 4 (some .long)) ({ frames := 62, cells := 0, slots := 0, locals := 1463 }) (va_Pc [.long p0, .long p1] (fun _ => True)) (vp_Sl (fun r : Int64 => r.toInt ≠ 0)) 0 0 (fun _ => False) := by
  refine Met.ofW (cc := cX12_common) (maxL := 4) (ret := (some .long)) (by decide) rfl ?_
  intro p e s m args below meth c s₁ B hml hv
  obtain ⟨rfl, -⟩ := hv
  have hx := B.exec
  have hb := B.bytes
  have hr := B.returns
  have hts : ∀ w ∈ uU, w.before ([.long p0, .long p1] : List Value).toArray s = true := fun w h => atoms_spec (ws := wk yX12_common cX12_common 4 (some .long)) B.pre w (List.mem_cons_of_mem _ h)
  have hown : s.vm.findClass RX12 = some m.cls := findClass_of_methodNamed B.named
  have hlocks := B.notSynchronized
  have hl := lv_entry ([.long p0, .long p1]) (n := 4) (Nat.le_of_ble_eq_true rfl)
  rw [lg_entry_eq]
  generalize (lg_sl ([.long p0, .long p1]) ++ List.replicate (4 - (lg_sl ([.long p0, .long p1])).length) Slot.unset).toArray = ls at hl ⊢
  have hl : lv_has ls 4 [(0, .long p0), (2, .long p1)] := hl
  obtain ⟨Q9, hQ9⟩ : ∃ Q9 : State → Prop, Q9 = MQ below (vp_Sl (fun r : Int64 => r.toInt ≠ 0)) ([.long p0, .long p1] : List Value).toArray s 0 0 (fun _ => False) := ⟨_, rfl⟩
  rw [← hQ9]
  refine lv_lload_n hx hb dX12_common_0 rfl (lv_at hl 1 rfl) ?_
  refine lv_lconst (v := 0) hx hb dX12_common_1 (by decide) ?_
  refine W.lcmp hx hb dX12_common_2 ?_
  refine lv_if_ne (tgt := 10) hx hb dX12_common_3 (by decide) (fun c_1 => ?_) (fun c_1 => ?_)
  · have c_1 : p1.toInt ≠ 0 := cv_cne c_1
    refine lv_lload_n hx hb dX12_common_10 rfl (lv_at hl 1 rfl) ?_
    refine lv_lload_n hx hb dX12_common_11 rfl (lv_at hl 0 rfl) ?_
    refine lv_lload_n hx hb dX12_common_12 rfl (lv_at hl 1 rfl) ?_
    refine lv_lrem hx hb dX12_common_13 (fun q => by have := congrArg Int64.toInt q; have h0 : (0 : Int64).toInt = 0 := rfl; omega) ?_
    refine lv_topl (fun y_2 ey_2 => ?_)
    have fy_2 : y_2.toInt = p0.toInt.tmod p1.toInt := by rw [ey_2]; exact cv_remT (by omega)
    have gy_2 : 2 * y_2.toInt.natAbs < p0.toInt.natAbs := by rw [fy_2, Int.natAbs_tmod]; exact mod_half (by omega) (by omega)
    refine vp_callSl (va_Run.run (va_runS (As := [.long p1, .long y_2]) (rest := []) ⟨hx, hb, hml, hown, hts⟩ (m_commonE30 l dC dI cyI cyB cyJ cyZ cyH cyN p1 y_2 (by omega) (by omega)) (va_cwS 2 hts (gdS wd_8_173 wd_8_174 wd_1_11 wd_8_175) rfl rfl rfl (by decide +kernel) ⟨Nat.le_of_ble_eq_true rfl, Nat.le_of_ble_eq_true rfl⟩) ⟨fun a U g mk q => q, fun U hU hW => ⟨rfl, trivial⟩⟩ rfl rfl hl.1 rfl (lv_room (Nat.le_of_ble_eq_true rfl)) dX12_common_14 ⟨Nat.le_of_ble_eq_true rfl, Nat.le_of_ble_eq_true rfl⟩)) (fun r_3 hw => ?_)
    have hrr_3 := hw
    rw [hQ9]
    exact W.lret (v := r_3) hx hb hr (fun t ht hW => ⟨r_3, rfl, hrr_3, ht⟩) (fun q h => by cases h) dX12_common_17
  · have c_1 : p1.toInt = 0 := cv_ceq c_1
    refine lv_lload_n hx hb dX12_common_6 rfl (lv_at hl 0 rfl) ?_
    refine lv_goto (tgt := 17) hx hb dX12_common_7 (by decide) ?_
    rw [hQ9]
    exact W.lret (v := p0) hx hb hr (fun t ht hW => ⟨p0, rfl, (by omega), ht⟩) (fun q h => by cases h) dX12_common_17

/- X12_common -/
set_option maxHeartbeats 4000000 in
set_option maxRecDepth 100000 in
theorem m_commonE31 (l : Launch) (dC : Nat → ClassId) (dI : Nat → Nat → Nat) (cyI cyB cyJ cyZ cyH cyN : ClassId) (p0 p1 : Int64) (g0 : (-2147483647) ≤ p1.toInt ∧ p1.toInt ≤ 2147483647) (g1 : ¬ (p0.toInt = 0 ∧ p1.toInt = 0)) : Met l yX12_common (wk yX12_common cX12_common 4 (some .long)) ({ frames := 63, cells := 0, slots := 0, locals := 1486 }) (va_Pc [.long p0, .long p1] (fun _ => True)) (vp_Sl (fun r : Int64 => r.toInt ≠ 0)) 0 0 (fun _ => False) := by
  refine Met.ofW (cc := cX12_common) (maxL := 4) (ret := (some .long)) (by decide) rfl ?_
  intro p e s m args below meth c s₁ B hml hv
  obtain ⟨rfl, -⟩ := hv
  have hx := B.exec
  have hb := B.bytes
  have hr := B.returns
  have hts : ∀ w ∈ uU, w.before ([.long p0, .long p1] : List Value).toArray s = true := fun w h => atoms_spec (ws := wk yX12_common cX12_common 4 (some .long)) B.pre w (List.mem_cons_of_mem _ h)
  have hown : s.vm.findClass RX12 = some m.cls := findClass_of_methodNamed B.named
  have hlocks := B.notSynchronized
  have hl := lv_entry ([.long p0, .long p1]) (n := 4) (Nat.le_of_ble_eq_true rfl)
  rw [lg_entry_eq]
  generalize (lg_sl ([.long p0, .long p1]) ++ List.replicate (4 - (lg_sl ([.long p0, .long p1])).length) Slot.unset).toArray = ls at hl ⊢
  have hl : lv_has ls 4 [(0, .long p0), (2, .long p1)] := hl
  obtain ⟨Q9, hQ9⟩ : ∃ Q9 : State → Prop, Q9 = MQ below (vp_Sl (fun r : Int64 => r.toInt ≠ 0)) ([.long p0, .long p1] : List Value).toArray s 0 0 (fun _ => False) := ⟨_, rfl⟩
  rw [← hQ9]
  refine lv_lload_n hx hb dX12_common_0 rfl (lv_at hl 1 rfl) ?_
  refine lv_lconst (v := 0) hx hb dX12_common_1 (by decide) ?_
  refine W.lcmp hx hb dX12_common_2 ?_
  refine lv_if_ne (tgt := 10) hx hb dX12_common_3 (by decide) (fun c_1 => ?_) (fun c_1 => ?_)
  · have c_1 : p1.toInt ≠ 0 := cv_cne c_1
    refine lv_lload_n hx hb dX12_common_10 rfl (lv_at hl 1 rfl) ?_
    refine lv_lload_n hx hb dX12_common_11 rfl (lv_at hl 0 rfl) ?_
    refine lv_lload_n hx hb dX12_common_12 rfl (lv_at hl 1 rfl) ?_
    refine lv_lrem hx hb dX12_common_13 (fun q => by have := congrArg Int64.toInt q; have h0 : (0 : Int64).toInt = 0 := rfl; omega) ?_
    refine lv_topl (fun y_2 ey_2 => ?_)
    have fy_2 : y_2.toInt = p0.toInt.tmod p1.toInt := by rw [ey_2]; exact cv_remT (by omega)
    have gy_2 : y_2.toInt.natAbs < p1.toInt.natAbs := by rw [fy_2, Int.natAbs_tmod]; exact Nat.mod_lt _ (by omega)
    refine vp_callSl (va_Run.run (va_runS (As := [.long p1, .long y_2]) (rest := []) ⟨hx, hb, hml, hown, hts⟩ (m_commonO31 l dC dI cyI cyB cyJ cyZ cyH cyN p1 y_2 (by omega) (by omega)) (va_cwS 2 hts (gdS wd_8_173 wd_8_174 wd_1_11 wd_8_175) rfl rfl rfl (by decide +kernel) ⟨Nat.le_of_ble_eq_true rfl, Nat.le_of_ble_eq_true rfl⟩) ⟨fun a U g mk q => q, fun U hU hW => ⟨rfl, trivial⟩⟩ rfl rfl hl.1 rfl (lv_room (Nat.le_of_ble_eq_true rfl)) dX12_common_14 ⟨Nat.le_of_ble_eq_true rfl, Nat.le_of_ble_eq_true rfl⟩)) (fun r_3 hw => ?_)
    have hrr_3 := hw
    rw [hQ9]
    exact W.lret (v := r_3) hx hb hr (fun t ht hW => ⟨r_3, rfl, hrr_3, ht⟩) (fun q h => by cases h) dX12_common_17
  · have c_1 : p1.toInt = 0 := cv_ceq c_1
    refine lv_lload_n hx hb dX12_common_6 rfl (lv_at hl 0 rfl) ?_
    refine lv_goto (tgt := 17) hx hb dX12_common_7 (by decide) ?_
    rw [hQ9]
    exact W.lret (v := p0) hx hb hr (fun t ht hW => ⟨p0, rfl, (by omega), ht⟩) (fun q h => by cases h) dX12_common_17

/- X12_common -/
set_option maxHeartbeats 4000000 in
set_option maxRecDepth 100000 in
theorem m_commonO32 (l : Launch) (dC : Nat → ClassId) (dI : Nat → Nat → Nat) (cyI cyB cyJ cyZ cyH cyN : ClassId) (p0 p1 : Int64) (g0 : (-4294967295) ≤ p0.toInt ∧ p0.toInt ≤ 4294967295) (g1 : p1.toInt.natAbs < p0.toInt.natAbs) : Met l yX12_common (wk yX12_common cX12_common 4 (some .long)) ({ frames := 64, cells := 0, slots := 0, locals := 1509 }) (va_Pc [.long p0, .long p1] (fun _ => True)) (vp_Sl (fun r : Int64 => r.toInt ≠ 0)) 0 0 (fun _ => False) := by
  refine Met.ofW (cc := cX12_common) (maxL := 4) (ret := (some .long)) (by decide) rfl ?_
  intro p e s m args below meth c s₁ B hml hv
  obtain ⟨rfl, -⟩ := hv
  have hx := B.exec
  have hb := B.bytes
  have hr := B.returns
  have hts : ∀ w ∈ uU, w.before ([.long p0, .long p1] : List Value).toArray s = true := fun w h => atoms_spec (ws := wk yX12_common cX12_common 4 (some .long)) B.pre w (List.mem_cons_of_mem _ h)
  have hown : s.vm.findClass RX12 = some m.cls := findClass_of_methodNamed B.named
  have hlocks := B.notSynchronized
  have hl := lv_entry ([.long p0, .long p1]) (n := 4) (Nat.le_of_ble_eq_true rfl)
  rw [lg_entry_eq]
  generalize (lg_sl ([.long p0, .long p1]) ++ List.replicate (4 - (lg_sl ([.long p0, .long p1])).length) Slot.unset).toArray = ls at hl ⊢
  have hl : lv_has ls 4 [(0, .long p0), (2, .long p1)] := hl
  obtain ⟨Q9, hQ9⟩ : ∃ Q9 : State → Prop, Q9 = MQ below (vp_Sl (fun r : Int64 => r.toInt ≠ 0)) ([.long p0, .long p1] : List Value).toArray s 0 0 (fun _ => False) := ⟨_, rfl⟩
  rw [← hQ9]
  refine lv_lload_n hx hb dX12_common_0 rfl (lv_at hl 1 rfl) ?_
  refine lv_lconst (v := 0) hx hb dX12_common_1 (by decide) ?_
  refine W.lcmp hx hb dX12_common_2 ?_
  refine lv_if_ne (tgt := 10) hx hb dX12_common_3 (by decide) (fun c_1 => ?_) (fun c_1 => ?_)
  · have c_1 : p1.toInt ≠ 0 := cv_cne c_1
    refine lv_lload_n hx hb dX12_common_10 rfl (lv_at hl 1 rfl) ?_
    refine lv_lload_n hx hb dX12_common_11 rfl (lv_at hl 0 rfl) ?_
    refine lv_lload_n hx hb dX12_common_12 rfl (lv_at hl 1 rfl) ?_
    refine lv_lrem hx hb dX12_common_13 (fun q => by have := congrArg Int64.toInt q; have h0 : (0 : Int64).toInt = 0 := rfl; omega) ?_
    refine lv_topl (fun y_2 ey_2 => ?_)
    have fy_2 : y_2.toInt = p0.toInt.tmod p1.toInt := by rw [ey_2]; exact cv_remT (by omega)
    have gy_2 : 2 * y_2.toInt.natAbs < p0.toInt.natAbs := by rw [fy_2, Int.natAbs_tmod]; exact mod_half (by omega) (by omega)
    refine vp_callSl (va_Run.run (va_runS (As := [.long p1, .long y_2]) (rest := []) ⟨hx, hb, hml, hown, hts⟩ (m_commonE31 l dC dI cyI cyB cyJ cyZ cyH cyN p1 y_2 (by omega) (by omega)) (va_cwS 2 hts (gdS wd_8_173 wd_8_174 wd_1_11 wd_8_175) rfl rfl rfl (by decide +kernel) ⟨Nat.le_of_ble_eq_true rfl, Nat.le_of_ble_eq_true rfl⟩) ⟨fun a U g mk q => q, fun U hU hW => ⟨rfl, trivial⟩⟩ rfl rfl hl.1 rfl (lv_room (Nat.le_of_ble_eq_true rfl)) dX12_common_14 ⟨Nat.le_of_ble_eq_true rfl, Nat.le_of_ble_eq_true rfl⟩)) (fun r_3 hw => ?_)
    have hrr_3 := hw
    rw [hQ9]
    exact W.lret (v := r_3) hx hb hr (fun t ht hW => ⟨r_3, rfl, hrr_3, ht⟩) (fun q h => by cases h) dX12_common_17
  · have c_1 : p1.toInt = 0 := cv_ceq c_1
    refine lv_lload_n hx hb dX12_common_6 rfl (lv_at hl 0 rfl) ?_
    refine lv_goto (tgt := 17) hx hb dX12_common_7 (by decide) ?_
    rw [hQ9]
    exact W.lret (v := p0) hx hb hr (fun t ht hW => ⟨p0, rfl, (by omega), ht⟩) (fun q h => by cases h) dX12_common_17

/- X12_common -/
set_option maxHeartbeats 4000000 in
set_option maxRecDepth 100000 in
theorem m_commonE32 (l : Launch) (dC : Nat → ClassId) (dI : Nat → Nat → Nat) (cyI cyB cyJ cyZ cyH cyN : ClassId) (p0 p1 : Int64) (g0 : (-4294967295) ≤ p1.toInt ∧ p1.toInt ≤ 4294967295) (g1 : ¬ (p0.toInt = 0 ∧ p1.toInt = 0)) : Met l yX12_common (wk yX12_common cX12_common 4 (some .long)) ({ frames := 65, cells := 0, slots := 0, locals := 1532 }) (va_Pc [.long p0, .long p1] (fun _ => True)) (vp_Sl (fun r : Int64 => r.toInt ≠ 0)) 0 0 (fun _ => False) := by
  refine Met.ofW (cc := cX12_common) (maxL := 4) (ret := (some .long)) (by decide) rfl ?_
  intro p e s m args below meth c s₁ B hml hv
  obtain ⟨rfl, -⟩ := hv
  have hx := B.exec
  have hb := B.bytes
  have hr := B.returns
  have hts : ∀ w ∈ uU, w.before ([.long p0, .long p1] : List Value).toArray s = true := fun w h => atoms_spec (ws := wk yX12_common cX12_common 4 (some .long)) B.pre w (List.mem_cons_of_mem _ h)
  have hown : s.vm.findClass RX12 = some m.cls := findClass_of_methodNamed B.named
  have hlocks := B.notSynchronized
  have hl := lv_entry ([.long p0, .long p1]) (n := 4) (Nat.le_of_ble_eq_true rfl)
  rw [lg_entry_eq]
  generalize (lg_sl ([.long p0, .long p1]) ++ List.replicate (4 - (lg_sl ([.long p0, .long p1])).length) Slot.unset).toArray = ls at hl ⊢
  have hl : lv_has ls 4 [(0, .long p0), (2, .long p1)] := hl
  obtain ⟨Q9, hQ9⟩ : ∃ Q9 : State → Prop, Q9 = MQ below (vp_Sl (fun r : Int64 => r.toInt ≠ 0)) ([.long p0, .long p1] : List Value).toArray s 0 0 (fun _ => False) := ⟨_, rfl⟩
  rw [← hQ9]
  refine lv_lload_n hx hb dX12_common_0 rfl (lv_at hl 1 rfl) ?_
  refine lv_lconst (v := 0) hx hb dX12_common_1 (by decide) ?_
  refine W.lcmp hx hb dX12_common_2 ?_
  refine lv_if_ne (tgt := 10) hx hb dX12_common_3 (by decide) (fun c_1 => ?_) (fun c_1 => ?_)
  · have c_1 : p1.toInt ≠ 0 := cv_cne c_1
    refine lv_lload_n hx hb dX12_common_10 rfl (lv_at hl 1 rfl) ?_
    refine lv_lload_n hx hb dX12_common_11 rfl (lv_at hl 0 rfl) ?_
    refine lv_lload_n hx hb dX12_common_12 rfl (lv_at hl 1 rfl) ?_
    refine lv_lrem hx hb dX12_common_13 (fun q => by have := congrArg Int64.toInt q; have h0 : (0 : Int64).toInt = 0 := rfl; omega) ?_
    refine lv_topl (fun y_2 ey_2 => ?_)
    have fy_2 : y_2.toInt = p0.toInt.tmod p1.toInt := by rw [ey_2]; exact cv_remT (by omega)
    have gy_2 : y_2.toInt.natAbs < p1.toInt.natAbs := by rw [fy_2, Int.natAbs_tmod]; exact Nat.mod_lt _ (by omega)
    refine vp_callSl (va_Run.run (va_runS (As := [.long p1, .long y_2]) (rest := []) ⟨hx, hb, hml, hown, hts⟩ (m_commonO32 l dC dI cyI cyB cyJ cyZ cyH cyN p1 y_2 (by omega) (by omega)) (va_cwS 2 hts (gdS wd_8_173 wd_8_174 wd_1_11 wd_8_175) rfl rfl rfl (by decide +kernel) ⟨Nat.le_of_ble_eq_true rfl, Nat.le_of_ble_eq_true rfl⟩) ⟨fun a U g mk q => q, fun U hU hW => ⟨rfl, trivial⟩⟩ rfl rfl hl.1 rfl (lv_room (Nat.le_of_ble_eq_true rfl)) dX12_common_14 ⟨Nat.le_of_ble_eq_true rfl, Nat.le_of_ble_eq_true rfl⟩)) (fun r_3 hw => ?_)
    have hrr_3 := hw
    rw [hQ9]
    exact W.lret (v := r_3) hx hb hr (fun t ht hW => ⟨r_3, rfl, hrr_3, ht⟩) (fun q h => by cases h) dX12_common_17
  · have c_1 : p1.toInt = 0 := cv_ceq c_1
    refine lv_lload_n hx hb dX12_common_6 rfl (lv_at hl 0 rfl) ?_
    refine lv_goto (tgt := 17) hx hb dX12_common_7 (by decide) ?_
    rw [hQ9]
    exact W.lret (v := p0) hx hb hr (fun t ht hW => ⟨p0, rfl, (by omega), ht⟩) (fun q h => by cases h) dX12_common_17

/- X12_chance -/
set_option maxHeartbeats 4000000 in
set_option maxRecDepth 100000 in
theorem m_chance (l : Launch) (dC : Nat → ClassId) (dI : Nat → Nat → Nat) (cyI cyB cyJ cyZ cyH cyN : ClassId) (sz : Nat) (m0 mwidth mmany mcells mmoved mtape mlines mhas mtold mlaw msuit mapart mact misKept mseen mhung mgoal mleaps mqueue mrow mwanted mfirst moften mlots mthen : Nat) (m_thrown m_taped m_at m_token m_place m_value : Int32) (m_word : Int64) (m_bad m_badPlace m_fault m_faultPlace m_gone m_reached m_fitMany m_fitFirst m_askBest m_askLeaves m_bestFirst m_bestWays : Int32) (m_lotsAll : Int64) (m_has m_told m_law m_act m_hung m_lines : Nat → Int32) (m_lots m_then : Nat → Int64) (p0 p1 p2 : Int32) (g0 : rg 0 6 35 m_told) (g1 : rg 0 6 7 m_hung) (g2 : 0 ≤ m_taped.toInt ∧ m_taped.toInt ≤ 800) (g3 : 0 ≤ m_at.toInt ∧ m_at.toInt ≤ 800) (g4 : 0 ≤ m_gone.toInt ∧ m_gone.toInt ≤ 40) (g5 : (m_has 0).toInt = 0 ∨ (2 ≤ (m_has 0).toInt ∧ (m_has 0).toInt ≤ 7)) (g6 : 0 ≤ (m_has 1).toInt ∧ (m_has 1).toInt ≤ 6) (g7 : 0 ≤ (m_has 3).toInt ∧ (m_has 3).toInt ≤ 40) (g8 : pm (m_has 0).toInt m_told) (g9 : lk (m_has 0).toInt (m_has 1).toInt m_law) (g10 : ak (m_has 0).toInt (m_has 3).toInt m_act) (g11 : 0 < (m_lines 0).toInt → 2 ≤ (m_has 0).toInt) : Met l yX12_chance (wk yX12_chance cX12_chance 4 (some .long)) ({ frames := 66, cells := 0, slots := 0, locals := 1555 }) (va_Pc [.ref m0, .int p0, .int p1, .int p2] (fun U => U.heap.size = sz ∧ va_P (dC, dI) vwCl [(m0, .inr (11, [.int m_thrown, .ref mwidth, .ref mmany, .ref mcells, .ref mmoved, .ref mtape, .int m_taped, .int m_at, .int m_token, .int m_place, .int m_value, .long m_word, .int m_bad, .int m_badPlace, .int m_fault, .int m_faultPlace, .ref mlines, .ref mhas, .ref mtold, .ref mlaw, .ref msuit, .ref mapart, .ref mact, .ref misKept, .ref mseen, .ref mhung, .int m_gone, .ref mgoal, .ref mleaps, .ref mqueue, .ref mrow, .int m_reached, .ref mwanted, .ref mfirst, .ref moften, .int m_fitMany, .int m_fitFirst, .int m_askBest, .int m_askLeaves, .int m_bestFirst, .int m_bestWays, .ref mlots, .ref mthen, .long m_lotsAll])), (mhas, .inl (cyI, 20, .inl m_has)), (mtold, .inl (cyI, 35, .inl m_told)), (mlaw, .inl (cyI, 120, .inl m_law)), (mact, .inl (cyI, 400, .inl m_act)), (mhung, .inl (cyI, 7, .inl m_hung)), (mlines, .inl (cyI, 5, .inl m_lines)), (mlots, .inl (cyJ, 7, .inr (.inl m_lots))), (mthen, .inl (cyJ, 7, .inr (.inl m_then)))] U.heap ∧ va_K (dC, dI) vwCl [(cyI, .int), (cyB, .byte), (cyJ, .long), (cyZ, .boolean), (cyH, .object RX2), (cyN, .array .long)] U ∧ va_D (fun _ => True) [(m0, .inr (11, [.int m_thrown, .ref mwidth, .ref mmany, .ref mcells, .ref mmoved, .ref mtape, .int m_taped, .int m_at, .int m_token, .int m_place, .int m_value, .long m_word, .int m_bad, .int m_badPlace, .int m_fault, .int m_faultPlace, .ref mlines, .ref mhas, .ref mtold, .ref mlaw, .ref msuit, .ref mapart, .ref mact, .ref misKept, .ref mseen, .ref mhung, .int m_gone, .ref mgoal, .ref mleaps, .ref mqueue, .ref mrow, .int m_reached, .ref mwanted, .ref mfirst, .ref moften, .int m_fitMany, .int m_fitFirst, .int m_askBest, .int m_askLeaves, .int m_bestFirst, .int m_bestWays, .ref mlots, .ref mthen, .long m_lotsAll])), (mhas, .inl (cyI, 20, .inl m_has)), (mtold, .inl (cyI, 35, .inl m_told)), (mlaw, .inl (cyI, 120, .inl m_law)), (mact, .inl (cyI, 400, .inl m_act)), (mhung, .inl (cyI, 7, .inl m_hung)), (mlines, .inl (cyI, 5, .inl m_lines)), (mlots, .inl (cyJ, 7, .inr (.inl m_lots))), (mthen, .inl (cyJ, 7, .inr (.inl m_then)))])) (va_Ql (fun (r : Int64) (_ : Unit) => True) (fun (_ : Unit) (t : State) => ∃ z0 : Int32, ∃ z1 : Int32, ∃ z2 : Int64, ∃ y3 : Nat → Int32, ∃ y4 : Nat → Int64, ∃ y5 : Nat → Int64, (0 ≤ z0.toInt ∧ z0.toInt ≤ 0) ∧ (0 ≤ z1.toInt ∧ z1.toInt ≤ 40) ∧ (rg 0 6 7 y3) ∧ va_P (dC, dI) vwCl [(m0, .inr (11, [.int z0, .ref mwidth, .ref mmany, .ref mcells, .ref mmoved, .ref mtape, .int m_taped, .int m_at, .int m_token, .int m_place, .int m_value, .long m_word, .int m_bad, .int m_badPlace, .int m_fault, .int m_faultPlace, .ref mlines, .ref mhas, .ref mtold, .ref mlaw, .ref msuit, .ref mapart, .ref mact, .ref misKept, .ref mseen, .ref mhung, .int z1, .ref mgoal, .ref mleaps, .ref mqueue, .ref mrow, .int m_reached, .ref mwanted, .ref mfirst, .ref moften, .int m_fitMany, .int m_fitFirst, .int m_askBest, .int m_askLeaves, .int m_bestFirst, .int m_bestWays, .ref mlots, .ref mthen, .long z2])), (mhas, .inl (cyI, 20, .inl m_has)), (mtold, .inl (cyI, 35, .inl m_told)), (mlaw, .inl (cyI, 120, .inl m_law)), (mact, .inl (cyI, 400, .inl m_act)), (mhung, .inl (cyI, 7, .inl y3)), (mlines, .inl (cyI, 5, .inl m_lines)), (mlots, .inl (cyJ, 7, .inr (.inl y4))), (mthen, .inl (cyJ, 7, .inr (.inl y5)))] t.heap ∧ va_D (va_A [(m0, .inr (11, [.int m_thrown, .ref mwidth, .ref mmany, .ref mcells, .ref mmoved, .ref mtape, .int m_taped, .int m_at, .int m_token, .int m_place, .int m_value, .long m_word, .int m_bad, .int m_badPlace, .int m_fault, .int m_faultPlace, .ref mlines, .ref mhas, .ref mtold, .ref mlaw, .ref msuit, .ref mapart, .ref mact, .ref misKept, .ref mseen, .ref mhung, .int m_gone, .ref mgoal, .ref mleaps, .ref mqueue, .ref mrow, .int m_reached, .ref mwanted, .ref mfirst, .ref moften, .int m_fitMany, .int m_fitFirst, .int m_askBest, .int m_askLeaves, .int m_bestFirst, .int m_bestWays, .ref mlots, .ref mthen, .long m_lotsAll])), (mhas, .inl (cyI, 20, .inl m_has)), (mtold, .inl (cyI, 35, .inl m_told)), (mlaw, .inl (cyI, 120, .inl m_law)), (mact, .inl (cyI, 400, .inl m_act)), (mhung, .inl (cyI, 7, .inl m_hung)), (mlines, .inl (cyI, 5, .inl m_lines)), (mlots, .inl (cyJ, 7, .inr (.inl m_lots))), (mthen, .inl (cyJ, 7, .inr (.inl m_then)))] sz) [(m0, .inr (11, [.int z0, .ref mwidth, .ref mmany, .ref mcells, .ref mmoved, .ref mtape, .int m_taped, .int m_at, .int m_token, .int m_place, .int m_value, .long m_word, .int m_bad, .int m_badPlace, .int m_fault, .int m_faultPlace, .ref mlines, .ref mhas, .ref mtold, .ref mlaw, .ref msuit, .ref mapart, .ref mact, .ref misKept, .ref mseen, .ref mhung, .int z1, .ref mgoal, .ref mleaps, .ref mqueue, .ref mrow, .int m_reached, .ref mwanted, .ref mfirst, .ref moften, .int m_fitMany, .int m_fitFirst, .int m_askBest, .int m_askLeaves, .int m_bestFirst, .int m_bestWays, .ref mlots, .ref mthen, .long z2])), (mhas, .inl (cyI, 20, .inl m_has)), (mtold, .inl (cyI, 35, .inl m_told)), (mlaw, .inl (cyI, 120, .inl m_law)), (mact, .inl (cyI, 400, .inl m_act)), (mhung, .inl (cyI, 7, .inl y3)), (mlines, .inl (cyI, 5, .inl m_lines)), (mlots, .inl (cyJ, 7, .inr (.inl y4))), (mthen, .inl (cyJ, 7, .inr (.inl y5)))]) (va_A [(m0, .inr (11, [.int m_thrown, .ref mwidth, .ref mmany, .ref mcells, .ref mmoved, .ref mtape, .int m_taped, .int m_at, .int m_token, .int m_place, .int m_value, .long m_word, .int m_bad, .int m_badPlace, .int m_fault, .int m_faultPlace, .ref mlines, .ref mhas, .ref mtold, .ref mlaw, .ref msuit, .ref mapart, .ref mact, .ref misKept, .ref mseen, .ref mhung, .int m_gone, .ref mgoal, .ref mleaps, .ref mqueue, .ref mrow, .int m_reached, .ref mwanted, .ref mfirst, .ref moften, .int m_fitMany, .int m_fitFirst, .int m_askBest, .int m_askLeaves, .int m_bestFirst, .int m_bestWays, .ref mlots, .ref mthen, .long m_lotsAll])), (mhas, .inl (cyI, 20, .inl m_has)), (mtold, .inl (cyI, 35, .inl m_told)), (mlaw, .inl (cyI, 120, .inl m_law)), (mact, .inl (cyI, 400, .inl m_act)), (mhung, .inl (cyI, 7, .inl m_hung)), (mlines, .inl (cyI, 5, .inl m_lines)), (mlots, .inl (cyJ, 7, .inr (.inl m_lots))), (mthen, .inl (cyJ, 7, .inr (.inl m_then)))] sz)) 0 0 (va_A [(m0, .inr (11, [.int m_thrown, .ref mwidth, .ref mmany, .ref mcells, .ref mmoved, .ref mtape, .int m_taped, .int m_at, .int m_token, .int m_place, .int m_value, .long m_word, .int m_bad, .int m_badPlace, .int m_fault, .int m_faultPlace, .ref mlines, .ref mhas, .ref mtold, .ref mlaw, .ref msuit, .ref mapart, .ref mact, .ref misKept, .ref mseen, .ref mhung, .int m_gone, .ref mgoal, .ref mleaps, .ref mqueue, .ref mrow, .int m_reached, .ref mwanted, .ref mfirst, .ref moften, .int m_fitMany, .int m_fitFirst, .int m_askBest, .int m_askLeaves, .int m_bestFirst, .int m_bestWays, .ref mlots, .ref mthen, .long m_lotsAll])), (mhas, .inl (cyI, 20, .inl m_has)), (mtold, .inl (cyI, 35, .inl m_told)), (mlaw, .inl (cyI, 120, .inl m_law)), (mact, .inl (cyI, 400, .inl m_act)), (mhung, .inl (cyI, 7, .inl m_hung)), (mlines, .inl (cyI, 5, .inl m_lines)), (mlots, .inl (cyJ, 7, .inr (.inl m_lots))), (mthen, .inl (cyJ, 7, .inr (.inl m_then)))] sz) := by
  refine Met.ofW (cc := cX12_chance) (maxL := 4) (ret := (some .long)) (by decide) rfl ?_
  intro p e s m args below meth c s₁ B hml hv
  obtain ⟨rfl, hsz, hP, hK, hD0⟩ := hv
  have hx := B.exec
  have hb := B.bytes
  have hr := B.returns
  have hts : ∀ w ∈ uU, w.before ([.ref m0, .int p0, .int p1, .int p2] : List Value).toArray s = true := fun w h => atoms_spec (ws := wk yX12_chance cX12_chance 4 (some .long)) B.pre w (List.mem_cons_of_mem _ h)
  have hown : s.vm.findClass RX12 = some m.cls := findClass_of_methodNamed B.named
  have hlocks := B.notSynchronized
  subst hsz
  have hD := hD0.self (sz := s.heap.size)
  generalize hAe : va_A [(m0, .inr (11, [.int m_thrown, .ref mwidth, .ref mmany, .ref mcells, .ref mmoved, .ref mtape, .int m_taped, .int m_at, .int m_token, .int m_place, .int m_value, .long m_word, .int m_bad, .int m_badPlace, .int m_fault, .int m_faultPlace, .ref mlines, .ref mhas, .ref mtold, .ref mlaw, .ref msuit, .ref mapart, .ref mact, .ref misKept, .ref mseen, .ref mhung, .int m_gone, .ref mgoal, .ref mleaps, .ref mqueue, .ref mrow, .int m_reached, .ref mwanted, .ref mfirst, .ref moften, .int m_fitMany, .int m_fitFirst, .int m_askBest, .int m_askLeaves, .int m_bestFirst, .int m_bestWays, .ref mlots, .ref mthen, .long m_lotsAll])), (mhas, .inl (cyI, 20, .inl m_has)), (mtold, .inl (cyI, 35, .inl m_told)), (mlaw, .inl (cyI, 120, .inl m_law)), (mact, .inl (cyI, 400, .inl m_act)), (mhung, .inl (cyI, 7, .inl m_hung)), (mlines, .inl (cyI, 5, .inl m_lines)), (mlots, .inl (cyJ, 7, .inr (.inl m_lots))), (mthen, .inl (cyJ, 7, .inr (.inl m_then)))] s.heap.size = A at hD ⊢
  have hA : ∀ q : Nat, s.heap.size ≤ q → A q := fun q h => by rw [← hAe]; exact Or.inr h
  have hS : va_S A s.heap s.heap [] := va_S.rf
  have hP : va_P (dC, dI) vwCl [(m0, .inr (11, [.int m_thrown, .ref mwidth, .ref mmany, .ref mcells, .ref mmoved, .ref mtape, .int m_taped, .int m_at, .int m_token, .int m_place, .int m_value, .long m_word, .int m_bad, .int m_badPlace, .int m_fault, .int m_faultPlace, .ref mlines, .ref mhas, .ref mtold, .ref mlaw, .ref msuit, .ref mapart, .ref mact, .ref misKept, .ref mseen, .ref mhung, .int m_gone, .ref mgoal, .ref mleaps, .ref mqueue, .ref mrow, .int m_reached, .ref mwanted, .ref mfirst, .ref moften, .int m_fitMany, .int m_fitFirst, .int m_askBest, .int m_askLeaves, .int m_bestFirst, .int m_bestWays, .ref mlots, .ref mthen, .long m_lotsAll])), (mhas, .inl (cyI, 20, .inl m_has)), (mtold, .inl (cyI, 35, .inl m_told)), (mlaw, .inl (cyI, 120, .inl m_law)), (mact, .inl (cyI, 400, .inl m_act)), (mhung, .inl (cyI, 7, .inl m_hung)), (mlines, .inl (cyI, 5, .inl m_lines)), (mlots, .inl (cyJ, 7, .inr (.inl m_lots))), (mthen, .inl (cyJ, 7, .inr (.inl m_then)))] s.heap := hP
  have hl := lv_entry ([.ref m0, .int p0, .int p1, .int p2]) (n := 4) (Nat.le_of_ble_eq_true rfl)
  rw [lg_entry_eq]
  generalize (lg_sl ([.ref m0, .int p0, .int p1, .int p2]) ++ List.replicate (4 - (lg_sl ([.ref m0, .int p0, .int p1, .int p2])).length) Slot.unset).toArray = ls at hl ⊢
  have hl : lv_has ls 4 [(0, .ref m0), (1, .int p0), (2, .int p1), (3, .int p2)] := hl
  obtain ⟨H, hHe⟩ : ∃ H, H = s.heap := ⟨_, rfl⟩
  have hP : va_P (dC, dI) vwCl [(m0, .inr (11, [.int m_thrown, .ref mwidth, .ref mmany, .ref mcells, .ref mmoved, .ref mtape, .int m_taped, .int m_at, .int m_token, .int m_place, .int m_value, .long m_word, .int m_bad, .int m_badPlace, .int m_fault, .int m_faultPlace, .ref mlines, .ref mhas, .ref mtold, .ref mlaw, .ref msuit, .ref mapart, .ref mact, .ref misKept, .ref mseen, .ref mhung, .int m_gone, .ref mgoal, .ref mleaps, .ref mqueue, .ref mrow, .int m_reached, .ref mwanted, .ref mfirst, .ref moften, .int m_fitMany, .int m_fitFirst, .int m_askBest, .int m_askLeaves, .int m_bestFirst, .int m_bestWays, .ref mlots, .ref mthen, .long m_lotsAll])), (mhas, .inl (cyI, 20, .inl m_has)), (mtold, .inl (cyI, 35, .inl m_told)), (mlaw, .inl (cyI, 120, .inl m_law)), (mact, .inl (cyI, 400, .inl m_act)), (mhung, .inl (cyI, 7, .inl m_hung)), (mlines, .inl (cyI, 5, .inl m_lines)), (mlots, .inl (cyJ, 7, .inr (.inl m_lots))), (mthen, .inl (cyJ, 7, .inr (.inl m_then)))] H := by rw [hHe]; exact hP
  have hS : va_S A s.heap H [] := by rw [hHe]; exact hS
  refine cv_heap hHe ?_
  obtain ⟨Q9, hQ9⟩ : ∃ Q9 : State → Prop, Q9 = MQ below (va_Ql (fun (r : Int64) (_ : Unit) => True) (fun (_ : Unit) (t : State) => ∃ z0 : Int32, ∃ z1 : Int32, ∃ z2 : Int64, ∃ y3 : Nat → Int32, ∃ y4 : Nat → Int64, ∃ y5 : Nat → Int64, (0 ≤ z0.toInt ∧ z0.toInt ≤ 0) ∧ (0 ≤ z1.toInt ∧ z1.toInt ≤ 40) ∧ (rg 0 6 7 y3) ∧ va_P (dC, dI) vwCl [(m0, .inr (11, [.int z0, .ref mwidth, .ref mmany, .ref mcells, .ref mmoved, .ref mtape, .int m_taped, .int m_at, .int m_token, .int m_place, .int m_value, .long m_word, .int m_bad, .int m_badPlace, .int m_fault, .int m_faultPlace, .ref mlines, .ref mhas, .ref mtold, .ref mlaw, .ref msuit, .ref mapart, .ref mact, .ref misKept, .ref mseen, .ref mhung, .int z1, .ref mgoal, .ref mleaps, .ref mqueue, .ref mrow, .int m_reached, .ref mwanted, .ref mfirst, .ref moften, .int m_fitMany, .int m_fitFirst, .int m_askBest, .int m_askLeaves, .int m_bestFirst, .int m_bestWays, .ref mlots, .ref mthen, .long z2])), (mhas, .inl (cyI, 20, .inl m_has)), (mtold, .inl (cyI, 35, .inl m_told)), (mlaw, .inl (cyI, 120, .inl m_law)), (mact, .inl (cyI, 400, .inl m_act)), (mhung, .inl (cyI, 7, .inl y3)), (mlines, .inl (cyI, 5, .inl m_lines)), (mlots, .inl (cyJ, 7, .inr (.inl y4))), (mthen, .inl (cyJ, 7, .inr (.inl y5)))] t.heap ∧ va_D A [(m0, .inr (11, [.int z0, .ref mwidth, .ref mmany, .ref mcells, .ref mmoved, .ref mtape, .int m_taped, .int m_at, .int m_token, .int m_place, .int m_value, .long m_word, .int m_bad, .int m_badPlace, .int m_fault, .int m_faultPlace, .ref mlines, .ref mhas, .ref mtold, .ref mlaw, .ref msuit, .ref mapart, .ref mact, .ref misKept, .ref mseen, .ref mhung, .int z1, .ref mgoal, .ref mleaps, .ref mqueue, .ref mrow, .int m_reached, .ref mwanted, .ref mfirst, .ref moften, .int m_fitMany, .int m_fitFirst, .int m_askBest, .int m_askLeaves, .int m_bestFirst, .int m_bestWays, .ref mlots, .ref mthen, .long z2])), (mhas, .inl (cyI, 20, .inl m_has)), (mtold, .inl (cyI, 35, .inl m_told)), (mlaw, .inl (cyI, 120, .inl m_law)), (mact, .inl (cyI, 400, .inl m_act)), (mhung, .inl (cyI, 7, .inl y3)), (mlines, .inl (cyI, 5, .inl m_lines)), (mlots, .inl (cyJ, 7, .inr (.inl y4))), (mthen, .inl (cyJ, 7, .inr (.inl y5)))]) A) ([.ref m0, .int p0, .int p1, .int p2] : List Value).toArray s 0 0 A := ⟨_, rfl⟩
  rw [← hQ9]
  refine lv_aload_n hx hb dX12_chance_0 rfl (lv_at hl 0 rfl) ?_
  refine lv_iconst (v := 0) hx hb dX12_chance_1 (by decide) ?_
  refine va_put (D := (dC, dI)) (ci := 11) (v := .int 0) (ty := .int) (C := RX12) (T := TX12) (N := 44) hx hb hts uinX12 tyX12 tyX12_ok nmX12 hown hK hP hD hS 0 rfl rfl 0 (by decide) (hts _ wd_6_37) (fun _ h9 => h9) rfl (by decide +kernel) rfl rfl (Nat.le_of_ble_eq_true rfl) dX12_chance_2 (fun H locs hP hD hS => ?_)
  have hP : va_P (dC, dI) vwCl [(m0, .inr (11, [.int 0, .ref mwidth, .ref mmany, .ref mcells, .ref mmoved, .ref mtape, .int m_taped, .int m_at, .int m_token, .int m_place, .int m_value, .long m_word, .int m_bad, .int m_badPlace, .int m_fault, .int m_faultPlace, .ref mlines, .ref mhas, .ref mtold, .ref mlaw, .ref msuit, .ref mapart, .ref mact, .ref misKept, .ref mseen, .ref mhung, .int m_gone, .ref mgoal, .ref mleaps, .ref mqueue, .ref mrow, .int m_reached, .ref mwanted, .ref mfirst, .ref moften, .int m_fitMany, .int m_fitFirst, .int m_askBest, .int m_askLeaves, .int m_bestFirst, .int m_bestWays, .ref mlots, .ref mthen, .long m_lotsAll])), (mhas, .inl (cyI, 20, .inl m_has)), (mtold, .inl (cyI, 35, .inl m_told)), (mlaw, .inl (cyI, 120, .inl m_law)), (mact, .inl (cyI, 400, .inl m_act)), (mhung, .inl (cyI, 7, .inl m_hung)), (mlines, .inl (cyI, 5, .inl m_lines)), (mlots, .inl (cyJ, 7, .inr (.inl m_lots))), (mthen, .inl (cyJ, 7, .inr (.inl m_then)))] H := hP
  have hD : va_D A [(m0, .inr (11, [.int 0, .ref mwidth, .ref mmany, .ref mcells, .ref mmoved, .ref mtape, .int m_taped, .int m_at, .int m_token, .int m_place, .int m_value, .long m_word, .int m_bad, .int m_badPlace, .int m_fault, .int m_faultPlace, .ref mlines, .ref mhas, .ref mtold, .ref mlaw, .ref msuit, .ref mapart, .ref mact, .ref misKept, .ref mseen, .ref mhung, .int m_gone, .ref mgoal, .ref mleaps, .ref mqueue, .ref mrow, .int m_reached, .ref mwanted, .ref mfirst, .ref moften, .int m_fitMany, .int m_fitFirst, .int m_askBest, .int m_askLeaves, .int m_bestFirst, .int m_bestWays, .ref mlots, .ref mthen, .long m_lotsAll])), (mhas, .inl (cyI, 20, .inl m_has)), (mtold, .inl (cyI, 35, .inl m_told)), (mlaw, .inl (cyI, 120, .inl m_law)), (mact, .inl (cyI, 400, .inl m_act)), (mhung, .inl (cyI, 7, .inl m_hung)), (mlines, .inl (cyI, 5, .inl m_lines)), (mlots, .inl (cyJ, 7, .inr (.inl m_lots))), (mthen, .inl (cyJ, 7, .inr (.inl m_then)))] := hD
  refine lv_aload_n hx hb dX12_chance_5 rfl (lv_at hl 0 rfl) ?_
  refine lv_iload_n hx hb dX12_chance_6 rfl (lv_at hl 1 rfl) ?_
  obtain ⟨y_1, ey_1⟩ : ∃ z : Int64, z = p0.toInt64 := ⟨_, rfl⟩
  have fy_1 : y_1.toInt = p0.toInt := by rw [ey_1]; exact Int32.toInt_toInt64 _
  refine lv_i2l (v := y_1) hx hb dX12_chance_7 ey_1.symm ?_
  have hPc := hP.sub (ws' := [(m0, .inr (11, [.int 0, .ref mwidth, .ref mmany, .ref mcells, .ref mmoved, .ref mtape, .int m_taped, .int m_at, .int m_token, .int m_place, .int m_value, .long m_word, .int m_bad, .int m_badPlace, .int m_fault, .int m_faultPlace, .ref mlines, .ref mhas, .ref mtold, .ref mlaw, .ref msuit, .ref mapart, .ref mact, .ref misKept, .ref mseen, .ref mhung, .int m_gone, .ref mgoal, .ref mleaps, .ref mqueue, .ref mrow, .int m_reached, .ref mwanted, .ref mfirst, .ref moften, .int m_fitMany, .int m_fitFirst, .int m_askBest, .int m_askLeaves, .int m_bestFirst, .int m_bestWays, .ref mlots, .ref mthen, .long m_lotsAll])), (mhas, .inl (cyI, 20, .inl m_has))]) [0, 1] rfl
  have hKc := hK.sub (tys' := [(cyI, .int), (cyB, .byte), (cyJ, .long), (cyZ, .boolean), (cyH, .object RX2), (cyN, .array .long)]) [0, 1, 2, 3, 4, 5] rfl
  refine vp_callSi (va_Run.run (va_runV (As := [.long y_1]) (rest := []) ⟨hx, hb, hml, hown, hts⟩ (m_isPlace l dC dI cyI cyB cyJ cyZ cyH cyN m0 mwidth mmany mcells mmoved mtape mlines mhas mtold mlaw msuit mapart mact misKept mseen mhung mgoal mleaps mqueue mrow mwanted mfirst moften mlots mthen 0 m_taped m_at m_token m_place m_value m_word m_bad m_badPlace m_fault m_faultPlace m_gone m_reached m_fitMany m_fitFirst m_askBest m_askLeaves m_bestFirst m_bestWays m_lotsAll m_has y_1 (by omega) (by omega) (by omega) g5 g6 g7) (cwV 1 hts (gdV wd_7_82 wd_7_84 wd_s4_13 wd_1_11 wd_7_85) rfl rfl rfl (by decide +kernel) ⟨Nat.le_of_ble_eq_true rfl, Nat.le_of_ble_eq_true rfl⟩) ⟨fun a U g mk q => by obtain ⟨q0, qP, qK⟩ := q; exact ⟨q0, qP, va_K.moved (u := U) (U := U.calling g mk a) (Vm.Alike.refl U.vm) qK⟩, va_recv hKc hPc (ci := 11) (q0 := 0) rfl rfl, fun U hU hW => ⟨rfl, by rw [hU]; exact hPc, va_K.moved hW.alike hKc⟩⟩ rfl rfl hl.1 rfl (lv_room (Nat.le_of_ble_eq_true rfl)) dX12_chance_8 ⟨Nat.le_of_ble_eq_true rfl, Nat.le_of_ble_eq_true rfl⟩)) (fun r_2 hw => ?_)
  by_cases c_3 : (0 ≤ y_1.toInt ∧ y_1.toInt < (m_has 0).toInt)
  · rw [if_pos c_3] at hw; subst hw; have c_3 : (0 ≤ y_1.toInt ∧ y_1.toInt < (m_has 0).toInt) := c_3
    refine lv_if_eq (tgt := 29) hx hb dX12_chance_11 (by decide) (fun c_4 => absurd c_4 (by decide)) (fun _ => ?_)
    refine lv_aload_n hx hb dX12_chance_14 rfl (lv_at hl 0 rfl) ?_
    refine lv_iload_n hx hb dX12_chance_15 rfl (lv_at hl 2 rfl) ?_
    have hPc := hP.sub (ws' := [(m0, .inr (11, [.int 0, .ref mwidth, .ref mmany, .ref mcells, .ref mmoved, .ref mtape, .int m_taped, .int m_at, .int m_token, .int m_place, .int m_value, .long m_word, .int m_bad, .int m_badPlace, .int m_fault, .int m_faultPlace, .ref mlines, .ref mhas, .ref mtold, .ref mlaw, .ref msuit, .ref mapart, .ref mact, .ref misKept, .ref mseen, .ref mhung, .int m_gone, .ref mgoal, .ref mleaps, .ref mqueue, .ref mrow, .int m_reached, .ref mwanted, .ref mfirst, .ref moften, .int m_fitMany, .int m_fitFirst, .int m_askBest, .int m_askLeaves, .int m_bestFirst, .int m_bestWays, .ref mlots, .ref mthen, .long m_lotsAll])), (mhas, .inl (cyI, 20, .inl m_has)), (mlines, .inl (cyI, 5, .inl m_lines))]) [0, 1, 6] rfl
    have hKc := hK.sub (tys' := [(cyI, .int), (cyB, .byte), (cyJ, .long), (cyZ, .boolean), (cyH, .object RX2), (cyN, .array .long)]) [0, 1, 2, 3, 4, 5] rfl
    refine vp_callSi (va_Run.run (va_runV (As := [.int p1]) (rest := []) ⟨hx, hb, hml, hown, hts⟩ (m_isLots l dC dI cyI cyB cyJ cyZ cyH cyN m0 mwidth mmany mcells mmoved mtape mlines mhas mtold mlaw msuit mapart mact misKept mseen mhung mgoal mleaps mqueue mrow mwanted mfirst moften mlots mthen 0 m_taped m_at m_token m_place m_value m_word m_bad m_badPlace m_fault m_faultPlace m_gone m_reached m_fitMany m_fitFirst m_askBest m_askLeaves m_bestFirst m_bestWays m_lotsAll m_has m_lines p1 (by omega) (by omega) (by omega) g5 g6 g7 g11) (cwV 1 hts (gdV wd_8_160 wd_8_162 wd_s6_11 wd_1_11 wd_8_163) rfl rfl rfl (by decide +kernel) ⟨Nat.le_of_ble_eq_true rfl, Nat.le_of_ble_eq_true rfl⟩) ⟨fun a U g mk q => by obtain ⟨q0, qP, qK⟩ := q; exact ⟨q0, qP, va_K.moved (u := U) (U := U.calling g mk a) (Vm.Alike.refl U.vm) qK⟩, va_recv hKc hPc (ci := 11) (q0 := 0) rfl rfl, fun U hU hW => ⟨rfl, by rw [hU]; exact hPc, va_K.moved hW.alike hKc⟩⟩ rfl rfl hl.1 rfl (lv_room (Nat.le_of_ble_eq_true rfl)) dX12_chance_16 ⟨Nat.le_of_ble_eq_true rfl, Nat.le_of_ble_eq_true rfl⟩)) (fun r_5 hw => ?_)
    by_cases c_6 : (0 ≤ p1.toInt ∧ p1.toInt ≤ 12 ∧ 0 < (m_lines 0).toInt)
    · rw [if_pos c_6] at hw; subst hw; have c_6 : (0 ≤ p1.toInt ∧ p1.toInt ≤ 12 ∧ 0 < (m_lines 0).toInt) := c_6
      refine lv_if_eq (tgt := 29) hx hb dX12_chance_19 (by decide) (fun c_7 => absurd c_7 (by decide)) (fun _ => ?_)
      refine lv_iload_n hx hb dX12_chance_22 rfl (lv_at hl 3 rfl) ?_
      refine vp_callSi (va_Run.run (va_runS (As := [.int p2]) (rest := []) ⟨hx, hb, hml, hown, hts⟩ (m_isHalf l dC dI cyI cyB cyJ cyZ cyH cyN p2) (va_cwS 1 hts (gdS wd_8_165 wd_8_166 wd_1_11 wd_8_167) rfl rfl rfl (by decide +kernel) ⟨Nat.le_of_ble_eq_true rfl, Nat.le_of_ble_eq_true rfl⟩) ⟨fun a U g mk q => q, fun U hU hW => ⟨rfl, trivial⟩⟩ rfl rfl hl.1 rfl (lv_room (Nat.le_of_ble_eq_true rfl)) dX12_chance_23 ⟨Nat.le_of_ble_eq_true rfl, Nat.le_of_ble_eq_true rfl⟩)) (fun r_8 hw => ?_)
      by_cases c_9 : (0 ≤ p2.toInt ∧ p2.toInt ≤ 1)
      · rw [if_pos c_9] at hw; subst hw; have c_9 : (0 ≤ p2.toInt ∧ p2.toInt ≤ 1) := c_9
        refine lv_if_ne (tgt := 33) hx hb dX12_chance_26 (by decide) (fun _ => ?_) (fun c_10 => absurd c_10 (by decide))
        refine lv_aload_n hx hb dX12_chance_33 rfl (lv_at hl 0 rfl) ?_
        refine lv_iload_n hx hb dX12_chance_34 rfl (lv_at hl 2 rfl) ?_
        have hPc := hP.sub (ws' := [(m0, .inr (11, [.int 0, .ref mwidth, .ref mmany, .ref mcells, .ref mmoved, .ref mtape, .int m_taped, .int m_at, .int m_token, .int m_place, .int m_value, .long m_word, .int m_bad, .int m_badPlace, .int m_fault, .int m_faultPlace, .ref mlines, .ref mhas, .ref mtold, .ref mlaw, .ref msuit, .ref mapart, .ref mact, .ref misKept, .ref mseen, .ref mhung, .int m_gone, .ref mgoal, .ref mleaps, .ref mqueue, .ref mrow, .int m_reached, .ref mwanted, .ref mfirst, .ref moften, .int m_fitMany, .int m_fitFirst, .int m_askBest, .int m_askLeaves, .int m_bestFirst, .int m_bestWays, .ref mlots, .ref mthen, .long m_lotsAll])), (mhas, .inl (cyI, 20, .inl m_has)), (mtold, .inl (cyI, 35, .inl m_told)), (mlaw, .inl (cyI, 120, .inl m_law)), (mact, .inl (cyI, 400, .inl m_act)), (mhung, .inl (cyI, 7, .inl m_hung)), (mlots, .inl (cyJ, 7, .inr (.inl m_lots))), (mthen, .inl (cyJ, 7, .inr (.inl m_then)))]) [0, 1, 2, 3, 4, 5, 7, 8] rfl
        have hKc := hK.sub (tys' := [(cyI, .int), (cyB, .byte), (cyJ, .long), (cyZ, .boolean), (cyH, .object RX2), (cyN, .array .long)]) [0, 1, 2, 3, 4, 5] rfl
        have hDc := hD.sub (ws' := [(m0, .inr (11, [.int 0, .ref mwidth, .ref mmany, .ref mcells, .ref mmoved, .ref mtape, .int m_taped, .int m_at, .int m_token, .int m_place, .int m_value, .long m_word, .int m_bad, .int m_badPlace, .int m_fault, .int m_faultPlace, .ref mlines, .ref mhas, .ref mtold, .ref mlaw, .ref msuit, .ref mapart, .ref mact, .ref misKept, .ref mseen, .ref mhung, .int m_gone, .ref mgoal, .ref mleaps, .ref mqueue, .ref mrow, .int m_reached, .ref mwanted, .ref mfirst, .ref moften, .int m_fitMany, .int m_fitFirst, .int m_askBest, .int m_askLeaves, .int m_bestFirst, .int m_bestWays, .ref mlots, .ref mthen, .long m_lotsAll])), (mhas, .inl (cyI, 20, .inl m_has)), (mtold, .inl (cyI, 35, .inl m_told)), (mlaw, .inl (cyI, 120, .inl m_law)), (mact, .inl (cyI, 400, .inl m_act)), (mhung, .inl (cyI, 7, .inl m_hung)), (mlots, .inl (cyJ, 7, .inr (.inl m_lots))), (mthen, .inl (cyJ, 7, .inr (.inl m_then)))]) [0, 1, 2, 3, 4, 5, 7, 8] (by decide) rfl
        have hFc := va_free (wc := [(m0, .inr (11, [.int 0, .ref mwidth, .ref mmany, .ref mcells, .ref mmoved, .ref mtape, .int m_taped, .int m_at, .int m_token, .int m_place, .int m_value, .long m_word, .int m_bad, .int m_badPlace, .int m_fault, .int m_faultPlace, .ref mlines, .ref mhas, .ref mtold, .ref mlaw, .ref msuit, .ref mapart, .ref mact, .ref misKept, .ref mseen, .ref mhung, .int m_gone, .ref mgoal, .ref mleaps, .ref mqueue, .ref mrow, .int m_reached, .ref mwanted, .ref mfirst, .ref moften, .int m_fitMany, .int m_fitFirst, .int m_askBest, .int m_askLeaves, .int m_bestFirst, .int m_bestWays, .ref mlots, .ref mthen, .long m_lotsAll])), (mhas, .inl (cyI, 20, .inl m_has)), (mtold, .inl (cyI, 35, .inl m_told)), (mlaw, .inl (cyI, 120, .inl m_law)), (mact, .inl (cyI, 400, .inl m_act)), (mhung, .inl (cyI, 7, .inl m_hung)), (mlots, .inl (cyJ, 7, .inr (.inl m_lots))), (mthen, .inl (cyJ, 7, .inr (.inl m_then)))]) hD hS hA [0, 1, 2, 3, 4, 5, 7, 8] rfl
        refine va_callv (va_runV (As := [.int p1]) (rest := []) ⟨hx, hb, hml, hown, hts⟩ (m_laysLots l dC dI cyI cyB cyJ cyZ cyH cyN H.size m0 mwidth mmany mcells mmoved mtape mlines mhas mtold mlaw msuit mapart mact misKept mseen mhung mgoal mleaps mqueue mrow mwanted mfirst moften mlots mthen 0 m_taped m_at m_token m_place m_value m_word m_bad m_badPlace m_fault m_faultPlace m_gone m_reached m_fitMany m_fitFirst m_askBest m_askLeaves m_bestFirst m_bestWays m_lotsAll m_has m_told m_law m_act m_hung m_lots m_then p1 g0 g1 (by omega) (by omega) (by omega) (by omega) g5 g6 g7 g8 g9 g10 (by omega)) (cwV 1 hts (gdV wd_8_169 wd_8_171 wd_s6_12 wd_1_11 wd_8_172) rfl rfl rfl (by decide +kernel) ⟨Nat.le_of_ble_eq_true rfl, Nat.le_of_ble_eq_true rfl⟩) ⟨fun a U g mk q => by obtain ⟨q0, q1, qP, qK, qD⟩ := q; exact ⟨q0, q1, qP, va_K.moved (u := U) (U := U.calling g mk a) (Vm.Alike.refl U.vm) qK, qD⟩, va_recv hKc hPc (ci := 11) (q0 := 0) rfl rfl, fun U hU hW => ⟨rfl, by rw [hU], by rw [hU]; exact hPc, va_K.moved hW.alike hKc, hDc.weaken (fun _ _ _ _ => trivial)⟩⟩ rfl rfl hl.1 rfl (lv_room (Nat.le_of_ble_eq_true rfl)) dX12_chance_35 ⟨Nat.le_of_ble_eq_true rfl, Nat.le_of_ble_eq_true rfl⟩) hS (fun q _ h => hFc q h) hFc (fun  u t H1 locs ht hvm hw hB hz1 hk1 hS => ?_)
        obtain ⟨z0_11, z1_12, y2_13, y3_14, y4_15, hp_16, hp_17, hp_18, hP1, hD1⟩ := hB
        rw [ht] at hP1
        obtain ⟨hP, hD⟩ := va_join (wr := [(mlines, .inl (cyI, 5, .inl m_lines))]) (w1 := [(m0, .inr (11, [.int 0, .ref mwidth, .ref mmany, .ref mcells, .ref mmoved, .ref mtape, .int m_taped, .int m_at, .int m_token, .int m_place, .int m_value, .long m_word, .int m_bad, .int m_badPlace, .int m_fault, .int m_faultPlace, .ref mlines, .ref mhas, .ref mtold, .ref mlaw, .ref msuit, .ref mapart, .ref mact, .ref misKept, .ref mseen, .ref mhung, .int z0_11, .ref mgoal, .ref mleaps, .ref mqueue, .ref mrow, .int m_reached, .ref mwanted, .ref mfirst, .ref moften, .int m_fitMany, .int m_fitFirst, .int m_askBest, .int m_askLeaves, .int m_bestFirst, .int m_bestWays, .ref mlots, .ref mthen, .long z1_12])), (mhas, .inl (cyI, 20, .inl m_has)), (mtold, .inl (cyI, 35, .inl m_told)), (mlaw, .inl (cyI, 120, .inl m_law)), (mact, .inl (cyI, 400, .inl m_act)), (mhung, .inl (cyI, 7, .inl y2_13)), (mlots, .inl (cyJ, 7, .inr (.inl y3_14))), (mthen, .inl (cyJ, 7, .inr (.inl y4_15)))]) hP hD [0, 1, 2, 3, 4, 5, 7, 8] [6] rfl rfl (by decide) (by decide) hk1 hFc hP1 hD1
        generalize H1 = H at hP hS ⊢
        have hP : va_P (dC, dI) vwCl [(mlines, .inl (cyI, 5, .inl m_lines)), (m0, .inr (11, [.int 0, .ref mwidth, .ref mmany, .ref mcells, .ref mmoved, .ref mtape, .int m_taped, .int m_at, .int m_token, .int m_place, .int m_value, .long m_word, .int m_bad, .int m_badPlace, .int m_fault, .int m_faultPlace, .ref mlines, .ref mhas, .ref mtold, .ref mlaw, .ref msuit, .ref mapart, .ref mact, .ref misKept, .ref mseen, .ref mhung, .int z0_11, .ref mgoal, .ref mleaps, .ref mqueue, .ref mrow, .int m_reached, .ref mwanted, .ref mfirst, .ref moften, .int m_fitMany, .int m_fitFirst, .int m_askBest, .int m_askLeaves, .int m_bestFirst, .int m_bestWays, .ref mlots, .ref mthen, .long z1_12])), (mhas, .inl (cyI, 20, .inl m_has)), (mtold, .inl (cyI, 35, .inl m_told)), (mlaw, .inl (cyI, 120, .inl m_law)), (mact, .inl (cyI, 400, .inl m_act)), (mhung, .inl (cyI, 7, .inl y2_13)), (mlots, .inl (cyJ, 7, .inr (.inl y3_14))), (mthen, .inl (cyJ, 7, .inr (.inl y4_15)))] H := hP
        have hD : va_D A [(mlines, .inl (cyI, 5, .inl m_lines)), (m0, .inr (11, [.int 0, .ref mwidth, .ref mmany, .ref mcells, .ref mmoved, .ref mtape, .int m_taped, .int m_at, .int m_token, .int m_place, .int m_value, .long m_word, .int m_bad, .int m_badPlace, .int m_fault, .int m_faultPlace, .ref mlines, .ref mhas, .ref mtold, .ref mlaw, .ref msuit, .ref mapart, .ref mact, .ref misKept, .ref mseen, .ref mhung, .int z0_11, .ref mgoal, .ref mleaps, .ref mqueue, .ref mrow, .int m_reached, .ref mwanted, .ref mfirst, .ref moften, .int m_fitMany, .int m_fitFirst, .int m_askBest, .int m_askLeaves, .int m_bestFirst, .int m_bestWays, .ref mlots, .ref mthen, .long z1_12])), (mhas, .inl (cyI, 20, .inl m_has)), (mtold, .inl (cyI, 35, .inl m_told)), (mlaw, .inl (cyI, 120, .inl m_law)), (mact, .inl (cyI, 400, .inl m_act)), (mhung, .inl (cyI, 7, .inl y2_13)), (mlots, .inl (cyJ, 7, .inr (.inl y3_14))), (mthen, .inl (cyJ, 7, .inr (.inl y4_15)))] := hD
        have hP := hP.sub (ws' := [(m0, .inr (11, [.int 0, .ref mwidth, .ref mmany, .ref mcells, .ref mmoved, .ref mtape, .int m_taped, .int m_at, .int m_token, .int m_place, .int m_value, .long m_word, .int m_bad, .int m_badPlace, .int m_fault, .int m_faultPlace, .ref mlines, .ref mhas, .ref mtold, .ref mlaw, .ref msuit, .ref mapart, .ref mact, .ref misKept, .ref mseen, .ref mhung, .int z0_11, .ref mgoal, .ref mleaps, .ref mqueue, .ref mrow, .int m_reached, .ref mwanted, .ref mfirst, .ref moften, .int m_fitMany, .int m_fitFirst, .int m_askBest, .int m_askLeaves, .int m_bestFirst, .int m_bestWays, .ref mlots, .ref mthen, .long z1_12])), (mhas, .inl (cyI, 20, .inl m_has)), (mtold, .inl (cyI, 35, .inl m_told)), (mlaw, .inl (cyI, 120, .inl m_law)), (mact, .inl (cyI, 400, .inl m_act)), (mhung, .inl (cyI, 7, .inl y2_13)), (mlines, .inl (cyI, 5, .inl m_lines)), (mlots, .inl (cyJ, 7, .inr (.inl y3_14))), (mthen, .inl (cyJ, 7, .inr (.inl y4_15)))]) [1, 2, 3, 4, 5, 6, 0, 7, 8] rfl
        have hD := hD.sub (ws' := [(m0, .inr (11, [.int 0, .ref mwidth, .ref mmany, .ref mcells, .ref mmoved, .ref mtape, .int m_taped, .int m_at, .int m_token, .int m_place, .int m_value, .long m_word, .int m_bad, .int m_badPlace, .int m_fault, .int m_faultPlace, .ref mlines, .ref mhas, .ref mtold, .ref mlaw, .ref msuit, .ref mapart, .ref mact, .ref misKept, .ref mseen, .ref mhung, .int z0_11, .ref mgoal, .ref mleaps, .ref mqueue, .ref mrow, .int m_reached, .ref mwanted, .ref mfirst, .ref moften, .int m_fitMany, .int m_fitFirst, .int m_askBest, .int m_askLeaves, .int m_bestFirst, .int m_bestWays, .ref mlots, .ref mthen, .long z1_12])), (mhas, .inl (cyI, 20, .inl m_has)), (mtold, .inl (cyI, 35, .inl m_told)), (mlaw, .inl (cyI, 120, .inl m_law)), (mact, .inl (cyI, 400, .inl m_act)), (mhung, .inl (cyI, 7, .inl y2_13)), (mlines, .inl (cyI, 5, .inl m_lines)), (mlots, .inl (cyJ, 7, .inr (.inl y3_14))), (mthen, .inl (cyJ, 7, .inr (.inl y4_15)))]) [1, 2, 3, 4, 5, 6, 0, 7, 8] (by decide) rfl
        refine lv_iload_n hx hb dX12_chance_38 rfl (lv_at hl 3 rfl) ?_
        have join_20 : ∀ (u_19 : Int64) (H : Heap) (locs : List Loc) (ls : Array Slot), va_P (dC, dI) vwCl [(m0, .inr (11, [.int 0, .ref mwidth, .ref mmany, .ref mcells, .ref mmoved, .ref mtape, .int m_taped, .int m_at, .int m_token, .int m_place, .int m_value, .long m_word, .int m_bad, .int m_badPlace, .int m_fault, .int m_faultPlace, .ref mlines, .ref mhas, .ref mtold, .ref mlaw, .ref msuit, .ref mapart, .ref mact, .ref misKept, .ref mseen, .ref mhung, .int z0_11, .ref mgoal, .ref mleaps, .ref mqueue, .ref mrow, .int m_reached, .ref mwanted, .ref mfirst, .ref moften, .int m_fitMany, .int m_fitFirst, .int m_askBest, .int m_askLeaves, .int m_bestFirst, .int m_bestWays, .ref mlots, .ref mthen, .long z1_12])), (mhas, .inl (cyI, 20, .inl m_has)), (mtold, .inl (cyI, 35, .inl m_told)), (mlaw, .inl (cyI, 120, .inl m_law)), (mact, .inl (cyI, 400, .inl m_act)), (mhung, .inl (cyI, 7, .inl y2_13)), (mlines, .inl (cyI, 5, .inl m_lines)), (mlots, .inl (cyJ, 7, .inr (.inl y3_14))), (mthen, .inl (cyJ, 7, .inr (.inl y4_15)))] H → va_D A [(m0, .inr (11, [.int 0, .ref mwidth, .ref mmany, .ref mcells, .ref mmoved, .ref mtape, .int m_taped, .int m_at, .int m_token, .int m_place, .int m_value, .long m_word, .int m_bad, .int m_badPlace, .int m_fault, .int m_faultPlace, .ref mlines, .ref mhas, .ref mtold, .ref mlaw, .ref msuit, .ref mapart, .ref mact, .ref misKept, .ref mseen, .ref mhung, .int z0_11, .ref mgoal, .ref mleaps, .ref mqueue, .ref mrow, .int m_reached, .ref mwanted, .ref mfirst, .ref moften, .int m_fitMany, .int m_fitFirst, .int m_askBest, .int m_askLeaves, .int m_bestFirst, .int m_bestWays, .ref mlots, .ref mthen, .long z1_12])), (mhas, .inl (cyI, 20, .inl m_has)), (mtold, .inl (cyI, 35, .inl m_told)), (mlaw, .inl (cyI, 120, .inl m_law)), (mact, .inl (cyI, 400, .inl m_act)), (mhung, .inl (cyI, 7, .inl y2_13)), (mlines, .inl (cyI, 5, .inl m_lines)), (mlots, .inl (cyJ, 7, .inr (.inl y3_14))), (mthen, .inl (cyJ, 7, .inr (.inl y4_15)))] → va_S A s.heap H locs → lv_has ls 4 [(0, .ref m0), (1, .int p0), (2, .int p1), (3, .int p2)] → W p l e ({ frames := 66, cells := 0, slots := 0, locals := 1555 }) s m ([.ref m0, .int p0, .int p1, .int p2] : List Value).toArray below meth c H locs 0 0 Q9 (F0 m 55 ls [.long u_19]) := by
          intro u_19 H locs ls hP hD hS hl
          refine lv_aload_n hx hb dX12_chance_55 rfl (lv_at hl 0 rfl) ?_
          refine va_get (D := (dC, dI)) (ci := 11) (v := .ref mlots) (C := RX12) (T := TX12) (N := 44) hx hb hts uinX12 hown hK hP 0 rfl rfl 41 (by decide) (hts _ wd_6_78) (fun _ h9 => h9) rfl dX12_chance_56 ?_
          refine lv_iload_n hx hb dX12_chance_59 rfl (lv_at hl 1 rfl) ?_
          refine va_lald hx hb hK hP 7 2 rfl rfl (vp_in_iff.mpr (by omega)) dX12_chance_60 ?_
          refine lv_topl (fun x_21 ex_21 => ?_)
          refine lv_aload_n hx hb dX12_chance_61 rfl (lv_at hl 0 rfl) ?_
          refine va_get (D := (dC, dI)) (ci := 11) (v := .long z1_12) (C := RX12) (T := TX12) (N := 44) hx hb hts uinX12 hown hK hP 0 rfl rfl 43 (by decide) (hts _ wd_6_80) (fun _ h9 => h9) rfl dX12_chance_62 ?_
          refine vp_callSl (va_Run.run (va_runS (As := [.long x_21, .long z1_12]) (rest := [.long u_19]) ⟨hx, hb, hml, hown, hts⟩ (m_commonE32 l dC dI cyI cyB cyJ cyZ cyH cyN x_21 z1_12 (by omega) (by omega)) (va_cwS 2 hts (gdS wd_8_173 wd_8_174 wd_1_11 wd_8_175) rfl rfl rfl (by decide +kernel) ⟨Nat.le_of_ble_eq_true rfl, Nat.le_of_ble_eq_true rfl⟩) ⟨fun a U g mk q => q, fun U hU hW => ⟨rfl, trivial⟩⟩ rfl rfl hl.1 rfl (lv_room (Nat.le_of_ble_eq_true rfl)) dX12_chance_65 ⟨Nat.le_of_ble_eq_true rfl, Nat.le_of_ble_eq_true rfl⟩)) (fun r_22 hw => ?_)
          have hrr_22 := hw
          refine lv_ldiv hx hb dX12_chance_68 (fun q => by have := congrArg Int64.toInt q; have h0 : (0 : Int64).toInt = 0 := rfl; omega) ?_
          refine lv_topl (fun y_23 ey_23 => ?_)
          rw [hQ9]
          have hP9 := hP.sub (ws' := [(m0, .inr (11, [.int 0, .ref mwidth, .ref mmany, .ref mcells, .ref mmoved, .ref mtape, .int m_taped, .int m_at, .int m_token, .int m_place, .int m_value, .long m_word, .int m_bad, .int m_badPlace, .int m_fault, .int m_faultPlace, .ref mlines, .ref mhas, .ref mtold, .ref mlaw, .ref msuit, .ref mapart, .ref mact, .ref misKept, .ref mseen, .ref mhung, .int z0_11, .ref mgoal, .ref mleaps, .ref mqueue, .ref mrow, .int m_reached, .ref mwanted, .ref mfirst, .ref moften, .int m_fitMany, .int m_fitFirst, .int m_askBest, .int m_askLeaves, .int m_bestFirst, .int m_bestWays, .ref mlots, .ref mthen, .long z1_12])), (mhas, .inl (cyI, 20, .inl m_has)), (mtold, .inl (cyI, 35, .inl m_told)), (mlaw, .inl (cyI, 120, .inl m_law)), (mact, .inl (cyI, 400, .inl m_act)), (mhung, .inl (cyI, 7, .inl y2_13)), (mlines, .inl (cyI, 5, .inl m_lines)), (mlots, .inl (cyJ, 7, .inr (.inl y3_14))), (mthen, .inl (cyJ, 7, .inr (.inl y4_15)))]) [0, 1, 2, 3, 4, 5, 6, 7, 8] rfl
          have hD9 := hD.sub (ws' := [(m0, .inr (11, [.int 0, .ref mwidth, .ref mmany, .ref mcells, .ref mmoved, .ref mtape, .int m_taped, .int m_at, .int m_token, .int m_place, .int m_value, .long m_word, .int m_bad, .int m_badPlace, .int m_fault, .int m_faultPlace, .ref mlines, .ref mhas, .ref mtold, .ref mlaw, .ref msuit, .ref mapart, .ref mact, .ref misKept, .ref mseen, .ref mhung, .int z0_11, .ref mgoal, .ref mleaps, .ref mqueue, .ref mrow, .int m_reached, .ref mwanted, .ref mfirst, .ref moften, .int m_fitMany, .int m_fitFirst, .int m_askBest, .int m_askLeaves, .int m_bestFirst, .int m_bestWays, .ref mlots, .ref mthen, .long z1_12])), (mhas, .inl (cyI, 20, .inl m_has)), (mtold, .inl (cyI, 35, .inl m_told)), (mlaw, .inl (cyI, 120, .inl m_law)), (mact, .inl (cyI, 400, .inl m_act)), (mhung, .inl (cyI, 7, .inl y2_13)), (mlines, .inl (cyI, 5, .inl m_lines)), (mlots, .inl (cyJ, 7, .inr (.inl y3_14))), (mthen, .inl (cyJ, 7, .inr (.inl y4_15)))]) [0, 1, 2, 3, 4, 5, 6, 7, 8] (by decide) rfl
          exact W.lret (v := y_23) hx hb hr (fun t ht hW => ⟨⟨y_23, (), rfl, trivial, ⟨0, z0_11, z1_12, y2_13, y3_14, y4_15, (by decide), (by omega), hp_17, by rw [ht]; exact hP9, hD9⟩⟩, hS.F ht⟩) hS.2.2 dX12_chance_69
        refine lv_if_ne (tgt := 51) hx hb dX12_chance_39 (by decide) (fun c_24 => ?_) (fun c_24 => ?_)
        · have c_24 : p2.toInt ≠ 0 := cv_ne c_24
          refine lv_aload_n hx hb dX12_chance_51 rfl (lv_at hl 0 rfl) ?_
          refine va_get (D := (dC, dI)) (ci := 11) (v := .long z1_12) (C := RX12) (T := TX12) (N := 44) hx hb hts uinX12 hown hK hP 0 rfl rfl 43 (by decide) (hts _ wd_6_80) (fun _ h9 => h9) rfl dX12_chance_52 ?_
          exact join_20 z1_12 _ _ _ hP hD hS (lv_sub hl [0, 1, 2, 3] rfl)
        · have c_24 : p2.toInt = 0 := cv_eq c_24
          refine lv_aload_n hx hb dX12_chance_42 rfl (lv_at hl 0 rfl) ?_
          refine va_get (D := (dC, dI)) (ci := 11) (v := .ref mlots) (C := RX12) (T := TX12) (N := 44) hx hb hts uinX12 hown hK hP 0 rfl rfl 41 (by decide) (hts _ wd_6_78) (fun _ h9 => h9) rfl dX12_chance_43 ?_
          refine lv_iload_n hx hb dX12_chance_46 rfl (lv_at hl 1 rfl) ?_
          refine va_lald hx hb hK hP 7 2 rfl rfl (vp_in_iff.mpr (by omega)) dX12_chance_47 ?_
          refine lv_topl (fun x_25 ex_25 => ?_)
          refine lv_goto (tgt := 55) hx hb dX12_chance_48 (by decide) ?_
          exact join_20 x_25 _ _ _ hP hD hS (lv_sub hl [0, 1, 2, 3] rfl)
      · rw [if_neg c_9] at hw; subst hw; have c_9 : ¬ (0 ≤ p2.toInt ∧ p2.toInt ≤ 1) := c_9
        refine lv_if_ne (tgt := 33) hx hb dX12_chance_26 (by decide) (fun c_26 => absurd c_26 (by decide)) (fun _ => ?_)
        refine lv_ldc2 (v := (-2)) hx hb hown (hts _ wd_8_168) dX12_chance_29 ?_
        rw [hQ9]
        have hP9 := hP.sub (ws' := [(m0, .inr (11, [.int 0, .ref mwidth, .ref mmany, .ref mcells, .ref mmoved, .ref mtape, .int m_taped, .int m_at, .int m_token, .int m_place, .int m_value, .long m_word, .int m_bad, .int m_badPlace, .int m_fault, .int m_faultPlace, .ref mlines, .ref mhas, .ref mtold, .ref mlaw, .ref msuit, .ref mapart, .ref mact, .ref misKept, .ref mseen, .ref mhung, .int m_gone, .ref mgoal, .ref mleaps, .ref mqueue, .ref mrow, .int m_reached, .ref mwanted, .ref mfirst, .ref moften, .int m_fitMany, .int m_fitFirst, .int m_askBest, .int m_askLeaves, .int m_bestFirst, .int m_bestWays, .ref mlots, .ref mthen, .long m_lotsAll])), (mhas, .inl (cyI, 20, .inl m_has)), (mtold, .inl (cyI, 35, .inl m_told)), (mlaw, .inl (cyI, 120, .inl m_law)), (mact, .inl (cyI, 400, .inl m_act)), (mhung, .inl (cyI, 7, .inl m_hung)), (mlines, .inl (cyI, 5, .inl m_lines)), (mlots, .inl (cyJ, 7, .inr (.inl m_lots))), (mthen, .inl (cyJ, 7, .inr (.inl m_then)))]) [0, 1, 2, 3, 4, 5, 6, 7, 8] rfl
        have hD9 := hD.sub (ws' := [(m0, .inr (11, [.int 0, .ref mwidth, .ref mmany, .ref mcells, .ref mmoved, .ref mtape, .int m_taped, .int m_at, .int m_token, .int m_place, .int m_value, .long m_word, .int m_bad, .int m_badPlace, .int m_fault, .int m_faultPlace, .ref mlines, .ref mhas, .ref mtold, .ref mlaw, .ref msuit, .ref mapart, .ref mact, .ref misKept, .ref mseen, .ref mhung, .int m_gone, .ref mgoal, .ref mleaps, .ref mqueue, .ref mrow, .int m_reached, .ref mwanted, .ref mfirst, .ref moften, .int m_fitMany, .int m_fitFirst, .int m_askBest, .int m_askLeaves, .int m_bestFirst, .int m_bestWays, .ref mlots, .ref mthen, .long m_lotsAll])), (mhas, .inl (cyI, 20, .inl m_has)), (mtold, .inl (cyI, 35, .inl m_told)), (mlaw, .inl (cyI, 120, .inl m_law)), (mact, .inl (cyI, 400, .inl m_act)), (mhung, .inl (cyI, 7, .inl m_hung)), (mlines, .inl (cyI, 5, .inl m_lines)), (mlots, .inl (cyJ, 7, .inr (.inl m_lots))), (mthen, .inl (cyJ, 7, .inr (.inl m_then)))]) [0, 1, 2, 3, 4, 5, 6, 7, 8] (by decide) rfl
        exact W.lret (v := (-2)) hx hb hr (fun t ht hW => ⟨⟨(-2), (), rfl, trivial, ⟨0, m_gone, m_lotsAll, m_hung, m_lots, m_then, (by decide), (by omega), g1, by rw [ht]; exact hP9, hD9⟩⟩, hS.F ht⟩) hS.2.2 dX12_chance_32
    · rw [if_neg c_6] at hw; subst hw; have c_6 : ¬ (0 ≤ p1.toInt ∧ p1.toInt ≤ 12 ∧ 0 < (m_lines 0).toInt) := c_6
      refine lv_if_eq (tgt := 29) hx hb dX12_chance_19 (by decide) (fun _ => ?_) (fun c_27 => absurd c_27 (by decide))
      refine lv_ldc2 (v := (-2)) hx hb hown (hts _ wd_8_168) dX12_chance_29 ?_
      rw [hQ9]
      have hP9 := hP.sub (ws' := [(m0, .inr (11, [.int 0, .ref mwidth, .ref mmany, .ref mcells, .ref mmoved, .ref mtape, .int m_taped, .int m_at, .int m_token, .int m_place, .int m_value, .long m_word, .int m_bad, .int m_badPlace, .int m_fault, .int m_faultPlace, .ref mlines, .ref mhas, .ref mtold, .ref mlaw, .ref msuit, .ref mapart, .ref mact, .ref misKept, .ref mseen, .ref mhung, .int m_gone, .ref mgoal, .ref mleaps, .ref mqueue, .ref mrow, .int m_reached, .ref mwanted, .ref mfirst, .ref moften, .int m_fitMany, .int m_fitFirst, .int m_askBest, .int m_askLeaves, .int m_bestFirst, .int m_bestWays, .ref mlots, .ref mthen, .long m_lotsAll])), (mhas, .inl (cyI, 20, .inl m_has)), (mtold, .inl (cyI, 35, .inl m_told)), (mlaw, .inl (cyI, 120, .inl m_law)), (mact, .inl (cyI, 400, .inl m_act)), (mhung, .inl (cyI, 7, .inl m_hung)), (mlines, .inl (cyI, 5, .inl m_lines)), (mlots, .inl (cyJ, 7, .inr (.inl m_lots))), (mthen, .inl (cyJ, 7, .inr (.inl m_then)))]) [0, 1, 2, 3, 4, 5, 6, 7, 8] rfl
      have hD9 := hD.sub (ws' := [(m0, .inr (11, [.int 0, .ref mwidth, .ref mmany, .ref mcells, .ref mmoved, .ref mtape, .int m_taped, .int m_at, .int m_token, .int m_place, .int m_value, .long m_word, .int m_bad, .int m_badPlace, .int m_fault, .int m_faultPlace, .ref mlines, .ref mhas, .ref mtold, .ref mlaw, .ref msuit, .ref mapart, .ref mact, .ref misKept, .ref mseen, .ref mhung, .int m_gone, .ref mgoal, .ref mleaps, .ref mqueue, .ref mrow, .int m_reached, .ref mwanted, .ref mfirst, .ref moften, .int m_fitMany, .int m_fitFirst, .int m_askBest, .int m_askLeaves, .int m_bestFirst, .int m_bestWays, .ref mlots, .ref mthen, .long m_lotsAll])), (mhas, .inl (cyI, 20, .inl m_has)), (mtold, .inl (cyI, 35, .inl m_told)), (mlaw, .inl (cyI, 120, .inl m_law)), (mact, .inl (cyI, 400, .inl m_act)), (mhung, .inl (cyI, 7, .inl m_hung)), (mlines, .inl (cyI, 5, .inl m_lines)), (mlots, .inl (cyJ, 7, .inr (.inl m_lots))), (mthen, .inl (cyJ, 7, .inr (.inl m_then)))]) [0, 1, 2, 3, 4, 5, 6, 7, 8] (by decide) rfl
      exact W.lret (v := (-2)) hx hb hr (fun t ht hW => ⟨⟨(-2), (), rfl, trivial, ⟨0, m_gone, m_lotsAll, m_hung, m_lots, m_then, (by decide), (by omega), g1, by rw [ht]; exact hP9, hD9⟩⟩, hS.F ht⟩) hS.2.2 dX12_chance_32
  · rw [if_neg c_3] at hw; subst hw; have c_3 : ¬ (0 ≤ y_1.toInt ∧ y_1.toInt < (m_has 0).toInt) := c_3
    refine lv_if_eq (tgt := 29) hx hb dX12_chance_11 (by decide) (fun _ => ?_) (fun c_28 => absurd c_28 (by decide))
    refine lv_ldc2 (v := (-2)) hx hb hown (hts _ wd_8_168) dX12_chance_29 ?_
    rw [hQ9]
    have hP9 := hP.sub (ws' := [(m0, .inr (11, [.int 0, .ref mwidth, .ref mmany, .ref mcells, .ref mmoved, .ref mtape, .int m_taped, .int m_at, .int m_token, .int m_place, .int m_value, .long m_word, .int m_bad, .int m_badPlace, .int m_fault, .int m_faultPlace, .ref mlines, .ref mhas, .ref mtold, .ref mlaw, .ref msuit, .ref mapart, .ref mact, .ref misKept, .ref mseen, .ref mhung, .int m_gone, .ref mgoal, .ref mleaps, .ref mqueue, .ref mrow, .int m_reached, .ref mwanted, .ref mfirst, .ref moften, .int m_fitMany, .int m_fitFirst, .int m_askBest, .int m_askLeaves, .int m_bestFirst, .int m_bestWays, .ref mlots, .ref mthen, .long m_lotsAll])), (mhas, .inl (cyI, 20, .inl m_has)), (mtold, .inl (cyI, 35, .inl m_told)), (mlaw, .inl (cyI, 120, .inl m_law)), (mact, .inl (cyI, 400, .inl m_act)), (mhung, .inl (cyI, 7, .inl m_hung)), (mlines, .inl (cyI, 5, .inl m_lines)), (mlots, .inl (cyJ, 7, .inr (.inl m_lots))), (mthen, .inl (cyJ, 7, .inr (.inl m_then)))]) [0, 1, 2, 3, 4, 5, 6, 7, 8] rfl
    have hD9 := hD.sub (ws' := [(m0, .inr (11, [.int 0, .ref mwidth, .ref mmany, .ref mcells, .ref mmoved, .ref mtape, .int m_taped, .int m_at, .int m_token, .int m_place, .int m_value, .long m_word, .int m_bad, .int m_badPlace, .int m_fault, .int m_faultPlace, .ref mlines, .ref mhas, .ref mtold, .ref mlaw, .ref msuit, .ref mapart, .ref mact, .ref misKept, .ref mseen, .ref mhung, .int m_gone, .ref mgoal, .ref mleaps, .ref mqueue, .ref mrow, .int m_reached, .ref mwanted, .ref mfirst, .ref moften, .int m_fitMany, .int m_fitFirst, .int m_askBest, .int m_askLeaves, .int m_bestFirst, .int m_bestWays, .ref mlots, .ref mthen, .long m_lotsAll])), (mhas, .inl (cyI, 20, .inl m_has)), (mtold, .inl (cyI, 35, .inl m_told)), (mlaw, .inl (cyI, 120, .inl m_law)), (mact, .inl (cyI, 400, .inl m_act)), (mhung, .inl (cyI, 7, .inl m_hung)), (mlines, .inl (cyI, 5, .inl m_lines)), (mlots, .inl (cyJ, 7, .inr (.inl m_lots))), (mthen, .inl (cyJ, 7, .inr (.inl m_then)))]) [0, 1, 2, 3, 4, 5, 6, 7, 8] (by decide) rfl
    exact W.lret (v := (-2)) hx hb hr (fun t ht hW => ⟨⟨(-2), (), rfl, trivial, ⟨0, m_gone, m_lotsAll, m_hung, m_lots, m_then, (by decide), (by omega), g1, by rw [ht]; exact hP9, hD9⟩⟩, hS.F ht⟩) hS.2.2 dX12_chance_32

/- X12_likely -/
set_option maxHeartbeats 4000000 in
set_option maxRecDepth 100000 in
theorem m_likely (l : Launch) (dC : Nat → ClassId) (dI : Nat → Nat → Nat) (cyI cyB cyJ cyZ cyH cyN : ClassId) (sz : Nat) (m0 mwidth mmany mcells mmoved mtape mlines mhas mtold mlaw msuit mapart mact misKept mseen mhung mgoal mleaps mqueue mrow mwanted mfirst moften mlots mthen : Nat) (m_thrown m_taped m_at m_token m_place m_value : Int32) (m_word : Int64) (m_bad m_badPlace m_fault m_faultPlace m_gone m_reached m_fitMany m_fitFirst m_askBest m_askLeaves m_bestFirst m_bestWays : Int32) (m_lotsAll : Int64) (m_has m_told m_law m_act m_hung m_lines : Nat → Int32) (m_lots m_then : Nat → Int64) (p0 : Int32) (g0 : rg 0 6 35 m_told) (g1 : rg 0 6 7 m_hung) (g2 : 0 ≤ m_taped.toInt ∧ m_taped.toInt ≤ 800) (g3 : 0 ≤ m_at.toInt ∧ m_at.toInt ≤ 800) (g4 : 0 ≤ m_gone.toInt ∧ m_gone.toInt ≤ 40) (g5 : (m_has 0).toInt = 0 ∨ (2 ≤ (m_has 0).toInt ∧ (m_has 0).toInt ≤ 7)) (g6 : 0 ≤ (m_has 1).toInt ∧ (m_has 1).toInt ≤ 6) (g7 : 0 ≤ (m_has 3).toInt ∧ (m_has 3).toInt ≤ 40) (g8 : pm (m_has 0).toInt m_told) (g9 : lk (m_has 0).toInt (m_has 1).toInt m_law) (g10 : ak (m_has 0).toInt (m_has 3).toInt m_act) (g11 : 0 < (m_lines 0).toInt → 2 ≤ (m_has 0).toInt) : Met l yX12_likely (wk yX12_likely cX12_likely 4 (some .int)) ({ frames := 5, cells := 0, slots := 0, locals := 152 }) (va_Pc [.ref m0, .int p0] (fun U => U.heap.size = sz ∧ va_P (dC, dI) vwCl [(m0, .inr (11, [.int m_thrown, .ref mwidth, .ref mmany, .ref mcells, .ref mmoved, .ref mtape, .int m_taped, .int m_at, .int m_token, .int m_place, .int m_value, .long m_word, .int m_bad, .int m_badPlace, .int m_fault, .int m_faultPlace, .ref mlines, .ref mhas, .ref mtold, .ref mlaw, .ref msuit, .ref mapart, .ref mact, .ref misKept, .ref mseen, .ref mhung, .int m_gone, .ref mgoal, .ref mleaps, .ref mqueue, .ref mrow, .int m_reached, .ref mwanted, .ref mfirst, .ref moften, .int m_fitMany, .int m_fitFirst, .int m_askBest, .int m_askLeaves, .int m_bestFirst, .int m_bestWays, .ref mlots, .ref mthen, .long m_lotsAll])), (mhas, .inl (cyI, 20, .inl m_has)), (mtold, .inl (cyI, 35, .inl m_told)), (mlaw, .inl (cyI, 120, .inl m_law)), (mact, .inl (cyI, 400, .inl m_act)), (mhung, .inl (cyI, 7, .inl m_hung)), (mlines, .inl (cyI, 5, .inl m_lines)), (mlots, .inl (cyJ, 7, .inr (.inl m_lots))), (mthen, .inl (cyJ, 7, .inr (.inl m_then)))] U.heap ∧ va_K (dC, dI) vwCl [(cyI, .int), (cyB, .byte), (cyJ, .long), (cyZ, .boolean), (cyH, .object RX2), (cyN, .array .long)] U ∧ va_D (fun _ => True) [(m0, .inr (11, [.int m_thrown, .ref mwidth, .ref mmany, .ref mcells, .ref mmoved, .ref mtape, .int m_taped, .int m_at, .int m_token, .int m_place, .int m_value, .long m_word, .int m_bad, .int m_badPlace, .int m_fault, .int m_faultPlace, .ref mlines, .ref mhas, .ref mtold, .ref mlaw, .ref msuit, .ref mapart, .ref mact, .ref misKept, .ref mseen, .ref mhung, .int m_gone, .ref mgoal, .ref mleaps, .ref mqueue, .ref mrow, .int m_reached, .ref mwanted, .ref mfirst, .ref moften, .int m_fitMany, .int m_fitFirst, .int m_askBest, .int m_askLeaves, .int m_bestFirst, .int m_bestWays, .ref mlots, .ref mthen, .long m_lotsAll])), (mhas, .inl (cyI, 20, .inl m_has)), (mtold, .inl (cyI, 35, .inl m_told)), (mlaw, .inl (cyI, 120, .inl m_law)), (mact, .inl (cyI, 400, .inl m_act)), (mhung, .inl (cyI, 7, .inl m_hung)), (mlines, .inl (cyI, 5, .inl m_lines)), (mlots, .inl (cyJ, 7, .inr (.inl m_lots))), (mthen, .inl (cyJ, 7, .inr (.inl m_then)))])) (va_Qi (fun (r : Int32) (_ : Unit) => True) (fun (_ : Unit) (t : State) => ∃ z0 : Int32, ∃ z1 : Int32, ∃ z2 : Int64, ∃ y3 : Nat → Int32, ∃ y4 : Nat → Int64, ∃ y5 : Nat → Int64, (0 ≤ z0.toInt ∧ z0.toInt ≤ 0) ∧ (0 ≤ z1.toInt ∧ z1.toInt ≤ 40) ∧ (rg 0 6 7 y3) ∧ va_P (dC, dI) vwCl [(m0, .inr (11, [.int z0, .ref mwidth, .ref mmany, .ref mcells, .ref mmoved, .ref mtape, .int m_taped, .int m_at, .int m_token, .int m_place, .int m_value, .long m_word, .int m_bad, .int m_badPlace, .int m_fault, .int m_faultPlace, .ref mlines, .ref mhas, .ref mtold, .ref mlaw, .ref msuit, .ref mapart, .ref mact, .ref misKept, .ref mseen, .ref mhung, .int z1, .ref mgoal, .ref mleaps, .ref mqueue, .ref mrow, .int m_reached, .ref mwanted, .ref mfirst, .ref moften, .int m_fitMany, .int m_fitFirst, .int m_askBest, .int m_askLeaves, .int m_bestFirst, .int m_bestWays, .ref mlots, .ref mthen, .long z2])), (mhas, .inl (cyI, 20, .inl m_has)), (mtold, .inl (cyI, 35, .inl m_told)), (mlaw, .inl (cyI, 120, .inl m_law)), (mact, .inl (cyI, 400, .inl m_act)), (mhung, .inl (cyI, 7, .inl y3)), (mlines, .inl (cyI, 5, .inl m_lines)), (mlots, .inl (cyJ, 7, .inr (.inl y4))), (mthen, .inl (cyJ, 7, .inr (.inl y5)))] t.heap ∧ va_D (va_A [(m0, .inr (11, [.int m_thrown, .ref mwidth, .ref mmany, .ref mcells, .ref mmoved, .ref mtape, .int m_taped, .int m_at, .int m_token, .int m_place, .int m_value, .long m_word, .int m_bad, .int m_badPlace, .int m_fault, .int m_faultPlace, .ref mlines, .ref mhas, .ref mtold, .ref mlaw, .ref msuit, .ref mapart, .ref mact, .ref misKept, .ref mseen, .ref mhung, .int m_gone, .ref mgoal, .ref mleaps, .ref mqueue, .ref mrow, .int m_reached, .ref mwanted, .ref mfirst, .ref moften, .int m_fitMany, .int m_fitFirst, .int m_askBest, .int m_askLeaves, .int m_bestFirst, .int m_bestWays, .ref mlots, .ref mthen, .long m_lotsAll])), (mhas, .inl (cyI, 20, .inl m_has)), (mtold, .inl (cyI, 35, .inl m_told)), (mlaw, .inl (cyI, 120, .inl m_law)), (mact, .inl (cyI, 400, .inl m_act)), (mhung, .inl (cyI, 7, .inl m_hung)), (mlines, .inl (cyI, 5, .inl m_lines)), (mlots, .inl (cyJ, 7, .inr (.inl m_lots))), (mthen, .inl (cyJ, 7, .inr (.inl m_then)))] sz) [(m0, .inr (11, [.int z0, .ref mwidth, .ref mmany, .ref mcells, .ref mmoved, .ref mtape, .int m_taped, .int m_at, .int m_token, .int m_place, .int m_value, .long m_word, .int m_bad, .int m_badPlace, .int m_fault, .int m_faultPlace, .ref mlines, .ref mhas, .ref mtold, .ref mlaw, .ref msuit, .ref mapart, .ref mact, .ref misKept, .ref mseen, .ref mhung, .int z1, .ref mgoal, .ref mleaps, .ref mqueue, .ref mrow, .int m_reached, .ref mwanted, .ref mfirst, .ref moften, .int m_fitMany, .int m_fitFirst, .int m_askBest, .int m_askLeaves, .int m_bestFirst, .int m_bestWays, .ref mlots, .ref mthen, .long z2])), (mhas, .inl (cyI, 20, .inl m_has)), (mtold, .inl (cyI, 35, .inl m_told)), (mlaw, .inl (cyI, 120, .inl m_law)), (mact, .inl (cyI, 400, .inl m_act)), (mhung, .inl (cyI, 7, .inl y3)), (mlines, .inl (cyI, 5, .inl m_lines)), (mlots, .inl (cyJ, 7, .inr (.inl y4))), (mthen, .inl (cyJ, 7, .inr (.inl y5)))]) (va_A [(m0, .inr (11, [.int m_thrown, .ref mwidth, .ref mmany, .ref mcells, .ref mmoved, .ref mtape, .int m_taped, .int m_at, .int m_token, .int m_place, .int m_value, .long m_word, .int m_bad, .int m_badPlace, .int m_fault, .int m_faultPlace, .ref mlines, .ref mhas, .ref mtold, .ref mlaw, .ref msuit, .ref mapart, .ref mact, .ref misKept, .ref mseen, .ref mhung, .int m_gone, .ref mgoal, .ref mleaps, .ref mqueue, .ref mrow, .int m_reached, .ref mwanted, .ref mfirst, .ref moften, .int m_fitMany, .int m_fitFirst, .int m_askBest, .int m_askLeaves, .int m_bestFirst, .int m_bestWays, .ref mlots, .ref mthen, .long m_lotsAll])), (mhas, .inl (cyI, 20, .inl m_has)), (mtold, .inl (cyI, 35, .inl m_told)), (mlaw, .inl (cyI, 120, .inl m_law)), (mact, .inl (cyI, 400, .inl m_act)), (mhung, .inl (cyI, 7, .inl m_hung)), (mlines, .inl (cyI, 5, .inl m_lines)), (mlots, .inl (cyJ, 7, .inr (.inl m_lots))), (mthen, .inl (cyJ, 7, .inr (.inl m_then)))] sz)) 0 0 (va_A [(m0, .inr (11, [.int m_thrown, .ref mwidth, .ref mmany, .ref mcells, .ref mmoved, .ref mtape, .int m_taped, .int m_at, .int m_token, .int m_place, .int m_value, .long m_word, .int m_bad, .int m_badPlace, .int m_fault, .int m_faultPlace, .ref mlines, .ref mhas, .ref mtold, .ref mlaw, .ref msuit, .ref mapart, .ref mact, .ref misKept, .ref mseen, .ref mhung, .int m_gone, .ref mgoal, .ref mleaps, .ref mqueue, .ref mrow, .int m_reached, .ref mwanted, .ref mfirst, .ref moften, .int m_fitMany, .int m_fitFirst, .int m_askBest, .int m_askLeaves, .int m_bestFirst, .int m_bestWays, .ref mlots, .ref mthen, .long m_lotsAll])), (mhas, .inl (cyI, 20, .inl m_has)), (mtold, .inl (cyI, 35, .inl m_told)), (mlaw, .inl (cyI, 120, .inl m_law)), (mact, .inl (cyI, 400, .inl m_act)), (mhung, .inl (cyI, 7, .inl m_hung)), (mlines, .inl (cyI, 5, .inl m_lines)), (mlots, .inl (cyJ, 7, .inr (.inl m_lots))), (mthen, .inl (cyJ, 7, .inr (.inl m_then)))] sz) := by
  refine Met.ofW (cc := cX12_likely) (maxL := 4) (ret := (some .int)) (by decide) rfl ?_
  intro p e s m args below meth c s₁ B hml hv
  obtain ⟨rfl, hsz, hP, hK, hD0⟩ := hv
  have hx := B.exec
  have hb := B.bytes
  have hr := B.returns
  have hts : ∀ w ∈ uU, w.before ([.ref m0, .int p0] : List Value).toArray s = true := fun w h => atoms_spec (ws := wk yX12_likely cX12_likely 4 (some .int)) B.pre w (List.mem_cons_of_mem _ h)
  have hown : s.vm.findClass RX12 = some m.cls := findClass_of_methodNamed B.named
  have hlocks := B.notSynchronized
  subst hsz
  have hD := hD0.self (sz := s.heap.size)
  generalize hAe : va_A [(m0, .inr (11, [.int m_thrown, .ref mwidth, .ref mmany, .ref mcells, .ref mmoved, .ref mtape, .int m_taped, .int m_at, .int m_token, .int m_place, .int m_value, .long m_word, .int m_bad, .int m_badPlace, .int m_fault, .int m_faultPlace, .ref mlines, .ref mhas, .ref mtold, .ref mlaw, .ref msuit, .ref mapart, .ref mact, .ref misKept, .ref mseen, .ref mhung, .int m_gone, .ref mgoal, .ref mleaps, .ref mqueue, .ref mrow, .int m_reached, .ref mwanted, .ref mfirst, .ref moften, .int m_fitMany, .int m_fitFirst, .int m_askBest, .int m_askLeaves, .int m_bestFirst, .int m_bestWays, .ref mlots, .ref mthen, .long m_lotsAll])), (mhas, .inl (cyI, 20, .inl m_has)), (mtold, .inl (cyI, 35, .inl m_told)), (mlaw, .inl (cyI, 120, .inl m_law)), (mact, .inl (cyI, 400, .inl m_act)), (mhung, .inl (cyI, 7, .inl m_hung)), (mlines, .inl (cyI, 5, .inl m_lines)), (mlots, .inl (cyJ, 7, .inr (.inl m_lots))), (mthen, .inl (cyJ, 7, .inr (.inl m_then)))] s.heap.size = A at hD ⊢
  have hA : ∀ q : Nat, s.heap.size ≤ q → A q := fun q h => by rw [← hAe]; exact Or.inr h
  have hS : va_S A s.heap s.heap [] := va_S.rf
  have hP : va_P (dC, dI) vwCl [(m0, .inr (11, [.int m_thrown, .ref mwidth, .ref mmany, .ref mcells, .ref mmoved, .ref mtape, .int m_taped, .int m_at, .int m_token, .int m_place, .int m_value, .long m_word, .int m_bad, .int m_badPlace, .int m_fault, .int m_faultPlace, .ref mlines, .ref mhas, .ref mtold, .ref mlaw, .ref msuit, .ref mapart, .ref mact, .ref misKept, .ref mseen, .ref mhung, .int m_gone, .ref mgoal, .ref mleaps, .ref mqueue, .ref mrow, .int m_reached, .ref mwanted, .ref mfirst, .ref moften, .int m_fitMany, .int m_fitFirst, .int m_askBest, .int m_askLeaves, .int m_bestFirst, .int m_bestWays, .ref mlots, .ref mthen, .long m_lotsAll])), (mhas, .inl (cyI, 20, .inl m_has)), (mtold, .inl (cyI, 35, .inl m_told)), (mlaw, .inl (cyI, 120, .inl m_law)), (mact, .inl (cyI, 400, .inl m_act)), (mhung, .inl (cyI, 7, .inl m_hung)), (mlines, .inl (cyI, 5, .inl m_lines)), (mlots, .inl (cyJ, 7, .inr (.inl m_lots))), (mthen, .inl (cyJ, 7, .inr (.inl m_then)))] s.heap := hP
  have hl := lv_entry ([.ref m0, .int p0]) (n := 4) (Nat.le_of_ble_eq_true rfl)
  rw [lg_entry_eq]
  generalize (lg_sl ([.ref m0, .int p0]) ++ List.replicate (4 - (lg_sl ([.ref m0, .int p0])).length) Slot.unset).toArray = ls at hl ⊢
  have hl : lv_has ls 4 [(0, .ref m0), (1, .int p0)] := hl
  obtain ⟨H, hHe⟩ : ∃ H, H = s.heap := ⟨_, rfl⟩
  have hP : va_P (dC, dI) vwCl [(m0, .inr (11, [.int m_thrown, .ref mwidth, .ref mmany, .ref mcells, .ref mmoved, .ref mtape, .int m_taped, .int m_at, .int m_token, .int m_place, .int m_value, .long m_word, .int m_bad, .int m_badPlace, .int m_fault, .int m_faultPlace, .ref mlines, .ref mhas, .ref mtold, .ref mlaw, .ref msuit, .ref mapart, .ref mact, .ref misKept, .ref mseen, .ref mhung, .int m_gone, .ref mgoal, .ref mleaps, .ref mqueue, .ref mrow, .int m_reached, .ref mwanted, .ref mfirst, .ref moften, .int m_fitMany, .int m_fitFirst, .int m_askBest, .int m_askLeaves, .int m_bestFirst, .int m_bestWays, .ref mlots, .ref mthen, .long m_lotsAll])), (mhas, .inl (cyI, 20, .inl m_has)), (mtold, .inl (cyI, 35, .inl m_told)), (mlaw, .inl (cyI, 120, .inl m_law)), (mact, .inl (cyI, 400, .inl m_act)), (mhung, .inl (cyI, 7, .inl m_hung)), (mlines, .inl (cyI, 5, .inl m_lines)), (mlots, .inl (cyJ, 7, .inr (.inl m_lots))), (mthen, .inl (cyJ, 7, .inr (.inl m_then)))] H := by rw [hHe]; exact hP
  have hS : va_S A s.heap H [] := by rw [hHe]; exact hS
  refine cv_heap hHe ?_
  obtain ⟨Q9, hQ9⟩ : ∃ Q9 : State → Prop, Q9 = MQ below (va_Qi (fun (r : Int32) (_ : Unit) => True) (fun (_ : Unit) (t : State) => ∃ z0 : Int32, ∃ z1 : Int32, ∃ z2 : Int64, ∃ y3 : Nat → Int32, ∃ y4 : Nat → Int64, ∃ y5 : Nat → Int64, (0 ≤ z0.toInt ∧ z0.toInt ≤ 0) ∧ (0 ≤ z1.toInt ∧ z1.toInt ≤ 40) ∧ (rg 0 6 7 y3) ∧ va_P (dC, dI) vwCl [(m0, .inr (11, [.int z0, .ref mwidth, .ref mmany, .ref mcells, .ref mmoved, .ref mtape, .int m_taped, .int m_at, .int m_token, .int m_place, .int m_value, .long m_word, .int m_bad, .int m_badPlace, .int m_fault, .int m_faultPlace, .ref mlines, .ref mhas, .ref mtold, .ref mlaw, .ref msuit, .ref mapart, .ref mact, .ref misKept, .ref mseen, .ref mhung, .int z1, .ref mgoal, .ref mleaps, .ref mqueue, .ref mrow, .int m_reached, .ref mwanted, .ref mfirst, .ref moften, .int m_fitMany, .int m_fitFirst, .int m_askBest, .int m_askLeaves, .int m_bestFirst, .int m_bestWays, .ref mlots, .ref mthen, .long z2])), (mhas, .inl (cyI, 20, .inl m_has)), (mtold, .inl (cyI, 35, .inl m_told)), (mlaw, .inl (cyI, 120, .inl m_law)), (mact, .inl (cyI, 400, .inl m_act)), (mhung, .inl (cyI, 7, .inl y3)), (mlines, .inl (cyI, 5, .inl m_lines)), (mlots, .inl (cyJ, 7, .inr (.inl y4))), (mthen, .inl (cyJ, 7, .inr (.inl y5)))] t.heap ∧ va_D A [(m0, .inr (11, [.int z0, .ref mwidth, .ref mmany, .ref mcells, .ref mmoved, .ref mtape, .int m_taped, .int m_at, .int m_token, .int m_place, .int m_value, .long m_word, .int m_bad, .int m_badPlace, .int m_fault, .int m_faultPlace, .ref mlines, .ref mhas, .ref mtold, .ref mlaw, .ref msuit, .ref mapart, .ref mact, .ref misKept, .ref mseen, .ref mhung, .int z1, .ref mgoal, .ref mleaps, .ref mqueue, .ref mrow, .int m_reached, .ref mwanted, .ref mfirst, .ref moften, .int m_fitMany, .int m_fitFirst, .int m_askBest, .int m_askLeaves, .int m_bestFirst, .int m_bestWays, .ref mlots, .ref mthen, .long z2])), (mhas, .inl (cyI, 20, .inl m_has)), (mtold, .inl (cyI, 35, .inl m_told)), (mlaw, .inl (cyI, 120, .inl m_law)), (mact, .inl (cyI, 400, .inl m_act)), (mhung, .inl (cyI, 7, .inl y3)), (mlines, .inl (cyI, 5, .inl m_lines)), (mlots, .inl (cyJ, 7, .inr (.inl y4))), (mthen, .inl (cyJ, 7, .inr (.inl y5)))]) A) ([.ref m0, .int p0] : List Value).toArray s 0 0 A := ⟨_, rfl⟩
  rw [← hQ9]
  refine lv_aload_n hx hb dX12_likely_0 rfl (lv_at hl 0 rfl) ?_
  refine lv_iconst (v := 0) hx hb dX12_likely_1 (by decide) ?_
  refine va_put (D := (dC, dI)) (ci := 11) (v := .int 0) (ty := .int) (C := RX12) (T := TX12) (N := 44) hx hb hts uinX12 tyX12 tyX12_ok nmX12 hown hK hP hD hS 0 rfl rfl 0 (by decide) (hts _ wd_6_37) (fun _ h9 => h9) rfl (by decide +kernel) rfl rfl (Nat.le_of_ble_eq_true rfl) dX12_likely_2 (fun H locs hP hD hS => ?_)
  have hP : va_P (dC, dI) vwCl [(m0, .inr (11, [.int 0, .ref mwidth, .ref mmany, .ref mcells, .ref mmoved, .ref mtape, .int m_taped, .int m_at, .int m_token, .int m_place, .int m_value, .long m_word, .int m_bad, .int m_badPlace, .int m_fault, .int m_faultPlace, .ref mlines, .ref mhas, .ref mtold, .ref mlaw, .ref msuit, .ref mapart, .ref mact, .ref misKept, .ref mseen, .ref mhung, .int m_gone, .ref mgoal, .ref mleaps, .ref mqueue, .ref mrow, .int m_reached, .ref mwanted, .ref mfirst, .ref moften, .int m_fitMany, .int m_fitFirst, .int m_askBest, .int m_askLeaves, .int m_bestFirst, .int m_bestWays, .ref mlots, .ref mthen, .long m_lotsAll])), (mhas, .inl (cyI, 20, .inl m_has)), (mtold, .inl (cyI, 35, .inl m_told)), (mlaw, .inl (cyI, 120, .inl m_law)), (mact, .inl (cyI, 400, .inl m_act)), (mhung, .inl (cyI, 7, .inl m_hung)), (mlines, .inl (cyI, 5, .inl m_lines)), (mlots, .inl (cyJ, 7, .inr (.inl m_lots))), (mthen, .inl (cyJ, 7, .inr (.inl m_then)))] H := hP
  have hD : va_D A [(m0, .inr (11, [.int 0, .ref mwidth, .ref mmany, .ref mcells, .ref mmoved, .ref mtape, .int m_taped, .int m_at, .int m_token, .int m_place, .int m_value, .long m_word, .int m_bad, .int m_badPlace, .int m_fault, .int m_faultPlace, .ref mlines, .ref mhas, .ref mtold, .ref mlaw, .ref msuit, .ref mapart, .ref mact, .ref misKept, .ref mseen, .ref mhung, .int m_gone, .ref mgoal, .ref mleaps, .ref mqueue, .ref mrow, .int m_reached, .ref mwanted, .ref mfirst, .ref moften, .int m_fitMany, .int m_fitFirst, .int m_askBest, .int m_askLeaves, .int m_bestFirst, .int m_bestWays, .ref mlots, .ref mthen, .long m_lotsAll])), (mhas, .inl (cyI, 20, .inl m_has)), (mtold, .inl (cyI, 35, .inl m_told)), (mlaw, .inl (cyI, 120, .inl m_law)), (mact, .inl (cyI, 400, .inl m_act)), (mhung, .inl (cyI, 7, .inl m_hung)), (mlines, .inl (cyI, 5, .inl m_lines)), (mlots, .inl (cyJ, 7, .inr (.inl m_lots))), (mthen, .inl (cyJ, 7, .inr (.inl m_then)))] := hD
  refine lv_aload_n hx hb dX12_likely_5 rfl (lv_at hl 0 rfl) ?_
  refine lv_iload_n hx hb dX12_likely_6 rfl (lv_at hl 1 rfl) ?_
  have hPc := hP.sub (ws' := [(m0, .inr (11, [.int 0, .ref mwidth, .ref mmany, .ref mcells, .ref mmoved, .ref mtape, .int m_taped, .int m_at, .int m_token, .int m_place, .int m_value, .long m_word, .int m_bad, .int m_badPlace, .int m_fault, .int m_faultPlace, .ref mlines, .ref mhas, .ref mtold, .ref mlaw, .ref msuit, .ref mapart, .ref mact, .ref misKept, .ref mseen, .ref mhung, .int m_gone, .ref mgoal, .ref mleaps, .ref mqueue, .ref mrow, .int m_reached, .ref mwanted, .ref mfirst, .ref moften, .int m_fitMany, .int m_fitFirst, .int m_askBest, .int m_askLeaves, .int m_bestFirst, .int m_bestWays, .ref mlots, .ref mthen, .long m_lotsAll])), (mhas, .inl (cyI, 20, .inl m_has)), (mlines, .inl (cyI, 5, .inl m_lines))]) [0, 1, 6] rfl
  have hKc := hK.sub (tys' := [(cyI, .int), (cyB, .byte), (cyJ, .long), (cyZ, .boolean), (cyH, .object RX2), (cyN, .array .long)]) [0, 1, 2, 3, 4, 5] rfl
  refine vp_callSi (va_Run.run (va_runV (As := [.int p0]) (rest := []) ⟨hx, hb, hml, hown, hts⟩ (m_isLots l dC dI cyI cyB cyJ cyZ cyH cyN m0 mwidth mmany mcells mmoved mtape mlines mhas mtold mlaw msuit mapart mact misKept mseen mhung mgoal mleaps mqueue mrow mwanted mfirst moften mlots mthen 0 m_taped m_at m_token m_place m_value m_word m_bad m_badPlace m_fault m_faultPlace m_gone m_reached m_fitMany m_fitFirst m_askBest m_askLeaves m_bestFirst m_bestWays m_lotsAll m_has m_lines p0 (by omega) (by omega) (by omega) g5 g6 g7 g11) (cwV 1 hts (gdV wd_8_160 wd_8_162 wd_s6_11 wd_1_11 wd_8_163) rfl rfl rfl (by decide +kernel) ⟨Nat.le_of_ble_eq_true rfl, Nat.le_of_ble_eq_true rfl⟩) ⟨fun a U g mk q => by obtain ⟨q0, qP, qK⟩ := q; exact ⟨q0, qP, va_K.moved (u := U) (U := U.calling g mk a) (Vm.Alike.refl U.vm) qK⟩, va_recv hKc hPc (ci := 11) (q0 := 0) rfl rfl, fun U hU hW => ⟨rfl, by rw [hU]; exact hPc, va_K.moved hW.alike hKc⟩⟩ rfl rfl hl.1 rfl (lv_room (Nat.le_of_ble_eq_true rfl)) dX12_likely_7 ⟨Nat.le_of_ble_eq_true rfl, Nat.le_of_ble_eq_true rfl⟩)) (fun r_1 hw => ?_)
  by_cases c_2 : (0 ≤ p0.toInt ∧ p0.toInt ≤ 12 ∧ 0 < (m_lines 0).toInt)
  · rw [if_pos c_2] at hw; subst hw; have c_2 : (0 ≤ p0.toInt ∧ p0.toInt ≤ 12 ∧ 0 < (m_lines 0).toInt) := c_2
    refine lv_if_ne (tgt := 16) hx hb dX12_likely_10 (by decide) (fun _ => ?_) (fun c_3 => absurd c_3 (by decide))
    refine lv_aload_n hx hb dX12_likely_16 rfl (lv_at hl 0 rfl) ?_
    refine lv_iload_n hx hb dX12_likely_17 rfl (lv_at hl 1 rfl) ?_
    have hPc := hP.sub (ws' := [(m0, .inr (11, [.int 0, .ref mwidth, .ref mmany, .ref mcells, .ref mmoved, .ref mtape, .int m_taped, .int m_at, .int m_token, .int m_place, .int m_value, .long m_word, .int m_bad, .int m_badPlace, .int m_fault, .int m_faultPlace, .ref mlines, .ref mhas, .ref mtold, .ref mlaw, .ref msuit, .ref mapart, .ref mact, .ref misKept, .ref mseen, .ref mhung, .int m_gone, .ref mgoal, .ref mleaps, .ref mqueue, .ref mrow, .int m_reached, .ref mwanted, .ref mfirst, .ref moften, .int m_fitMany, .int m_fitFirst, .int m_askBest, .int m_askLeaves, .int m_bestFirst, .int m_bestWays, .ref mlots, .ref mthen, .long m_lotsAll])), (mhas, .inl (cyI, 20, .inl m_has)), (mtold, .inl (cyI, 35, .inl m_told)), (mlaw, .inl (cyI, 120, .inl m_law)), (mact, .inl (cyI, 400, .inl m_act)), (mhung, .inl (cyI, 7, .inl m_hung)), (mlots, .inl (cyJ, 7, .inr (.inl m_lots))), (mthen, .inl (cyJ, 7, .inr (.inl m_then)))]) [0, 1, 2, 3, 4, 5, 7, 8] rfl
    have hKc := hK.sub (tys' := [(cyI, .int), (cyB, .byte), (cyJ, .long), (cyZ, .boolean), (cyH, .object RX2), (cyN, .array .long)]) [0, 1, 2, 3, 4, 5] rfl
    have hDc := hD.sub (ws' := [(m0, .inr (11, [.int 0, .ref mwidth, .ref mmany, .ref mcells, .ref mmoved, .ref mtape, .int m_taped, .int m_at, .int m_token, .int m_place, .int m_value, .long m_word, .int m_bad, .int m_badPlace, .int m_fault, .int m_faultPlace, .ref mlines, .ref mhas, .ref mtold, .ref mlaw, .ref msuit, .ref mapart, .ref mact, .ref misKept, .ref mseen, .ref mhung, .int m_gone, .ref mgoal, .ref mleaps, .ref mqueue, .ref mrow, .int m_reached, .ref mwanted, .ref mfirst, .ref moften, .int m_fitMany, .int m_fitFirst, .int m_askBest, .int m_askLeaves, .int m_bestFirst, .int m_bestWays, .ref mlots, .ref mthen, .long m_lotsAll])), (mhas, .inl (cyI, 20, .inl m_has)), (mtold, .inl (cyI, 35, .inl m_told)), (mlaw, .inl (cyI, 120, .inl m_law)), (mact, .inl (cyI, 400, .inl m_act)), (mhung, .inl (cyI, 7, .inl m_hung)), (mlots, .inl (cyJ, 7, .inr (.inl m_lots))), (mthen, .inl (cyJ, 7, .inr (.inl m_then)))]) [0, 1, 2, 3, 4, 5, 7, 8] (by decide) rfl
    have hFc := va_free (wc := [(m0, .inr (11, [.int 0, .ref mwidth, .ref mmany, .ref mcells, .ref mmoved, .ref mtape, .int m_taped, .int m_at, .int m_token, .int m_place, .int m_value, .long m_word, .int m_bad, .int m_badPlace, .int m_fault, .int m_faultPlace, .ref mlines, .ref mhas, .ref mtold, .ref mlaw, .ref msuit, .ref mapart, .ref mact, .ref misKept, .ref mseen, .ref mhung, .int m_gone, .ref mgoal, .ref mleaps, .ref mqueue, .ref mrow, .int m_reached, .ref mwanted, .ref mfirst, .ref moften, .int m_fitMany, .int m_fitFirst, .int m_askBest, .int m_askLeaves, .int m_bestFirst, .int m_bestWays, .ref mlots, .ref mthen, .long m_lotsAll])), (mhas, .inl (cyI, 20, .inl m_has)), (mtold, .inl (cyI, 35, .inl m_told)), (mlaw, .inl (cyI, 120, .inl m_law)), (mact, .inl (cyI, 400, .inl m_act)), (mhung, .inl (cyI, 7, .inl m_hung)), (mlots, .inl (cyJ, 7, .inr (.inl m_lots))), (mthen, .inl (cyJ, 7, .inr (.inl m_then)))]) hD hS hA [0, 1, 2, 3, 4, 5, 7, 8] rfl
    refine va_callv (va_runV (As := [.int p0]) (rest := []) ⟨hx, hb, hml, hown, hts⟩ (m_laysLots l dC dI cyI cyB cyJ cyZ cyH cyN H.size m0 mwidth mmany mcells mmoved mtape mlines mhas mtold mlaw msuit mapart mact misKept mseen mhung mgoal mleaps mqueue mrow mwanted mfirst moften mlots mthen 0 m_taped m_at m_token m_place m_value m_word m_bad m_badPlace m_fault m_faultPlace m_gone m_reached m_fitMany m_fitFirst m_askBest m_askLeaves m_bestFirst m_bestWays m_lotsAll m_has m_told m_law m_act m_hung m_lots m_then p0 g0 g1 (by omega) (by omega) (by omega) (by omega) g5 g6 g7 g8 g9 g10 (by omega)) (cwV 1 hts (gdV wd_8_169 wd_8_171 wd_s6_12 wd_1_11 wd_8_172) rfl rfl rfl (by decide +kernel) ⟨Nat.le_of_ble_eq_true rfl, Nat.le_of_ble_eq_true rfl⟩) ⟨fun a U g mk q => by obtain ⟨q0, q1, qP, qK, qD⟩ := q; exact ⟨q0, q1, qP, va_K.moved (u := U) (U := U.calling g mk a) (Vm.Alike.refl U.vm) qK, qD⟩, va_recv hKc hPc (ci := 11) (q0 := 0) rfl rfl, fun U hU hW => ⟨rfl, by rw [hU], by rw [hU]; exact hPc, va_K.moved hW.alike hKc, hDc.weaken (fun _ _ _ _ => trivial)⟩⟩ rfl rfl hl.1 rfl (lv_room (Nat.le_of_ble_eq_true rfl)) dX12_likely_18 ⟨Nat.le_of_ble_eq_true rfl, Nat.le_of_ble_eq_true rfl⟩) hS (fun q _ h => hFc q h) hFc (fun  u t H1 locs ht hvm hw hB hz1 hk1 hS => ?_)
    obtain ⟨z0_4, z1_5, y2_6, y3_7, y4_8, hp_9, hp_10, hp_11, hP1, hD1⟩ := hB
    rw [ht] at hP1
    obtain ⟨hP, hD⟩ := va_join (wr := [(mlines, .inl (cyI, 5, .inl m_lines))]) (w1 := [(m0, .inr (11, [.int 0, .ref mwidth, .ref mmany, .ref mcells, .ref mmoved, .ref mtape, .int m_taped, .int m_at, .int m_token, .int m_place, .int m_value, .long m_word, .int m_bad, .int m_badPlace, .int m_fault, .int m_faultPlace, .ref mlines, .ref mhas, .ref mtold, .ref mlaw, .ref msuit, .ref mapart, .ref mact, .ref misKept, .ref mseen, .ref mhung, .int z0_4, .ref mgoal, .ref mleaps, .ref mqueue, .ref mrow, .int m_reached, .ref mwanted, .ref mfirst, .ref moften, .int m_fitMany, .int m_fitFirst, .int m_askBest, .int m_askLeaves, .int m_bestFirst, .int m_bestWays, .ref mlots, .ref mthen, .long z1_5])), (mhas, .inl (cyI, 20, .inl m_has)), (mtold, .inl (cyI, 35, .inl m_told)), (mlaw, .inl (cyI, 120, .inl m_law)), (mact, .inl (cyI, 400, .inl m_act)), (mhung, .inl (cyI, 7, .inl y2_6)), (mlots, .inl (cyJ, 7, .inr (.inl y3_7))), (mthen, .inl (cyJ, 7, .inr (.inl y4_8)))]) hP hD [0, 1, 2, 3, 4, 5, 7, 8] [6] rfl rfl (by decide) (by decide) hk1 hFc hP1 hD1
    generalize H1 = H at hP hS ⊢
    have hP : va_P (dC, dI) vwCl [(mlines, .inl (cyI, 5, .inl m_lines)), (m0, .inr (11, [.int 0, .ref mwidth, .ref mmany, .ref mcells, .ref mmoved, .ref mtape, .int m_taped, .int m_at, .int m_token, .int m_place, .int m_value, .long m_word, .int m_bad, .int m_badPlace, .int m_fault, .int m_faultPlace, .ref mlines, .ref mhas, .ref mtold, .ref mlaw, .ref msuit, .ref mapart, .ref mact, .ref misKept, .ref mseen, .ref mhung, .int z0_4, .ref mgoal, .ref mleaps, .ref mqueue, .ref mrow, .int m_reached, .ref mwanted, .ref mfirst, .ref moften, .int m_fitMany, .int m_fitFirst, .int m_askBest, .int m_askLeaves, .int m_bestFirst, .int m_bestWays, .ref mlots, .ref mthen, .long z1_5])), (mhas, .inl (cyI, 20, .inl m_has)), (mtold, .inl (cyI, 35, .inl m_told)), (mlaw, .inl (cyI, 120, .inl m_law)), (mact, .inl (cyI, 400, .inl m_act)), (mhung, .inl (cyI, 7, .inl y2_6)), (mlots, .inl (cyJ, 7, .inr (.inl y3_7))), (mthen, .inl (cyJ, 7, .inr (.inl y4_8)))] H := hP
    have hD : va_D A [(mlines, .inl (cyI, 5, .inl m_lines)), (m0, .inr (11, [.int 0, .ref mwidth, .ref mmany, .ref mcells, .ref mmoved, .ref mtape, .int m_taped, .int m_at, .int m_token, .int m_place, .int m_value, .long m_word, .int m_bad, .int m_badPlace, .int m_fault, .int m_faultPlace, .ref mlines, .ref mhas, .ref mtold, .ref mlaw, .ref msuit, .ref mapart, .ref mact, .ref misKept, .ref mseen, .ref mhung, .int z0_4, .ref mgoal, .ref mleaps, .ref mqueue, .ref mrow, .int m_reached, .ref mwanted, .ref mfirst, .ref moften, .int m_fitMany, .int m_fitFirst, .int m_askBest, .int m_askLeaves, .int m_bestFirst, .int m_bestWays, .ref mlots, .ref mthen, .long z1_5])), (mhas, .inl (cyI, 20, .inl m_has)), (mtold, .inl (cyI, 35, .inl m_told)), (mlaw, .inl (cyI, 120, .inl m_law)), (mact, .inl (cyI, 400, .inl m_act)), (mhung, .inl (cyI, 7, .inl y2_6)), (mlots, .inl (cyJ, 7, .inr (.inl y3_7))), (mthen, .inl (cyJ, 7, .inr (.inl y4_8)))] := hD
    have hP := hP.sub (ws' := [(m0, .inr (11, [.int 0, .ref mwidth, .ref mmany, .ref mcells, .ref mmoved, .ref mtape, .int m_taped, .int m_at, .int m_token, .int m_place, .int m_value, .long m_word, .int m_bad, .int m_badPlace, .int m_fault, .int m_faultPlace, .ref mlines, .ref mhas, .ref mtold, .ref mlaw, .ref msuit, .ref mapart, .ref mact, .ref misKept, .ref mseen, .ref mhung, .int z0_4, .ref mgoal, .ref mleaps, .ref mqueue, .ref mrow, .int m_reached, .ref mwanted, .ref mfirst, .ref moften, .int m_fitMany, .int m_fitFirst, .int m_askBest, .int m_askLeaves, .int m_bestFirst, .int m_bestWays, .ref mlots, .ref mthen, .long z1_5])), (mhas, .inl (cyI, 20, .inl m_has)), (mtold, .inl (cyI, 35, .inl m_told)), (mlaw, .inl (cyI, 120, .inl m_law)), (mact, .inl (cyI, 400, .inl m_act)), (mhung, .inl (cyI, 7, .inl y2_6)), (mlines, .inl (cyI, 5, .inl m_lines)), (mlots, .inl (cyJ, 7, .inr (.inl y3_7))), (mthen, .inl (cyJ, 7, .inr (.inl y4_8)))]) [1, 2, 3, 4, 5, 6, 0, 7, 8] rfl
    have hD := hD.sub (ws' := [(m0, .inr (11, [.int 0, .ref mwidth, .ref mmany, .ref mcells, .ref mmoved, .ref mtape, .int m_taped, .int m_at, .int m_token, .int m_place, .int m_value, .long m_word, .int m_bad, .int m_badPlace, .int m_fault, .int m_faultPlace, .ref mlines, .ref mhas, .ref mtold, .ref mlaw, .ref msuit, .ref mapart, .ref mact, .ref misKept, .ref mseen, .ref mhung, .int z0_4, .ref mgoal, .ref mleaps, .ref mqueue, .ref mrow, .int m_reached, .ref mwanted, .ref mfirst, .ref moften, .int m_fitMany, .int m_fitFirst, .int m_askBest, .int m_askLeaves, .int m_bestFirst, .int m_bestWays, .ref mlots, .ref mthen, .long z1_5])), (mhas, .inl (cyI, 20, .inl m_has)), (mtold, .inl (cyI, 35, .inl m_told)), (mlaw, .inl (cyI, 120, .inl m_law)), (mact, .inl (cyI, 400, .inl m_act)), (mhung, .inl (cyI, 7, .inl y2_6)), (mlines, .inl (cyI, 5, .inl m_lines)), (mlots, .inl (cyJ, 7, .inr (.inl y3_7))), (mthen, .inl (cyJ, 7, .inr (.inl y4_8)))]) [1, 2, 3, 4, 5, 6, 0, 7, 8] (by decide) rfl
    refine lv_iconst (v := 0) hx hb dX12_likely_21 (by decide) ?_
    refine lv_istore_n (lv' := [(2, .int 0), (0, .ref m0), (1, .int p0)]) hx hb dX12_likely_22 rfl hl (by decide) rfl (fun ls hl => ?_)
    refine lv_iconst (v := 1) hx hb dX12_likely_23 (by decide) ?_
    refine lv_istore_n (lv' := [(3, .int 1), (2, .int 0), (0, .ref m0), (1, .int p0)]) hx hb dX12_likely_24 rfl hl (by decide) rfl (fun ls hl => ?_)
    have key_14 : ∀ (nkey_14 : Nat) (u_12 : Int32) (u_13 : Int32) (H : Heap) (locs : List Loc) (ls : Array Slot), (1 ≤ u_12.toInt ∧ u_12.toInt ≤ 7) → (0 ≤ u_13.toInt ∧ u_13.toInt ≤ 6) → va_P (dC, dI) vwCl [(m0, .inr (11, [.int 0, .ref mwidth, .ref mmany, .ref mcells, .ref mmoved, .ref mtape, .int m_taped, .int m_at, .int m_token, .int m_place, .int m_value, .long m_word, .int m_bad, .int m_badPlace, .int m_fault, .int m_faultPlace, .ref mlines, .ref mhas, .ref mtold, .ref mlaw, .ref msuit, .ref mapart, .ref mact, .ref misKept, .ref mseen, .ref mhung, .int z0_4, .ref mgoal, .ref mleaps, .ref mqueue, .ref mrow, .int m_reached, .ref mwanted, .ref mfirst, .ref moften, .int m_fitMany, .int m_fitFirst, .int m_askBest, .int m_askLeaves, .int m_bestFirst, .int m_bestWays, .ref mlots, .ref mthen, .long z1_5])), (mhas, .inl (cyI, 20, .inl m_has)), (mtold, .inl (cyI, 35, .inl m_told)), (mlaw, .inl (cyI, 120, .inl m_law)), (mact, .inl (cyI, 400, .inl m_act)), (mhung, .inl (cyI, 7, .inl y2_6)), (mlines, .inl (cyI, 5, .inl m_lines)), (mlots, .inl (cyJ, 7, .inr (.inl y3_7))), (mthen, .inl (cyJ, 7, .inr (.inl y4_8)))] H → va_D A [(m0, .inr (11, [.int 0, .ref mwidth, .ref mmany, .ref mcells, .ref mmoved, .ref mtape, .int m_taped, .int m_at, .int m_token, .int m_place, .int m_value, .long m_word, .int m_bad, .int m_badPlace, .int m_fault, .int m_faultPlace, .ref mlines, .ref mhas, .ref mtold, .ref mlaw, .ref msuit, .ref mapart, .ref mact, .ref misKept, .ref mseen, .ref mhung, .int z0_4, .ref mgoal, .ref mleaps, .ref mqueue, .ref mrow, .int m_reached, .ref mwanted, .ref mfirst, .ref moften, .int m_fitMany, .int m_fitFirst, .int m_askBest, .int m_askLeaves, .int m_bestFirst, .int m_bestWays, .ref mlots, .ref mthen, .long z1_5])), (mhas, .inl (cyI, 20, .inl m_has)), (mtold, .inl (cyI, 35, .inl m_told)), (mlaw, .inl (cyI, 120, .inl m_law)), (mact, .inl (cyI, 400, .inl m_act)), (mhung, .inl (cyI, 7, .inl y2_6)), (mlines, .inl (cyI, 5, .inl m_lines)), (mlots, .inl (cyJ, 7, .inr (.inl y3_7))), (mthen, .inl (cyJ, 7, .inr (.inl y4_8)))] → va_S A s.heap H locs → lv_has ls 4 [(3, .int u_12), (2, .int u_13), (0, .ref m0), (1, .int p0)] → ((m_has 0).toInt - u_12.toInt).toNat < nkey_14 → W p l e ({ frames := 5, cells := 0, slots := 0, locals := 152 }) s m ([.ref m0, .int p0] : List Value).toArray below meth c H locs 0 0 Q9 (F0 m 25 ls []) := by
      intro nkey_14
      induction nkey_14 with
      | zero => intro u_12 u_13 H locs ls hu_12 hu_13 hP hD hS hl hnkey_14; exact absurd hnkey_14 (Nat.not_lt_zero _)
      | succ nkey_14 ihkey_14 =>
        intro u_12 u_13 H locs ls hu_12 hu_13 hP hD hS hl hnkey_14
        refine lv_iload_n hx hb dX12_likely_25 rfl (lv_at hl 0 rfl) ?_
        refine lv_aload_n hx hb dX12_likely_26 rfl (lv_at hl 2 rfl) ?_
        have hPc := hP.sub (ws' := [(m0, .inr (11, [.int 0, .ref mwidth, .ref mmany, .ref mcells, .ref mmoved, .ref mtape, .int m_taped, .int m_at, .int m_token, .int m_place, .int m_value, .long m_word, .int m_bad, .int m_badPlace, .int m_fault, .int m_faultPlace, .ref mlines, .ref mhas, .ref mtold, .ref mlaw, .ref msuit, .ref mapart, .ref mact, .ref misKept, .ref mseen, .ref mhung, .int z0_4, .ref mgoal, .ref mleaps, .ref mqueue, .ref mrow, .int m_reached, .ref mwanted, .ref mfirst, .ref moften, .int m_fitMany, .int m_fitFirst, .int m_askBest, .int m_askLeaves, .int m_bestFirst, .int m_bestWays, .ref mlots, .ref mthen, .long z1_5])), (mhas, .inl (cyI, 20, .inl m_has))]) [0, 1] rfl
        have hKc := hK.sub (tys' := [(cyI, .int), (cyB, .byte), (cyJ, .long), (cyZ, .boolean), (cyH, .object RX2), (cyN, .array .long)]) [0, 1, 2, 3, 4, 5] rfl
        refine vp_callSi (va_Run.run (va_runV (As := []) (rest := [.int u_12]) ⟨hx, hb, hml, hown, hts⟩ (m_places l dC dI cyI cyB cyJ cyZ cyH cyN m0 mwidth mmany mcells mmoved mtape mlines mhas mtold mlaw msuit mapart mact misKept mseen mhung mgoal mleaps mqueue mrow mwanted mfirst moften mlots mthen 0 m_taped m_at m_token m_place m_value m_word m_bad m_badPlace m_fault m_faultPlace z0_4 m_reached m_fitMany m_fitFirst m_askBest m_askLeaves m_bestFirst m_bestWays z1_5 m_has (by omega) (by omega) (by omega) g5 g6 g7) (cwV 0 hts (gdV wd_7_86 wd_7_88 wd_s4_14 wd_1_11 wd_7_89) rfl rfl rfl (by decide +kernel) ⟨Nat.le_of_ble_eq_true rfl, Nat.le_of_ble_eq_true rfl⟩) ⟨fun a U g mk q => by obtain ⟨q0, qP, qK⟩ := q; exact ⟨q0, qP, va_K.moved (u := U) (U := U.calling g mk a) (Vm.Alike.refl U.vm) qK⟩, va_recv hKc hPc (ci := 11) (q0 := 0) rfl rfl, fun U hU hW => ⟨rfl, by rw [hU]; exact hPc, va_K.moved hW.alike hKc⟩⟩ rfl rfl hl.1 rfl (lv_room (Nat.le_of_ble_eq_true rfl)) dX12_likely_27 ⟨Nat.le_of_ble_eq_true rfl, Nat.le_of_ble_eq_true rfl⟩)) (fun r_15 hw => ?_)
        subst hw
        refine lv_icmp_ge (tgt := 57) hx hb dX12_likely_30 (by decide) (fun c_16 => ?_) (fun c_16 => ?_)
        · have c_16 : (m_has 0).toInt ≤ u_12.toInt := cv_le c_16
          refine lv_iload_n hx hb dX12_likely_57 rfl (lv_at hl 1 rfl) ?_
          rw [hQ9]
          have hP9 := hP.sub (ws' := [(m0, .inr (11, [.int 0, .ref mwidth, .ref mmany, .ref mcells, .ref mmoved, .ref mtape, .int m_taped, .int m_at, .int m_token, .int m_place, .int m_value, .long m_word, .int m_bad, .int m_badPlace, .int m_fault, .int m_faultPlace, .ref mlines, .ref mhas, .ref mtold, .ref mlaw, .ref msuit, .ref mapart, .ref mact, .ref misKept, .ref mseen, .ref mhung, .int z0_4, .ref mgoal, .ref mleaps, .ref mqueue, .ref mrow, .int m_reached, .ref mwanted, .ref mfirst, .ref moften, .int m_fitMany, .int m_fitFirst, .int m_askBest, .int m_askLeaves, .int m_bestFirst, .int m_bestWays, .ref mlots, .ref mthen, .long z1_5])), (mhas, .inl (cyI, 20, .inl m_has)), (mtold, .inl (cyI, 35, .inl m_told)), (mlaw, .inl (cyI, 120, .inl m_law)), (mact, .inl (cyI, 400, .inl m_act)), (mhung, .inl (cyI, 7, .inl y2_6)), (mlines, .inl (cyI, 5, .inl m_lines)), (mlots, .inl (cyJ, 7, .inr (.inl y3_7))), (mthen, .inl (cyJ, 7, .inr (.inl y4_8)))]) [0, 1, 2, 3, 4, 5, 6, 7, 8] rfl
          have hD9 := hD.sub (ws' := [(m0, .inr (11, [.int 0, .ref mwidth, .ref mmany, .ref mcells, .ref mmoved, .ref mtape, .int m_taped, .int m_at, .int m_token, .int m_place, .int m_value, .long m_word, .int m_bad, .int m_badPlace, .int m_fault, .int m_faultPlace, .ref mlines, .ref mhas, .ref mtold, .ref mlaw, .ref msuit, .ref mapart, .ref mact, .ref misKept, .ref mseen, .ref mhung, .int z0_4, .ref mgoal, .ref mleaps, .ref mqueue, .ref mrow, .int m_reached, .ref mwanted, .ref mfirst, .ref moften, .int m_fitMany, .int m_fitFirst, .int m_askBest, .int m_askLeaves, .int m_bestFirst, .int m_bestWays, .ref mlots, .ref mthen, .long z1_5])), (mhas, .inl (cyI, 20, .inl m_has)), (mtold, .inl (cyI, 35, .inl m_told)), (mlaw, .inl (cyI, 120, .inl m_law)), (mact, .inl (cyI, 400, .inl m_act)), (mhung, .inl (cyI, 7, .inl y2_6)), (mlines, .inl (cyI, 5, .inl m_lines)), (mlots, .inl (cyJ, 7, .inr (.inl y3_7))), (mthen, .inl (cyJ, 7, .inr (.inl y4_8)))]) [0, 1, 2, 3, 4, 5, 6, 7, 8] (by decide) rfl
          exact W.iret (v := u_13) hx hb hr (fun t ht hW => ⟨⟨u_13, (), rfl, trivial, ⟨0, z0_4, z1_5, y2_6, y3_7, y4_8, (by decide), (by omega), hp_10, by rw [ht]; exact hP9, hD9⟩⟩, hS.F ht⟩) hS.2.2 dX12_likely_58
        · have c_16 : u_12.toInt < (m_has 0).toInt := cv_nle c_16
          refine lv_aload_n hx hb dX12_likely_33 rfl (lv_at hl 2 rfl) ?_
          refine va_get (D := (dC, dI)) (ci := 11) (v := .ref mlots) (C := RX12) (T := TX12) (N := 44) hx hb hts uinX12 hown hK hP 0 rfl rfl 41 (by decide) (hts _ wd_6_78) (fun _ h9 => h9) rfl dX12_likely_34 ?_
          refine lv_iload_n hx hb dX12_likely_37 rfl (lv_at hl 0 rfl) ?_
          refine va_lald hx hb hK hP 7 2 rfl rfl (vp_in_iff.mpr (by omega)) dX12_likely_38 ?_
          refine lv_topl (fun x_17 ex_17 => ?_)
          refine lv_aload_n hx hb dX12_likely_39 rfl (lv_at hl 2 rfl) ?_
          refine va_get (D := (dC, dI)) (ci := 11) (v := .ref mlots) (C := RX12) (T := TX12) (N := 44) hx hb hts uinX12 hown hK hP 0 rfl rfl 41 (by decide) (hts _ wd_6_78) (fun _ h9 => h9) rfl dX12_likely_40 ?_
          refine lv_iload_n hx hb dX12_likely_43 rfl (lv_at hl 1 rfl) ?_
          refine va_lald hx hb hK hP 7 2 rfl rfl (vp_in_iff.mpr (by omega)) dX12_likely_44 ?_
          refine lv_topl (fun x_18 ex_18 => ?_)
          refine W.lcmp hx hb dX12_likely_45 ?_
          have join_20 : ∀ (u_19 : Int32) (H : Heap) (locs : List Loc) (ls : Array Slot), (0 ≤ u_19.toInt ∧ u_19.toInt ≤ 6) → va_P (dC, dI) vwCl [(m0, .inr (11, [.int 0, .ref mwidth, .ref mmany, .ref mcells, .ref mmoved, .ref mtape, .int m_taped, .int m_at, .int m_token, .int m_place, .int m_value, .long m_word, .int m_bad, .int m_badPlace, .int m_fault, .int m_faultPlace, .ref mlines, .ref mhas, .ref mtold, .ref mlaw, .ref msuit, .ref mapart, .ref mact, .ref misKept, .ref mseen, .ref mhung, .int z0_4, .ref mgoal, .ref mleaps, .ref mqueue, .ref mrow, .int m_reached, .ref mwanted, .ref mfirst, .ref moften, .int m_fitMany, .int m_fitFirst, .int m_askBest, .int m_askLeaves, .int m_bestFirst, .int m_bestWays, .ref mlots, .ref mthen, .long z1_5])), (mhas, .inl (cyI, 20, .inl m_has)), (mtold, .inl (cyI, 35, .inl m_told)), (mlaw, .inl (cyI, 120, .inl m_law)), (mact, .inl (cyI, 400, .inl m_act)), (mhung, .inl (cyI, 7, .inl y2_6)), (mlines, .inl (cyI, 5, .inl m_lines)), (mlots, .inl (cyJ, 7, .inr (.inl y3_7))), (mthen, .inl (cyJ, 7, .inr (.inl y4_8)))] H → va_D A [(m0, .inr (11, [.int 0, .ref mwidth, .ref mmany, .ref mcells, .ref mmoved, .ref mtape, .int m_taped, .int m_at, .int m_token, .int m_place, .int m_value, .long m_word, .int m_bad, .int m_badPlace, .int m_fault, .int m_faultPlace, .ref mlines, .ref mhas, .ref mtold, .ref mlaw, .ref msuit, .ref mapart, .ref mact, .ref misKept, .ref mseen, .ref mhung, .int z0_4, .ref mgoal, .ref mleaps, .ref mqueue, .ref mrow, .int m_reached, .ref mwanted, .ref mfirst, .ref moften, .int m_fitMany, .int m_fitFirst, .int m_askBest, .int m_askLeaves, .int m_bestFirst, .int m_bestWays, .ref mlots, .ref mthen, .long z1_5])), (mhas, .inl (cyI, 20, .inl m_has)), (mtold, .inl (cyI, 35, .inl m_told)), (mlaw, .inl (cyI, 120, .inl m_law)), (mact, .inl (cyI, 400, .inl m_act)), (mhung, .inl (cyI, 7, .inl y2_6)), (mlines, .inl (cyI, 5, .inl m_lines)), (mlots, .inl (cyJ, 7, .inr (.inl y3_7))), (mthen, .inl (cyJ, 7, .inr (.inl y4_8)))] → va_S A s.heap H locs → lv_has ls 4 [(3, .int u_12), (2, .int u_19), (0, .ref m0), (1, .int p0)] → W p l e ({ frames := 5, cells := 0, slots := 0, locals := 152 }) s m ([.ref m0, .int p0] : List Value).toArray below meth c H locs 0 0 Q9 (F0 m 51 ls []) := by
            intro u_19 H locs ls hu_19 hP hD hS hl
            obtain ⟨x_21, ex_21⟩ : ∃ y : Int32, y = u_12 + 1 := ⟨_, rfl⟩
            refine lv_iinc (v := x_21) (lv' := [(3, .int x_21), (2, .int u_19), (0, .ref m0), (1, .int p0)]) hx hb dX12_likely_51 hl (k := 0) rfl (by rw [ex_21]; rfl) (by decide) rfl (fun ls hl => ?_)
            have fx_21 : x_21.toInt = u_12.toInt + 1 := by rw [ex_21]; exact cv_addI (by have : (1 : Int32).toInt = 1 := rfl; omega) (by have : (1 : Int32).toInt = 1 := rfl; omega)
            refine lv_goto (tgt := 25) hx hb dX12_likely_54 (by decide) ?_
            exact ihkey_14 x_21 u_19 _ _ _ (by omega) (by omega) hP hD hS (lv_sub hl [0, 1, 2, 3] rfl) (by omega)
          refine lv_if_le (tgt := 51) hx hb dX12_likely_46 (by decide) (fun c_22 => ?_) (fun c_22 => ?_)
          · have c_22 : x_17.toInt ≤ x_18.toInt := cv_cle c_22
            exact join_20 u_13 _ _ _ (by omega) hP hD hS (lv_sub hl [0, 1, 2, 3] rfl)
          · have c_22 : x_18.toInt < x_17.toInt := cv_cnle c_22
            refine lv_iload_n hx hb dX12_likely_49 rfl (lv_at hl 0 rfl) ?_
            refine lv_istore_n (lv' := [(2, .int u_12), (3, .int u_12), (0, .ref m0), (1, .int p0)]) hx hb dX12_likely_50 rfl hl (by decide) rfl (fun ls hl => ?_)
            exact join_20 u_12 _ _ _ (by omega) hP hD hS (lv_sub hl [1, 0, 2, 3] rfl)
    exact key_14 _ 1 0 _ _ _ (by decide) (by decide) hP hD hS (lv_sub hl [0, 1, 2, 3] rfl) (Nat.lt_succ_self _)
  · rw [if_neg c_2] at hw; subst hw; have c_2 : ¬ (0 ≤ p0.toInt ∧ p0.toInt ≤ 12 ∧ 0 < (m_lines 0).toInt) := c_2
    refine lv_if_ne (tgt := 16) hx hb dX12_likely_10 (by decide) (fun c_23 => absurd c_23 (by decide)) (fun _ => ?_)
    refine lv_bipush (v := (-2)) hx hb dX12_likely_13 (by decide) ?_
    rw [hQ9]
    have hP9 := hP.sub (ws' := [(m0, .inr (11, [.int 0, .ref mwidth, .ref mmany, .ref mcells, .ref mmoved, .ref mtape, .int m_taped, .int m_at, .int m_token, .int m_place, .int m_value, .long m_word, .int m_bad, .int m_badPlace, .int m_fault, .int m_faultPlace, .ref mlines, .ref mhas, .ref mtold, .ref mlaw, .ref msuit, .ref mapart, .ref mact, .ref misKept, .ref mseen, .ref mhung, .int m_gone, .ref mgoal, .ref mleaps, .ref mqueue, .ref mrow, .int m_reached, .ref mwanted, .ref mfirst, .ref moften, .int m_fitMany, .int m_fitFirst, .int m_askBest, .int m_askLeaves, .int m_bestFirst, .int m_bestWays, .ref mlots, .ref mthen, .long m_lotsAll])), (mhas, .inl (cyI, 20, .inl m_has)), (mtold, .inl (cyI, 35, .inl m_told)), (mlaw, .inl (cyI, 120, .inl m_law)), (mact, .inl (cyI, 400, .inl m_act)), (mhung, .inl (cyI, 7, .inl m_hung)), (mlines, .inl (cyI, 5, .inl m_lines)), (mlots, .inl (cyJ, 7, .inr (.inl m_lots))), (mthen, .inl (cyJ, 7, .inr (.inl m_then)))]) [0, 1, 2, 3, 4, 5, 6, 7, 8] rfl
    have hD9 := hD.sub (ws' := [(m0, .inr (11, [.int 0, .ref mwidth, .ref mmany, .ref mcells, .ref mmoved, .ref mtape, .int m_taped, .int m_at, .int m_token, .int m_place, .int m_value, .long m_word, .int m_bad, .int m_badPlace, .int m_fault, .int m_faultPlace, .ref mlines, .ref mhas, .ref mtold, .ref mlaw, .ref msuit, .ref mapart, .ref mact, .ref misKept, .ref mseen, .ref mhung, .int m_gone, .ref mgoal, .ref mleaps, .ref mqueue, .ref mrow, .int m_reached, .ref mwanted, .ref mfirst, .ref moften, .int m_fitMany, .int m_fitFirst, .int m_askBest, .int m_askLeaves, .int m_bestFirst, .int m_bestWays, .ref mlots, .ref mthen, .long m_lotsAll])), (mhas, .inl (cyI, 20, .inl m_has)), (mtold, .inl (cyI, 35, .inl m_told)), (mlaw, .inl (cyI, 120, .inl m_law)), (mact, .inl (cyI, 400, .inl m_act)), (mhung, .inl (cyI, 7, .inl m_hung)), (mlines, .inl (cyI, 5, .inl m_lines)), (mlots, .inl (cyJ, 7, .inr (.inl m_lots))), (mthen, .inl (cyJ, 7, .inr (.inl m_then)))]) [0, 1, 2, 3, 4, 5, 6, 7, 8] (by decide) rfl
    exact W.iret (v := (-2)) hx hb hr (fun t ht hW => ⟨⟨(-2), (), rfl, trivial, ⟨0, m_gone, m_lotsAll, m_hung, m_lots, m_then, (by decide), (by omega), g1, by rw [ht]; exact hP9, hD9⟩⟩, hS.F ht⟩) hS.2.2 dX12_likely_15

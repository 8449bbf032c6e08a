/- X2_isNone -/
set_option maxHeartbeats 4000000 in
set_option maxRecDepth 100000 in
theorem n_isNone (l : Launch) (dC : Nat → ClassId) (dI : Nat → Nat → Nat) (cyI cyB cyJ cyZ cyH cyN : ClassId) (h0 a_first a_now a_lawPlace a_lawOther a_lawEach a_lawFrom a_foes a_suitTable a_acts : Nat) (a_pl a_li a_le a_lc a_ac a_ng : Int32) (a_f_first a_f_now a_f_lawPlace a_f_lawOther a_f_lawEach a_f_lawFrom a_f_foes a_f_suitTable a_f_acts : Nat → Int32) (g0 : rg 0 6 7 a_f_first) (g1 : rg 0 6 7 a_f_now) (g2 : rg 0 6 6 a_f_lawPlace) (g3 : rg 0 6 6 a_f_lawOther) (g4 : ra 40 a_f_acts) (g5 : 0 ≤ a_pl.toInt ∧ a_pl.toInt ≤ 7) (g6 : 0 ≤ a_lc.toInt ∧ a_lc.toInt ≤ 6) (g7 : 0 ≤ a_ac.toInt ∧ a_ac.toInt ≤ 40) : Met l yX2_isNone (wk yX2_isNone cX2_isNone 1 (some .boolean)) ({ frames := 1, cells := 0, slots := 0, locals := 60 }) (va_Pc [.ref h0] (fun U => va_P (dC, dI) vwCl [(h0, .inr (2, [.int a_pl, .int a_li, .int a_le, .int a_lc, .int a_ac, .int a_ng, .ref a_first, .ref a_now, .ref a_lawPlace, .ref a_lawOther, .ref a_lawEach, .ref a_lawFrom, .ref a_foes, .ref a_suitTable, .ref a_acts])), (a_first, .inl (cyI, 7, .inl a_f_first)), (a_now, .inl (cyI, 7, .inl a_f_now)), (a_lawPlace, .inl (cyI, 6, .inl a_f_lawPlace)), (a_lawOther, .inl (cyI, 6, .inl a_f_lawOther)), (a_lawEach, .inl (cyI, 6, .inl a_f_lawEach)), (a_lawFrom, .inl (cyI, 6, .inl a_f_lawFrom)), (a_foes, .inl (cyI, 7, .inl a_f_foes)), (a_suitTable, .inl (cyI, 49, .inl a_f_suitTable)), (a_acts, .inl (cyI, 40, .inl a_f_acts))] U.heap ∧ va_K (dC, dI) vwCl [(cyI, .int), (cyB, .byte), (cyJ, .long), (cyZ, .boolean), (cyH, .object RX2), (cyN, .array .long)] U)) (vp_Si (fun r : Int32 => r = (if a_pl.toInt = 0 then 1 else 0))) 0 0 (fun _ => False) := by
  refine Met.ofW (cc := cX2_isNone) (maxL := 1) (ret := (some .boolean)) (by decide) rfl ?_
  intro p e s m args below meth c s₁ B hml hv
  obtain ⟨rfl, hP, hK⟩ := hv
  have hx := B.exec
  have hb := B.bytes
  have hr := B.returns
  have hts : ∀ w ∈ uU, w.before ([.ref h0] : List Value).toArray s = true := fun w h => atoms_spec (ws := wk yX2_isNone cX2_isNone 1 (some .boolean)) B.pre w (List.mem_cons_of_mem _ h)
  have hown : s.vm.findClass RX2 = some m.cls := findClass_of_methodNamed B.named
  have hlocks := B.notSynchronized
  have hl := lv_entry ([.ref h0]) (n := 1) (Nat.le_of_ble_eq_true rfl)
  rw [lg_entry_eq]
  generalize (lg_sl ([.ref h0]) ++ List.replicate (1 - (lg_sl ([.ref h0])).length) Slot.unset).toArray = ls at hl ⊢
  have hl : lv_has ls 1 [(0, .ref h0)] := hl
  obtain ⟨Q9, hQ9⟩ : ∃ Q9 : State → Prop, Q9 = MQ below (vp_Si (fun r : Int32 => r = (if a_pl.toInt = 0 then 1 else 0))) ([.ref h0] : List Value).toArray s 0 0 (fun _ => False) := ⟨_, rfl⟩
  rw [← hQ9]
  refine lv_aload_n hx hb dX2_isNone_0 rfl (lv_at hl 0 rfl) ?_
  refine va_get (D := (dC, dI)) (ci := 2) (v := .int a_pl) (C := RX2) (T := TX2) (N := 15) hx hb hts uinX2 hown hK hP 0 rfl rfl 0 (by decide) (hts _ wd_1_77) (fun _ h9 => h9) rfl dX2_isNone_1 ?_
  refine lv_if_ne (tgt := 11) hx hb dX2_isNone_4 (by decide) (fun c_1 => ?_) (fun c_1 => ?_)
  · have c_1 : a_pl.toInt ≠ 0 := cv_ne c_1
    refine lv_iconst (v := 0) hx hb dX2_isNone_11 (by decide) ?_
    rw [hQ9]
    exact W.zret (v := 0) (ty := .boolean) hx hb hr rfl (fun t ht hW => ⟨0, rfl, (by first | (rw [if_pos (by omega)]; done) | (rw [if_neg (by omega)]; done) | (rw [if_neg (by omega), if_pos (by omega)]; done) | (rw [if_neg (by omega), if_neg (by omega)]; done)), ht⟩) (fun q h => by cases h) dX2_isNone_12
  · have c_1 : a_pl.toInt = 0 := cv_eq c_1
    refine lv_iconst (v := 1) hx hb dX2_isNone_7 (by decide) ?_
    refine lv_goto (tgt := 12) hx hb dX2_isNone_8 (by decide) ?_
    rw [hQ9]
    exact W.zret (v := 1) (ty := .boolean) hx hb hr rfl (fun t ht hW => ⟨1, rfl, (by first | (rw [if_pos (by omega)]; done) | (rw [if_neg (by omega)]; done) | (rw [if_neg (by omega), if_pos (by omega)]; done) | (rw [if_neg (by omega), if_neg (by omega)]; done)), ht⟩) (fun q h => by cases h) dX2_isNone_12

/- X2_holds -/
set_option maxHeartbeats 4000000 in
set_option maxRecDepth 100000 in
theorem n_holds (l : Launch) (dC : Nat → ClassId) (dI : Nat → Nat → Nat) (cyI cyB cyJ cyZ cyH cyN : ClassId) (h0 a_first a_now a_lawPlace a_lawOther a_lawEach a_lawFrom a_foes a_suitTable a_acts : Nat) (a_pl a_li a_le a_lc a_ac a_ng : Int32) (a_f_first a_f_now a_f_lawPlace a_f_lawOther a_f_lawEach a_f_lawFrom a_f_foes a_f_suitTable a_f_acts : Nat → Int32) (p0 : Int32) (g0 : rg 0 6 7 a_f_first) (g1 : rg 0 6 7 a_f_now) (g2 : rg 0 6 6 a_f_lawPlace) (g3 : rg 0 6 6 a_f_lawOther) (g4 : ra 40 a_f_acts) (g5 : 0 ≤ a_pl.toInt ∧ a_pl.toInt ≤ 7) (g6 : 0 ≤ a_lc.toInt ∧ a_lc.toInt ≤ 6) (g7 : 0 ≤ a_ac.toInt ∧ a_ac.toInt ≤ 40) : Met l yX2_holds (wk yX2_holds cX2_holds 2 (some .boolean)) ({ frames := 1, cells := 0, slots := 0, locals := 60 }) (va_Pc [.ref h0, .int p0] (fun U => va_P (dC, dI) vwCl [(h0, .inr (2, [.int a_pl, .int a_li, .int a_le, .int a_lc, .int a_ac, .int a_ng, .ref a_first, .ref a_now, .ref a_lawPlace, .ref a_lawOther, .ref a_lawEach, .ref a_lawFrom, .ref a_foes, .ref a_suitTable, .ref a_acts])), (a_first, .inl (cyI, 7, .inl a_f_first)), (a_now, .inl (cyI, 7, .inl a_f_now)), (a_lawPlace, .inl (cyI, 6, .inl a_f_lawPlace)), (a_lawOther, .inl (cyI, 6, .inl a_f_lawOther)), (a_lawEach, .inl (cyI, 6, .inl a_f_lawEach)), (a_lawFrom, .inl (cyI, 6, .inl a_f_lawFrom)), (a_foes, .inl (cyI, 7, .inl a_f_foes)), (a_suitTable, .inl (cyI, 49, .inl a_f_suitTable)), (a_acts, .inl (cyI, 40, .inl a_f_acts))] U.heap ∧ va_K (dC, dI) vwCl [(cyI, .int), (cyB, .byte), (cyJ, .long), (cyZ, .boolean), (cyH, .object RX2), (cyN, .array .long)] U)) (vp_Si (fun r : Int32 => r = (if (0 ≤ p0.toInt ∧ p0.toInt < a_pl.toInt) then 1 else 0))) 0 0 (fun _ => False) := by
  refine Met.ofW (cc := cX2_holds) (maxL := 2) (ret := (some .boolean)) (by decide) rfl ?_
  intro p e s m args below meth c s₁ B hml hv
  obtain ⟨rfl, hP, hK⟩ := hv
  have hx := B.exec
  have hb := B.bytes
  have hr := B.returns
  have hts : ∀ w ∈ uU, w.before ([.ref h0, .int p0] : List Value).toArray s = true := fun w h => atoms_spec (ws := wk yX2_holds cX2_holds 2 (some .boolean)) B.pre w (List.mem_cons_of_mem _ h)
  have hown : s.vm.findClass RX2 = some m.cls := findClass_of_methodNamed B.named
  have hlocks := B.notSynchronized
  have hl := lv_entry ([.ref h0, .int p0]) (n := 2) (Nat.le_of_ble_eq_true rfl)
  rw [lg_entry_eq]
  generalize (lg_sl ([.ref h0, .int p0]) ++ List.replicate (2 - (lg_sl ([.ref h0, .int p0])).length) Slot.unset).toArray = ls at hl ⊢
  have hl : lv_has ls 2 [(0, .ref h0), (1, .int p0)] := hl
  obtain ⟨Q9, hQ9⟩ : ∃ Q9 : State → Prop, Q9 = MQ below (vp_Si (fun r : Int32 => r = (if (0 ≤ p0.toInt ∧ p0.toInt < a_pl.toInt) then 1 else 0))) ([.ref h0, .int p0] : List Value).toArray s 0 0 (fun _ => False) := ⟨_, rfl⟩
  rw [← hQ9]
  refine lv_iload_n hx hb dX2_holds_0 rfl (lv_at hl 1 rfl) ?_
  refine lv_if_lt (tgt := 25) hx hb dX2_holds_1 (by decide) (fun c_1 => ?_) (fun c_1 => ?_)
  · have c_1 : p0.toInt < 0 := cv_lt c_1
    refine lv_iconst (v := 0) hx hb dX2_holds_25 (by decide) ?_
    rw [hQ9]
    exact W.zret (v := 0) (ty := .boolean) hx hb hr rfl (fun t ht hW => ⟨0, rfl, (by first | (rw [if_pos (by omega)]; done) | (rw [if_neg (by omega)]; done) | (rw [if_neg (by omega), if_pos (by omega)]; done) | (rw [if_neg (by omega), if_neg (by omega)]; done)), ht⟩) (fun q h => by cases h) dX2_holds_26
  · have c_1 : 0 ≤ p0.toInt := cv_nlt c_1
    refine lv_iload_n hx hb dX2_holds_4 rfl (lv_at hl 1 rfl) ?_
    refine lv_aload_n hx hb dX2_holds_5 rfl (lv_at hl 0 rfl) ?_
    refine va_get (D := (dC, dI)) (ci := 2) (v := .int a_pl) (C := RX2) (T := TX2) (N := 15) hx hb hts uinX2 hown hK hP 0 rfl rfl 0 (by decide) (hts _ wd_1_77) (fun _ h9 => h9) rfl dX2_holds_6 ?_
    refine lv_icmp_ge (tgt := 25) hx hb dX2_holds_9 (by decide) (fun c_2 => ?_) (fun c_2 => ?_)
    · have c_2 : a_pl.toInt ≤ p0.toInt := cv_le c_2
      refine lv_iconst (v := 0) hx hb dX2_holds_25 (by decide) ?_
      rw [hQ9]
      exact W.zret (v := 0) (ty := .boolean) hx hb hr rfl (fun t ht hW => ⟨0, rfl, (by first | (rw [if_pos (by omega)]; done) | (rw [if_neg (by omega)]; done) | (rw [if_neg (by omega), if_pos (by omega)]; done) | (rw [if_neg (by omega), if_neg (by omega)]; done)), ht⟩) (fun q h => by cases h) dX2_holds_26
    · have c_2 : p0.toInt < a_pl.toInt := cv_nle c_2
      refine lv_aload_n hx hb dX2_holds_12 rfl (lv_at hl 0 rfl) ?_
      refine va_get (D := (dC, dI)) (ci := 2) (v := .int a_pl) (C := RX2) (T := TX2) (N := 15) hx hb hts uinX2 hown hK hP 0 rfl rfl 0 (by decide) (hts _ wd_1_77) (fun _ h9 => h9) rfl dX2_holds_13 ?_
      refine lv_bipush (v := 7) hx hb dX2_holds_16 (by decide) ?_
      refine lv_icmp_gt (tgt := 25) hx hb dX2_holds_18 (by decide) (fun c_3 => absurd (show 7 < a_pl.toInt from cv_lt c_3) (by omega)) (fun _ => ?_)
      refine lv_iconst (v := 1) hx hb dX2_holds_21 (by decide) ?_
      refine lv_goto (tgt := 26) hx hb dX2_holds_22 (by decide) ?_
      rw [hQ9]
      exact W.zret (v := 1) (ty := .boolean) hx hb hr rfl (fun t ht hW => ⟨1, rfl, (by first | (rw [if_pos (by omega)]; done) | (rw [if_neg (by omega)]; done) | (rw [if_neg (by omega), if_pos (by omega)]; done) | (rw [if_neg (by omega), if_neg (by omega)]; done)), ht⟩) (fun q h => by cases h) dX2_holds_26

/- X2_blank -/
set_option maxHeartbeats 4000000 in
set_option maxRecDepth 100000 in
theorem n_blank (l : Launch) (dC : Nat → ClassId) (dI : Nat → Nat → Nat) (cyI cyB cyJ cyZ cyH cyN : ClassId) (h0 a_first a_now a_lawPlace a_lawOther a_lawEach a_lawFrom a_foes a_suitTable a_acts : Nat) (a_pl a_li a_le a_lc a_ac a_ng : Int32) (a_f_first a_f_now a_f_lawPlace a_f_lawOther a_f_lawEach a_f_lawFrom a_f_foes a_f_suitTable a_f_acts : Nat → Int32) (g0 : rg 0 6 7 a_f_first) (g1 : rg 0 6 7 a_f_now) (g2 : rg 0 6 6 a_f_lawPlace) (g3 : rg 0 6 6 a_f_lawOther) (g4 : ra 40 a_f_acts) (g5 : 0 ≤ a_pl.toInt ∧ a_pl.toInt ≤ 7) (g6 : 0 ≤ a_lc.toInt ∧ a_lc.toInt ≤ 6) (g7 : 0 ≤ a_ac.toInt ∧ a_ac.toInt ≤ 40) : Met l yX2_blank (wk yX2_blank cX2_blank 1 (some .int)) ({ frames := 1, cells := 0, slots := 0, locals := 60 }) (va_Pc [.ref h0] (fun U => va_P (dC, dI) vwCl [(h0, .inr (2, [.int a_pl, .int a_li, .int a_le, .int a_lc, .int a_ac, .int a_ng, .ref a_first, .ref a_now, .ref a_lawPlace, .ref a_lawOther, .ref a_lawEach, .ref a_lawFrom, .ref a_foes, .ref a_suitTable, .ref a_acts])), (a_first, .inl (cyI, 7, .inl a_f_first)), (a_now, .inl (cyI, 7, .inl a_f_now)), (a_lawPlace, .inl (cyI, 6, .inl a_f_lawPlace)), (a_lawOther, .inl (cyI, 6, .inl a_f_lawOther)), (a_lawEach, .inl (cyI, 6, .inl a_f_lawEach)), (a_lawFrom, .inl (cyI, 6, .inl a_f_lawFrom)), (a_foes, .inl (cyI, 7, .inl a_f_foes)), (a_suitTable, .inl (cyI, 49, .inl a_f_suitTable)), (a_acts, .inl (cyI, 40, .inl a_f_acts))] U.heap ∧ va_K (dC, dI) vwCl [(cyI, .int), (cyB, .byte), (cyJ, .long), (cyZ, .boolean), (cyH, .object RX2), (cyN, .array .long)] U)) (vp_Si (fun r : Int32 => (-1) ≤ r.toInt ∧ r.toInt ≤ 6)) 0 0 (fun _ => False) := by
  refine Met.ofW (cc := cX2_blank) (maxL := 1) (ret := (some .int)) (by decide) rfl ?_
  intro p e s m args below meth c s₁ B hml hv
  obtain ⟨rfl, hP, hK⟩ := hv
  have hx := B.exec
  have hb := B.bytes
  have hr := B.returns
  have hts : ∀ w ∈ uU, w.before ([.ref h0] : List Value).toArray s = true := fun w h => atoms_spec (ws := wk yX2_blank cX2_blank 1 (some .int)) B.pre w (List.mem_cons_of_mem _ h)
  have hown : s.vm.findClass RX2 = some m.cls := findClass_of_methodNamed B.named
  have hlocks := B.notSynchronized
  have hl := lv_entry ([.ref h0]) (n := 1) (Nat.le_of_ble_eq_true rfl)
  rw [lg_entry_eq]
  generalize (lg_sl ([.ref h0]) ++ List.replicate (1 - (lg_sl ([.ref h0])).length) Slot.unset).toArray = ls at hl ⊢
  have hl : lv_has ls 1 [(0, .ref h0)] := hl
  obtain ⟨Q9, hQ9⟩ : ∃ Q9 : State → Prop, Q9 = MQ below (vp_Si (fun r : Int32 => (-1) ≤ r.toInt ∧ r.toInt ≤ 6)) ([.ref h0] : List Value).toArray s 0 0 (fun _ => False) := ⟨_, rfl⟩
  rw [← hQ9]
  refine lv_aload_n hx hb dX2_blank_0 rfl (lv_at hl 0 rfl) ?_
  refine va_get (D := (dC, dI)) (ci := 2) (v := .int a_pl) (C := RX2) (T := TX2) (N := 15) hx hb hts uinX2 hown hK hP 0 rfl rfl 0 (by decide) (hts _ wd_1_77) (fun _ h9 => h9) rfl dX2_blank_1 ?_
  refine lv_iconst (v := 1) hx hb dX2_blank_4 (by decide) ?_
  refine lv_isub hx hb dX2_blank_5 ?_
  refine lv_topi (fun x_1 ex_1 => ?_)
  have fx_1 : x_1.toInt = a_pl.toInt - 1 := by rw [ex_1]; exact cv_subI (by have : (1 : Int32).toInt = 1 := rfl; omega) (by have : (1 : Int32).toInt = 1 := rfl; omega)
  rw [hQ9]
  exact W.iret (v := x_1) hx hb hr (fun t ht hW => ⟨x_1, rfl, (by omega), ht⟩) (fun q h => by cases h) dX2_blank_6

/- X2_placeOf -/
set_option maxHeartbeats 4000000 in
set_option maxRecDepth 100000 in
theorem n_placeOf (l : Launch) (dC : Nat → ClassId) (dI : Nat → Nat → Nat) (cyI cyB cyJ cyZ cyH cyN : ClassId) (h0 a_first a_now a_lawPlace a_lawOther a_lawEach a_lawFrom a_foes a_suitTable a_acts : Nat) (a_pl a_li a_le a_lc a_ac a_ng : Int32) (a_f_first a_f_now a_f_lawPlace a_f_lawOther a_f_lawEach a_f_lawFrom a_f_foes a_f_suitTable a_f_acts : Nat → Int32) (p0 : Int32) (g0 : rg 0 6 7 a_f_first) (g1 : rg 0 6 7 a_f_now) (g2 : rg 0 6 6 a_f_lawPlace) (g3 : rg 0 6 6 a_f_lawOther) (g4 : ra 40 a_f_acts) (g5 : 0 ≤ a_pl.toInt ∧ a_pl.toInt ≤ 7) (g6 : 0 ≤ a_lc.toInt ∧ a_lc.toInt ≤ 6) (g7 : 0 ≤ a_ac.toInt ∧ a_ac.toInt ≤ 40) : Met l yX2_placeOf (wk yX2_placeOf cX2_placeOf 2 (some .int)) ({ frames := 2, cells := 0, slots := 0, locals := 83 }) (va_Pc [.ref h0, .int p0] (fun U => va_P (dC, dI) vwCl [(h0, .inr (2, [.int a_pl, .int a_li, .int a_le, .int a_lc, .int a_ac, .int a_ng, .ref a_first, .ref a_now, .ref a_lawPlace, .ref a_lawOther, .ref a_lawEach, .ref a_lawFrom, .ref a_foes, .ref a_suitTable, .ref a_acts])), (a_first, .inl (cyI, 7, .inl a_f_first)), (a_now, .inl (cyI, 7, .inl a_f_now)), (a_lawPlace, .inl (cyI, 6, .inl a_f_lawPlace)), (a_lawOther, .inl (cyI, 6, .inl a_f_lawOther)), (a_lawEach, .inl (cyI, 6, .inl a_f_lawEach)), (a_lawFrom, .inl (cyI, 6, .inl a_f_lawFrom)), (a_foes, .inl (cyI, 7, .inl a_f_foes)), (a_suitTable, .inl (cyI, 49, .inl a_f_suitTable)), (a_acts, .inl (cyI, 40, .inl a_f_acts))] U.heap ∧ va_K (dC, dI) vwCl [(cyI, .int), (cyB, .byte), (cyJ, .long), (cyZ, .boolean), (cyH, .object RX2), (cyN, .array .long)] U)) (vp_Si (fun r : Int32 => (-1) ≤ r.toInt ∧ r.toInt ≤ 6)) 0 0 (fun _ => False) := by
  refine Met.ofW (cc := cX2_placeOf) (maxL := 2) (ret := (some .int)) (by decide) rfl ?_
  intro p e s m args below meth c s₁ B hml hv
  obtain ⟨rfl, hP, hK⟩ := hv
  have hx := B.exec
  have hb := B.bytes
  have hr := B.returns
  have hts : ∀ w ∈ uU, w.before ([.ref h0, .int p0] : List Value).toArray s = true := fun w h => atoms_spec (ws := wk yX2_placeOf cX2_placeOf 2 (some .int)) B.pre w (List.mem_cons_of_mem _ h)
  have hown : s.vm.findClass RX2 = some m.cls := findClass_of_methodNamed B.named
  have hlocks := B.notSynchronized
  have hl := lv_entry ([.ref h0, .int p0]) (n := 2) (Nat.le_of_ble_eq_true rfl)
  rw [lg_entry_eq]
  generalize (lg_sl ([.ref h0, .int p0]) ++ List.replicate (2 - (lg_sl ([.ref h0, .int p0])).length) Slot.unset).toArray = ls at hl ⊢
  have hl : lv_has ls 2 [(0, .ref h0), (1, .int p0)] := hl
  obtain ⟨Q9, hQ9⟩ : ∃ Q9 : State → Prop, Q9 = MQ below (vp_Si (fun r : Int32 => (-1) ≤ r.toInt ∧ r.toInt ≤ 6)) ([.ref h0, .int p0] : List Value).toArray s 0 0 (fun _ => False) := ⟨_, rfl⟩
  rw [← hQ9]
  refine lv_aload_n hx hb dX2_placeOf_0 rfl (lv_at hl 0 rfl) ?_
  refine va_get (D := (dC, dI)) (ci := 2) (v := .ref a_now) (C := RX2) (T := TX2) (N := 15) hx hb hts uinX2 hown hK hP 0 rfl rfl 7 (by decide) (hts _ wd_1_102) (fun _ h9 => h9) rfl dX2_placeOf_1 ?_
  refine lv_aload_n hx hb dX2_placeOf_4 rfl (lv_at hl 0 rfl) ?_
  refine va_get (D := (dC, dI)) (ci := 2) (v := .int a_pl) (C := RX2) (T := TX2) (N := 15) hx hb hts uinX2 hown hK hP 0 rfl rfl 0 (by decide) (hts _ wd_1_77) (fun _ h9 => h9) rfl dX2_placeOf_5 ?_
  refine lv_iload_n hx hb dX2_placeOf_8 rfl (lv_at hl 1 rfl) ?_
  have hPc := hP.sub (ws' := [(a_now, .inl (cyI, 7, .inl a_f_now))]) [2] rfl
  have hKc := hK.sub (tys' := [(cyI, .int), (cyB, .byte), (cyJ, .long), (cyZ, .boolean), (cyH, .object RX2), (cyN, .array .long)]) [0, 1, 2, 3, 4, 5] rfl
  refine vp_callSi (va_Run.run (va_runS (As := [.ref a_now, .int a_pl, .int p0]) (rest := []) ⟨hx, hb, hml, hown, hts⟩ (n_placeIn l dC dI cyI cyB cyJ cyZ cyH cyN a_now a_f_now a_pl p0 (by omega)) (va_cwS 3 hts (gdS wd_3_80 wd_3_81 wd_1_19 wd_3_82) rfl rfl rfl (by decide +kernel) ⟨Nat.le_of_ble_eq_true rfl, Nat.le_of_ble_eq_true rfl⟩) ⟨fun a U g mk q => by obtain ⟨q0, qP, qK⟩ := q; exact ⟨q0, qP, va_K.moved (u := U) (U := U.calling g mk a) (Vm.Alike.refl U.vm) qK⟩, fun U hU hW => ⟨rfl, by rw [hU]; exact hPc, va_K.moved hW.alike hKc⟩⟩ rfl rfl hl.1 rfl (lv_room (Nat.le_of_ble_eq_true rfl)) dX2_placeOf_9 ⟨Nat.le_of_ble_eq_true rfl, Nat.le_of_ble_eq_true rfl⟩)) (fun r_1 hw => ?_)
  have hrr_1 := hw
  rw [hQ9]
  exact W.iret (v := r_1) hx hb hr (fun t ht hW => ⟨r_1, rfl, (by omega), ht⟩) (fun q h => by cases h) dX2_placeOf_12

/- X2_suitOf -/
set_option maxHeartbeats 4000000 in
set_option maxRecDepth 100000 in
theorem n_suitOf (l : Launch) (dC : Nat → ClassId) (dI : Nat → Nat → Nat) (cyI cyB cyJ cyZ cyH cyN : ClassId) (h0 a_first a_now a_lawPlace a_lawOther a_lawEach a_lawFrom a_foes a_suitTable a_acts : Nat) (a_pl a_li a_le a_lc a_ac a_ng : Int32) (a_f_first a_f_now a_f_lawPlace a_f_lawOther a_f_lawEach a_f_lawFrom a_f_foes a_f_suitTable a_f_acts : Nat → Int32) (p0 p1 : Int32) (g0 : rg 0 6 7 a_f_first) (g1 : rg 0 6 7 a_f_now) (g2 : rg 0 6 6 a_f_lawPlace) (g3 : rg 0 6 6 a_f_lawOther) (g4 : ra 40 a_f_acts) (g5 : 0 ≤ a_pl.toInt ∧ a_pl.toInt ≤ 7) (g6 : 0 ≤ a_lc.toInt ∧ a_lc.toInt ≤ 6) (g7 : 0 ≤ a_ac.toInt ∧ a_ac.toInt ≤ 40) (g8 : 0 ≤ p0.toInt ∧ p0.toInt ≤ 6) (g9 : 0 ≤ p1.toInt ∧ p1.toInt ≤ 6) : Met l yX2_suitOf (wk yX2_suitOf cX2_suitOf 3 (some .int)) ({ frames := 1, cells := 0, slots := 0, locals := 60 }) (va_Pc [.ref h0, .int p0, .int p1] (fun U => va_P (dC, dI) vwCl [(h0, .inr (2, [.int a_pl, .int a_li, .int a_le, .int a_lc, .int a_ac, .int a_ng, .ref a_first, .ref a_now, .ref a_lawPlace, .ref a_lawOther, .ref a_lawEach, .ref a_lawFrom, .ref a_foes, .ref a_suitTable, .ref a_acts])), (a_first, .inl (cyI, 7, .inl a_f_first)), (a_now, .inl (cyI, 7, .inl a_f_now)), (a_lawPlace, .inl (cyI, 6, .inl a_f_lawPlace)), (a_lawOther, .inl (cyI, 6, .inl a_f_lawOther)), (a_lawEach, .inl (cyI, 6, .inl a_f_lawEach)), (a_lawFrom, .inl (cyI, 6, .inl a_f_lawFrom)), (a_foes, .inl (cyI, 7, .inl a_f_foes)), (a_suitTable, .inl (cyI, 49, .inl a_f_suitTable)), (a_acts, .inl (cyI, 40, .inl a_f_acts))] U.heap ∧ va_K (dC, dI) vwCl [(cyI, .int), (cyB, .byte), (cyJ, .long), (cyZ, .boolean), (cyH, .object RX2), (cyN, .array .long)] U)) (vp_Si (fun r : Int32 => True)) 0 0 (fun _ => False) := by
  refine Met.ofW (cc := cX2_suitOf) (maxL := 3) (ret := (some .int)) (by decide) rfl ?_
  intro p e s m args below meth c s₁ B hml hv
  obtain ⟨rfl, hP, hK⟩ := hv
  have hx := B.exec
  have hb := B.bytes
  have hr := B.returns
  have hts : ∀ w ∈ uU, w.before ([.ref h0, .int p0, .int p1] : List Value).toArray s = true := fun w h => atoms_spec (ws := wk yX2_suitOf cX2_suitOf 3 (some .int)) B.pre w (List.mem_cons_of_mem _ h)
  have hown : s.vm.findClass RX2 = some m.cls := findClass_of_methodNamed B.named
  have hlocks := B.notSynchronized
  have hl := lv_entry ([.ref h0, .int p0, .int p1]) (n := 3) (Nat.le_of_ble_eq_true rfl)
  rw [lg_entry_eq]
  generalize (lg_sl ([.ref h0, .int p0, .int p1]) ++ List.replicate (3 - (lg_sl ([.ref h0, .int p0, .int p1])).length) Slot.unset).toArray = ls at hl ⊢
  have hl : lv_has ls 3 [(0, .ref h0), (1, .int p0), (2, .int p1)] := hl
  obtain ⟨Q9, hQ9⟩ : ∃ Q9 : State → Prop, Q9 = MQ below (vp_Si (fun r : Int32 => True)) ([.ref h0, .int p0, .int p1] : List Value).toArray s 0 0 (fun _ => False) := ⟨_, rfl⟩
  rw [← hQ9]
  refine lv_aload_n hx hb dX2_suitOf_0 rfl (lv_at hl 0 rfl) ?_
  refine va_get (D := (dC, dI)) (ci := 2) (v := .ref a_suitTable) (C := RX2) (T := TX2) (N := 15) hx hb hts uinX2 hown hK hP 0 rfl rfl 13 (by decide) (hts _ wd_1_122) (fun _ h9 => h9) rfl dX2_suitOf_1 ?_
  refine lv_iload_n hx hb dX2_suitOf_4 rfl (lv_at hl 1 rfl) ?_
  refine lv_bipush (v := 7) hx hb dX2_suitOf_5 (by decide) ?_
  refine lv_imul hx hb dX2_suitOf_7 ?_
  refine lv_topi (fun x_1 ex_1 => ?_)
  have fx_1 : x_1.toInt = p0.toInt * 7 := by rw [ex_1]; exact cv_mulI (by rw [show (7 : Int32).toInt = 7 from rfl]; omega) (by rw [show (7 : Int32).toInt = 7 from rfl]; omega)
  refine lv_iload_n hx hb dX2_suitOf_8 rfl (lv_at hl 2 rfl) ?_
  refine lv_iadd hx hb dX2_suitOf_9 ?_
  refine lv_topi (fun x_2 ex_2 => ?_)
  have fx_2 : x_2.toInt = x_1.toInt + p1.toInt := by rw [ex_2]; exact cv_addI (by omega) (by omega)
  refine va_iald hx hb hK hP 8 0 rfl rfl (vp_in_iff.mpr (by omega)) dX2_suitOf_10 ?_
  refine lv_topi (fun x_3 ex_3 => ?_)
  rw [hQ9]
  exact W.iret (v := x_3) hx hb hr (fun t ht hW => ⟨x_3, rfl, trivial, ht⟩) (fun q h => by cases h) dX2_suitOf_11

/- X2_setSuit -/
set_option maxHeartbeats 4000000 in
set_option maxRecDepth 100000 in
theorem n_setSuit (l : Launch) (dC : Nat → ClassId) (dI : Nat → Nat → Nat) (cyI cyB cyJ cyZ cyH cyN : ClassId) (sz : Nat) (h0 a_first a_now a_lawPlace a_lawOther a_lawEach a_lawFrom a_foes a_suitTable a_acts : Nat) (a_pl a_li a_le a_lc a_ac a_ng : Int32) (a_f_first a_f_now a_f_lawPlace a_f_lawOther a_f_lawEach a_f_lawFrom a_f_foes a_f_suitTable a_f_acts : Nat → Int32) (p0 p1 p2 : Int32) (g0 : rg 0 6 7 a_f_first) (g1 : rg 0 6 7 a_f_now) (g2 : rg 0 6 6 a_f_lawPlace) (g3 : rg 0 6 6 a_f_lawOther) (g4 : ra 40 a_f_acts) (g5 : 0 ≤ a_pl.toInt ∧ a_pl.toInt ≤ 7) (g6 : 0 ≤ a_lc.toInt ∧ a_lc.toInt ≤ 6) (g7 : 0 ≤ a_ac.toInt ∧ a_ac.toInt ≤ 40) (g8 : 0 ≤ p0.toInt ∧ p0.toInt ≤ 6) (g9 : 0 ≤ p1.toInt ∧ p1.toInt ≤ 6) : Met l yX2_setSuit (wk yX2_setSuit cX2_setSuit 4 none) ({ frames := 1, cells := 0, slots := 0, locals := 60 }) (va_Pc [.ref h0, .int p0, .int p1, .int p2] (fun U => U.heap.size = sz ∧ va_P (dC, dI) vwCl [(h0, .inr (2, [.int a_pl, .int a_li, .int a_le, .int a_lc, .int a_ac, .int a_ng, .ref a_first, .ref a_now, .ref a_lawPlace, .ref a_lawOther, .ref a_lawEach, .ref a_lawFrom, .ref a_foes, .ref a_suitTable, .ref a_acts])), (a_first, .inl (cyI, 7, .inl a_f_first)), (a_now, .inl (cyI, 7, .inl a_f_now)), (a_lawPlace, .inl (cyI, 6, .inl a_f_lawPlace)), (a_lawOther, .inl (cyI, 6, .inl a_f_lawOther)), (a_lawEach, .inl (cyI, 6, .inl a_f_lawEach)), (a_lawFrom, .inl (cyI, 6, .inl a_f_lawFrom)), (a_foes, .inl (cyI, 7, .inl a_f_foes)), (a_suitTable, .inl (cyI, 49, .inl a_f_suitTable)), (a_acts, .inl (cyI, 40, .inl a_f_acts))] U.heap ∧ va_K (dC, dI) vwCl [(cyI, .int), (cyB, .byte), (cyJ, .long), (cyZ, .boolean), (cyH, .object RX2), (cyN, .array .long)] U ∧ va_D (fun _ => True) [(h0, .inr (2, [.int a_pl, .int a_li, .int a_le, .int a_lc, .int a_ac, .int a_ng, .ref a_first, .ref a_now, .ref a_lawPlace, .ref a_lawOther, .ref a_lawEach, .ref a_lawFrom, .ref a_foes, .ref a_suitTable, .ref a_acts])), (a_first, .inl (cyI, 7, .inl a_f_first)), (a_now, .inl (cyI, 7, .inl a_f_now)), (a_lawPlace, .inl (cyI, 6, .inl a_f_lawPlace)), (a_lawOther, .inl (cyI, 6, .inl a_f_lawOther)), (a_lawEach, .inl (cyI, 6, .inl a_f_lawEach)), (a_lawFrom, .inl (cyI, 6, .inl a_f_lawFrom)), (a_foes, .inl (cyI, 7, .inl a_f_foes)), (a_suitTable, .inl (cyI, 49, .inl a_f_suitTable)), (a_acts, .inl (cyI, 40, .inl a_f_acts))])) (va_Qv (fun _ : Unit => True) (fun (_ : Unit) (t : State) => ∃ y0 : Nat → Int32, va_P (dC, dI) vwCl [(h0, .inr (2, [.int a_pl, .int a_li, .int a_le, .int a_lc, .int a_ac, .int a_ng, .ref a_first, .ref a_now, .ref a_lawPlace, .ref a_lawOther, .ref a_lawEach, .ref a_lawFrom, .ref a_foes, .ref a_suitTable, .ref a_acts])), (a_first, .inl (cyI, 7, .inl a_f_first)), (a_now, .inl (cyI, 7, .inl a_f_now)), (a_lawPlace, .inl (cyI, 6, .inl a_f_lawPlace)), (a_lawOther, .inl (cyI, 6, .inl a_f_lawOther)), (a_lawEach, .inl (cyI, 6, .inl a_f_lawEach)), (a_lawFrom, .inl (cyI, 6, .inl a_f_lawFrom)), (a_foes, .inl (cyI, 7, .inl a_f_foes)), (a_suitTable, .inl (cyI, 49, .inl y0)), (a_acts, .inl (cyI, 40, .inl a_f_acts))] t.heap ∧ va_D (va_A [(h0, .inr (2, [.int a_pl, .int a_li, .int a_le, .int a_lc, .int a_ac, .int a_ng, .ref a_first, .ref a_now, .ref a_lawPlace, .ref a_lawOther, .ref a_lawEach, .ref a_lawFrom, .ref a_foes, .ref a_suitTable, .ref a_acts])), (a_first, .inl (cyI, 7, .inl a_f_first)), (a_now, .inl (cyI, 7, .inl a_f_now)), (a_lawPlace, .inl (cyI, 6, .inl a_f_lawPlace)), (a_lawOther, .inl (cyI, 6, .inl a_f_lawOther)), (a_lawEach, .inl (cyI, 6, .inl a_f_lawEach)), (a_lawFrom, .inl (cyI, 6, .inl a_f_lawFrom)), (a_foes, .inl (cyI, 7, .inl a_f_foes)), (a_suitTable, .inl (cyI, 49, .inl a_f_suitTable)), (a_acts, .inl (cyI, 40, .inl a_f_acts))] sz) [(h0, .inr (2, [.int a_pl, .int a_li, .int a_le, .int a_lc, .int a_ac, .int a_ng, .ref a_first, .ref a_now, .ref a_lawPlace, .ref a_lawOther, .ref a_lawEach, .ref a_lawFrom, .ref a_foes, .ref a_suitTable, .ref a_acts])), (a_first, .inl (cyI, 7, .inl a_f_first)), (a_now, .inl (cyI, 7, .inl a_f_now)), (a_lawPlace, .inl (cyI, 6, .inl a_f_lawPlace)), (a_lawOther, .inl (cyI, 6, .inl a_f_lawOther)), (a_lawEach, .inl (cyI, 6, .inl a_f_lawEach)), (a_lawFrom, .inl (cyI, 6, .inl a_f_lawFrom)), (a_foes, .inl (cyI, 7, .inl a_f_foes)), (a_suitTable, .inl (cyI, 49, .inl y0)), (a_acts, .inl (cyI, 40, .inl a_f_acts))]) (va_A [(h0, .inr (2, [.int a_pl, .int a_li, .int a_le, .int a_lc, .int a_ac, .int a_ng, .ref a_first, .ref a_now, .ref a_lawPlace, .ref a_lawOther, .ref a_lawEach, .ref a_lawFrom, .ref a_foes, .ref a_suitTable, .ref a_acts])), (a_first, .inl (cyI, 7, .inl a_f_first)), (a_now, .inl (cyI, 7, .inl a_f_now)), (a_lawPlace, .inl (cyI, 6, .inl a_f_lawPlace)), (a_lawOther, .inl (cyI, 6, .inl a_f_lawOther)), (a_lawEach, .inl (cyI, 6, .inl a_f_lawEach)), (a_lawFrom, .inl (cyI, 6, .inl a_f_lawFrom)), (a_foes, .inl (cyI, 7, .inl a_f_foes)), (a_suitTable, .inl (cyI, 49, .inl a_f_suitTable)), (a_acts, .inl (cyI, 40, .inl a_f_acts))] sz)) 0 0 (va_A [(h0, .inr (2, [.int a_pl, .int a_li, .int a_le, .int a_lc, .int a_ac, .int a_ng, .ref a_first, .ref a_now, .ref a_lawPlace, .ref a_lawOther, .ref a_lawEach, .ref a_lawFrom, .ref a_foes, .ref a_suitTable, .ref a_acts])), (a_first, .inl (cyI, 7, .inl a_f_first)), (a_now, .inl (cyI, 7, .inl a_f_now)), (a_lawPlace, .inl (cyI, 6, .inl a_f_lawPlace)), (a_lawOther, .inl (cyI, 6, .inl a_f_lawOther)), (a_lawEach, .inl (cyI, 6, .inl a_f_lawEach)), (a_lawFrom, .inl (cyI, 6, .inl a_f_lawFrom)), (a_foes, .inl (cyI, 7, .inl a_f_foes)), (a_suitTable, .inl (cyI, 49, .inl a_f_suitTable)), (a_acts, .inl (cyI, 40, .inl a_f_acts))] sz) := by
  refine Met.ofW (cc := cX2_setSuit) (maxL := 4) (ret := none) (by decide) rfl ?_
  intro p e s m args below meth c s₁ B hml hv
  obtain ⟨rfl, hsz, hP, hK, hD0⟩ := hv
  have hx := B.exec
  have hb := B.bytes
  have hr := B.returns
  have hts : ∀ w ∈ uU, w.before ([.ref h0, .int p0, .int p1, .int p2] : List Value).toArray s = true := fun w h => atoms_spec (ws := wk yX2_setSuit cX2_setSuit 4 none) B.pre w (List.mem_cons_of_mem _ h)
  have hown : s.vm.findClass RX2 = some m.cls := findClass_of_methodNamed B.named
  have hlocks := B.notSynchronized
  subst hsz
  have hD := hD0.self (sz := s.heap.size)
  generalize hAe : va_A [(h0, .inr (2, [.int a_pl, .int a_li, .int a_le, .int a_lc, .int a_ac, .int a_ng, .ref a_first, .ref a_now, .ref a_lawPlace, .ref a_lawOther, .ref a_lawEach, .ref a_lawFrom, .ref a_foes, .ref a_suitTable, .ref a_acts])), (a_first, .inl (cyI, 7, .inl a_f_first)), (a_now, .inl (cyI, 7, .inl a_f_now)), (a_lawPlace, .inl (cyI, 6, .inl a_f_lawPlace)), (a_lawOther, .inl (cyI, 6, .inl a_f_lawOther)), (a_lawEach, .inl (cyI, 6, .inl a_f_lawEach)), (a_lawFrom, .inl (cyI, 6, .inl a_f_lawFrom)), (a_foes, .inl (cyI, 7, .inl a_f_foes)), (a_suitTable, .inl (cyI, 49, .inl a_f_suitTable)), (a_acts, .inl (cyI, 40, .inl a_f_acts))] s.heap.size = A at hD ⊢
  have hA : ∀ q : Nat, s.heap.size ≤ q → A q := fun q h => by rw [← hAe]; exact Or.inr h
  have hS : va_S A s.heap s.heap [] := va_S.rf
  have hP : va_P (dC, dI) vwCl [(h0, .inr (2, [.int a_pl, .int a_li, .int a_le, .int a_lc, .int a_ac, .int a_ng, .ref a_first, .ref a_now, .ref a_lawPlace, .ref a_lawOther, .ref a_lawEach, .ref a_lawFrom, .ref a_foes, .ref a_suitTable, .ref a_acts])), (a_first, .inl (cyI, 7, .inl a_f_first)), (a_now, .inl (cyI, 7, .inl a_f_now)), (a_lawPlace, .inl (cyI, 6, .inl a_f_lawPlace)), (a_lawOther, .inl (cyI, 6, .inl a_f_lawOther)), (a_lawEach, .inl (cyI, 6, .inl a_f_lawEach)), (a_lawFrom, .inl (cyI, 6, .inl a_f_lawFrom)), (a_foes, .inl (cyI, 7, .inl a_f_foes)), (a_suitTable, .inl (cyI, 49, .inl a_f_suitTable)), (a_acts, .inl (cyI, 40, .inl a_f_acts))] s.heap := hP
  have hl := lv_entry ([.ref h0, .int p0, .int p1, .int p2]) (n := 4) (Nat.le_of_ble_eq_true rfl)
  rw [lg_entry_eq]
  generalize (lg_sl ([.ref h0, .int p0, .int p1, .int p2]) ++ List.replicate (4 - (lg_sl ([.ref h0, .int p0, .int p1, .int p2])).length) Slot.unset).toArray = ls at hl ⊢
  have hl : lv_has ls 4 [(0, .ref h0), (1, .int p0), (2, .int p1), (3, .int p2)] := hl
  obtain ⟨H, hHe⟩ : ∃ H, H = s.heap := ⟨_, rfl⟩
  have hP : va_P (dC, dI) vwCl [(h0, .inr (2, [.int a_pl, .int a_li, .int a_le, .int a_lc, .int a_ac, .int a_ng, .ref a_first, .ref a_now, .ref a_lawPlace, .ref a_lawOther, .ref a_lawEach, .ref a_lawFrom, .ref a_foes, .ref a_suitTable, .ref a_acts])), (a_first, .inl (cyI, 7, .inl a_f_first)), (a_now, .inl (cyI, 7, .inl a_f_now)), (a_lawPlace, .inl (cyI, 6, .inl a_f_lawPlace)), (a_lawOther, .inl (cyI, 6, .inl a_f_lawOther)), (a_lawEach, .inl (cyI, 6, .inl a_f_lawEach)), (a_lawFrom, .inl (cyI, 6, .inl a_f_lawFrom)), (a_foes, .inl (cyI, 7, .inl a_f_foes)), (a_suitTable, .inl (cyI, 49, .inl a_f_suitTable)), (a_acts, .inl (cyI, 40, .inl a_f_acts))] H := by rw [hHe]; exact hP
  have hS : va_S A s.heap H [] := by rw [hHe]; exact hS
  refine cv_heap hHe ?_
  obtain ⟨Q9, hQ9⟩ : ∃ Q9 : State → Prop, Q9 = MQ below (va_Qv (fun _ : Unit => True) (fun (_ : Unit) (t : State) => ∃ y0 : Nat → Int32, va_P (dC, dI) vwCl [(h0, .inr (2, [.int a_pl, .int a_li, .int a_le, .int a_lc, .int a_ac, .int a_ng, .ref a_first, .ref a_now, .ref a_lawPlace, .ref a_lawOther, .ref a_lawEach, .ref a_lawFrom, .ref a_foes, .ref a_suitTable, .ref a_acts])), (a_first, .inl (cyI, 7, .inl a_f_first)), (a_now, .inl (cyI, 7, .inl a_f_now)), (a_lawPlace, .inl (cyI, 6, .inl a_f_lawPlace)), (a_lawOther, .inl (cyI, 6, .inl a_f_lawOther)), (a_lawEach, .inl (cyI, 6, .inl a_f_lawEach)), (a_lawFrom, .inl (cyI, 6, .inl a_f_lawFrom)), (a_foes, .inl (cyI, 7, .inl a_f_foes)), (a_suitTable, .inl (cyI, 49, .inl y0)), (a_acts, .inl (cyI, 40, .inl a_f_acts))] t.heap ∧ va_D A [(h0, .inr (2, [.int a_pl, .int a_li, .int a_le, .int a_lc, .int a_ac, .int a_ng, .ref a_first, .ref a_now, .ref a_lawPlace, .ref a_lawOther, .ref a_lawEach, .ref a_lawFrom, .ref a_foes, .ref a_suitTable, .ref a_acts])), (a_first, .inl (cyI, 7, .inl a_f_first)), (a_now, .inl (cyI, 7, .inl a_f_now)), (a_lawPlace, .inl (cyI, 6, .inl a_f_lawPlace)), (a_lawOther, .inl (cyI, 6, .inl a_f_lawOther)), (a_lawEach, .inl (cyI, 6, .inl a_f_lawEach)), (a_lawFrom, .inl (cyI, 6, .inl a_f_lawFrom)), (a_foes, .inl (cyI, 7, .inl a_f_foes)), (a_suitTable, .inl (cyI, 49, .inl y0)), (a_acts, .inl (cyI, 40, .inl a_f_acts))]) A) ([.ref h0, .int p0, .int p1, .int p2] : List Value).toArray s 0 0 A := ⟨_, rfl⟩
  rw [← hQ9]
  refine lv_aload_n hx hb dX2_setSuit_0 rfl (lv_at hl 0 rfl) ?_
  refine va_get (D := (dC, dI)) (ci := 2) (v := .ref a_suitTable) (C := RX2) (T := TX2) (N := 15) hx hb hts uinX2 hown hK hP 0 rfl rfl 13 (by decide) (hts _ wd_1_122) (fun _ h9 => h9) rfl dX2_setSuit_1 ?_
  refine lv_iload_n hx hb dX2_setSuit_4 rfl (lv_at hl 1 rfl) ?_
  refine lv_bipush (v := 7) hx hb dX2_setSuit_5 (by decide) ?_
  refine lv_imul hx hb dX2_setSuit_7 ?_
  refine lv_topi (fun x_1 ex_1 => ?_)
  have fx_1 : x_1.toInt = p0.toInt * 7 := by rw [ex_1]; exact cv_mulI (by rw [show (7 : Int32).toInt = 7 from rfl]; omega) (by rw [show (7 : Int32).toInt = 7 from rfl]; omega)
  refine lv_iload_n hx hb dX2_setSuit_8 rfl (lv_at hl 2 rfl) ?_
  refine lv_iadd hx hb dX2_setSuit_9 ?_
  refine lv_topi (fun x_2 ex_2 => ?_)
  have fx_2 : x_2.toInt = x_1.toInt + p1.toInt := by rw [ex_2]; exact cv_addI (by omega) (by omega)
  refine lv_iload_n hx hb dX2_setSuit_10 rfl (lv_at hl 3 rfl) ?_
  refine va_iast hx hb hK hP hD hS 8 0 rfl rfl (vp_in_iff.mpr (by omega)) dX2_setSuit_11 (fun H locs hP hD hS => ?_)
  obtain ⟨f_3, ef_3⟩ : ∃ z9 : Nat → Int32, z9 = upd a_f_suitTable x_2.toNatClampNeg p2 := ⟨_, rfl⟩
  rw [← ef_3] at hP hD
  have hP : va_P (dC, dI) vwCl [(h0, .inr (2, [.int a_pl, .int a_li, .int a_le, .int a_lc, .int a_ac, .int a_ng, .ref a_first, .ref a_now, .ref a_lawPlace, .ref a_lawOther, .ref a_lawEach, .ref a_lawFrom, .ref a_foes, .ref a_suitTable, .ref a_acts])), (a_first, .inl (cyI, 7, .inl a_f_first)), (a_now, .inl (cyI, 7, .inl a_f_now)), (a_lawPlace, .inl (cyI, 6, .inl a_f_lawPlace)), (a_lawOther, .inl (cyI, 6, .inl a_f_lawOther)), (a_lawEach, .inl (cyI, 6, .inl a_f_lawEach)), (a_lawFrom, .inl (cyI, 6, .inl a_f_lawFrom)), (a_foes, .inl (cyI, 7, .inl a_f_foes)), (a_suitTable, .inl (cyI, 49, .inl f_3)), (a_acts, .inl (cyI, 40, .inl a_f_acts))] H := hP
  have hD : va_D A [(h0, .inr (2, [.int a_pl, .int a_li, .int a_le, .int a_lc, .int a_ac, .int a_ng, .ref a_first, .ref a_now, .ref a_lawPlace, .ref a_lawOther, .ref a_lawEach, .ref a_lawFrom, .ref a_foes, .ref a_suitTable, .ref a_acts])), (a_first, .inl (cyI, 7, .inl a_f_first)), (a_now, .inl (cyI, 7, .inl a_f_now)), (a_lawPlace, .inl (cyI, 6, .inl a_f_lawPlace)), (a_lawOther, .inl (cyI, 6, .inl a_f_lawOther)), (a_lawEach, .inl (cyI, 6, .inl a_f_lawEach)), (a_lawFrom, .inl (cyI, 6, .inl a_f_lawFrom)), (a_foes, .inl (cyI, 7, .inl a_f_foes)), (a_suitTable, .inl (cyI, 49, .inl f_3)), (a_acts, .inl (cyI, 40, .inl a_f_acts))] := hD
  rw [hQ9]
  have hP9 := hP.sub (ws' := [(h0, .inr (2, [.int a_pl, .int a_li, .int a_le, .int a_lc, .int a_ac, .int a_ng, .ref a_first, .ref a_now, .ref a_lawPlace, .ref a_lawOther, .ref a_lawEach, .ref a_lawFrom, .ref a_foes, .ref a_suitTable, .ref a_acts])), (a_first, .inl (cyI, 7, .inl a_f_first)), (a_now, .inl (cyI, 7, .inl a_f_now)), (a_lawPlace, .inl (cyI, 6, .inl a_f_lawPlace)), (a_lawOther, .inl (cyI, 6, .inl a_f_lawOther)), (a_lawEach, .inl (cyI, 6, .inl a_f_lawEach)), (a_lawFrom, .inl (cyI, 6, .inl a_f_lawFrom)), (a_foes, .inl (cyI, 7, .inl a_f_foes)), (a_suitTable, .inl (cyI, 49, .inl f_3)), (a_acts, .inl (cyI, 40, .inl a_f_acts))]) [0, 1, 2, 3, 4, 5, 6, 7, 8, 9] rfl
  have hD9 := hD.sub (ws' := [(h0, .inr (2, [.int a_pl, .int a_li, .int a_le, .int a_lc, .int a_ac, .int a_ng, .ref a_first, .ref a_now, .ref a_lawPlace, .ref a_lawOther, .ref a_lawEach, .ref a_lawFrom, .ref a_foes, .ref a_suitTable, .ref a_acts])), (a_first, .inl (cyI, 7, .inl a_f_first)), (a_now, .inl (cyI, 7, .inl a_f_now)), (a_lawPlace, .inl (cyI, 6, .inl a_f_lawPlace)), (a_lawOther, .inl (cyI, 6, .inl a_f_lawOther)), (a_lawEach, .inl (cyI, 6, .inl a_f_lawEach)), (a_lawFrom, .inl (cyI, 6, .inl a_f_lawFrom)), (a_foes, .inl (cyI, 7, .inl a_f_foes)), (a_suitTable, .inl (cyI, 49, .inl f_3)), (a_acts, .inl (cyI, 40, .inl a_f_acts))]) [0, 1, 2, 3, 4, 5, 6, 7, 8, 9] (by decide) rfl
  exact W.vret hx hb hr (fun t ht hW => ⟨⟨(), rfl, trivial, ⟨f_3, by rw [ht]; exact hP9, hD9⟩⟩, hS.F ht⟩) hS.2.2 dX2_setSuit_12

/- X2_suitSum -/
set_option maxHeartbeats 4000000 in
set_option maxRecDepth 100000 in
theorem n_suitSum (l : Launch) (dC : Nat → ClassId) (dI : Nat → Nat → Nat) (cyI cyB cyJ cyZ cyH cyN : ClassId) (h0 a_first a_now a_lawPlace a_lawOther a_lawEach a_lawFrom a_foes a_suitTable a_acts : Nat) (a_pl a_li a_le a_lc a_ac a_ng : Int32) (a_f_first a_f_now a_f_lawPlace a_f_lawOther a_f_lawEach a_f_lawFrom a_f_foes a_f_suitTable a_f_acts : Nat → Int32) (g0 : rg 0 6 7 a_f_first) (g1 : rg 0 6 7 a_f_now) (g2 : rg 0 6 6 a_f_lawPlace) (g3 : rg 0 6 6 a_f_lawOther) (g4 : ra 40 a_f_acts) (g5 : 0 ≤ a_pl.toInt ∧ a_pl.toInt ≤ 7) (g6 : 0 ≤ a_lc.toInt ∧ a_lc.toInt ≤ 6) (g7 : 0 ≤ a_ac.toInt ∧ a_ac.toInt ≤ 40) : Met l yX2_suitSum (wk yX2_suitSum cX2_suitSum 3 (some .int)) ({ frames := 2, cells := 0, slots := 0, locals := 82 }) (va_Pc [.ref h0] (fun U => va_P (dC, dI) vwCl [(h0, .inr (2, [.int a_pl, .int a_li, .int a_le, .int a_lc, .int a_ac, .int a_ng, .ref a_first, .ref a_now, .ref a_lawPlace, .ref a_lawOther, .ref a_lawEach, .ref a_lawFrom, .ref a_foes, .ref a_suitTable, .ref a_acts])), (a_first, .inl (cyI, 7, .inl a_f_first)), (a_now, .inl (cyI, 7, .inl a_f_now)), (a_lawPlace, .inl (cyI, 6, .inl a_f_lawPlace)), (a_lawOther, .inl (cyI, 6, .inl a_f_lawOther)), (a_lawEach, .inl (cyI, 6, .inl a_f_lawEach)), (a_lawFrom, .inl (cyI, 6, .inl a_f_lawFrom)), (a_foes, .inl (cyI, 7, .inl a_f_foes)), (a_suitTable, .inl (cyI, 49, .inl a_f_suitTable)), (a_acts, .inl (cyI, 40, .inl a_f_acts))] U.heap ∧ va_K (dC, dI) vwCl [(cyI, .int), (cyB, .byte), (cyJ, .long), (cyZ, .boolean), (cyH, .object RX2), (cyN, .array .long)] U)) (vp_Si (fun r : Int32 => True)) 0 0 (fun _ => False) := by
  refine Met.ofW (cc := cX2_suitSum) (maxL := 3) (ret := (some .int)) (by decide) rfl ?_
  intro p e s m args below meth c s₁ B hml hv
  obtain ⟨rfl, hP, hK⟩ := hv
  have hx := B.exec
  have hb := B.bytes
  have hr := B.returns
  have hts : ∀ w ∈ uU, w.before ([.ref h0] : List Value).toArray s = true := fun w h => atoms_spec (ws := wk yX2_suitSum cX2_suitSum 3 (some .int)) B.pre w (List.mem_cons_of_mem _ h)
  have hown : s.vm.findClass RX2 = some m.cls := findClass_of_methodNamed B.named
  have hlocks := B.notSynchronized
  have hl := lv_entry ([.ref h0]) (n := 3) (Nat.le_of_ble_eq_true rfl)
  rw [lg_entry_eq]
  generalize (lg_sl ([.ref h0]) ++ List.replicate (3 - (lg_sl ([.ref h0])).length) Slot.unset).toArray = ls at hl ⊢
  have hl : lv_has ls 3 [(0, .ref h0)] := hl
  obtain ⟨Q9, hQ9⟩ : ∃ Q9 : State → Prop, Q9 = MQ below (vp_Si (fun r : Int32 => True)) ([.ref h0] : List Value).toArray s 0 0 (fun _ => False) := ⟨_, rfl⟩
  rw [← hQ9]
  refine lv_iconst (v := 0) hx hb dX2_suitSum_0 (by decide) ?_
  refine lv_istore_n (lv' := [(1, .int 0), (0, .ref h0)]) hx hb dX2_suitSum_1 rfl hl (by decide) rfl (fun ls hl => ?_)
  refine lv_iconst (v := 0) hx hb dX2_suitSum_2 (by decide) ?_
  refine lv_istore_n (lv' := [(2, .int 0), (1, .int 0), (0, .ref h0)]) hx hb dX2_suitSum_3 rfl hl (by decide) rfl (fun ls hl => ?_)
  have key_3 : ∀ (nkey_3 : Nat) (u_1 : Int32) (u_2 : Int32) (ls : Array Slot), (0 ≤ u_1.toInt ∧ u_1.toInt ≤ 7) → lv_has ls 3 [(2, .int u_1), (1, .int u_2), (0, .ref h0)] → (a_pl.toInt - u_1.toInt).toNat < nkey_3 → W p l e ({ frames := 2, cells := 0, slots := 0, locals := 82 }) s m ([.ref h0] : List Value).toArray below meth c s.heap [] 0 0 Q9 (F0 m 4 ls []) := by
    intro nkey_3
    induction nkey_3 with
    | zero => intro u_1 u_2 ls hu_1 hl hnkey_3; exact absurd hnkey_3 (Nat.not_lt_zero _)
    | succ nkey_3 ihkey_3 =>
      intro u_1 u_2 ls hu_1 hl hnkey_3
      refine lv_iload_n hx hb dX2_suitSum_4 rfl (lv_at hl 0 rfl) ?_
      refine lv_aload_n hx hb dX2_suitSum_5 rfl (lv_at hl 2 rfl) ?_
      refine va_get (D := (dC, dI)) (ci := 2) (v := .int a_pl) (C := RX2) (T := TX2) (N := 15) hx hb hts uinX2 hown hK hP 0 rfl rfl 0 (by decide) (hts _ wd_1_77) (fun _ h9 => h9) rfl dX2_suitSum_6 ?_
      refine lv_icmp_ge (tgt := 32) hx hb dX2_suitSum_9 (by decide) (fun c_4 => ?_) (fun c_4 => ?_)
      · have c_4 : a_pl.toInt ≤ u_1.toInt := cv_le c_4
        refine lv_iload_n hx hb dX2_suitSum_32 rfl (lv_at hl 1 rfl) ?_
        rw [hQ9]
        exact W.iret (v := u_2) hx hb hr (fun t ht hW => ⟨u_2, rfl, trivial, ht⟩) (fun q h => by cases h) dX2_suitSum_33
      · have c_4 : u_1.toInt < a_pl.toInt := cv_nle c_4
        refine lv_iload_n hx hb dX2_suitSum_12 rfl (lv_at hl 1 rfl) ?_
        refine lv_aload_n hx hb dX2_suitSum_13 rfl (lv_at hl 2 rfl) ?_
        refine lv_aload_n hx hb dX2_suitSum_14 rfl (lv_at hl 2 rfl) ?_
        refine va_get (D := (dC, dI)) (ci := 2) (v := .ref a_now) (C := RX2) (T := TX2) (N := 15) hx hb hts uinX2 hown hK hP 0 rfl rfl 7 (by decide) (hts _ wd_1_102) (fun _ h9 => h9) rfl dX2_suitSum_15 ?_
        refine lv_iload_n hx hb dX2_suitSum_18 rfl (lv_at hl 0 rfl) ?_
        refine va_iald hx hb hK hP 2 0 rfl rfl (vp_in_iff.mpr (by omega)) dX2_suitSum_19 ?_
        refine lv_topi (fun x_5 ex_5 => ?_)
        have fx_5 : 0 ≤ x_5.toInt ∧ x_5.toInt ≤ 6 := by rw [ex_5]; exact g1 _ (cv_ix (by omega) (by omega))
        refine lv_iload_n hx hb dX2_suitSum_20 rfl (lv_at hl 0 rfl) ?_
        have hPc := hP.sub (ws' := [(h0, .inr (2, [.int a_pl, .int a_li, .int a_le, .int a_lc, .int a_ac, .int a_ng, .ref a_first, .ref a_now, .ref a_lawPlace, .ref a_lawOther, .ref a_lawEach, .ref a_lawFrom, .ref a_foes, .ref a_suitTable, .ref a_acts])), (a_first, .inl (cyI, 7, .inl a_f_first)), (a_now, .inl (cyI, 7, .inl a_f_now)), (a_lawPlace, .inl (cyI, 6, .inl a_f_lawPlace)), (a_lawOther, .inl (cyI, 6, .inl a_f_lawOther)), (a_lawEach, .inl (cyI, 6, .inl a_f_lawEach)), (a_lawFrom, .inl (cyI, 6, .inl a_f_lawFrom)), (a_foes, .inl (cyI, 7, .inl a_f_foes)), (a_suitTable, .inl (cyI, 49, .inl a_f_suitTable)), (a_acts, .inl (cyI, 40, .inl a_f_acts))]) [0, 1, 2, 3, 4, 5, 6, 7, 8, 9] rfl
        have hKc := hK.sub (tys' := [(cyI, .int), (cyB, .byte), (cyJ, .long), (cyZ, .boolean), (cyH, .object RX2), (cyN, .array .long)]) [0, 1, 2, 3, 4, 5] rfl
        refine vp_callSi (va_Run.run (va_runV (As := [.int x_5, .int u_1]) (rest := [.int u_2]) ⟨hx, hb, hml, hown, hts⟩ (n_suitOf l dC dI cyI cyB cyJ cyZ cyH cyN h0 a_first a_now a_lawPlace a_lawOther a_lawEach a_lawFrom a_foes a_suitTable a_acts a_pl a_li a_le a_lc a_ac a_ng a_f_first a_f_now a_f_lawPlace a_f_lawOther a_f_lawEach a_f_lawFrom a_f_foes a_f_suitTable a_f_acts x_5 u_1 g0 g1 g2 g3 g4 (by omega) (by omega) (by omega) (by omega) (by omega)) (cwV 2 hts (gdV wd_5_90 wd_3_61 wd_3_62 wd_1_3 wd_3_63) rfl rfl rfl (by decide +kernel) ⟨Nat.le_of_ble_eq_true rfl, Nat.le_of_ble_eq_true rfl⟩) ⟨fun a U g mk q => by obtain ⟨q0, qP, qK⟩ := q; exact ⟨q0, qP, va_K.moved (u := U) (U := U.calling g mk a) (Vm.Alike.refl U.vm) qK⟩, va_recv hKc hPc (ci := 2) (q0 := 0) rfl rfl, fun U hU hW => ⟨rfl, by rw [hU]; exact hPc, va_K.moved hW.alike hKc⟩⟩ rfl rfl hl.1 rfl (lv_room (Nat.le_of_ble_eq_true rfl)) dX2_suitSum_21 ⟨Nat.le_of_ble_eq_true rfl, Nat.le_of_ble_eq_true rfl⟩)) (fun r_6 hw => ?_)
        refine lv_iadd hx hb dX2_suitSum_24 ?_
        refine lv_topi (fun x_7 ex_7 => ?_)
        refine lv_istore_n (lv' := [(1, .int x_7), (2, .int u_1), (0, .ref h0)]) hx hb dX2_suitSum_25 rfl hl (by decide) rfl (fun ls hl => ?_)
        obtain ⟨x_8, ex_8⟩ : ∃ y : Int32, y = u_1 + 1 := ⟨_, rfl⟩
        refine lv_iinc (v := x_8) (lv' := [(2, .int x_8), (1, .int x_7), (0, .ref h0)]) hx hb dX2_suitSum_26 hl (k := 1) rfl (by rw [ex_8]; rfl) (by decide) rfl (fun ls hl => ?_)
        have fx_8 : x_8.toInt = u_1.toInt + 1 := by rw [ex_8]; exact cv_addI (by have : (1 : Int32).toInt = 1 := rfl; omega) (by have : (1 : Int32).toInt = 1 := rfl; omega)
        refine lv_goto (tgt := 4) hx hb dX2_suitSum_29 (by decide) ?_
        exact ihkey_3 x_8 x_7 _ (by omega) (lv_sub hl [0, 1, 2] rfl) (by omega)
  exact key_3 _ 0 0 _ (by decide) (lv_sub hl [0, 1, 2] rfl) (Nat.lt_succ_self _)

/- X2_suitGain -/
set_option maxHeartbeats 4000000 in
set_option maxRecDepth 100000 in
theorem n_suitGain (l : Launch) (dC : Nat → ClassId) (dI : Nat → Nat → Nat) (cyI cyB cyJ cyZ cyH cyN : ClassId) (h0 a_first a_now a_lawPlace a_lawOther a_lawEach a_lawFrom a_foes a_suitTable a_acts : Nat) (a_pl a_li a_le a_lc a_ac a_ng : Int32) (a_f_first a_f_now a_f_lawPlace a_f_lawOther a_f_lawEach a_f_lawFrom a_f_foes a_f_suitTable a_f_acts : Nat → Int32) (p0 p1 : Int32) (g0 : rg 0 6 7 a_f_first) (g1 : rg 0 6 7 a_f_now) (g2 : rg 0 6 6 a_f_lawPlace) (g3 : rg 0 6 6 a_f_lawOther) (g4 : ra 40 a_f_acts) (g5 : 0 ≤ a_pl.toInt ∧ a_pl.toInt ≤ 7) (g6 : 0 ≤ a_lc.toInt ∧ a_lc.toInt ≤ 6) (g7 : 0 ≤ a_ac.toInt ∧ a_ac.toInt ≤ 40) (g8 : 0 ≤ p0.toInt ∧ p0.toInt ≤ 6) (g9 : 0 ≤ p1.toInt ∧ p1.toInt ≤ 6) : Met l yX2_suitGain (wk yX2_suitGain cX2_suitGain 6 (some .int)) ({ frames := 2, cells := 0, slots := 0, locals := 82 }) (va_Pc [.ref h0, .int p0, .int p1] (fun U => va_P (dC, dI) vwCl [(h0, .inr (2, [.int a_pl, .int a_li, .int a_le, .int a_lc, .int a_ac, .int a_ng, .ref a_first, .ref a_now, .ref a_lawPlace, .ref a_lawOther, .ref a_lawEach, .ref a_lawFrom, .ref a_foes, .ref a_suitTable, .ref a_acts])), (a_first, .inl (cyI, 7, .inl a_f_first)), (a_now, .inl (cyI, 7, .inl a_f_now)), (a_lawPlace, .inl (cyI, 6, .inl a_f_lawPlace)), (a_lawOther, .inl (cyI, 6, .inl a_f_lawOther)), (a_lawEach, .inl (cyI, 6, .inl a_f_lawEach)), (a_lawFrom, .inl (cyI, 6, .inl a_f_lawFrom)), (a_foes, .inl (cyI, 7, .inl a_f_foes)), (a_suitTable, .inl (cyI, 49, .inl a_f_suitTable)), (a_acts, .inl (cyI, 40, .inl a_f_acts))] U.heap ∧ va_K (dC, dI) vwCl [(cyI, .int), (cyB, .byte), (cyJ, .long), (cyZ, .boolean), (cyH, .object RX2), (cyN, .array .long)] U)) (vp_Si (fun r : Int32 => True)) 0 0 (fun _ => False) := by
  refine Met.ofW (cc := cX2_suitGain) (maxL := 6) (ret := (some .int)) (by decide) rfl ?_
  intro p e s m args below meth c s₁ B hml hv
  obtain ⟨rfl, hP, hK⟩ := hv
  have hx := B.exec
  have hb := B.bytes
  have hr := B.returns
  have hts : ∀ w ∈ uU, w.before ([.ref h0, .int p0, .int p1] : List Value).toArray s = true := fun w h => atoms_spec (ws := wk yX2_suitGain cX2_suitGain 6 (some .int)) B.pre w (List.mem_cons_of_mem _ h)
  have hown : s.vm.findClass RX2 = some m.cls := findClass_of_methodNamed B.named
  have hlocks := B.notSynchronized
  have hl := lv_entry ([.ref h0, .int p0, .int p1]) (n := 6) (Nat.le_of_ble_eq_true rfl)
  rw [lg_entry_eq]
  generalize (lg_sl ([.ref h0, .int p0, .int p1]) ++ List.replicate (6 - (lg_sl ([.ref h0, .int p0, .int p1])).length) Slot.unset).toArray = ls at hl ⊢
  have hl : lv_has ls 6 [(0, .ref h0), (1, .int p0), (2, .int p1)] := hl
  obtain ⟨Q9, hQ9⟩ : ∃ Q9 : State → Prop, Q9 = MQ below (vp_Si (fun r : Int32 => True)) ([.ref h0, .int p0, .int p1] : List Value).toArray s 0 0 (fun _ => False) := ⟨_, rfl⟩
  rw [← hQ9]
  refine lv_aload_n hx hb dX2_suitGain_0 rfl (lv_at hl 0 rfl) ?_
  refine va_get (D := (dC, dI)) (ci := 2) (v := .ref a_now) (C := RX2) (T := TX2) (N := 15) hx hb hts uinX2 hown hK hP 0 rfl rfl 7 (by decide) (hts _ wd_1_102) (fun _ h9 => h9) rfl dX2_suitGain_1 ?_
  refine lv_iload_n hx hb dX2_suitGain_4 rfl (lv_at hl 1 rfl) ?_
  refine va_iald hx hb hK hP 2 0 rfl rfl (vp_in_iff.mpr (by omega)) dX2_suitGain_5 ?_
  refine lv_topi (fun x_1 ex_1 => ?_)
  have fx_1 : 0 ≤ x_1.toInt ∧ x_1.toInt ≤ 6 := by rw [ex_1]; exact g1 _ (cv_ix (by omega) (by omega))
  refine lv_istore_n (lv' := [(3, .int x_1), (0, .ref h0), (1, .int p0), (2, .int p1)]) hx hb dX2_suitGain_6 rfl hl (by decide) rfl (fun ls hl => ?_)
  refine lv_aload_n hx hb dX2_suitGain_7 rfl (lv_at hl 1 rfl) ?_
  refine va_get (D := (dC, dI)) (ci := 2) (v := .ref a_now) (C := RX2) (T := TX2) (N := 15) hx hb hts uinX2 hown hK hP 0 rfl rfl 7 (by decide) (hts _ wd_1_102) (fun _ h9 => h9) rfl dX2_suitGain_8 ?_
  refine lv_iload_n hx hb dX2_suitGain_11 rfl (lv_at hl 3 rfl) ?_
  refine va_iald hx hb hK hP 2 0 rfl rfl (vp_in_iff.mpr (by omega)) dX2_suitGain_12 ?_
  refine lv_topi (fun x_2 ex_2 => ?_)
  have fx_2 : 0 ≤ x_2.toInt ∧ x_2.toInt ≤ 6 := by rw [ex_2]; exact g1 _ (cv_ix (by omega) (by omega))
  refine lv_istore (lv' := [(4, .int x_2), (3, .int x_1), (0, .ref h0), (1, .int p0), (2, .int p1)]) hx hb dX2_suitGain_13 hl (by decide) rfl (fun ls hl => ?_)
  refine lv_aload_n hx hb dX2_suitGain_15 rfl (lv_at hl 2 rfl) ?_
  refine lv_iload hx hb dX2_suitGain_16 (lv_at hl 0 rfl) ?_
  refine lv_iload_n hx hb dX2_suitGain_18 rfl (lv_at hl 3 rfl) ?_
  have hPc := hP.sub (ws' := [(h0, .inr (2, [.int a_pl, .int a_li, .int a_le, .int a_lc, .int a_ac, .int a_ng, .ref a_first, .ref a_now, .ref a_lawPlace, .ref a_lawOther, .ref a_lawEach, .ref a_lawFrom, .ref a_foes, .ref a_suitTable, .ref a_acts])), (a_first, .inl (cyI, 7, .inl a_f_first)), (a_now, .inl (cyI, 7, .inl a_f_now)), (a_lawPlace, .inl (cyI, 6, .inl a_f_lawPlace)), (a_lawOther, .inl (cyI, 6, .inl a_f_lawOther)), (a_lawEach, .inl (cyI, 6, .inl a_f_lawEach)), (a_lawFrom, .inl (cyI, 6, .inl a_f_lawFrom)), (a_foes, .inl (cyI, 7, .inl a_f_foes)), (a_suitTable, .inl (cyI, 49, .inl a_f_suitTable)), (a_acts, .inl (cyI, 40, .inl a_f_acts))]) [0, 1, 2, 3, 4, 5, 6, 7, 8, 9] rfl
  have hKc := hK.sub (tys' := [(cyI, .int), (cyB, .byte), (cyJ, .long), (cyZ, .boolean), (cyH, .object RX2), (cyN, .array .long)]) [0, 1, 2, 3, 4, 5] rfl
  refine vp_callSi (va_Run.run (va_runV (As := [.int x_2, .int p0]) (rest := []) ⟨hx, hb, hml, hown, hts⟩ (n_suitOf l dC dI cyI cyB cyJ cyZ cyH cyN h0 a_first a_now a_lawPlace a_lawOther a_lawEach a_lawFrom a_foes a_suitTable a_acts a_pl a_li a_le a_lc a_ac a_ng a_f_first a_f_now a_f_lawPlace a_f_lawOther a_f_lawEach a_f_lawFrom a_f_foes a_f_suitTable a_f_acts x_2 p0 g0 g1 g2 g3 g4 (by omega) (by omega) (by omega) (by omega) (by omega)) (cwV 2 hts (gdV wd_5_90 wd_3_61 wd_3_62 wd_1_3 wd_3_63) rfl rfl rfl (by decide +kernel) ⟨Nat.le_of_ble_eq_true rfl, Nat.le_of_ble_eq_true rfl⟩) ⟨fun a U g mk q => by obtain ⟨q0, qP, qK⟩ := q; exact ⟨q0, qP, va_K.moved (u := U) (U := U.calling g mk a) (Vm.Alike.refl U.vm) qK⟩, va_recv hKc hPc (ci := 2) (q0 := 0) rfl rfl, fun U hU hW => ⟨rfl, by rw [hU]; exact hPc, va_K.moved hW.alike hKc⟩⟩ rfl rfl hl.1 rfl (lv_room (Nat.le_of_ble_eq_true rfl)) dX2_suitGain_19 ⟨Nat.le_of_ble_eq_true rfl, Nat.le_of_ble_eq_true rfl⟩)) (fun r_3 hw => ?_)
  refine lv_aload_n hx hb dX2_suitGain_22 rfl (lv_at hl 2 rfl) ?_
  refine lv_iload_n hx hb dX2_suitGain_23 rfl (lv_at hl 1 rfl) ?_
  refine lv_iload_n hx hb dX2_suitGain_24 rfl (lv_at hl 4 rfl) ?_
  have hPc := hP.sub (ws' := [(h0, .inr (2, [.int a_pl, .int a_li, .int a_le, .int a_lc, .int a_ac, .int a_ng, .ref a_first, .ref a_now, .ref a_lawPlace, .ref a_lawOther, .ref a_lawEach, .ref a_lawFrom, .ref a_foes, .ref a_suitTable, .ref a_acts])), (a_first, .inl (cyI, 7, .inl a_f_first)), (a_now, .inl (cyI, 7, .inl a_f_now)), (a_lawPlace, .inl (cyI, 6, .inl a_f_lawPlace)), (a_lawOther, .inl (cyI, 6, .inl a_f_lawOther)), (a_lawEach, .inl (cyI, 6, .inl a_f_lawEach)), (a_lawFrom, .inl (cyI, 6, .inl a_f_lawFrom)), (a_foes, .inl (cyI, 7, .inl a_f_foes)), (a_suitTable, .inl (cyI, 49, .inl a_f_suitTable)), (a_acts, .inl (cyI, 40, .inl a_f_acts))]) [0, 1, 2, 3, 4, 5, 6, 7, 8, 9] rfl
  have hKc := hK.sub (tys' := [(cyI, .int), (cyB, .byte), (cyJ, .long), (cyZ, .boolean), (cyH, .object RX2), (cyN, .array .long)]) [0, 1, 2, 3, 4, 5] rfl
  refine vp_callSi (va_Run.run (va_runV (As := [.int x_1, .int p1]) (rest := [.int r_3]) ⟨hx, hb, hml, hown, hts⟩ (n_suitOf l dC dI cyI cyB cyJ cyZ cyH cyN h0 a_first a_now a_lawPlace a_lawOther a_lawEach a_lawFrom a_foes a_suitTable a_acts a_pl a_li a_le a_lc a_ac a_ng a_f_first a_f_now a_f_lawPlace a_f_lawOther a_f_lawEach a_f_lawFrom a_f_foes a_f_suitTable a_f_acts x_1 p1 g0 g1 g2 g3 g4 (by omega) (by omega) (by omega) (by omega) (by omega)) (cwV 2 hts (gdV wd_5_90 wd_3_61 wd_3_62 wd_1_3 wd_3_63) rfl rfl rfl (by decide +kernel) ⟨Nat.le_of_ble_eq_true rfl, Nat.le_of_ble_eq_true rfl⟩) ⟨fun a U g mk q => by obtain ⟨q0, qP, qK⟩ := q; exact ⟨q0, qP, va_K.moved (u := U) (U := U.calling g mk a) (Vm.Alike.refl U.vm) qK⟩, va_recv hKc hPc (ci := 2) (q0 := 0) rfl rfl, fun U hU hW => ⟨rfl, by rw [hU]; exact hPc, va_K.moved hW.alike hKc⟩⟩ rfl rfl hl.1 rfl (lv_room (Nat.le_of_ble_eq_true rfl)) dX2_suitGain_25 ⟨Nat.le_of_ble_eq_true rfl, Nat.le_of_ble_eq_true rfl⟩)) (fun r_4 hw => ?_)
  refine lv_iadd hx hb dX2_suitGain_28 ?_
  refine lv_topi (fun x_5 ex_5 => ?_)
  refine lv_istore (lv' := [(5, .int x_5), (4, .int x_2), (3, .int x_1), (0, .ref h0), (1, .int p0), (2, .int p1)]) hx hb dX2_suitGain_29 hl (by decide) rfl (fun ls hl => ?_)
  refine lv_iload hx hb dX2_suitGain_31 (lv_at hl 0 rfl) ?_
  refine lv_aload_n hx hb dX2_suitGain_33 rfl (lv_at hl 3 rfl) ?_
  refine lv_iload_n hx hb dX2_suitGain_34 rfl (lv_at hl 2 rfl) ?_
  refine lv_iload_n hx hb dX2_suitGain_35 rfl (lv_at hl 4 rfl) ?_
  have hPc := hP.sub (ws' := [(h0, .inr (2, [.int a_pl, .int a_li, .int a_le, .int a_lc, .int a_ac, .int a_ng, .ref a_first, .ref a_now, .ref a_lawPlace, .ref a_lawOther, .ref a_lawEach, .ref a_lawFrom, .ref a_foes, .ref a_suitTable, .ref a_acts])), (a_first, .inl (cyI, 7, .inl a_f_first)), (a_now, .inl (cyI, 7, .inl a_f_now)), (a_lawPlace, .inl (cyI, 6, .inl a_f_lawPlace)), (a_lawOther, .inl (cyI, 6, .inl a_f_lawOther)), (a_lawEach, .inl (cyI, 6, .inl a_f_lawEach)), (a_lawFrom, .inl (cyI, 6, .inl a_f_lawFrom)), (a_foes, .inl (cyI, 7, .inl a_f_foes)), (a_suitTable, .inl (cyI, 49, .inl a_f_suitTable)), (a_acts, .inl (cyI, 40, .inl a_f_acts))]) [0, 1, 2, 3, 4, 5, 6, 7, 8, 9] rfl
  have hKc := hK.sub (tys' := [(cyI, .int), (cyB, .byte), (cyJ, .long), (cyZ, .boolean), (cyH, .object RX2), (cyN, .array .long)]) [0, 1, 2, 3, 4, 5] rfl
  refine vp_callSi (va_Run.run (va_runV (As := [.int x_1, .int p0]) (rest := [.int x_5]) ⟨hx, hb, hml, hown, hts⟩ (n_suitOf l dC dI cyI cyB cyJ cyZ cyH cyN h0 a_first a_now a_lawPlace a_lawOther a_lawEach a_lawFrom a_foes a_suitTable a_acts a_pl a_li a_le a_lc a_ac a_ng a_f_first a_f_now a_f_lawPlace a_f_lawOther a_f_lawEach a_f_lawFrom a_f_foes a_f_suitTable a_f_acts x_1 p0 g0 g1 g2 g3 g4 (by omega) (by omega) (by omega) (by omega) (by omega)) (cwV 2 hts (gdV wd_5_90 wd_3_61 wd_3_62 wd_1_3 wd_3_63) rfl rfl rfl (by decide +kernel) ⟨Nat.le_of_ble_eq_true rfl, Nat.le_of_ble_eq_true rfl⟩) ⟨fun a U g mk q => by obtain ⟨q0, qP, qK⟩ := q; exact ⟨q0, qP, va_K.moved (u := U) (U := U.calling g mk a) (Vm.Alike.refl U.vm) qK⟩, va_recv hKc hPc (ci := 2) (q0 := 0) rfl rfl, fun U hU hW => ⟨rfl, by rw [hU]; exact hPc, va_K.moved hW.alike hKc⟩⟩ rfl rfl hl.1 rfl (lv_room (Nat.le_of_ble_eq_true rfl)) dX2_suitGain_36 ⟨Nat.le_of_ble_eq_true rfl, Nat.le_of_ble_eq_true rfl⟩)) (fun r_6 hw => ?_)
  refine lv_isub hx hb dX2_suitGain_39 ?_
  refine lv_topi (fun x_7 ex_7 => ?_)
  refine lv_aload_n hx hb dX2_suitGain_40 rfl (lv_at hl 3 rfl) ?_
  refine lv_iload hx hb dX2_suitGain_41 (lv_at hl 1 rfl) ?_
  refine lv_iload_n hx hb dX2_suitGain_43 rfl (lv_at hl 5 rfl) ?_
  have hPc := hP.sub (ws' := [(h0, .inr (2, [.int a_pl, .int a_li, .int a_le, .int a_lc, .int a_ac, .int a_ng, .ref a_first, .ref a_now, .ref a_lawPlace, .ref a_lawOther, .ref a_lawEach, .ref a_lawFrom, .ref a_foes, .ref a_suitTable, .ref a_acts])), (a_first, .inl (cyI, 7, .inl a_f_first)), (a_now, .inl (cyI, 7, .inl a_f_now)), (a_lawPlace, .inl (cyI, 6, .inl a_f_lawPlace)), (a_lawOther, .inl (cyI, 6, .inl a_f_lawOther)), (a_lawEach, .inl (cyI, 6, .inl a_f_lawEach)), (a_lawFrom, .inl (cyI, 6, .inl a_f_lawFrom)), (a_foes, .inl (cyI, 7, .inl a_f_foes)), (a_suitTable, .inl (cyI, 49, .inl a_f_suitTable)), (a_acts, .inl (cyI, 40, .inl a_f_acts))]) [0, 1, 2, 3, 4, 5, 6, 7, 8, 9] rfl
  have hKc := hK.sub (tys' := [(cyI, .int), (cyB, .byte), (cyJ, .long), (cyZ, .boolean), (cyH, .object RX2), (cyN, .array .long)]) [0, 1, 2, 3, 4, 5] rfl
  refine vp_callSi (va_Run.run (va_runV (As := [.int x_2, .int p1]) (rest := [.int x_7]) ⟨hx, hb, hml, hown, hts⟩ (n_suitOf l dC dI cyI cyB cyJ cyZ cyH cyN h0 a_first a_now a_lawPlace a_lawOther a_lawEach a_lawFrom a_foes a_suitTable a_acts a_pl a_li a_le a_lc a_ac a_ng a_f_first a_f_now a_f_lawPlace a_f_lawOther a_f_lawEach a_f_lawFrom a_f_foes a_f_suitTable a_f_acts x_2 p1 g0 g1 g2 g3 g4 (by omega) (by omega) (by omega) (by omega) (by omega)) (cwV 2 hts (gdV wd_5_90 wd_3_61 wd_3_62 wd_1_3 wd_3_63) rfl rfl rfl (by decide +kernel) ⟨Nat.le_of_ble_eq_true rfl, Nat.le_of_ble_eq_true rfl⟩) ⟨fun a U g mk q => by obtain ⟨q0, qP, qK⟩ := q; exact ⟨q0, qP, va_K.moved (u := U) (U := U.calling g mk a) (Vm.Alike.refl U.vm) qK⟩, va_recv hKc hPc (ci := 2) (q0 := 0) rfl rfl, fun U hU hW => ⟨rfl, by rw [hU]; exact hPc, va_K.moved hW.alike hKc⟩⟩ rfl rfl hl.1 rfl (lv_room (Nat.le_of_ble_eq_true rfl)) dX2_suitGain_44 ⟨Nat.le_of_ble_eq_true rfl, Nat.le_of_ble_eq_true rfl⟩)) (fun r_8 hw => ?_)
  refine lv_isub hx hb dX2_suitGain_47 ?_
  refine lv_topi (fun x_9 ex_9 => ?_)
  rw [hQ9]
  exact W.iret (v := x_9) hx hb hr (fun t ht hW => ⟨x_9, rfl, trivial, ht⟩) (fun q h => by cases h) dX2_suitGain_48

/- X2_setFoes -/
set_option maxHeartbeats 4000000 in
set_option maxRecDepth 100000 in
theorem n_setFoes (l : Launch) (dC : Nat → ClassId) (dI : Nat → Nat → Nat) (cyI cyB cyJ cyZ cyH cyN : ClassId) (sz : Nat) (h0 a_first a_now a_lawPlace a_lawOther a_lawEach a_lawFrom a_foes a_suitTable a_acts : Nat) (a_pl a_li a_le a_lc a_ac a_ng : Int32) (a_f_first a_f_now a_f_lawPlace a_f_lawOther a_f_lawEach a_f_lawFrom a_f_foes a_f_suitTable a_f_acts : Nat → Int32) (p0 p1 : Int32) (g0 : rg 0 6 7 a_f_first) (g1 : rg 0 6 7 a_f_now) (g2 : rg 0 6 6 a_f_lawPlace) (g3 : rg 0 6 6 a_f_lawOther) (g4 : ra 40 a_f_acts) (g5 : 0 ≤ a_pl.toInt ∧ a_pl.toInt ≤ 7) (g6 : 0 ≤ a_lc.toInt ∧ a_lc.toInt ≤ 6) (g7 : 0 ≤ a_ac.toInt ∧ a_ac.toInt ≤ 40) (g8 : 0 ≤ p0.toInt ∧ p0.toInt ≤ 6) (g9 : 0 ≤ p1.toInt ∧ p1.toInt ≤ 6) : Met l yX2_setFoes (wk yX2_setFoes cX2_setFoes 3 none) ({ frames := 1, cells := 0, slots := 0, locals := 60 }) (va_Pc [.ref h0, .int p0, .int p1] (fun U => U.heap.size = sz ∧ va_P (dC, dI) vwCl [(h0, .inr (2, [.int a_pl, .int a_li, .int a_le, .int a_lc, .int a_ac, .int a_ng, .ref a_first, .ref a_now, .ref a_lawPlace, .ref a_lawOther, .ref a_lawEach, .ref a_lawFrom, .ref a_foes, .ref a_suitTable, .ref a_acts])), (a_first, .inl (cyI, 7, .inl a_f_first)), (a_now, .inl (cyI, 7, .inl a_f_now)), (a_lawPlace, .inl (cyI, 6, .inl a_f_lawPlace)), (a_lawOther, .inl (cyI, 6, .inl a_f_lawOther)), (a_lawEach, .inl (cyI, 6, .inl a_f_lawEach)), (a_lawFrom, .inl (cyI, 6, .inl a_f_lawFrom)), (a_foes, .inl (cyI, 7, .inl a_f_foes)), (a_suitTable, .inl (cyI, 49, .inl a_f_suitTable)), (a_acts, .inl (cyI, 40, .inl a_f_acts))] U.heap ∧ va_K (dC, dI) vwCl [(cyI, .int), (cyB, .byte), (cyJ, .long), (cyZ, .boolean), (cyH, .object RX2), (cyN, .array .long)] U ∧ va_D (fun _ => True) [(h0, .inr (2, [.int a_pl, .int a_li, .int a_le, .int a_lc, .int a_ac, .int a_ng, .ref a_first, .ref a_now, .ref a_lawPlace, .ref a_lawOther, .ref a_lawEach, .ref a_lawFrom, .ref a_foes, .ref a_suitTable, .ref a_acts])), (a_first, .inl (cyI, 7, .inl a_f_first)), (a_now, .inl (cyI, 7, .inl a_f_now)), (a_lawPlace, .inl (cyI, 6, .inl a_f_lawPlace)), (a_lawOther, .inl (cyI, 6, .inl a_f_lawOther)), (a_lawEach, .inl (cyI, 6, .inl a_f_lawEach)), (a_lawFrom, .inl (cyI, 6, .inl a_f_lawFrom)), (a_foes, .inl (cyI, 7, .inl a_f_foes)), (a_suitTable, .inl (cyI, 49, .inl a_f_suitTable)), (a_acts, .inl (cyI, 40, .inl a_f_acts))])) (va_Qv (fun _ : Unit => True) (fun (_ : Unit) (t : State) => ∃ y0 : Nat → Int32, va_P (dC, dI) vwCl [(h0, .inr (2, [.int a_pl, .int a_li, .int a_le, .int a_lc, .int a_ac, .int a_ng, .ref a_first, .ref a_now, .ref a_lawPlace, .ref a_lawOther, .ref a_lawEach, .ref a_lawFrom, .ref a_foes, .ref a_suitTable, .ref a_acts])), (a_first, .inl (cyI, 7, .inl a_f_first)), (a_now, .inl (cyI, 7, .inl a_f_now)), (a_lawPlace, .inl (cyI, 6, .inl a_f_lawPlace)), (a_lawOther, .inl (cyI, 6, .inl a_f_lawOther)), (a_lawEach, .inl (cyI, 6, .inl a_f_lawEach)), (a_lawFrom, .inl (cyI, 6, .inl a_f_lawFrom)), (a_foes, .inl (cyI, 7, .inl y0)), (a_suitTable, .inl (cyI, 49, .inl a_f_suitTable)), (a_acts, .inl (cyI, 40, .inl a_f_acts))] t.heap ∧ va_D (va_A [(h0, .inr (2, [.int a_pl, .int a_li, .int a_le, .int a_lc, .int a_ac, .int a_ng, .ref a_first, .ref a_now, .ref a_lawPlace, .ref a_lawOther, .ref a_lawEach, .ref a_lawFrom, .ref a_foes, .ref a_suitTable, .ref a_acts])), (a_first, .inl (cyI, 7, .inl a_f_first)), (a_now, .inl (cyI, 7, .inl a_f_now)), (a_lawPlace, .inl (cyI, 6, .inl a_f_lawPlace)), (a_lawOther, .inl (cyI, 6, .inl a_f_lawOther)), (a_lawEach, .inl (cyI, 6, .inl a_f_lawEach)), (a_lawFrom, .inl (cyI, 6, .inl a_f_lawFrom)), (a_foes, .inl (cyI, 7, .inl a_f_foes)), (a_suitTable, .inl (cyI, 49, .inl a_f_suitTable)), (a_acts, .inl (cyI, 40, .inl a_f_acts))] sz) [(h0, .inr (2, [.int a_pl, .int a_li, .int a_le, .int a_lc, .int a_ac, .int a_ng, .ref a_first, .ref a_now, .ref a_lawPlace, .ref a_lawOther, .ref a_lawEach, .ref a_lawFrom, .ref a_foes, .ref a_suitTable, .ref a_acts])), (a_first, .inl (cyI, 7, .inl a_f_first)), (a_now, .inl (cyI, 7, .inl a_f_now)), (a_lawPlace, .inl (cyI, 6, .inl a_f_lawPlace)), (a_lawOther, .inl (cyI, 6, .inl a_f_lawOther)), (a_lawEach, .inl (cyI, 6, .inl a_f_lawEach)), (a_lawFrom, .inl (cyI, 6, .inl a_f_lawFrom)), (a_foes, .inl (cyI, 7, .inl y0)), (a_suitTable, .inl (cyI, 49, .inl a_f_suitTable)), (a_acts, .inl (cyI, 40, .inl a_f_acts))]) (va_A [(h0, .inr (2, [.int a_pl, .int a_li, .int a_le, .int a_lc, .int a_ac, .int a_ng, .ref a_first, .ref a_now, .ref a_lawPlace, .ref a_lawOther, .ref a_lawEach, .ref a_lawFrom, .ref a_foes, .ref a_suitTable, .ref a_acts])), (a_first, .inl (cyI, 7, .inl a_f_first)), (a_now, .inl (cyI, 7, .inl a_f_now)), (a_lawPlace, .inl (cyI, 6, .inl a_f_lawPlace)), (a_lawOther, .inl (cyI, 6, .inl a_f_lawOther)), (a_lawEach, .inl (cyI, 6, .inl a_f_lawEach)), (a_lawFrom, .inl (cyI, 6, .inl a_f_lawFrom)), (a_foes, .inl (cyI, 7, .inl a_f_foes)), (a_suitTable, .inl (cyI, 49, .inl a_f_suitTable)), (a_acts, .inl (cyI, 40, .inl a_f_acts))] sz)) 0 0 (va_A [(h0, .inr (2, [.int a_pl, .int a_li, .int a_le, .int a_lc, .int a_ac, .int a_ng, .ref a_first, .ref a_now, .ref a_lawPlace, .ref a_lawOther, .ref a_lawEach, .ref a_lawFrom, .ref a_foes, .ref a_suitTable, .ref a_acts])), (a_first, .inl (cyI, 7, .inl a_f_first)), (a_now, .inl (cyI, 7, .inl a_f_now)), (a_lawPlace, .inl (cyI, 6, .inl a_f_lawPlace)), (a_lawOther, .inl (cyI, 6, .inl a_f_lawOther)), (a_lawEach, .inl (cyI, 6, .inl a_f_lawEach)), (a_lawFrom, .inl (cyI, 6, .inl a_f_lawFrom)), (a_foes, .inl (cyI, 7, .inl a_f_foes)), (a_suitTable, .inl (cyI, 49, .inl a_f_suitTable)), (a_acts, .inl (cyI, 40, .inl a_f_acts))] sz) := by
  refine Met.ofW (cc := cX2_setFoes) (maxL := 3) (ret := none) (by decide) rfl ?_
  intro p e s m args below meth c s₁ B hml hv
  obtain ⟨rfl, hsz, hP, hK, hD0⟩ := hv
  have hx := B.exec
  have hb := B.bytes
  have hr := B.returns
  have hts : ∀ w ∈ uU, w.before ([.ref h0, .int p0, .int p1] : List Value).toArray s = true := fun w h => atoms_spec (ws := wk yX2_setFoes cX2_setFoes 3 none) B.pre w (List.mem_cons_of_mem _ h)
  have hown : s.vm.findClass RX2 = some m.cls := findClass_of_methodNamed B.named
  have hlocks := B.notSynchronized
  subst hsz
  have hD := hD0.self (sz := s.heap.size)
  generalize hAe : va_A [(h0, .inr (2, [.int a_pl, .int a_li, .int a_le, .int a_lc, .int a_ac, .int a_ng, .ref a_first, .ref a_now, .ref a_lawPlace, .ref a_lawOther, .ref a_lawEach, .ref a_lawFrom, .ref a_foes, .ref a_suitTable, .ref a_acts])), (a_first, .inl (cyI, 7, .inl a_f_first)), (a_now, .inl (cyI, 7, .inl a_f_now)), (a_lawPlace, .inl (cyI, 6, .inl a_f_lawPlace)), (a_lawOther, .inl (cyI, 6, .inl a_f_lawOther)), (a_lawEach, .inl (cyI, 6, .inl a_f_lawEach)), (a_lawFrom, .inl (cyI, 6, .inl a_f_lawFrom)), (a_foes, .inl (cyI, 7, .inl a_f_foes)), (a_suitTable, .inl (cyI, 49, .inl a_f_suitTable)), (a_acts, .inl (cyI, 40, .inl a_f_acts))] s.heap.size = A at hD ⊢
  have hA : ∀ q : Nat, s.heap.size ≤ q → A q := fun q h => by rw [← hAe]; exact Or.inr h
  have hS : va_S A s.heap s.heap [] := va_S.rf
  have hP : va_P (dC, dI) vwCl [(h0, .inr (2, [.int a_pl, .int a_li, .int a_le, .int a_lc, .int a_ac, .int a_ng, .ref a_first, .ref a_now, .ref a_lawPlace, .ref a_lawOther, .ref a_lawEach, .ref a_lawFrom, .ref a_foes, .ref a_suitTable, .ref a_acts])), (a_first, .inl (cyI, 7, .inl a_f_first)), (a_now, .inl (cyI, 7, .inl a_f_now)), (a_lawPlace, .inl (cyI, 6, .inl a_f_lawPlace)), (a_lawOther, .inl (cyI, 6, .inl a_f_lawOther)), (a_lawEach, .inl (cyI, 6, .inl a_f_lawEach)), (a_lawFrom, .inl (cyI, 6, .inl a_f_lawFrom)), (a_foes, .inl (cyI, 7, .inl a_f_foes)), (a_suitTable, .inl (cyI, 49, .inl a_f_suitTable)), (a_acts, .inl (cyI, 40, .inl a_f_acts))] s.heap := hP
  have hl := lv_entry ([.ref h0, .int p0, .int p1]) (n := 3) (Nat.le_of_ble_eq_true rfl)
  rw [lg_entry_eq]
  generalize (lg_sl ([.ref h0, .int p0, .int p1]) ++ List.replicate (3 - (lg_sl ([.ref h0, .int p0, .int p1])).length) Slot.unset).toArray = ls at hl ⊢
  have hl : lv_has ls 3 [(0, .ref h0), (1, .int p0), (2, .int p1)] := hl
  obtain ⟨H, hHe⟩ : ∃ H, H = s.heap := ⟨_, rfl⟩
  have hP : va_P (dC, dI) vwCl [(h0, .inr (2, [.int a_pl, .int a_li, .int a_le, .int a_lc, .int a_ac, .int a_ng, .ref a_first, .ref a_now, .ref a_lawPlace, .ref a_lawOther, .ref a_lawEach, .ref a_lawFrom, .ref a_foes, .ref a_suitTable, .ref a_acts])), (a_first, .inl (cyI, 7, .inl a_f_first)), (a_now, .inl (cyI, 7, .inl a_f_now)), (a_lawPlace, .inl (cyI, 6, .inl a_f_lawPlace)), (a_lawOther, .inl (cyI, 6, .inl a_f_lawOther)), (a_lawEach, .inl (cyI, 6, .inl a_f_lawEach)), (a_lawFrom, .inl (cyI, 6, .inl a_f_lawFrom)), (a_foes, .inl (cyI, 7, .inl a_f_foes)), (a_suitTable, .inl (cyI, 49, .inl a_f_suitTable)), (a_acts, .inl (cyI, 40, .inl a_f_acts))] H := by rw [hHe]; exact hP
  have hS : va_S A s.heap H [] := by rw [hHe]; exact hS
  refine cv_heap hHe ?_
  obtain ⟨Q9, hQ9⟩ : ∃ Q9 : State → Prop, Q9 = MQ below (va_Qv (fun _ : Unit => True) (fun (_ : Unit) (t : State) => ∃ y0 : Nat → Int32, va_P (dC, dI) vwCl [(h0, .inr (2, [.int a_pl, .int a_li, .int a_le, .int a_lc, .int a_ac, .int a_ng, .ref a_first, .ref a_now, .ref a_lawPlace, .ref a_lawOther, .ref a_lawEach, .ref a_lawFrom, .ref a_foes, .ref a_suitTable, .ref a_acts])), (a_first, .inl (cyI, 7, .inl a_f_first)), (a_now, .inl (cyI, 7, .inl a_f_now)), (a_lawPlace, .inl (cyI, 6, .inl a_f_lawPlace)), (a_lawOther, .inl (cyI, 6, .inl a_f_lawOther)), (a_lawEach, .inl (cyI, 6, .inl a_f_lawEach)), (a_lawFrom, .inl (cyI, 6, .inl a_f_lawFrom)), (a_foes, .inl (cyI, 7, .inl y0)), (a_suitTable, .inl (cyI, 49, .inl a_f_suitTable)), (a_acts, .inl (cyI, 40, .inl a_f_acts))] t.heap ∧ va_D A [(h0, .inr (2, [.int a_pl, .int a_li, .int a_le, .int a_lc, .int a_ac, .int a_ng, .ref a_first, .ref a_now, .ref a_lawPlace, .ref a_lawOther, .ref a_lawEach, .ref a_lawFrom, .ref a_foes, .ref a_suitTable, .ref a_acts])), (a_first, .inl (cyI, 7, .inl a_f_first)), (a_now, .inl (cyI, 7, .inl a_f_now)), (a_lawPlace, .inl (cyI, 6, .inl a_f_lawPlace)), (a_lawOther, .inl (cyI, 6, .inl a_f_lawOther)), (a_lawEach, .inl (cyI, 6, .inl a_f_lawEach)), (a_lawFrom, .inl (cyI, 6, .inl a_f_lawFrom)), (a_foes, .inl (cyI, 7, .inl y0)), (a_suitTable, .inl (cyI, 49, .inl a_f_suitTable)), (a_acts, .inl (cyI, 40, .inl a_f_acts))]) A) ([.ref h0, .int p0, .int p1] : List Value).toArray s 0 0 A := ⟨_, rfl⟩
  rw [← hQ9]
  refine lv_aload_n hx hb dX2_setFoes_0 rfl (lv_at hl 0 rfl) ?_
  refine va_get (D := (dC, dI)) (ci := 2) (v := .ref a_foes) (C := RX2) (T := TX2) (N := 15) hx hb hts uinX2 hown hK hP 0 rfl rfl 12 (by decide) (hts _ wd_1_119) (fun _ h9 => h9) rfl dX2_setFoes_1 ?_
  refine lv_iload_n hx hb dX2_setFoes_4 rfl (lv_at hl 1 rfl) ?_
  refine lv_dup2_11 hx hb dX2_setFoes_5 rfl rfl ?_
  refine va_iald hx hb hK hP 7 0 rfl rfl (vp_in_iff.mpr (by omega)) dX2_setFoes_6 ?_
  refine lv_topi (fun x_1 ex_1 => ?_)
  refine lv_iconst (v := 1) hx hb dX2_setFoes_7 (by decide) ?_
  refine lv_iload_n hx hb dX2_setFoes_8 rfl (lv_at hl 2 rfl) ?_
  refine lv_ishl hx hb dX2_setFoes_9 ?_
  refine lv_topi (fun x_2 ex_2 => ?_)
  have fx_2 : 1 ≤ x_2.toInt ∧ x_2.toInt ≤ 64 := by rw [ex_2]; have q := cv_shl1 (y := p1) 0 6 (by decide) (by decide) (by omega) (by omega); omega
  refine lv_ior hx hb dX2_setFoes_10 ?_
  refine lv_topi (fun x_3 ex_3 => ?_)
  refine va_iast hx hb hK hP hD hS 7 0 rfl rfl (vp_in_iff.mpr (by omega)) dX2_setFoes_11 (fun H locs hP hD hS => ?_)
  obtain ⟨f_4, ef_4⟩ : ∃ z9 : Nat → Int32, z9 = upd a_f_foes p0.toNatClampNeg x_3 := ⟨_, rfl⟩
  rw [← ef_4] at hP hD
  have hP : va_P (dC, dI) vwCl [(h0, .inr (2, [.int a_pl, .int a_li, .int a_le, .int a_lc, .int a_ac, .int a_ng, .ref a_first, .ref a_now, .ref a_lawPlace, .ref a_lawOther, .ref a_lawEach, .ref a_lawFrom, .ref a_foes, .ref a_suitTable, .ref a_acts])), (a_first, .inl (cyI, 7, .inl a_f_first)), (a_now, .inl (cyI, 7, .inl a_f_now)), (a_lawPlace, .inl (cyI, 6, .inl a_f_lawPlace)), (a_lawOther, .inl (cyI, 6, .inl a_f_lawOther)), (a_lawEach, .inl (cyI, 6, .inl a_f_lawEach)), (a_lawFrom, .inl (cyI, 6, .inl a_f_lawFrom)), (a_foes, .inl (cyI, 7, .inl f_4)), (a_suitTable, .inl (cyI, 49, .inl a_f_suitTable)), (a_acts, .inl (cyI, 40, .inl a_f_acts))] H := hP
  have hD : va_D A [(h0, .inr (2, [.int a_pl, .int a_li, .int a_le, .int a_lc, .int a_ac, .int a_ng, .ref a_first, .ref a_now, .ref a_lawPlace, .ref a_lawOther, .ref a_lawEach, .ref a_lawFrom, .ref a_foes, .ref a_suitTable, .ref a_acts])), (a_first, .inl (cyI, 7, .inl a_f_first)), (a_now, .inl (cyI, 7, .inl a_f_now)), (a_lawPlace, .inl (cyI, 6, .inl a_f_lawPlace)), (a_lawOther, .inl (cyI, 6, .inl a_f_lawOther)), (a_lawEach, .inl (cyI, 6, .inl a_f_lawEach)), (a_lawFrom, .inl (cyI, 6, .inl a_f_lawFrom)), (a_foes, .inl (cyI, 7, .inl f_4)), (a_suitTable, .inl (cyI, 49, .inl a_f_suitTable)), (a_acts, .inl (cyI, 40, .inl a_f_acts))] := hD
  refine lv_aload_n hx hb dX2_setFoes_12 rfl (lv_at hl 0 rfl) ?_
  refine va_get (D := (dC, dI)) (ci := 2) (v := .ref a_foes) (C := RX2) (T := TX2) (N := 15) hx hb hts uinX2 hown hK hP 0 rfl rfl 12 (by decide) (hts _ wd_1_119) (fun _ h9 => h9) rfl dX2_setFoes_13 ?_
  refine lv_iload_n hx hb dX2_setFoes_16 rfl (lv_at hl 2 rfl) ?_
  refine lv_dup2_11 hx hb dX2_setFoes_17 rfl rfl ?_
  refine va_iald hx hb hK hP 7 0 rfl rfl (vp_in_iff.mpr (by omega)) dX2_setFoes_18 ?_
  refine lv_topi (fun x_5 ex_5 => ?_)
  refine lv_iconst (v := 1) hx hb dX2_setFoes_19 (by decide) ?_
  refine lv_iload_n hx hb dX2_setFoes_20 rfl (lv_at hl 1 rfl) ?_
  refine lv_ishl hx hb dX2_setFoes_21 ?_
  refine lv_topi (fun x_6 ex_6 => ?_)
  have fx_6 : 1 ≤ x_6.toInt ∧ x_6.toInt ≤ 64 := by rw [ex_6]; have q := cv_shl1 (y := p0) 0 6 (by decide) (by decide) (by omega) (by omega); omega
  refine lv_ior hx hb dX2_setFoes_22 ?_
  refine lv_topi (fun x_7 ex_7 => ?_)
  refine va_iast hx hb hK hP hD hS 7 0 rfl rfl (vp_in_iff.mpr (by omega)) dX2_setFoes_23 (fun H locs hP hD hS => ?_)
  obtain ⟨f_8, ef_8⟩ : ∃ z9 : Nat → Int32, z9 = upd f_4 p1.toNatClampNeg x_7 := ⟨_, rfl⟩
  rw [← ef_8] at hP hD
  have hP : va_P (dC, dI) vwCl [(h0, .inr (2, [.int a_pl, .int a_li, .int a_le, .int a_lc, .int a_ac, .int a_ng, .ref a_first, .ref a_now, .ref a_lawPlace, .ref a_lawOther, .ref a_lawEach, .ref a_lawFrom, .ref a_foes, .ref a_suitTable, .ref a_acts])), (a_first, .inl (cyI, 7, .inl a_f_first)), (a_now, .inl (cyI, 7, .inl a_f_now)), (a_lawPlace, .inl (cyI, 6, .inl a_f_lawPlace)), (a_lawOther, .inl (cyI, 6, .inl a_f_lawOther)), (a_lawEach, .inl (cyI, 6, .inl a_f_lawEach)), (a_lawFrom, .inl (cyI, 6, .inl a_f_lawFrom)), (a_foes, .inl (cyI, 7, .inl f_8)), (a_suitTable, .inl (cyI, 49, .inl a_f_suitTable)), (a_acts, .inl (cyI, 40, .inl a_f_acts))] H := hP
  have hD : va_D A [(h0, .inr (2, [.int a_pl, .int a_li, .int a_le, .int a_lc, .int a_ac, .int a_ng, .ref a_first, .ref a_now, .ref a_lawPlace, .ref a_lawOther, .ref a_lawEach, .ref a_lawFrom, .ref a_foes, .ref a_suitTable, .ref a_acts])), (a_first, .inl (cyI, 7, .inl a_f_first)), (a_now, .inl (cyI, 7, .inl a_f_now)), (a_lawPlace, .inl (cyI, 6, .inl a_f_lawPlace)), (a_lawOther, .inl (cyI, 6, .inl a_f_lawOther)), (a_lawEach, .inl (cyI, 6, .inl a_f_lawEach)), (a_lawFrom, .inl (cyI, 6, .inl a_f_lawFrom)), (a_foes, .inl (cyI, 7, .inl f_8)), (a_suitTable, .inl (cyI, 49, .inl a_f_suitTable)), (a_acts, .inl (cyI, 40, .inl a_f_acts))] := hD
  rw [hQ9]
  have hP9 := hP.sub (ws' := [(h0, .inr (2, [.int a_pl, .int a_li, .int a_le, .int a_lc, .int a_ac, .int a_ng, .ref a_first, .ref a_now, .ref a_lawPlace, .ref a_lawOther, .ref a_lawEach, .ref a_lawFrom, .ref a_foes, .ref a_suitTable, .ref a_acts])), (a_first, .inl (cyI, 7, .inl a_f_first)), (a_now, .inl (cyI, 7, .inl a_f_now)), (a_lawPlace, .inl (cyI, 6, .inl a_f_lawPlace)), (a_lawOther, .inl (cyI, 6, .inl a_f_lawOther)), (a_lawEach, .inl (cyI, 6, .inl a_f_lawEach)), (a_lawFrom, .inl (cyI, 6, .inl a_f_lawFrom)), (a_foes, .inl (cyI, 7, .inl f_8)), (a_suitTable, .inl (cyI, 49, .inl a_f_suitTable)), (a_acts, .inl (cyI, 40, .inl a_f_acts))]) [0, 1, 2, 3, 4, 5, 6, 7, 8, 9] rfl
  have hD9 := hD.sub (ws' := [(h0, .inr (2, [.int a_pl, .int a_li, .int a_le, .int a_lc, .int a_ac, .int a_ng, .ref a_first, .ref a_now, .ref a_lawPlace, .ref a_lawOther, .ref a_lawEach, .ref a_lawFrom, .ref a_foes, .ref a_suitTable, .ref a_acts])), (a_first, .inl (cyI, 7, .inl a_f_first)), (a_now, .inl (cyI, 7, .inl a_f_now)), (a_lawPlace, .inl (cyI, 6, .inl a_f_lawPlace)), (a_lawOther, .inl (cyI, 6, .inl a_f_lawOther)), (a_lawEach, .inl (cyI, 6, .inl a_f_lawEach)), (a_lawFrom, .inl (cyI, 6, .inl a_f_lawFrom)), (a_foes, .inl (cyI, 7, .inl f_8)), (a_suitTable, .inl (cyI, 49, .inl a_f_suitTable)), (a_acts, .inl (cyI, 40, .inl a_f_acts))]) [0, 1, 2, 3, 4, 5, 6, 7, 8, 9] (by decide) rfl
  exact W.vret hx hb hr (fun t ht hW => ⟨⟨(), rfl, trivial, ⟨f_8, by rw [ht]; exact hP9, hD9⟩⟩, hS.F ht⟩) hS.2.2 dX2_setFoes_24

/- X2_areFoes -/
set_option maxHeartbeats 4000000 in
set_option maxRecDepth 100000 in
theorem n_areFoes (l : Launch) (dC : Nat → ClassId) (dI : Nat → Nat → Nat) (cyI cyB cyJ cyZ cyH cyN : ClassId) (h0 a_first a_now a_lawPlace a_lawOther a_lawEach a_lawFrom a_foes a_suitTable a_acts : Nat) (a_pl a_li a_le a_lc a_ac a_ng : Int32) (a_f_first a_f_now a_f_lawPlace a_f_lawOther a_f_lawEach a_f_lawFrom a_f_foes a_f_suitTable a_f_acts : Nat → Int32) (p0 p1 : Int32) (g0 : rg 0 6 7 a_f_first) (g1 : rg 0 6 7 a_f_now) (g2 : rg 0 6 6 a_f_lawPlace) (g3 : rg 0 6 6 a_f_lawOther) (g4 : ra 40 a_f_acts) (g5 : 0 ≤ a_pl.toInt ∧ a_pl.toInt ≤ 7) (g6 : 0 ≤ a_lc.toInt ∧ a_lc.toInt ≤ 6) (g7 : 0 ≤ a_ac.toInt ∧ a_ac.toInt ≤ 40) (g8 : 0 ≤ p0.toInt ∧ p0.toInt ≤ 6) : Met l yX2_areFoes (wk yX2_areFoes cX2_areFoes 3 (some .boolean)) ({ frames := 1, cells := 0, slots := 0, locals := 60 }) (va_Pc [.ref h0, .int p0, .int p1] (fun U => va_P (dC, dI) vwCl [(h0, .inr (2, [.int a_pl, .int a_li, .int a_le, .int a_lc, .int a_ac, .int a_ng, .ref a_first, .ref a_now, .ref a_lawPlace, .ref a_lawOther, .ref a_lawEach, .ref a_lawFrom, .ref a_foes, .ref a_suitTable, .ref a_acts])), (a_first, .inl (cyI, 7, .inl a_f_first)), (a_now, .inl (cyI, 7, .inl a_f_now)), (a_lawPlace, .inl (cyI, 6, .inl a_f_lawPlace)), (a_lawOther, .inl (cyI, 6, .inl a_f_lawOther)), (a_lawEach, .inl (cyI, 6, .inl a_f_lawEach)), (a_lawFrom, .inl (cyI, 6, .inl a_f_lawFrom)), (a_foes, .inl (cyI, 7, .inl a_f_foes)), (a_suitTable, .inl (cyI, 49, .inl a_f_suitTable)), (a_acts, .inl (cyI, 40, .inl a_f_acts))] U.heap ∧ va_K (dC, dI) vwCl [(cyI, .int), (cyB, .byte), (cyJ, .long), (cyZ, .boolean), (cyH, .object RX2), (cyN, .array .long)] U)) (vp_Si (fun r : Int32 => 0 ≤ r.toInt ∧ r.toInt ≤ 1)) 0 0 (fun _ => False) := by
  refine Met.ofW (cc := cX2_areFoes) (maxL := 3) (ret := (some .boolean)) (by decide) rfl ?_
  intro p e s m args below meth c s₁ B hml hv
  obtain ⟨rfl, hP, hK⟩ := hv
  have hx := B.exec
  have hb := B.bytes
  have hr := B.returns
  have hts : ∀ w ∈ uU, w.before ([.ref h0, .int p0, .int p1] : List Value).toArray s = true := fun w h => atoms_spec (ws := wk yX2_areFoes cX2_areFoes 3 (some .boolean)) B.pre w (List.mem_cons_of_mem _ h)
  have hown : s.vm.findClass RX2 = some m.cls := findClass_of_methodNamed B.named
  have hlocks := B.notSynchronized
  have hl := lv_entry ([.ref h0, .int p0, .int p1]) (n := 3) (Nat.le_of_ble_eq_true rfl)
  rw [lg_entry_eq]
  generalize (lg_sl ([.ref h0, .int p0, .int p1]) ++ List.replicate (3 - (lg_sl ([.ref h0, .int p0, .int p1])).length) Slot.unset).toArray = ls at hl ⊢
  have hl : lv_has ls 3 [(0, .ref h0), (1, .int p0), (2, .int p1)] := hl
  obtain ⟨Q9, hQ9⟩ : ∃ Q9 : State → Prop, Q9 = MQ below (vp_Si (fun r : Int32 => 0 ≤ r.toInt ∧ r.toInt ≤ 1)) ([.ref h0, .int p0, .int p1] : List Value).toArray s 0 0 (fun _ => False) := ⟨_, rfl⟩
  rw [← hQ9]
  refine lv_aload_n hx hb dX2_areFoes_0 rfl (lv_at hl 0 rfl) ?_
  refine va_get (D := (dC, dI)) (ci := 2) (v := .ref a_foes) (C := RX2) (T := TX2) (N := 15) hx hb hts uinX2 hown hK hP 0 rfl rfl 12 (by decide) (hts _ wd_1_119) (fun _ h9 => h9) rfl dX2_areFoes_1 ?_
  refine lv_iload_n hx hb dX2_areFoes_4 rfl (lv_at hl 1 rfl) ?_
  refine va_iald hx hb hK hP 7 0 rfl rfl (vp_in_iff.mpr (by omega)) dX2_areFoes_5 ?_
  refine lv_topi (fun x_1 ex_1 => ?_)
  refine lv_iload_n hx hb dX2_areFoes_6 rfl (lv_at hl 2 rfl) ?_
  refine lv_ishr hx hb dX2_areFoes_7 ?_
  refine lv_topi (fun x_2 ex_2 => ?_)
  refine lv_iconst (v := 1) hx hb dX2_areFoes_8 (by decide) ?_
  refine lv_iand hx hb dX2_areFoes_9 ?_
  refine lv_topi (fun x_3 ex_3 => ?_)
  have fx_3 : 0 ≤ x_3.toInt ∧ x_3.toInt ≤ 1 := by rw [ex_3]; exact cv_andR (by decide) (by decide)
  have join_5 : ∀ (u_4 : Int32) (ls : Array Slot), (0 ≤ u_4.toInt ∧ u_4.toInt ≤ 1) → lv_has ls 3 [(0, .ref h0), (1, .int p0), (2, .int p1)] → W p l e ({ frames := 1, cells := 0, slots := 0, locals := 60 }) s m ([.ref h0, .int p0, .int p1] : List Value).toArray below meth c s.heap [] 0 0 Q9 (F0 m 18 ls [.int u_4]) := by
    intro u_4 ls hu_4 hl
    rw [hQ9]
    exact W.zret (v := u_4) (ty := .boolean) hx hb hr (cv_nz (by omega) (by omega)) (fun t ht hW => ⟨u_4, rfl, (by omega), ht⟩) (fun q h => by cases h) dX2_areFoes_18
  refine lv_if_eq (tgt := 17) hx hb dX2_areFoes_10 (by decide) (fun c_6 => ?_) (fun c_6 => ?_)
  · have c_6 : x_3.toInt = 0 := cv_eq c_6
    refine lv_iconst (v := 0) hx hb dX2_areFoes_17 (by decide) ?_
    exact join_5 0 _ (by decide) (lv_sub hl [0, 1, 2] rfl)
  · have c_6 : x_3.toInt ≠ 0 := cv_ne c_6
    refine lv_iconst (v := 1) hx hb dX2_areFoes_13 (by decide) ?_
    refine lv_goto (tgt := 18) hx hb dX2_areFoes_14 (by decide) ?_
    exact join_5 1 _ (by decide) (lv_sub hl [0, 1, 2] rfl)

/- X2_canLeap -/
set_option maxHeartbeats 4000000 in
set_option maxRecDepth 100000 in
theorem n_canLeap (l : Launch) (dC : Nat → ClassId) (dI : Nat → Nat → Nat) (cyI cyB cyJ cyZ cyH cyN : ClassId) (h0 a_first a_now a_lawPlace a_lawOther a_lawEach a_lawFrom a_foes a_suitTable a_acts : Nat) (a_pl a_li a_le a_lc a_ac a_ng : Int32) (a_f_first a_f_now a_f_lawPlace a_f_lawOther a_f_lawEach a_f_lawFrom a_f_foes a_f_suitTable a_f_acts : Nat → Int32) (p0 p1 : Int32) (g0 : rg 0 6 7 a_f_first) (g1 : rg 0 6 7 a_f_now) (g2 : rg 0 6 6 a_f_lawPlace) (g3 : rg 0 6 6 a_f_lawOther) (g4 : ra 40 a_f_acts) (g5 : 0 ≤ a_pl.toInt ∧ a_pl.toInt ≤ 7) (g6 : 0 ≤ a_lc.toInt ∧ a_lc.toInt ≤ 6) (g7 : 0 ≤ a_ac.toInt ∧ a_ac.toInt ≤ 40) (g8 : 0 ≤ p0.toInt ∧ p0.toInt ≤ 6) (g9 : 0 ≤ p1.toInt ∧ p1.toInt ≤ 6) : Met l yX2_canLeap (wk yX2_canLeap cX2_canLeap 3 (some .boolean)) ({ frames := 1, cells := 0, slots := 0, locals := 60 }) (va_Pc [.ref h0, .int p0, .int p1] (fun U => va_P (dC, dI) vwCl [(h0, .inr (2, [.int a_pl, .int a_li, .int a_le, .int a_lc, .int a_ac, .int a_ng, .ref a_first, .ref a_now, .ref a_lawPlace, .ref a_lawOther, .ref a_lawEach, .ref a_lawFrom, .ref a_foes, .ref a_suitTable, .ref a_acts])), (a_first, .inl (cyI, 7, .inl a_f_first)), (a_now, .inl (cyI, 7, .inl a_f_now)), (a_lawPlace, .inl (cyI, 6, .inl a_f_lawPlace)), (a_lawOther, .inl (cyI, 6, .inl a_f_lawOther)), (a_lawEach, .inl (cyI, 6, .inl a_f_lawEach)), (a_lawFrom, .inl (cyI, 6, .inl a_f_lawFrom)), (a_foes, .inl (cyI, 7, .inl a_f_foes)), (a_suitTable, .inl (cyI, 49, .inl a_f_suitTable)), (a_acts, .inl (cyI, 40, .inl a_f_acts))] U.heap ∧ va_K (dC, dI) vwCl [(cyI, .int), (cyB, .byte), (cyJ, .long), (cyZ, .boolean), (cyH, .object RX2), (cyN, .array .long)] U)) (vp_Si (fun r : Int32 => 0 ≤ r.toInt ∧ r.toInt ≤ 1)) 0 0 (fun _ => False) := by
  refine Met.ofW (cc := cX2_canLeap) (maxL := 3) (ret := (some .boolean)) (by decide) rfl ?_
  intro p e s m args below meth c s₁ B hml hv
  obtain ⟨rfl, hP, hK⟩ := hv
  have hx := B.exec
  have hb := B.bytes
  have hr := B.returns
  have hts : ∀ w ∈ uU, w.before ([.ref h0, .int p0, .int p1] : List Value).toArray s = true := fun w h => atoms_spec (ws := wk yX2_canLeap cX2_canLeap 3 (some .boolean)) B.pre w (List.mem_cons_of_mem _ h)
  have hown : s.vm.findClass RX2 = some m.cls := findClass_of_methodNamed B.named
  have hlocks := B.notSynchronized
  have hl := lv_entry ([.ref h0, .int p0, .int p1]) (n := 3) (Nat.le_of_ble_eq_true rfl)
  rw [lg_entry_eq]
  generalize (lg_sl ([.ref h0, .int p0, .int p1]) ++ List.replicate (3 - (lg_sl ([.ref h0, .int p0, .int p1])).length) Slot.unset).toArray = ls at hl ⊢
  have hl : lv_has ls 3 [(0, .ref h0), (1, .int p0), (2, .int p1)] := hl
  obtain ⟨Q9, hQ9⟩ : ∃ Q9 : State → Prop, Q9 = MQ below (vp_Si (fun r : Int32 => 0 ≤ r.toInt ∧ r.toInt ≤ 1)) ([.ref h0, .int p0, .int p1] : List Value).toArray s 0 0 (fun _ => False) := ⟨_, rfl⟩
  rw [← hQ9]
  refine lv_aload_n hx hb dX2_canLeap_0 rfl (lv_at hl 0 rfl) ?_
  refine va_get (D := (dC, dI)) (ci := 2) (v := .int a_le) (C := RX2) (T := TX2) (N := 15) hx hb hts uinX2 hown hK hP 0 rfl rfl 2 (by decide) (hts _ wd_1_89) (fun _ h9 => h9) rfl dX2_canLeap_1 ?_
  refine lv_iload_n hx hb dX2_canLeap_4 rfl (lv_at hl 1 rfl) ?_
  refine lv_iload_n hx hb dX2_canLeap_5 rfl (lv_at hl 2 rfl) ?_
  refine lv_isub hx hb dX2_canLeap_6 ?_
  refine lv_topi (fun x_1 ex_1 => ?_)
  have fx_1 : x_1.toInt = p0.toInt - p1.toInt := by rw [ex_1]; exact cv_subI (by omega) (by omega)
  refine va_mabs hx hb (by rw [hml]; exact hl.1.symm) hown (hts _ wd_5_115) (hts _ wd_3_180) (hts _ wd_1_13) (hts _ wd_3_181) (Nat.le_of_ble_eq_true rfl) (Nat.le_of_ble_eq_true rfl) (Nat.le_of_ble_eq_true rfl) (Nat.le_of_ble_eq_true rfl) dX2_canLeap_7 ?_
  refine lv_topi (fun x_2 ex_2 => ?_)
  have fx_2 : 0 ≤ x_2.toInt ∧ x_2.toInt ≤ 6 := by rw [ex_2]; have q := cv_abs (x := x_1) (by omega); omega
  refine lv_ishr hx hb dX2_canLeap_10 ?_
  refine lv_topi (fun x_3 ex_3 => ?_)
  refine lv_iconst (v := 1) hx hb dX2_canLeap_11 (by decide) ?_
  refine lv_iand hx hb dX2_canLeap_12 ?_
  refine lv_topi (fun x_4 ex_4 => ?_)
  have fx_4 : 0 ≤ x_4.toInt ∧ x_4.toInt ≤ 1 := by rw [ex_4]; exact cv_andR (by decide) (by decide)
  have join_6 : ∀ (u_5 : Int32) (ls : Array Slot), (0 ≤ u_5.toInt ∧ u_5.toInt ≤ 1) → lv_has ls 3 [(0, .ref h0), (1, .int p0), (2, .int p1)] → W p l e ({ frames := 1, cells := 0, slots := 0, locals := 60 }) s m ([.ref h0, .int p0, .int p1] : List Value).toArray below meth c s.heap [] 0 0 Q9 (F0 m 21 ls [.int u_5]) := by
    intro u_5 ls hu_5 hl
    rw [hQ9]
    exact W.zret (v := u_5) (ty := .boolean) hx hb hr (cv_nz (by omega) (by omega)) (fun t ht hW => ⟨u_5, rfl, (by omega), ht⟩) (fun q h => by cases h) dX2_canLeap_21
  refine lv_if_eq (tgt := 20) hx hb dX2_canLeap_13 (by decide) (fun c_7 => ?_) (fun c_7 => ?_)
  · have c_7 : x_4.toInt = 0 := cv_eq c_7
    refine lv_iconst (v := 0) hx hb dX2_canLeap_20 (by decide) ?_
    exact join_6 0 _ (by decide) (lv_sub hl [0, 1, 2] rfl)
  · have c_7 : x_4.toInt ≠ 0 := cv_ne c_7
    refine lv_iconst (v := 1) hx hb dX2_canLeap_16 (by decide) ?_
    refine lv_goto (tgt := 21) hx hb dX2_canLeap_17 (by decide) ?_
    exact join_6 1 _ (by decide) (lv_sub hl [0, 1, 2] rfl)

/- X2_lawsIn -/
set_option maxHeartbeats 4000000 in
set_option maxRecDepth 100000 in
theorem n_lawsIn (l : Launch) (dC : Nat → ClassId) (dI : Nat → Nat → Nat) (cyI cyB cyJ cyZ cyH cyN : ClassId) (h0 a_first a_now a_lawPlace a_lawOther a_lawEach a_lawFrom a_foes a_suitTable a_acts : Nat) (a_pl a_li a_le a_lc a_ac a_ng : Int32) (a_f_first a_f_now a_f_lawPlace a_f_lawOther a_f_lawEach a_f_lawFrom a_f_foes a_f_suitTable a_f_acts : Nat → Int32) (p0 : Int32) (g0 : rg 0 6 7 a_f_first) (g1 : rg 0 6 7 a_f_now) (g2 : rg 0 6 6 a_f_lawPlace) (g3 : rg 0 6 6 a_f_lawOther) (g4 : ra 40 a_f_acts) (g5 : 0 ≤ a_pl.toInt ∧ a_pl.toInt ≤ 7) (g6 : 0 ≤ a_lc.toInt ∧ a_lc.toInt ≤ 6) (g7 : 0 ≤ a_ac.toInt ∧ a_ac.toInt ≤ 40) : Met l yX2_lawsIn (wk yX2_lawsIn cX2_lawsIn 5 (some .int)) ({ frames := 1, cells := 0, slots := 0, locals := 60 }) (va_Pc [.ref h0, .int p0] (fun U => va_P (dC, dI) vwCl [(h0, .inr (2, [.int a_pl, .int a_li, .int a_le, .int a_lc, .int a_ac, .int a_ng, .ref a_first, .ref a_now, .ref a_lawPlace, .ref a_lawOther, .ref a_lawEach, .ref a_lawFrom, .ref a_foes, .ref a_suitTable, .ref a_acts])), (a_first, .inl (cyI, 7, .inl a_f_first)), (a_now, .inl (cyI, 7, .inl a_f_now)), (a_lawPlace, .inl (cyI, 6, .inl a_f_lawPlace)), (a_lawOther, .inl (cyI, 6, .inl a_f_lawOther)), (a_lawEach, .inl (cyI, 6, .inl a_f_lawEach)), (a_lawFrom, .inl (cyI, 6, .inl a_f_lawFrom)), (a_foes, .inl (cyI, 7, .inl a_f_foes)), (a_suitTable, .inl (cyI, 49, .inl a_f_suitTable)), (a_acts, .inl (cyI, 40, .inl a_f_acts))] U.heap ∧ va_K (dC, dI) vwCl [(cyI, .int), (cyB, .byte), (cyJ, .long), (cyZ, .boolean), (cyH, .object RX2), (cyN, .array .long)] U)) (vp_Si (fun r : Int32 => True)) 0 0 (fun _ => False) := by
  refine Met.ofW (cc := cX2_lawsIn) (maxL := 5) (ret := (some .int)) (by decide) rfl ?_
  intro p e s m args below meth c s₁ B hml hv
  obtain ⟨rfl, hP, hK⟩ := hv
  have hx := B.exec
  have hb := B.bytes
  have hr := B.returns
  have hts : ∀ w ∈ uU, w.before ([.ref h0, .int p0] : List Value).toArray s = true := fun w h => atoms_spec (ws := wk yX2_lawsIn cX2_lawsIn 5 (some .int)) B.pre w (List.mem_cons_of_mem _ h)
  have hown : s.vm.findClass RX2 = some m.cls := findClass_of_methodNamed B.named
  have hlocks := B.notSynchronized
  have hl := lv_entry ([.ref h0, .int p0]) (n := 5) (Nat.le_of_ble_eq_true rfl)
  rw [lg_entry_eq]
  generalize (lg_sl ([.ref h0, .int p0]) ++ List.replicate (5 - (lg_sl ([.ref h0, .int p0])).length) Slot.unset).toArray = ls at hl ⊢
  have hl : lv_has ls 5 [(0, .ref h0), (1, .int p0)] := hl
  obtain ⟨Q9, hQ9⟩ : ∃ Q9 : State → Prop, Q9 = MQ below (vp_Si (fun r : Int32 => True)) ([.ref h0, .int p0] : List Value).toArray s 0 0 (fun _ => False) := ⟨_, rfl⟩
  rw [← hQ9]
  refine lv_iconst (v := 0) hx hb dX2_lawsIn_0 (by decide) ?_
  refine lv_istore_n (lv' := [(2, .int 0), (0, .ref h0), (1, .int p0)]) hx hb dX2_lawsIn_1 rfl hl (by decide) rfl (fun ls hl => ?_)
  refine lv_iconst (v := 0) hx hb dX2_lawsIn_2 (by decide) ?_
  refine lv_istore_n (lv' := [(3, .int 0), (2, .int 0), (0, .ref h0), (1, .int p0)]) hx hb dX2_lawsIn_3 rfl hl (by decide) rfl (fun ls hl => ?_)
  have key_3 : ∀ (nkey_3 : Nat) (u_1 : Int32) (u_2 : Int32) (ls : Array Slot), (0 ≤ u_1.toInt ∧ u_1.toInt ≤ 6) → (0 ≤ u_2.toInt ∧ u_2.toInt ≤ 63) → lv_has ls 5 [(3, .int u_1), (2, .int u_2), (0, .ref h0), (1, .int p0)] → (a_lc.toInt - u_1.toInt).toNat < nkey_3 → W p l e ({ frames := 1, cells := 0, slots := 0, locals := 60 }) s m ([.ref h0, .int p0] : List Value).toArray below meth c s.heap [] 0 0 Q9 (F0 m 4 ls []) := by
    intro nkey_3
    induction nkey_3 with
    | zero => intro u_1 u_2 ls hu_1 hu_2 hl hnkey_3; exact absurd hnkey_3 (Nat.not_lt_zero _)
    | succ nkey_3 ihkey_3 =>
      intro u_1 u_2 ls hu_1 hu_2 hl hnkey_3
      refine lv_iload_n hx hb dX2_lawsIn_4 rfl (lv_at hl 0 rfl) ?_
      refine lv_aload_n hx hb dX2_lawsIn_5 rfl (lv_at hl 2 rfl) ?_
      refine va_get (D := (dC, dI)) (ci := 2) (v := .int a_lc) (C := RX2) (T := TX2) (N := 15) hx hb hts uinX2 hown hK hP 0 rfl rfl 3 (by decide) (hts _ wd_1_92) (fun _ h9 => h9) rfl dX2_lawsIn_6 ?_
      refine lv_icmp_ge (tgt := 51) hx hb dX2_lawsIn_9 (by decide) (fun c_4 => ?_) (fun c_4 => ?_)
      · have c_4 : a_lc.toInt ≤ u_1.toInt := cv_le c_4
        refine lv_iload_n hx hb dX2_lawsIn_51 rfl (lv_at hl 1 rfl) ?_
        rw [hQ9]
        exact W.iret (v := u_2) hx hb hr (fun t ht hW => ⟨u_2, rfl, trivial, ht⟩) (fun q h => by cases h) dX2_lawsIn_52
      · have c_4 : u_1.toInt < a_lc.toInt := cv_nle c_4
        refine lv_aload_n hx hb dX2_lawsIn_12 rfl (lv_at hl 2 rfl) ?_
        refine va_get (D := (dC, dI)) (ci := 2) (v := .ref a_lawEach) (C := RX2) (T := TX2) (N := 15) hx hb hts uinX2 hown hK hP 0 rfl rfl 10 (by decide) (hts _ wd_1_113) (fun _ h9 => h9) rfl dX2_lawsIn_13 ?_
        refine lv_iload_n hx hb dX2_lawsIn_16 rfl (lv_at hl 0 rfl) ?_
        refine va_iald hx hb hK hP 5 0 rfl rfl (vp_in_iff.mpr (by omega)) dX2_lawsIn_17 ?_
        refine lv_topi (fun x_5 ex_5 => ?_)
        refine lv_istore (lv' := [(4, .int x_5), (3, .int u_1), (2, .int u_2), (0, .ref h0), (1, .int p0)]) hx hb dX2_lawsIn_18 hl (by decide) rfl (fun ls hl => ?_)
        refine lv_iload hx hb dX2_lawsIn_20 (lv_at hl 0 rfl) ?_
        have join_7 : ∀ (u_6 : Int32) (ls : Array Slot), (0 ≤ u_6.toInt ∧ u_6.toInt ≤ 63) → lv_has ls 5 [(4, .int x_5), (3, .int u_1), (2, .int u_6), (0, .ref h0), (1, .int p0)] → W p l e ({ frames := 1, cells := 0, slots := 0, locals := 60 }) s m ([.ref h0, .int p0] : List Value).toArray below meth c s.heap [] 0 0 Q9 (F0 m 45 ls []) := by
          intro u_6 ls hu_6 hl
          obtain ⟨x_8, ex_8⟩ : ∃ y : Int32, y = u_1 + 1 := ⟨_, rfl⟩
          refine lv_iinc (v := x_8) (lv' := [(3, .int x_8), (4, .int x_5), (2, .int u_6), (0, .ref h0), (1, .int p0)]) hx hb dX2_lawsIn_45 hl (k := 1) rfl (by rw [ex_8]; rfl) (by decide) rfl (fun ls hl => ?_)
          have fx_8 : x_8.toInt = u_1.toInt + 1 := by rw [ex_8]; exact cv_addI (by have : (1 : Int32).toInt = 1 := rfl; omega) (by have : (1 : Int32).toInt = 1 := rfl; omega)
          refine lv_goto (tgt := 4) hx hb dX2_lawsIn_48 (by decide) ?_
          exact ihkey_3 x_8 u_6 _ (by omega) (by omega) (lv_sub hl [0, 2, 3, 4] rfl) (by omega)
        refine lv_if_le (tgt := 45) hx hb dX2_lawsIn_22 (by decide) (fun c_9 => ?_) (fun c_9 => ?_)
        · have c_9 : x_5.toInt ≤ 0 := cv_le c_9
          exact join_7 u_2 _ (by omega) (lv_sub hl [0, 1, 2, 3, 4] rfl)
        · have c_9 : 0 < x_5.toInt := cv_nle c_9
          refine lv_iload_n hx hb dX2_lawsIn_25 rfl (lv_at hl 4 rfl) ?_
          refine lv_aload_n hx hb dX2_lawsIn_26 rfl (lv_at hl 3 rfl) ?_
          refine va_get (D := (dC, dI)) (ci := 2) (v := .ref a_lawFrom) (C := RX2) (T := TX2) (N := 15) hx hb hts uinX2 hown hK hP 0 rfl rfl 11 (by decide) (hts _ wd_1_116) (fun _ h9 => h9) rfl dX2_lawsIn_27 ?_
          refine lv_iload_n hx hb dX2_lawsIn_30 rfl (lv_at hl 1 rfl) ?_
          refine va_iald hx hb hK hP 6 0 rfl rfl (vp_in_iff.mpr (by omega)) dX2_lawsIn_31 ?_
          refine lv_topi (fun x_10 ex_10 => ?_)
          refine lv_isub hx hb dX2_lawsIn_32 ?_
          refine lv_topi (fun x_11 ex_11 => ?_)
          refine lv_iload hx hb dX2_lawsIn_33 (lv_at hl 0 rfl) ?_
          refine lv_irem hx hb dX2_lawsIn_35 (fun q => by have := congrArg Int32.toInt q; have h0 : (0 : Int32).toInt = 0 := rfl; omega) ?_
          refine lv_topi (fun x_12 ex_12 => ?_)
          refine lv_if_ne (tgt := 45) hx hb dX2_lawsIn_36 (by decide) (fun c_13 => ?_) (fun c_13 => ?_)
          · have c_13 : x_12.toInt ≠ 0 := cv_ne c_13
            exact join_7 u_2 _ (by omega) (lv_sub hl [0, 1, 2, 3, 4] rfl)
          · have c_13 : x_12.toInt = 0 := cv_eq c_13
            refine lv_iload_n hx hb dX2_lawsIn_39 rfl (lv_at hl 2 rfl) ?_
            refine lv_iconst (v := 1) hx hb dX2_lawsIn_40 (by decide) ?_
            refine lv_iload_n hx hb dX2_lawsIn_41 rfl (lv_at hl 1 rfl) ?_
            refine lv_ishl hx hb dX2_lawsIn_42 ?_
            refine lv_topi (fun x_14 ex_14 => ?_)
            have fx_14 : 1 ≤ x_14.toInt ∧ x_14.toInt ≤ 32 := by rw [ex_14]; have q := cv_shl1 (y := u_1) 0 5 (by decide) (by decide) (by omega) (by omega); omega
            refine lv_ior hx hb dX2_lawsIn_43 ?_
            refine lv_topi (fun x_15 ex_15 => ?_)
            have fx_15 : 0 ≤ x_15.toInt ∧ x_15.toInt ≤ 63 := by rw [ex_15]; have q := cv_or (x := u_2) (y := x_14) 6 (by decide) (by omega) (by omega) (by omega) (by omega); omega
            refine lv_istore_n (lv' := [(2, .int x_15), (4, .int x_5), (3, .int u_1), (0, .ref h0), (1, .int p0)]) hx hb dX2_lawsIn_44 rfl hl (by decide) rfl (fun ls hl => ?_)
            exact join_7 x_15 _ (by omega) (lv_sub hl [1, 2, 0, 3, 4] rfl)
  exact key_3 _ 0 0 _ (by decide) (by decide) (lv_sub hl [0, 1, 2, 3] rfl) (Nat.lt_succ_self _)

/- X2_canAct -/
set_option maxHeartbeats 4000000 in
set_option maxRecDepth 100000 in
theorem n_canAct (l : Launch) (dC : Nat → ClassId) (dI : Nat → Nat → Nat) (cyI cyB cyJ cyZ cyH cyN : ClassId) (h0 a_first a_now a_lawPlace a_lawOther a_lawEach a_lawFrom a_foes a_suitTable a_acts : Nat) (a_pl a_li a_le a_lc a_ac a_ng : Int32) (a_f_first a_f_now a_f_lawPlace a_f_lawOther a_f_lawEach a_f_lawFrom a_f_foes a_f_suitTable a_f_acts : Nat → Int32) (g0 : rg 0 6 7 a_f_first) (g1 : rg 0 6 7 a_f_now) (g2 : rg 0 6 6 a_f_lawPlace) (g3 : rg 0 6 6 a_f_lawOther) (g4 : ra 40 a_f_acts) (g5 : 0 ≤ a_pl.toInt ∧ a_pl.toInt ≤ 7) (g6 : 0 ≤ a_lc.toInt ∧ a_lc.toInt ≤ 6) (g7 : 0 ≤ a_ac.toInt ∧ a_ac.toInt ≤ 40) : Met l yX2_canAct (wk yX2_canAct cX2_canAct 1 (some .boolean)) ({ frames := 1, cells := 0, slots := 0, locals := 60 }) (va_Pc [.ref h0] (fun U => va_P (dC, dI) vwCl [(h0, .inr (2, [.int a_pl, .int a_li, .int a_le, .int a_lc, .int a_ac, .int a_ng, .ref a_first, .ref a_now, .ref a_lawPlace, .ref a_lawOther, .ref a_lawEach, .ref a_lawFrom, .ref a_foes, .ref a_suitTable, .ref a_acts])), (a_first, .inl (cyI, 7, .inl a_f_first)), (a_now, .inl (cyI, 7, .inl a_f_now)), (a_lawPlace, .inl (cyI, 6, .inl a_f_lawPlace)), (a_lawOther, .inl (cyI, 6, .inl a_f_lawOther)), (a_lawEach, .inl (cyI, 6, .inl a_f_lawEach)), (a_lawFrom, .inl (cyI, 6, .inl a_f_lawFrom)), (a_foes, .inl (cyI, 7, .inl a_f_foes)), (a_suitTable, .inl (cyI, 49, .inl a_f_suitTable)), (a_acts, .inl (cyI, 40, .inl a_f_acts))] U.heap ∧ va_K (dC, dI) vwCl [(cyI, .int), (cyB, .byte), (cyJ, .long), (cyZ, .boolean), (cyH, .object RX2), (cyN, .array .long)] U)) (vp_Si (fun r : Int32 => r = (if a_ac.toInt < 40 then 1 else 0))) 0 0 (fun _ => False) := by
  refine Met.ofW (cc := cX2_canAct) (maxL := 1) (ret := (some .boolean)) (by decide) rfl ?_
  intro p e s m args below meth c s₁ B hml hv
  obtain ⟨rfl, hP, hK⟩ := hv
  have hx := B.exec
  have hb := B.bytes
  have hr := B.returns
  have hts : ∀ w ∈ uU, w.before ([.ref h0] : List Value).toArray s = true := fun w h => atoms_spec (ws := wk yX2_canAct cX2_canAct 1 (some .boolean)) B.pre w (List.mem_cons_of_mem _ h)
  have hown : s.vm.findClass RX2 = some m.cls := findClass_of_methodNamed B.named
  have hlocks := B.notSynchronized
  have hl := lv_entry ([.ref h0]) (n := 1) (Nat.le_of_ble_eq_true rfl)
  rw [lg_entry_eq]
  generalize (lg_sl ([.ref h0]) ++ List.replicate (1 - (lg_sl ([.ref h0])).length) Slot.unset).toArray = ls at hl ⊢
  have hl : lv_has ls 1 [(0, .ref h0)] := hl
  obtain ⟨Q9, hQ9⟩ : ∃ Q9 : State → Prop, Q9 = MQ below (vp_Si (fun r : Int32 => r = (if a_ac.toInt < 40 then 1 else 0))) ([.ref h0] : List Value).toArray s 0 0 (fun _ => False) := ⟨_, rfl⟩
  rw [← hQ9]
  refine lv_aload_n hx hb dX2_canAct_0 rfl (lv_at hl 0 rfl) ?_
  refine va_get (D := (dC, dI)) (ci := 2) (v := .int a_ac) (C := RX2) (T := TX2) (N := 15) hx hb hts uinX2 hown hK hP 0 rfl rfl 4 (by decide) (hts _ wd_1_95) (fun _ h9 => h9) rfl dX2_canAct_1 ?_
  refine lv_if_lt (tgt := 20) hx hb dX2_canAct_4 (by decide) (fun c_1 => absurd (show a_ac.toInt < 0 from cv_lt c_1) (by omega)) (fun _ => ?_)
  refine lv_aload_n hx hb dX2_canAct_7 rfl (lv_at hl 0 rfl) ?_
  refine va_get (D := (dC, dI)) (ci := 2) (v := .int a_ac) (C := RX2) (T := TX2) (N := 15) hx hb hts uinX2 hown hK hP 0 rfl rfl 4 (by decide) (hts _ wd_1_95) (fun _ h9 => h9) rfl dX2_canAct_8 ?_
  refine lv_bipush (v := 40) hx hb dX2_canAct_11 (by decide) ?_
  refine lv_icmp_ge (tgt := 20) hx hb dX2_canAct_13 (by decide) (fun c_2 => ?_) (fun c_2 => ?_)
  · have c_2 : 40 ≤ a_ac.toInt := cv_le c_2
    refine lv_iconst (v := 0) hx hb dX2_canAct_20 (by decide) ?_
    rw [hQ9]
    exact W.zret (v := 0) (ty := .boolean) hx hb hr rfl (fun t ht hW => ⟨0, rfl, (by first | (rw [if_pos (by omega)]; done) | (rw [if_neg (by omega)]; done) | (rw [if_neg (by omega), if_pos (by omega)]; done) | (rw [if_neg (by omega), if_neg (by omega)]; done)), ht⟩) (fun q h => by cases h) dX2_canAct_21
  · have c_2 : a_ac.toInt < 40 := cv_nle c_2
    refine lv_iconst (v := 1) hx hb dX2_canAct_16 (by decide) ?_
    refine lv_goto (tgt := 21) hx hb dX2_canAct_17 (by decide) ?_
    rw [hQ9]
    exact W.zret (v := 1) (ty := .boolean) hx hb hr rfl (fun t ht hW => ⟨1, rfl, (by first | (rw [if_pos (by omega)]; done) | (rw [if_neg (by omega)]; done) | (rw [if_neg (by omega), if_pos (by omega)]; done) | (rw [if_neg (by omega), if_neg (by omega)]; done)), ht⟩) (fun q h => by cases h) dX2_canAct_21

/- X2_setPlaces -/
set_option maxHeartbeats 4000000 in
set_option maxRecDepth 100000 in
theorem n_setPlaces (l : Launch) (dC : Nat → ClassId) (dI : Nat → Nat → Nat) (cyI cyB cyJ cyZ cyH cyN : ClassId) (sz : Nat) (h0 a_first a_now a_lawPlace a_lawOther a_lawEach a_lawFrom a_foes a_suitTable a_acts : Nat) (a_pl a_li a_le a_lc a_ac a_ng : Int32) (a_f_first a_f_now a_f_lawPlace a_f_lawOther a_f_lawEach a_f_lawFrom a_f_foes a_f_suitTable a_f_acts : Nat → Int32) (p0 : Int32) (g0 : rg 0 6 7 a_f_first) (g1 : rg 0 6 7 a_f_now) (g2 : rg 0 6 6 a_f_lawPlace) (g3 : rg 0 6 6 a_f_lawOther) (g4 : ra 40 a_f_acts) (g5 : 0 ≤ a_pl.toInt ∧ a_pl.toInt ≤ 7) (g6 : 0 ≤ a_lc.toInt ∧ a_lc.toInt ≤ 6) (g7 : 0 ≤ a_ac.toInt ∧ a_ac.toInt ≤ 40) (g8 : 0 ≤ p0.toInt ∧ p0.toInt ≤ 7) : Met l yX2_setPlaces (wk yX2_setPlaces cX2_setPlaces 3 none) ({ frames := 1, cells := 0, slots := 0, locals := 60 }) (va_Pc [.ref h0, .int p0] (fun U => U.heap.size = sz ∧ va_P (dC, dI) vwCl [(h0, .inr (2, [.int a_pl, .int a_li, .int a_le, .int a_lc, .int a_ac, .int a_ng, .ref a_first, .ref a_now, .ref a_lawPlace, .ref a_lawOther, .ref a_lawEach, .ref a_lawFrom, .ref a_foes, .ref a_suitTable, .ref a_acts])), (a_first, .inl (cyI, 7, .inl a_f_first)), (a_now, .inl (cyI, 7, .inl a_f_now)), (a_lawPlace, .inl (cyI, 6, .inl a_f_lawPlace)), (a_lawOther, .inl (cyI, 6, .inl a_f_lawOther)), (a_lawEach, .inl (cyI, 6, .inl a_f_lawEach)), (a_lawFrom, .inl (cyI, 6, .inl a_f_lawFrom)), (a_foes, .inl (cyI, 7, .inl a_f_foes)), (a_suitTable, .inl (cyI, 49, .inl a_f_suitTable)), (a_acts, .inl (cyI, 40, .inl a_f_acts))] U.heap ∧ va_K (dC, dI) vwCl [(cyI, .int), (cyB, .byte), (cyJ, .long), (cyZ, .boolean), (cyH, .object RX2), (cyN, .array .long)] U ∧ va_D (fun _ => True) [(h0, .inr (2, [.int a_pl, .int a_li, .int a_le, .int a_lc, .int a_ac, .int a_ng, .ref a_first, .ref a_now, .ref a_lawPlace, .ref a_lawOther, .ref a_lawEach, .ref a_lawFrom, .ref a_foes, .ref a_suitTable, .ref a_acts])), (a_first, .inl (cyI, 7, .inl a_f_first)), (a_now, .inl (cyI, 7, .inl a_f_now)), (a_lawPlace, .inl (cyI, 6, .inl a_f_lawPlace)), (a_lawOther, .inl (cyI, 6, .inl a_f_lawOther)), (a_lawEach, .inl (cyI, 6, .inl a_f_lawEach)), (a_lawFrom, .inl (cyI, 6, .inl a_f_lawFrom)), (a_foes, .inl (cyI, 7, .inl a_f_foes)), (a_suitTable, .inl (cyI, 49, .inl a_f_suitTable)), (a_acts, .inl (cyI, 40, .inl a_f_acts))])) (va_Qv (fun _ : Unit => True) (fun (_ : Unit) (t : State) => ∃ z0 : Int32, ∃ y1 : Nat → Int32, ∃ y2 : Nat → Int32, (0 ≤ z0.toInt ∧ z0.toInt ≤ 7) ∧ (rg 0 6 7 y1) ∧ (rg 0 6 7 y2) ∧ va_P (dC, dI) vwCl [(h0, .inr (2, [.int z0, .int a_li, .int a_le, .int a_lc, .int a_ac, .int a_ng, .ref a_first, .ref a_now, .ref a_lawPlace, .ref a_lawOther, .ref a_lawEach, .ref a_lawFrom, .ref a_foes, .ref a_suitTable, .ref a_acts])), (a_first, .inl (cyI, 7, .inl y1)), (a_now, .inl (cyI, 7, .inl y2)), (a_lawPlace, .inl (cyI, 6, .inl a_f_lawPlace)), (a_lawOther, .inl (cyI, 6, .inl a_f_lawOther)), (a_lawEach, .inl (cyI, 6, .inl a_f_lawEach)), (a_lawFrom, .inl (cyI, 6, .inl a_f_lawFrom)), (a_foes, .inl (cyI, 7, .inl a_f_foes)), (a_suitTable, .inl (cyI, 49, .inl a_f_suitTable)), (a_acts, .inl (cyI, 40, .inl a_f_acts))] t.heap ∧ va_D (va_A [(h0, .inr (2, [.int a_pl, .int a_li, .int a_le, .int a_lc, .int a_ac, .int a_ng, .ref a_first, .ref a_now, .ref a_lawPlace, .ref a_lawOther, .ref a_lawEach, .ref a_lawFrom, .ref a_foes, .ref a_suitTable, .ref a_acts])), (a_first, .inl (cyI, 7, .inl a_f_first)), (a_now, .inl (cyI, 7, .inl a_f_now)), (a_lawPlace, .inl (cyI, 6, .inl a_f_lawPlace)), (a_lawOther, .inl (cyI, 6, .inl a_f_lawOther)), (a_lawEach, .inl (cyI, 6, .inl a_f_lawEach)), (a_lawFrom, .inl (cyI, 6, .inl a_f_lawFrom)), (a_foes, .inl (cyI, 7, .inl a_f_foes)), (a_suitTable, .inl (cyI, 49, .inl a_f_suitTable)), (a_acts, .inl (cyI, 40, .inl a_f_acts))] sz) [(h0, .inr (2, [.int z0, .int a_li, .int a_le, .int a_lc, .int a_ac, .int a_ng, .ref a_first, .ref a_now, .ref a_lawPlace, .ref a_lawOther, .ref a_lawEach, .ref a_lawFrom, .ref a_foes, .ref a_suitTable, .ref a_acts])), (a_first, .inl (cyI, 7, .inl y1)), (a_now, .inl (cyI, 7, .inl y2)), (a_lawPlace, .inl (cyI, 6, .inl a_f_lawPlace)), (a_lawOther, .inl (cyI, 6, .inl a_f_lawOther)), (a_lawEach, .inl (cyI, 6, .inl a_f_lawEach)), (a_lawFrom, .inl (cyI, 6, .inl a_f_lawFrom)), (a_foes, .inl (cyI, 7, .inl a_f_foes)), (a_suitTable, .inl (cyI, 49, .inl a_f_suitTable)), (a_acts, .inl (cyI, 40, .inl a_f_acts))]) (va_A [(h0, .inr (2, [.int a_pl, .int a_li, .int a_le, .int a_lc, .int a_ac, .int a_ng, .ref a_first, .ref a_now, .ref a_lawPlace, .ref a_lawOther, .ref a_lawEach, .ref a_lawFrom, .ref a_foes, .ref a_suitTable, .ref a_acts])), (a_first, .inl (cyI, 7, .inl a_f_first)), (a_now, .inl (cyI, 7, .inl a_f_now)), (a_lawPlace, .inl (cyI, 6, .inl a_f_lawPlace)), (a_lawOther, .inl (cyI, 6, .inl a_f_lawOther)), (a_lawEach, .inl (cyI, 6, .inl a_f_lawEach)), (a_lawFrom, .inl (cyI, 6, .inl a_f_lawFrom)), (a_foes, .inl (cyI, 7, .inl a_f_foes)), (a_suitTable, .inl (cyI, 49, .inl a_f_suitTable)), (a_acts, .inl (cyI, 40, .inl a_f_acts))] sz)) 0 0 (va_A [(h0, .inr (2, [.int a_pl, .int a_li, .int a_le, .int a_lc, .int a_ac, .int a_ng, .ref a_first, .ref a_now, .ref a_lawPlace, .ref a_lawOther, .ref a_lawEach, .ref a_lawFrom, .ref a_foes, .ref a_suitTable, .ref a_acts])), (a_first, .inl (cyI, 7, .inl a_f_first)), (a_now, .inl (cyI, 7, .inl a_f_now)), (a_lawPlace, .inl (cyI, 6, .inl a_f_lawPlace)), (a_lawOther, .inl (cyI, 6, .inl a_f_lawOther)), (a_lawEach, .inl (cyI, 6, .inl a_f_lawEach)), (a_lawFrom, .inl (cyI, 6, .inl a_f_lawFrom)), (a_foes, .inl (cyI, 7, .inl a_f_foes)), (a_suitTable, .inl (cyI, 49, .inl a_f_suitTable)), (a_acts, .inl (cyI, 40, .inl a_f_acts))] sz) := by
  refine Met.ofW (cc := cX2_setPlaces) (maxL := 3) (ret := none) (by decide) rfl ?_
  intro p e s m args below meth c s₁ B hml hv
  obtain ⟨rfl, hsz, hP, hK, hD0⟩ := hv
  have hx := B.exec
  have hb := B.bytes
  have hr := B.returns
  have hts : ∀ w ∈ uU, w.before ([.ref h0, .int p0] : List Value).toArray s = true := fun w h => atoms_spec (ws := wk yX2_setPlaces cX2_setPlaces 3 none) B.pre w (List.mem_cons_of_mem _ h)
  have hown : s.vm.findClass RX2 = some m.cls := findClass_of_methodNamed B.named
  have hlocks := B.notSynchronized
  subst hsz
  have hD := hD0.self (sz := s.heap.size)
  generalize hAe : va_A [(h0, .inr (2, [.int a_pl, .int a_li, .int a_le, .int a_lc, .int a_ac, .int a_ng, .ref a_first, .ref a_now, .ref a_lawPlace, .ref a_lawOther, .ref a_lawEach, .ref a_lawFrom, .ref a_foes, .ref a_suitTable, .ref a_acts])), (a_first, .inl (cyI, 7, .inl a_f_first)), (a_now, .inl (cyI, 7, .inl a_f_now)), (a_lawPlace, .inl (cyI, 6, .inl a_f_lawPlace)), (a_lawOther, .inl (cyI, 6, .inl a_f_lawOther)), (a_lawEach, .inl (cyI, 6, .inl a_f_lawEach)), (a_lawFrom, .inl (cyI, 6, .inl a_f_lawFrom)), (a_foes, .inl (cyI, 7, .inl a_f_foes)), (a_suitTable, .inl (cyI, 49, .inl a_f_suitTable)), (a_acts, .inl (cyI, 40, .inl a_f_acts))] s.heap.size = A at hD ⊢
  have hA : ∀ q : Nat, s.heap.size ≤ q → A q := fun q h => by rw [← hAe]; exact Or.inr h
  have hS : va_S A s.heap s.heap [] := va_S.rf
  have hP : va_P (dC, dI) vwCl [(h0, .inr (2, [.int a_pl, .int a_li, .int a_le, .int a_lc, .int a_ac, .int a_ng, .ref a_first, .ref a_now, .ref a_lawPlace, .ref a_lawOther, .ref a_lawEach, .ref a_lawFrom, .ref a_foes, .ref a_suitTable, .ref a_acts])), (a_first, .inl (cyI, 7, .inl a_f_first)), (a_now, .inl (cyI, 7, .inl a_f_now)), (a_lawPlace, .inl (cyI, 6, .inl a_f_lawPlace)), (a_lawOther, .inl (cyI, 6, .inl a_f_lawOther)), (a_lawEach, .inl (cyI, 6, .inl a_f_lawEach)), (a_lawFrom, .inl (cyI, 6, .inl a_f_lawFrom)), (a_foes, .inl (cyI, 7, .inl a_f_foes)), (a_suitTable, .inl (cyI, 49, .inl a_f_suitTable)), (a_acts, .inl (cyI, 40, .inl a_f_acts))] s.heap := hP
  have hl := lv_entry ([.ref h0, .int p0]) (n := 3) (Nat.le_of_ble_eq_true rfl)
  rw [lg_entry_eq]
  generalize (lg_sl ([.ref h0, .int p0]) ++ List.replicate (3 - (lg_sl ([.ref h0, .int p0])).length) Slot.unset).toArray = ls at hl ⊢
  have hl : lv_has ls 3 [(0, .ref h0), (1, .int p0)] := hl
  obtain ⟨H, hHe⟩ : ∃ H, H = s.heap := ⟨_, rfl⟩
  have hP : va_P (dC, dI) vwCl [(h0, .inr (2, [.int a_pl, .int a_li, .int a_le, .int a_lc, .int a_ac, .int a_ng, .ref a_first, .ref a_now, .ref a_lawPlace, .ref a_lawOther, .ref a_lawEach, .ref a_lawFrom, .ref a_foes, .ref a_suitTable, .ref a_acts])), (a_first, .inl (cyI, 7, .inl a_f_first)), (a_now, .inl (cyI, 7, .inl a_f_now)), (a_lawPlace, .inl (cyI, 6, .inl a_f_lawPlace)), (a_lawOther, .inl (cyI, 6, .inl a_f_lawOther)), (a_lawEach, .inl (cyI, 6, .inl a_f_lawEach)), (a_lawFrom, .inl (cyI, 6, .inl a_f_lawFrom)), (a_foes, .inl (cyI, 7, .inl a_f_foes)), (a_suitTable, .inl (cyI, 49, .inl a_f_suitTable)), (a_acts, .inl (cyI, 40, .inl a_f_acts))] H := by rw [hHe]; exact hP
  have hS : va_S A s.heap H [] := by rw [hHe]; exact hS
  refine cv_heap hHe ?_
  obtain ⟨Q9, hQ9⟩ : ∃ Q9 : State → Prop, Q9 = MQ below (va_Qv (fun _ : Unit => True) (fun (_ : Unit) (t : State) => ∃ z0 : Int32, ∃ y1 : Nat → Int32, ∃ y2 : Nat → Int32, (0 ≤ z0.toInt ∧ z0.toInt ≤ 7) ∧ (rg 0 6 7 y1) ∧ (rg 0 6 7 y2) ∧ va_P (dC, dI) vwCl [(h0, .inr (2, [.int z0, .int a_li, .int a_le, .int a_lc, .int a_ac, .int a_ng, .ref a_first, .ref a_now, .ref a_lawPlace, .ref a_lawOther, .ref a_lawEach, .ref a_lawFrom, .ref a_foes, .ref a_suitTable, .ref a_acts])), (a_first, .inl (cyI, 7, .inl y1)), (a_now, .inl (cyI, 7, .inl y2)), (a_lawPlace, .inl (cyI, 6, .inl a_f_lawPlace)), (a_lawOther, .inl (cyI, 6, .inl a_f_lawOther)), (a_lawEach, .inl (cyI, 6, .inl a_f_lawEach)), (a_lawFrom, .inl (cyI, 6, .inl a_f_lawFrom)), (a_foes, .inl (cyI, 7, .inl a_f_foes)), (a_suitTable, .inl (cyI, 49, .inl a_f_suitTable)), (a_acts, .inl (cyI, 40, .inl a_f_acts))] t.heap ∧ va_D A [(h0, .inr (2, [.int z0, .int a_li, .int a_le, .int a_lc, .int a_ac, .int a_ng, .ref a_first, .ref a_now, .ref a_lawPlace, .ref a_lawOther, .ref a_lawEach, .ref a_lawFrom, .ref a_foes, .ref a_suitTable, .ref a_acts])), (a_first, .inl (cyI, 7, .inl y1)), (a_now, .inl (cyI, 7, .inl y2)), (a_lawPlace, .inl (cyI, 6, .inl a_f_lawPlace)), (a_lawOther, .inl (cyI, 6, .inl a_f_lawOther)), (a_lawEach, .inl (cyI, 6, .inl a_f_lawEach)), (a_lawFrom, .inl (cyI, 6, .inl a_f_lawFrom)), (a_foes, .inl (cyI, 7, .inl a_f_foes)), (a_suitTable, .inl (cyI, 49, .inl a_f_suitTable)), (a_acts, .inl (cyI, 40, .inl a_f_acts))]) A) ([.ref h0, .int p0] : List Value).toArray s 0 0 A := ⟨_, rfl⟩
  rw [← hQ9]
  refine lv_aload_n hx hb dX2_setPlaces_0 rfl (lv_at hl 0 rfl) ?_
  refine lv_iload_n hx hb dX2_setPlaces_1 rfl (lv_at hl 1 rfl) ?_
  refine va_put (D := (dC, dI)) (ci := 2) (v := .int p0) (ty := .int) (C := RX2) (T := TX2) (N := 15) hx hb hts uinX2 tyX2 tyX2_ok nmX2 hown hK hP hD hS 0 rfl rfl 0 (by decide) (hts _ wd_1_77) (fun _ h9 => h9) rfl (by decide +kernel) rfl rfl (Nat.le_of_ble_eq_true rfl) dX2_setPlaces_2 (fun H locs hP hD hS => ?_)
  have hP : va_P (dC, dI) vwCl [(h0, .inr (2, [.int p0, .int a_li, .int a_le, .int a_lc, .int a_ac, .int a_ng, .ref a_first, .ref a_now, .ref a_lawPlace, .ref a_lawOther, .ref a_lawEach, .ref a_lawFrom, .ref a_foes, .ref a_suitTable, .ref a_acts])), (a_first, .inl (cyI, 7, .inl a_f_first)), (a_now, .inl (cyI, 7, .inl a_f_now)), (a_lawPlace, .inl (cyI, 6, .inl a_f_lawPlace)), (a_lawOther, .inl (cyI, 6, .inl a_f_lawOther)), (a_lawEach, .inl (cyI, 6, .inl a_f_lawEach)), (a_lawFrom, .inl (cyI, 6, .inl a_f_lawFrom)), (a_foes, .inl (cyI, 7, .inl a_f_foes)), (a_suitTable, .inl (cyI, 49, .inl a_f_suitTable)), (a_acts, .inl (cyI, 40, .inl a_f_acts))] H := hP
  have hD : va_D A [(h0, .inr (2, [.int p0, .int a_li, .int a_le, .int a_lc, .int a_ac, .int a_ng, .ref a_first, .ref a_now, .ref a_lawPlace, .ref a_lawOther, .ref a_lawEach, .ref a_lawFrom, .ref a_foes, .ref a_suitTable, .ref a_acts])), (a_first, .inl (cyI, 7, .inl a_f_first)), (a_now, .inl (cyI, 7, .inl a_f_now)), (a_lawPlace, .inl (cyI, 6, .inl a_f_lawPlace)), (a_lawOther, .inl (cyI, 6, .inl a_f_lawOther)), (a_lawEach, .inl (cyI, 6, .inl a_f_lawEach)), (a_lawFrom, .inl (cyI, 6, .inl a_f_lawFrom)), (a_foes, .inl (cyI, 7, .inl a_f_foes)), (a_suitTable, .inl (cyI, 49, .inl a_f_suitTable)), (a_acts, .inl (cyI, 40, .inl a_f_acts))] := hD
  refine lv_iconst (v := 0) hx hb dX2_setPlaces_5 (by decide) ?_
  refine lv_istore_n (lv' := [(2, .int 0), (0, .ref h0), (1, .int p0)]) hx hb dX2_setPlaces_6 rfl hl (by decide) rfl (fun ls hl => ?_)
  have key_4 : ∀ (nkey_4 : Nat) (u_1 : Int32) (f_2 : Nat → Int32) (f_3 : Nat → Int32) (H : Heap) (locs : List Loc) (ls : Array Slot), (0 ≤ u_1.toInt ∧ u_1.toInt ≤ 7) → rg 0 6 7 f_2 → rg 0 6 7 f_3 → va_P (dC, dI) vwCl [(h0, .inr (2, [.int p0, .int a_li, .int a_le, .int a_lc, .int a_ac, .int a_ng, .ref a_first, .ref a_now, .ref a_lawPlace, .ref a_lawOther, .ref a_lawEach, .ref a_lawFrom, .ref a_foes, .ref a_suitTable, .ref a_acts])), (a_first, .inl (cyI, 7, .inl f_2)), (a_now, .inl (cyI, 7, .inl f_3)), (a_lawPlace, .inl (cyI, 6, .inl a_f_lawPlace)), (a_lawOther, .inl (cyI, 6, .inl a_f_lawOther)), (a_lawEach, .inl (cyI, 6, .inl a_f_lawEach)), (a_lawFrom, .inl (cyI, 6, .inl a_f_lawFrom)), (a_foes, .inl (cyI, 7, .inl a_f_foes)), (a_suitTable, .inl (cyI, 49, .inl a_f_suitTable)), (a_acts, .inl (cyI, 40, .inl a_f_acts))] H → va_D A [(h0, .inr (2, [.int p0, .int a_li, .int a_le, .int a_lc, .int a_ac, .int a_ng, .ref a_first, .ref a_now, .ref a_lawPlace, .ref a_lawOther, .ref a_lawEach, .ref a_lawFrom, .ref a_foes, .ref a_suitTable, .ref a_acts])), (a_first, .inl (cyI, 7, .inl f_2)), (a_now, .inl (cyI, 7, .inl f_3)), (a_lawPlace, .inl (cyI, 6, .inl a_f_lawPlace)), (a_lawOther, .inl (cyI, 6, .inl a_f_lawOther)), (a_lawEach, .inl (cyI, 6, .inl a_f_lawEach)), (a_lawFrom, .inl (cyI, 6, .inl a_f_lawFrom)), (a_foes, .inl (cyI, 7, .inl a_f_foes)), (a_suitTable, .inl (cyI, 49, .inl a_f_suitTable)), (a_acts, .inl (cyI, 40, .inl a_f_acts))] → va_S A s.heap H locs → lv_has ls 3 [(2, .int u_1), (0, .ref h0), (1, .int p0)] → (7 - u_1.toInt).toNat < nkey_4 → W p l e ({ frames := 1, cells := 0, slots := 0, locals := 60 }) s m ([.ref h0, .int p0] : List Value).toArray below meth c H locs 0 0 Q9 (F0 m 7 ls []) := by
    intro nkey_4
    induction nkey_4 with
    | zero => intro u_1 f_2 f_3 H locs ls hu_1 hf_2 hf_3 hP hD hS hl hnkey_4; exact absurd hnkey_4 (Nat.not_lt_zero _)
    | succ nkey_4 ihkey_4 =>
      intro u_1 f_2 f_3 H locs ls hu_1 hf_2 hf_3 hP hD hS hl hnkey_4
      refine lv_iload_n hx hb dX2_setPlaces_7 rfl (lv_at hl 0 rfl) ?_
      refine lv_bipush (v := 7) hx hb dX2_setPlaces_8 (by decide) ?_
      refine lv_icmp_ge (tgt := 33) hx hb dX2_setPlaces_10 (by decide) (fun c_5 => ?_) (fun c_5 => ?_)
      · have c_5 : 7 ≤ u_1.toInt := cv_le c_5
        rw [hQ9]
        have hP9 := hP.sub (ws' := [(h0, .inr (2, [.int p0, .int a_li, .int a_le, .int a_lc, .int a_ac, .int a_ng, .ref a_first, .ref a_now, .ref a_lawPlace, .ref a_lawOther, .ref a_lawEach, .ref a_lawFrom, .ref a_foes, .ref a_suitTable, .ref a_acts])), (a_first, .inl (cyI, 7, .inl f_2)), (a_now, .inl (cyI, 7, .inl f_3)), (a_lawPlace, .inl (cyI, 6, .inl a_f_lawPlace)), (a_lawOther, .inl (cyI, 6, .inl a_f_lawOther)), (a_lawEach, .inl (cyI, 6, .inl a_f_lawEach)), (a_lawFrom, .inl (cyI, 6, .inl a_f_lawFrom)), (a_foes, .inl (cyI, 7, .inl a_f_foes)), (a_suitTable, .inl (cyI, 49, .inl a_f_suitTable)), (a_acts, .inl (cyI, 40, .inl a_f_acts))]) [0, 1, 2, 3, 4, 5, 6, 7, 8, 9] rfl
        have hD9 := hD.sub (ws' := [(h0, .inr (2, [.int p0, .int a_li, .int a_le, .int a_lc, .int a_ac, .int a_ng, .ref a_first, .ref a_now, .ref a_lawPlace, .ref a_lawOther, .ref a_lawEach, .ref a_lawFrom, .ref a_foes, .ref a_suitTable, .ref a_acts])), (a_first, .inl (cyI, 7, .inl f_2)), (a_now, .inl (cyI, 7, .inl f_3)), (a_lawPlace, .inl (cyI, 6, .inl a_f_lawPlace)), (a_lawOther, .inl (cyI, 6, .inl a_f_lawOther)), (a_lawEach, .inl (cyI, 6, .inl a_f_lawEach)), (a_lawFrom, .inl (cyI, 6, .inl a_f_lawFrom)), (a_foes, .inl (cyI, 7, .inl a_f_foes)), (a_suitTable, .inl (cyI, 49, .inl a_f_suitTable)), (a_acts, .inl (cyI, 40, .inl a_f_acts))]) [0, 1, 2, 3, 4, 5, 6, 7, 8, 9] (by decide) rfl
        exact W.vret hx hb hr (fun t ht hW => ⟨⟨(), rfl, trivial, ⟨p0, f_2, f_3, (by omega), hf_2, hf_3, by rw [ht]; exact hP9, hD9⟩⟩, hS.F ht⟩) hS.2.2 dX2_setPlaces_33
      · have c_5 : u_1.toInt < 7 := cv_nle c_5
        refine lv_aload_n hx hb dX2_setPlaces_13 rfl (lv_at hl 1 rfl) ?_
        refine va_get (D := (dC, dI)) (ci := 2) (v := .ref a_first) (C := RX2) (T := TX2) (N := 15) hx hb hts uinX2 hown hK hP 0 rfl rfl 6 (by decide) (hts _ wd_1_100) (fun _ h9 => h9) rfl dX2_setPlaces_14 ?_
        refine lv_iload_n hx hb dX2_setPlaces_17 rfl (lv_at hl 0 rfl) ?_
        refine lv_iload_n hx hb dX2_setPlaces_18 rfl (lv_at hl 0 rfl) ?_
        refine va_iast hx hb hK hP hD hS 1 0 rfl rfl (vp_in_iff.mpr (by omega)) dX2_setPlaces_19 (fun H locs hP hD hS => ?_)
        obtain ⟨f_6, ef_6⟩ : ∃ z9 : Nat → Int32, z9 = upd f_2 u_1.toNatClampNeg u_1 := ⟨_, rfl⟩
        rw [← ef_6] at hP hD
        have hP : va_P (dC, dI) vwCl [(h0, .inr (2, [.int p0, .int a_li, .int a_le, .int a_lc, .int a_ac, .int a_ng, .ref a_first, .ref a_now, .ref a_lawPlace, .ref a_lawOther, .ref a_lawEach, .ref a_lawFrom, .ref a_foes, .ref a_suitTable, .ref a_acts])), (a_first, .inl (cyI, 7, .inl f_6)), (a_now, .inl (cyI, 7, .inl f_3)), (a_lawPlace, .inl (cyI, 6, .inl a_f_lawPlace)), (a_lawOther, .inl (cyI, 6, .inl a_f_lawOther)), (a_lawEach, .inl (cyI, 6, .inl a_f_lawEach)), (a_lawFrom, .inl (cyI, 6, .inl a_f_lawFrom)), (a_foes, .inl (cyI, 7, .inl a_f_foes)), (a_suitTable, .inl (cyI, 49, .inl a_f_suitTable)), (a_acts, .inl (cyI, 40, .inl a_f_acts))] H := hP
        have hD : va_D A [(h0, .inr (2, [.int p0, .int a_li, .int a_le, .int a_lc, .int a_ac, .int a_ng, .ref a_first, .ref a_now, .ref a_lawPlace, .ref a_lawOther, .ref a_lawEach, .ref a_lawFrom, .ref a_foes, .ref a_suitTable, .ref a_acts])), (a_first, .inl (cyI, 7, .inl f_6)), (a_now, .inl (cyI, 7, .inl f_3)), (a_lawPlace, .inl (cyI, 6, .inl a_f_lawPlace)), (a_lawOther, .inl (cyI, 6, .inl a_f_lawOther)), (a_lawEach, .inl (cyI, 6, .inl a_f_lawEach)), (a_lawFrom, .inl (cyI, 6, .inl a_f_lawFrom)), (a_foes, .inl (cyI, 7, .inl a_f_foes)), (a_suitTable, .inl (cyI, 49, .inl a_f_suitTable)), (a_acts, .inl (cyI, 40, .inl a_f_acts))] := hD
        have hf_6 : rg 0 6 7 f_6 := by rw [ef_6]; exact rg_upd (hf_2) ⟨by omega, by omega⟩
        refine lv_aload_n hx hb dX2_setPlaces_20 rfl (lv_at hl 1 rfl) ?_
        refine va_get (D := (dC, dI)) (ci := 2) (v := .ref a_now) (C := RX2) (T := TX2) (N := 15) hx hb hts uinX2 hown hK hP 0 rfl rfl 7 (by decide) (hts _ wd_1_102) (fun _ h9 => h9) rfl dX2_setPlaces_21 ?_
        refine lv_iload_n hx hb dX2_setPlaces_24 rfl (lv_at hl 0 rfl) ?_
        refine lv_iload_n hx hb dX2_setPlaces_25 rfl (lv_at hl 0 rfl) ?_
        refine va_iast hx hb hK hP hD hS 2 0 rfl rfl (vp_in_iff.mpr (by omega)) dX2_setPlaces_26 (fun H locs hP hD hS => ?_)
        obtain ⟨f_7, ef_7⟩ : ∃ z9 : Nat → Int32, z9 = upd f_3 u_1.toNatClampNeg u_1 := ⟨_, rfl⟩
        rw [← ef_7] at hP hD
        have hP : va_P (dC, dI) vwCl [(h0, .inr (2, [.int p0, .int a_li, .int a_le, .int a_lc, .int a_ac, .int a_ng, .ref a_first, .ref a_now, .ref a_lawPlace, .ref a_lawOther, .ref a_lawEach, .ref a_lawFrom, .ref a_foes, .ref a_suitTable, .ref a_acts])), (a_first, .inl (cyI, 7, .inl f_6)), (a_now, .inl (cyI, 7, .inl f_7)), (a_lawPlace, .inl (cyI, 6, .inl a_f_lawPlace)), (a_lawOther, .inl (cyI, 6, .inl a_f_lawOther)), (a_lawEach, .inl (cyI, 6, .inl a_f_lawEach)), (a_lawFrom, .inl (cyI, 6, .inl a_f_lawFrom)), (a_foes, .inl (cyI, 7, .inl a_f_foes)), (a_suitTable, .inl (cyI, 49, .inl a_f_suitTable)), (a_acts, .inl (cyI, 40, .inl a_f_acts))] H := hP
        have hD : va_D A [(h0, .inr (2, [.int p0, .int a_li, .int a_le, .int a_lc, .int a_ac, .int a_ng, .ref a_first, .ref a_now, .ref a_lawPlace, .ref a_lawOther, .ref a_lawEach, .ref a_lawFrom, .ref a_foes, .ref a_suitTable, .ref a_acts])), (a_first, .inl (cyI, 7, .inl f_6)), (a_now, .inl (cyI, 7, .inl f_7)), (a_lawPlace, .inl (cyI, 6, .inl a_f_lawPlace)), (a_lawOther, .inl (cyI, 6, .inl a_f_lawOther)), (a_lawEach, .inl (cyI, 6, .inl a_f_lawEach)), (a_lawFrom, .inl (cyI, 6, .inl a_f_lawFrom)), (a_foes, .inl (cyI, 7, .inl a_f_foes)), (a_suitTable, .inl (cyI, 49, .inl a_f_suitTable)), (a_acts, .inl (cyI, 40, .inl a_f_acts))] := hD
        have hf_7 : rg 0 6 7 f_7 := by rw [ef_7]; exact rg_upd (hf_3) ⟨by omega, by omega⟩
        obtain ⟨x_8, ex_8⟩ : ∃ y : Int32, y = u_1 + 1 := ⟨_, rfl⟩
        refine lv_iinc (v := x_8) (lv' := [(2, .int x_8), (0, .ref h0), (1, .int p0)]) hx hb dX2_setPlaces_27 hl (k := 0) rfl (by rw [ex_8]; rfl) (by decide) rfl (fun ls hl => ?_)
        have fx_8 : x_8.toInt = u_1.toInt + 1 := by rw [ex_8]; exact cv_addI (by have : (1 : Int32).toInt = 1 := rfl; omega) (by have : (1 : Int32).toInt = 1 := rfl; omega)
        refine lv_goto (tgt := 7) hx hb dX2_setPlaces_30 (by decide) ?_
        exact ihkey_4 x_8 f_6 f_7 _ _ _ (by omega) hf_6 hf_7 hP hD hS (lv_sub hl [0, 1, 2] rfl) (by omega)
  exact key_4 _ 0 a_f_first a_f_now _ _ _ (by decide) g0 g1 hP hD hS (lv_sub hl [0, 1, 2] rfl) (Nat.lt_succ_self _)

/- X2_changeOver -/
set_option maxHeartbeats 4000000 in
set_option maxRecDepth 100000 in
theorem n_changeOver (l : Launch) (dC : Nat → ClassId) (dI : Nat → Nat → Nat) (cyI cyB cyJ cyZ cyH cyN : ClassId) (sz : Nat) (h0 a_first a_now a_lawPlace a_lawOther a_lawEach a_lawFrom a_foes a_suitTable a_acts : Nat) (a_pl a_li a_le a_lc a_ac a_ng : Int32) (a_f_first a_f_now a_f_lawPlace a_f_lawOther a_f_lawEach a_f_lawFrom a_f_foes a_f_suitTable a_f_acts : Nat → Int32) (r0 : Nat) (f0 : Nat → Int32) (p0 : Int32) (g0 : rg 0 6 7 a_f_first) (g1 : rg 0 6 7 a_f_now) (g2 : rg 0 6 6 a_f_lawPlace) (g3 : rg 0 6 6 a_f_lawOther) (g4 : ra 40 a_f_acts) (g5 : rg 0 6 7 f0) (g6 : 0 ≤ a_pl.toInt ∧ a_pl.toInt ≤ 7) (g7 : 0 ≤ a_lc.toInt ∧ a_lc.toInt ≤ 6) (g8 : 0 ≤ a_ac.toInt ∧ a_ac.toInt ≤ 40) : Met l yX2_changeOver (wk yX2_changeOver cX2_changeOver 5 none) ({ frames := 1, cells := 0, slots := 0, locals := 60 }) (va_Pc [.ref h0, .ref r0, .int p0] (fun U => U.heap.size = sz ∧ va_P (dC, dI) vwCl [(h0, .inr (2, [.int a_pl, .int a_li, .int a_le, .int a_lc, .int a_ac, .int a_ng, .ref a_first, .ref a_now, .ref a_lawPlace, .ref a_lawOther, .ref a_lawEach, .ref a_lawFrom, .ref a_foes, .ref a_suitTable, .ref a_acts])), (a_first, .inl (cyI, 7, .inl a_f_first)), (a_now, .inl (cyI, 7, .inl a_f_now)), (a_lawPlace, .inl (cyI, 6, .inl a_f_lawPlace)), (a_lawOther, .inl (cyI, 6, .inl a_f_lawOther)), (a_lawEach, .inl (cyI, 6, .inl a_f_lawEach)), (a_lawFrom, .inl (cyI, 6, .inl a_f_lawFrom)), (a_foes, .inl (cyI, 7, .inl a_f_foes)), (a_suitTable, .inl (cyI, 49, .inl a_f_suitTable)), (a_acts, .inl (cyI, 40, .inl a_f_acts)), (r0, .inl (cyI, 7, .inl f0))] U.heap ∧ va_K (dC, dI) vwCl [(cyI, .int), (cyB, .byte), (cyJ, .long), (cyZ, .boolean), (cyH, .object RX2), (cyN, .array .long)] U ∧ va_D (fun _ => True) [(h0, .inr (2, [.int a_pl, .int a_li, .int a_le, .int a_lc, .int a_ac, .int a_ng, .ref a_first, .ref a_now, .ref a_lawPlace, .ref a_lawOther, .ref a_lawEach, .ref a_lawFrom, .ref a_foes, .ref a_suitTable, .ref a_acts])), (a_first, .inl (cyI, 7, .inl a_f_first)), (a_now, .inl (cyI, 7, .inl a_f_now)), (a_lawPlace, .inl (cyI, 6, .inl a_f_lawPlace)), (a_lawOther, .inl (cyI, 6, .inl a_f_lawOther)), (a_lawEach, .inl (cyI, 6, .inl a_f_lawEach)), (a_lawFrom, .inl (cyI, 6, .inl a_f_lawFrom)), (a_foes, .inl (cyI, 7, .inl a_f_foes)), (a_suitTable, .inl (cyI, 49, .inl a_f_suitTable)), (a_acts, .inl (cyI, 40, .inl a_f_acts)), (r0, .inl (cyI, 7, .inl f0))])) (va_Qv (fun _ : Unit => True) (fun (_ : Unit) (t : State) => ∃ y0 : Nat → Int32, (rg 0 6 7 y0) ∧ va_P (dC, dI) vwCl [(h0, .inr (2, [.int a_pl, .int a_li, .int a_le, .int a_lc, .int a_ac, .int a_ng, .ref a_first, .ref a_now, .ref a_lawPlace, .ref a_lawOther, .ref a_lawEach, .ref a_lawFrom, .ref a_foes, .ref a_suitTable, .ref a_acts])), (a_first, .inl (cyI, 7, .inl a_f_first)), (a_now, .inl (cyI, 7, .inl a_f_now)), (a_lawPlace, .inl (cyI, 6, .inl a_f_lawPlace)), (a_lawOther, .inl (cyI, 6, .inl a_f_lawOther)), (a_lawEach, .inl (cyI, 6, .inl a_f_lawEach)), (a_lawFrom, .inl (cyI, 6, .inl a_f_lawFrom)), (a_foes, .inl (cyI, 7, .inl a_f_foes)), (a_suitTable, .inl (cyI, 49, .inl a_f_suitTable)), (a_acts, .inl (cyI, 40, .inl a_f_acts)), (r0, .inl (cyI, 7, .inl y0))] t.heap ∧ va_D (va_A [(h0, .inr (2, [.int a_pl, .int a_li, .int a_le, .int a_lc, .int a_ac, .int a_ng, .ref a_first, .ref a_now, .ref a_lawPlace, .ref a_lawOther, .ref a_lawEach, .ref a_lawFrom, .ref a_foes, .ref a_suitTable, .ref a_acts])), (a_first, .inl (cyI, 7, .inl a_f_first)), (a_now, .inl (cyI, 7, .inl a_f_now)), (a_lawPlace, .inl (cyI, 6, .inl a_f_lawPlace)), (a_lawOther, .inl (cyI, 6, .inl a_f_lawOther)), (a_lawEach, .inl (cyI, 6, .inl a_f_lawEach)), (a_lawFrom, .inl (cyI, 6, .inl a_f_lawFrom)), (a_foes, .inl (cyI, 7, .inl a_f_foes)), (a_suitTable, .inl (cyI, 49, .inl a_f_suitTable)), (a_acts, .inl (cyI, 40, .inl a_f_acts)), (r0, .inl (cyI, 7, .inl f0))] sz) [(h0, .inr (2, [.int a_pl, .int a_li, .int a_le, .int a_lc, .int a_ac, .int a_ng, .ref a_first, .ref a_now, .ref a_lawPlace, .ref a_lawOther, .ref a_lawEach, .ref a_lawFrom, .ref a_foes, .ref a_suitTable, .ref a_acts])), (a_first, .inl (cyI, 7, .inl a_f_first)), (a_now, .inl (cyI, 7, .inl a_f_now)), (a_lawPlace, .inl (cyI, 6, .inl a_f_lawPlace)), (a_lawOther, .inl (cyI, 6, .inl a_f_lawOther)), (a_lawEach, .inl (cyI, 6, .inl a_f_lawEach)), (a_lawFrom, .inl (cyI, 6, .inl a_f_lawFrom)), (a_foes, .inl (cyI, 7, .inl a_f_foes)), (a_suitTable, .inl (cyI, 49, .inl a_f_suitTable)), (a_acts, .inl (cyI, 40, .inl a_f_acts)), (r0, .inl (cyI, 7, .inl y0))]) (va_A [(h0, .inr (2, [.int a_pl, .int a_li, .int a_le, .int a_lc, .int a_ac, .int a_ng, .ref a_first, .ref a_now, .ref a_lawPlace, .ref a_lawOther, .ref a_lawEach, .ref a_lawFrom, .ref a_foes, .ref a_suitTable, .ref a_acts])), (a_first, .inl (cyI, 7, .inl a_f_first)), (a_now, .inl (cyI, 7, .inl a_f_now)), (a_lawPlace, .inl (cyI, 6, .inl a_f_lawPlace)), (a_lawOther, .inl (cyI, 6, .inl a_f_lawOther)), (a_lawEach, .inl (cyI, 6, .inl a_f_lawEach)), (a_lawFrom, .inl (cyI, 6, .inl a_f_lawFrom)), (a_foes, .inl (cyI, 7, .inl a_f_foes)), (a_suitTable, .inl (cyI, 49, .inl a_f_suitTable)), (a_acts, .inl (cyI, 40, .inl a_f_acts)), (r0, .inl (cyI, 7, .inl f0))] sz)) 0 0 (va_A [(h0, .inr (2, [.int a_pl, .int a_li, .int a_le, .int a_lc, .int a_ac, .int a_ng, .ref a_first, .ref a_now, .ref a_lawPlace, .ref a_lawOther, .ref a_lawEach, .ref a_lawFrom, .ref a_foes, .ref a_suitTable, .ref a_acts])), (a_first, .inl (cyI, 7, .inl a_f_first)), (a_now, .inl (cyI, 7, .inl a_f_now)), (a_lawPlace, .inl (cyI, 6, .inl a_f_lawPlace)), (a_lawOther, .inl (cyI, 6, .inl a_f_lawOther)), (a_lawEach, .inl (cyI, 6, .inl a_f_lawEach)), (a_lawFrom, .inl (cyI, 6, .inl a_f_lawFrom)), (a_foes, .inl (cyI, 7, .inl a_f_foes)), (a_suitTable, .inl (cyI, 49, .inl a_f_suitTable)), (a_acts, .inl (cyI, 40, .inl a_f_acts)), (r0, .inl (cyI, 7, .inl f0))] sz) := by
  refine Met.ofW (cc := cX2_changeOver) (maxL := 5) (ret := none) (by decide) rfl ?_
  intro p e s m args below meth c s₁ B hml hv
  obtain ⟨rfl, hsz, hP, hK, hD0⟩ := hv
  have hx := B.exec
  have hb := B.bytes
  have hr := B.returns
  have hts : ∀ w ∈ uU, w.before ([.ref h0, .ref r0, .int p0] : List Value).toArray s = true := fun w h => atoms_spec (ws := wk yX2_changeOver cX2_changeOver 5 none) B.pre w (List.mem_cons_of_mem _ h)
  have hown : s.vm.findClass RX2 = some m.cls := findClass_of_methodNamed B.named
  have hlocks := B.notSynchronized
  subst hsz
  have hD := hD0.self (sz := s.heap.size)
  generalize hAe : va_A [(h0, .inr (2, [.int a_pl, .int a_li, .int a_le, .int a_lc, .int a_ac, .int a_ng, .ref a_first, .ref a_now, .ref a_lawPlace, .ref a_lawOther, .ref a_lawEach, .ref a_lawFrom, .ref a_foes, .ref a_suitTable, .ref a_acts])), (a_first, .inl (cyI, 7, .inl a_f_first)), (a_now, .inl (cyI, 7, .inl a_f_now)), (a_lawPlace, .inl (cyI, 6, .inl a_f_lawPlace)), (a_lawOther, .inl (cyI, 6, .inl a_f_lawOther)), (a_lawEach, .inl (cyI, 6, .inl a_f_lawEach)), (a_lawFrom, .inl (cyI, 6, .inl a_f_lawFrom)), (a_foes, .inl (cyI, 7, .inl a_f_foes)), (a_suitTable, .inl (cyI, 49, .inl a_f_suitTable)), (a_acts, .inl (cyI, 40, .inl a_f_acts)), (r0, .inl (cyI, 7, .inl f0))] s.heap.size = A at hD ⊢
  have hA : ∀ q : Nat, s.heap.size ≤ q → A q := fun q h => by rw [← hAe]; exact Or.inr h
  have hS : va_S A s.heap s.heap [] := va_S.rf
  have hP : va_P (dC, dI) vwCl [(h0, .inr (2, [.int a_pl, .int a_li, .int a_le, .int a_lc, .int a_ac, .int a_ng, .ref a_first, .ref a_now, .ref a_lawPlace, .ref a_lawOther, .ref a_lawEach, .ref a_lawFrom, .ref a_foes, .ref a_suitTable, .ref a_acts])), (a_first, .inl (cyI, 7, .inl a_f_first)), (a_now, .inl (cyI, 7, .inl a_f_now)), (a_lawPlace, .inl (cyI, 6, .inl a_f_lawPlace)), (a_lawOther, .inl (cyI, 6, .inl a_f_lawOther)), (a_lawEach, .inl (cyI, 6, .inl a_f_lawEach)), (a_lawFrom, .inl (cyI, 6, .inl a_f_lawFrom)), (a_foes, .inl (cyI, 7, .inl a_f_foes)), (a_suitTable, .inl (cyI, 49, .inl a_f_suitTable)), (a_acts, .inl (cyI, 40, .inl a_f_acts)), (r0, .inl (cyI, 7, .inl f0))] s.heap := hP
  have hl := lv_entry ([.ref h0, .ref r0, .int p0]) (n := 5) (Nat.le_of_ble_eq_true rfl)
  rw [lg_entry_eq]
  generalize (lg_sl ([.ref h0, .ref r0, .int p0]) ++ List.replicate (5 - (lg_sl ([.ref h0, .ref r0, .int p0])).length) Slot.unset).toArray = ls at hl ⊢
  have hl : lv_has ls 5 [(0, .ref h0), (1, .ref r0), (2, .int p0)] := hl
  obtain ⟨H, hHe⟩ : ∃ H, H = s.heap := ⟨_, rfl⟩
  have hP : va_P (dC, dI) vwCl [(h0, .inr (2, [.int a_pl, .int a_li, .int a_le, .int a_lc, .int a_ac, .int a_ng, .ref a_first, .ref a_now, .ref a_lawPlace, .ref a_lawOther, .ref a_lawEach, .ref a_lawFrom, .ref a_foes, .ref a_suitTable, .ref a_acts])), (a_first, .inl (cyI, 7, .inl a_f_first)), (a_now, .inl (cyI, 7, .inl a_f_now)), (a_lawPlace, .inl (cyI, 6, .inl a_f_lawPlace)), (a_lawOther, .inl (cyI, 6, .inl a_f_lawOther)), (a_lawEach, .inl (cyI, 6, .inl a_f_lawEach)), (a_lawFrom, .inl (cyI, 6, .inl a_f_lawFrom)), (a_foes, .inl (cyI, 7, .inl a_f_foes)), (a_suitTable, .inl (cyI, 49, .inl a_f_suitTable)), (a_acts, .inl (cyI, 40, .inl a_f_acts)), (r0, .inl (cyI, 7, .inl f0))] H := by rw [hHe]; exact hP
  have hS : va_S A s.heap H [] := by rw [hHe]; exact hS
  refine cv_heap hHe ?_
  obtain ⟨Q9, hQ9⟩ : ∃ Q9 : State → Prop, Q9 = MQ below (va_Qv (fun _ : Unit => True) (fun (_ : Unit) (t : State) => ∃ y0 : Nat → Int32, (rg 0 6 7 y0) ∧ va_P (dC, dI) vwCl [(h0, .inr (2, [.int a_pl, .int a_li, .int a_le, .int a_lc, .int a_ac, .int a_ng, .ref a_first, .ref a_now, .ref a_lawPlace, .ref a_lawOther, .ref a_lawEach, .ref a_lawFrom, .ref a_foes, .ref a_suitTable, .ref a_acts])), (a_first, .inl (cyI, 7, .inl a_f_first)), (a_now, .inl (cyI, 7, .inl a_f_now)), (a_lawPlace, .inl (cyI, 6, .inl a_f_lawPlace)), (a_lawOther, .inl (cyI, 6, .inl a_f_lawOther)), (a_lawEach, .inl (cyI, 6, .inl a_f_lawEach)), (a_lawFrom, .inl (cyI, 6, .inl a_f_lawFrom)), (a_foes, .inl (cyI, 7, .inl a_f_foes)), (a_suitTable, .inl (cyI, 49, .inl a_f_suitTable)), (a_acts, .inl (cyI, 40, .inl a_f_acts)), (r0, .inl (cyI, 7, .inl y0))] t.heap ∧ va_D A [(h0, .inr (2, [.int a_pl, .int a_li, .int a_le, .int a_lc, .int a_ac, .int a_ng, .ref a_first, .ref a_now, .ref a_lawPlace, .ref a_lawOther, .ref a_lawEach, .ref a_lawFrom, .ref a_foes, .ref a_suitTable, .ref a_acts])), (a_first, .inl (cyI, 7, .inl a_f_first)), (a_now, .inl (cyI, 7, .inl a_f_now)), (a_lawPlace, .inl (cyI, 6, .inl a_f_lawPlace)), (a_lawOther, .inl (cyI, 6, .inl a_f_lawOther)), (a_lawEach, .inl (cyI, 6, .inl a_f_lawEach)), (a_lawFrom, .inl (cyI, 6, .inl a_f_lawFrom)), (a_foes, .inl (cyI, 7, .inl a_f_foes)), (a_suitTable, .inl (cyI, 49, .inl a_f_suitTable)), (a_acts, .inl (cyI, 40, .inl a_f_acts)), (r0, .inl (cyI, 7, .inl y0))]) A) ([.ref h0, .ref r0, .int p0] : List Value).toArray s 0 0 A := ⟨_, rfl⟩
  rw [← hQ9]
  refine lv_iconst (v := 0) hx hb dX2_changeOver_0 (by decide) ?_
  refine lv_istore_n (lv' := [(3, .int 0), (0, .ref h0), (1, .ref r0), (2, .int p0)]) hx hb dX2_changeOver_1 rfl hl (by decide) rfl (fun ls hl => ?_)
  have key_3 : ∀ (nkey_3 : Nat) (u_1 : Int32) (f_2 : Nat → Int32) (H : Heap) (locs : List Loc) (ls : Array Slot), (0 ≤ u_1.toInt ∧ u_1.toInt ≤ 6) → rg 0 6 7 f_2 → va_P (dC, dI) vwCl [(h0, .inr (2, [.int a_pl, .int a_li, .int a_le, .int a_lc, .int a_ac, .int a_ng, .ref a_first, .ref a_now, .ref a_lawPlace, .ref a_lawOther, .ref a_lawEach, .ref a_lawFrom, .ref a_foes, .ref a_suitTable, .ref a_acts])), (a_first, .inl (cyI, 7, .inl a_f_first)), (a_now, .inl (cyI, 7, .inl a_f_now)), (a_lawPlace, .inl (cyI, 6, .inl a_f_lawPlace)), (a_lawOther, .inl (cyI, 6, .inl a_f_lawOther)), (a_lawEach, .inl (cyI, 6, .inl a_f_lawEach)), (a_lawFrom, .inl (cyI, 6, .inl a_f_lawFrom)), (a_foes, .inl (cyI, 7, .inl a_f_foes)), (a_suitTable, .inl (cyI, 49, .inl a_f_suitTable)), (a_acts, .inl (cyI, 40, .inl a_f_acts)), (r0, .inl (cyI, 7, .inl f_2))] H → va_D A [(h0, .inr (2, [.int a_pl, .int a_li, .int a_le, .int a_lc, .int a_ac, .int a_ng, .ref a_first, .ref a_now, .ref a_lawPlace, .ref a_lawOther, .ref a_lawEach, .ref a_lawFrom, .ref a_foes, .ref a_suitTable, .ref a_acts])), (a_first, .inl (cyI, 7, .inl a_f_first)), (a_now, .inl (cyI, 7, .inl a_f_now)), (a_lawPlace, .inl (cyI, 6, .inl a_f_lawPlace)), (a_lawOther, .inl (cyI, 6, .inl a_f_lawOther)), (a_lawEach, .inl (cyI, 6, .inl a_f_lawEach)), (a_lawFrom, .inl (cyI, 6, .inl a_f_lawFrom)), (a_foes, .inl (cyI, 7, .inl a_f_foes)), (a_suitTable, .inl (cyI, 49, .inl a_f_suitTable)), (a_acts, .inl (cyI, 40, .inl a_f_acts)), (r0, .inl (cyI, 7, .inl f_2))] → va_S A s.heap H locs → lv_has ls 5 [(3, .int u_1), (0, .ref h0), (1, .ref r0), (2, .int p0)] → (a_lc.toInt - u_1.toInt).toNat < nkey_3 → W p l e ({ frames := 1, cells := 0, slots := 0, locals := 60 }) s m ([.ref h0, .ref r0, .int p0] : List Value).toArray below meth c H locs 0 0 Q9 (F0 m 2 ls []) := by
    intro nkey_3
    induction nkey_3 with
    | zero => intro u_1 f_2 H locs ls hu_1 hf_2 hP hD hS hl hnkey_3; exact absurd hnkey_3 (Nat.not_lt_zero _)
    | succ nkey_3 ihkey_3 =>
      intro u_1 f_2 H locs ls hu_1 hf_2 hP hD hS hl hnkey_3
      refine lv_iload_n hx hb dX2_changeOver_2 rfl (lv_at hl 0 rfl) ?_
      refine lv_aload_n hx hb dX2_changeOver_3 rfl (lv_at hl 1 rfl) ?_
      refine va_get (D := (dC, dI)) (ci := 2) (v := .int a_lc) (C := RX2) (T := TX2) (N := 15) hx hb hts uinX2 hown hK hP 0 rfl rfl 3 (by decide) (hts _ wd_1_92) (fun _ h9 => h9) rfl dX2_changeOver_4 ?_
      refine lv_icmp_ge (tgt := 60) hx hb dX2_changeOver_7 (by decide) (fun c_4 => ?_) (fun c_4 => ?_)
      · have c_4 : a_lc.toInt ≤ u_1.toInt := cv_le c_4
        rw [hQ9]
        have hP9 := hP.sub (ws' := [(h0, .inr (2, [.int a_pl, .int a_li, .int a_le, .int a_lc, .int a_ac, .int a_ng, .ref a_first, .ref a_now, .ref a_lawPlace, .ref a_lawOther, .ref a_lawEach, .ref a_lawFrom, .ref a_foes, .ref a_suitTable, .ref a_acts])), (a_first, .inl (cyI, 7, .inl a_f_first)), (a_now, .inl (cyI, 7, .inl a_f_now)), (a_lawPlace, .inl (cyI, 6, .inl a_f_lawPlace)), (a_lawOther, .inl (cyI, 6, .inl a_f_lawOther)), (a_lawEach, .inl (cyI, 6, .inl a_f_lawEach)), (a_lawFrom, .inl (cyI, 6, .inl a_f_lawFrom)), (a_foes, .inl (cyI, 7, .inl a_f_foes)), (a_suitTable, .inl (cyI, 49, .inl a_f_suitTable)), (a_acts, .inl (cyI, 40, .inl a_f_acts)), (r0, .inl (cyI, 7, .inl f_2))]) [0, 1, 2, 3, 4, 5, 6, 7, 8, 9, 10] rfl
        have hD9 := hD.sub (ws' := [(h0, .inr (2, [.int a_pl, .int a_li, .int a_le, .int a_lc, .int a_ac, .int a_ng, .ref a_first, .ref a_now, .ref a_lawPlace, .ref a_lawOther, .ref a_lawEach, .ref a_lawFrom, .ref a_foes, .ref a_suitTable, .ref a_acts])), (a_first, .inl (cyI, 7, .inl a_f_first)), (a_now, .inl (cyI, 7, .inl a_f_now)), (a_lawPlace, .inl (cyI, 6, .inl a_f_lawPlace)), (a_lawOther, .inl (cyI, 6, .inl a_f_lawOther)), (a_lawEach, .inl (cyI, 6, .inl a_f_lawEach)), (a_lawFrom, .inl (cyI, 6, .inl a_f_lawFrom)), (a_foes, .inl (cyI, 7, .inl a_f_foes)), (a_suitTable, .inl (cyI, 49, .inl a_f_suitTable)), (a_acts, .inl (cyI, 40, .inl a_f_acts)), (r0, .inl (cyI, 7, .inl f_2))]) [0, 1, 2, 3, 4, 5, 6, 7, 8, 9, 10] (by decide) rfl
        exact W.vret hx hb hr (fun t ht hW => ⟨⟨(), rfl, trivial, ⟨f_2, hf_2, by rw [ht]; exact hP9, hD9⟩⟩, hS.F ht⟩) hS.2.2 dX2_changeOver_60
      · have c_4 : u_1.toInt < a_lc.toInt := cv_nle c_4
        refine lv_iload_n hx hb dX2_changeOver_10 rfl (lv_at hl 3 rfl) ?_
        refine lv_iload_n hx hb dX2_changeOver_11 rfl (lv_at hl 0 rfl) ?_
        refine lv_ishr hx hb dX2_changeOver_12 ?_
        refine lv_topi (fun x_5 ex_5 => ?_)
        refine lv_iconst (v := 1) hx hb dX2_changeOver_13 (by decide) ?_
        refine lv_iand hx hb dX2_changeOver_14 ?_
        refine lv_topi (fun x_6 ex_6 => ?_)
        have fx_6 : 0 ≤ x_6.toInt ∧ x_6.toInt ≤ 1 := by rw [ex_6]; exact cv_andR (by decide) (by decide)
        have join_8 : ∀ (f_7 : Nat → Int32) (H : Heap) (locs : List Loc) (ls : Array Slot), rg 0 6 7 f_7 → va_P (dC, dI) vwCl [(h0, .inr (2, [.int a_pl, .int a_li, .int a_le, .int a_lc, .int a_ac, .int a_ng, .ref a_first, .ref a_now, .ref a_lawPlace, .ref a_lawOther, .ref a_lawEach, .ref a_lawFrom, .ref a_foes, .ref a_suitTable, .ref a_acts])), (a_first, .inl (cyI, 7, .inl a_f_first)), (a_now, .inl (cyI, 7, .inl a_f_now)), (a_lawPlace, .inl (cyI, 6, .inl a_f_lawPlace)), (a_lawOther, .inl (cyI, 6, .inl a_f_lawOther)), (a_lawEach, .inl (cyI, 6, .inl a_f_lawEach)), (a_lawFrom, .inl (cyI, 6, .inl a_f_lawFrom)), (a_foes, .inl (cyI, 7, .inl a_f_foes)), (a_suitTable, .inl (cyI, 49, .inl a_f_suitTable)), (a_acts, .inl (cyI, 40, .inl a_f_acts)), (r0, .inl (cyI, 7, .inl f_7))] H → va_D A [(h0, .inr (2, [.int a_pl, .int a_li, .int a_le, .int a_lc, .int a_ac, .int a_ng, .ref a_first, .ref a_now, .ref a_lawPlace, .ref a_lawOther, .ref a_lawEach, .ref a_lawFrom, .ref a_foes, .ref a_suitTable, .ref a_acts])), (a_first, .inl (cyI, 7, .inl a_f_first)), (a_now, .inl (cyI, 7, .inl a_f_now)), (a_lawPlace, .inl (cyI, 6, .inl a_f_lawPlace)), (a_lawOther, .inl (cyI, 6, .inl a_f_lawOther)), (a_lawEach, .inl (cyI, 6, .inl a_f_lawEach)), (a_lawFrom, .inl (cyI, 6, .inl a_f_lawFrom)), (a_foes, .inl (cyI, 7, .inl a_f_foes)), (a_suitTable, .inl (cyI, 49, .inl a_f_suitTable)), (a_acts, .inl (cyI, 40, .inl a_f_acts)), (r0, .inl (cyI, 7, .inl f_7))] → va_S A s.heap H locs → lv_has ls 5 [(3, .int u_1), (0, .ref h0), (1, .ref r0), (2, .int p0)] → W p l e ({ frames := 1, cells := 0, slots := 0, locals := 60 }) s m ([.ref h0, .ref r0, .int p0] : List Value).toArray below meth c H locs 0 0 Q9 (F0 m 54 ls []) := by
          intro f_7 H locs ls hf_7 hP hD hS hl
          obtain ⟨x_9, ex_9⟩ : ∃ y : Int32, y = u_1 + 1 := ⟨_, rfl⟩
          refine lv_iinc (v := x_9) (lv' := [(3, .int x_9), (0, .ref h0), (1, .ref r0), (2, .int p0)]) hx hb dX2_changeOver_54 hl (k := 0) rfl (by rw [ex_9]; rfl) (by decide) rfl (fun ls hl => ?_)
          have fx_9 : x_9.toInt = u_1.toInt + 1 := by rw [ex_9]; exact cv_addI (by have : (1 : Int32).toInt = 1 := rfl; omega) (by have : (1 : Int32).toInt = 1 := rfl; omega)
          refine lv_goto (tgt := 2) hx hb dX2_changeOver_57 (by decide) ?_
          exact ihkey_3 x_9 f_7 _ _ _ (by omega) hf_7 hP hD hS (lv_sub hl [0, 1, 2, 3] rfl) (by omega)
        refine lv_if_eq (tgt := 54) hx hb dX2_changeOver_15 (by decide) (fun c_10 => ?_) (fun c_10 => ?_)
        · have c_10 : x_6.toInt = 0 := cv_eq c_10
          exact join_8 f_2 _ _ _ hf_2 hP hD hS (lv_sub hl [0, 1, 2, 3] rfl)
        · have c_10 : x_6.toInt ≠ 0 := cv_ne c_10
          refine lv_aload_n hx hb dX2_changeOver_18 rfl (lv_at hl 2 rfl) ?_
          refine lv_aload_n hx hb dX2_changeOver_19 rfl (lv_at hl 1 rfl) ?_
          refine va_get (D := (dC, dI)) (ci := 2) (v := .ref a_lawPlace) (C := RX2) (T := TX2) (N := 15) hx hb hts uinX2 hown hK hP 0 rfl rfl 8 (by decide) (hts _ wd_1_107) (fun _ h9 => h9) rfl dX2_changeOver_20 ?_
          refine lv_iload_n hx hb dX2_changeOver_23 rfl (lv_at hl 0 rfl) ?_
          refine va_iald hx hb hK hP 3 0 rfl rfl (vp_in_iff.mpr (by omega)) dX2_changeOver_24 ?_
          refine lv_topi (fun x_11 ex_11 => ?_)
          have fx_11 : 0 ≤ x_11.toInt ∧ x_11.toInt ≤ 6 := by rw [ex_11]; exact g2 _ (cv_ix (by omega) (by omega))
          refine va_iald hx hb hK hP 10 0 rfl rfl (vp_in_iff.mpr (by omega)) dX2_changeOver_25 ?_
          refine lv_topi (fun x_12 ex_12 => ?_)
          have fx_12 : 0 ≤ x_12.toInt ∧ x_12.toInt ≤ 6 := by rw [ex_12]; exact hf_2 _ (cv_ix (by omega) (by omega))
          refine lv_istore (lv' := [(4, .int x_12), (3, .int u_1), (0, .ref h0), (1, .ref r0), (2, .int p0)]) hx hb dX2_changeOver_26 hl (by decide) rfl (fun ls hl => ?_)
          refine lv_aload_n hx hb dX2_changeOver_28 rfl (lv_at hl 3 rfl) ?_
          refine lv_aload_n hx hb dX2_changeOver_29 rfl (lv_at hl 2 rfl) ?_
          refine va_get (D := (dC, dI)) (ci := 2) (v := .ref a_lawPlace) (C := RX2) (T := TX2) (N := 15) hx hb hts uinX2 hown hK hP 0 rfl rfl 8 (by decide) (hts _ wd_1_107) (fun _ h9 => h9) rfl dX2_changeOver_30 ?_
          refine lv_iload_n hx hb dX2_changeOver_33 rfl (lv_at hl 1 rfl) ?_
          refine va_iald hx hb hK hP 3 0 rfl rfl (vp_in_iff.mpr (by omega)) dX2_changeOver_34 ?_
          refine lv_topi (fun x_13 ex_13 => ?_)
          have fx_13 : 0 ≤ x_13.toInt ∧ x_13.toInt ≤ 6 := by rw [ex_13]; exact g2 _ (cv_ix (by omega) (by omega))
          refine lv_aload_n hx hb dX2_changeOver_35 rfl (lv_at hl 3 rfl) ?_
          refine lv_aload_n hx hb dX2_changeOver_36 rfl (lv_at hl 2 rfl) ?_
          refine va_get (D := (dC, dI)) (ci := 2) (v := .ref a_lawOther) (C := RX2) (T := TX2) (N := 15) hx hb hts uinX2 hown hK hP 0 rfl rfl 9 (by decide) (hts _ wd_1_110) (fun _ h9 => h9) rfl dX2_changeOver_37 ?_
          refine lv_iload_n hx hb dX2_changeOver_40 rfl (lv_at hl 1 rfl) ?_
          refine va_iald hx hb hK hP 4 0 rfl rfl (vp_in_iff.mpr (by omega)) dX2_changeOver_41 ?_
          refine lv_topi (fun x_14 ex_14 => ?_)
          have fx_14 : 0 ≤ x_14.toInt ∧ x_14.toInt ≤ 6 := by rw [ex_14]; exact g3 _ (cv_ix (by omega) (by omega))
          refine va_iald hx hb hK hP 10 0 rfl rfl (vp_in_iff.mpr (by omega)) dX2_changeOver_42 ?_
          refine lv_topi (fun x_15 ex_15 => ?_)
          have fx_15 : 0 ≤ x_15.toInt ∧ x_15.toInt ≤ 6 := by rw [ex_15]; exact hf_2 _ (cv_ix (by omega) (by omega))
          refine va_iast hx hb hK hP hD hS 10 0 rfl rfl (vp_in_iff.mpr (by omega)) dX2_changeOver_43 (fun H locs hP hD hS => ?_)
          obtain ⟨f_16, ef_16⟩ : ∃ z9 : Nat → Int32, z9 = upd f_2 x_13.toNatClampNeg x_15 := ⟨_, rfl⟩
          rw [← ef_16] at hP hD
          have hP : va_P (dC, dI) vwCl [(h0, .inr (2, [.int a_pl, .int a_li, .int a_le, .int a_lc, .int a_ac, .int a_ng, .ref a_first, .ref a_now, .ref a_lawPlace, .ref a_lawOther, .ref a_lawEach, .ref a_lawFrom, .ref a_foes, .ref a_suitTable, .ref a_acts])), (a_first, .inl (cyI, 7, .inl a_f_first)), (a_now, .inl (cyI, 7, .inl a_f_now)), (a_lawPlace, .inl (cyI, 6, .inl a_f_lawPlace)), (a_lawOther, .inl (cyI, 6, .inl a_f_lawOther)), (a_lawEach, .inl (cyI, 6, .inl a_f_lawEach)), (a_lawFrom, .inl (cyI, 6, .inl a_f_lawFrom)), (a_foes, .inl (cyI, 7, .inl a_f_foes)), (a_suitTable, .inl (cyI, 49, .inl a_f_suitTable)), (a_acts, .inl (cyI, 40, .inl a_f_acts)), (r0, .inl (cyI, 7, .inl f_16))] H := hP
          have hD : va_D A [(h0, .inr (2, [.int a_pl, .int a_li, .int a_le, .int a_lc, .int a_ac, .int a_ng, .ref a_first, .ref a_now, .ref a_lawPlace, .ref a_lawOther, .ref a_lawEach, .ref a_lawFrom, .ref a_foes, .ref a_suitTable, .ref a_acts])), (a_first, .inl (cyI, 7, .inl a_f_first)), (a_now, .inl (cyI, 7, .inl a_f_now)), (a_lawPlace, .inl (cyI, 6, .inl a_f_lawPlace)), (a_lawOther, .inl (cyI, 6, .inl a_f_lawOther)), (a_lawEach, .inl (cyI, 6, .inl a_f_lawEach)), (a_lawFrom, .inl (cyI, 6, .inl a_f_lawFrom)), (a_foes, .inl (cyI, 7, .inl a_f_foes)), (a_suitTable, .inl (cyI, 49, .inl a_f_suitTable)), (a_acts, .inl (cyI, 40, .inl a_f_acts)), (r0, .inl (cyI, 7, .inl f_16))] := hD
          have hf_16 : rg 0 6 7 f_16 := by rw [ef_16]; exact rg_upd (hf_2) ⟨by omega, by omega⟩
          refine lv_aload_n hx hb dX2_changeOver_44 rfl (lv_at hl 3 rfl) ?_
          refine lv_aload_n hx hb dX2_changeOver_45 rfl (lv_at hl 2 rfl) ?_
          refine va_get (D := (dC, dI)) (ci := 2) (v := .ref a_lawOther) (C := RX2) (T := TX2) (N := 15) hx hb hts uinX2 hown hK hP 0 rfl rfl 9 (by decide) (hts _ wd_1_110) (fun _ h9 => h9) rfl dX2_changeOver_46 ?_
          refine lv_iload_n hx hb dX2_changeOver_49 rfl (lv_at hl 1 rfl) ?_
          refine va_iald hx hb hK hP 4 0 rfl rfl (vp_in_iff.mpr (by omega)) dX2_changeOver_50 ?_
          refine lv_topi (fun x_17 ex_17 => ?_)
          have fx_17 : 0 ≤ x_17.toInt ∧ x_17.toInt ≤ 6 := by rw [ex_17]; exact g3 _ (cv_ix (by omega) (by omega))
          refine lv_iload hx hb dX2_changeOver_51 (lv_at hl 0 rfl) ?_
          refine va_iast hx hb hK hP hD hS 10 0 rfl rfl (vp_in_iff.mpr (by omega)) dX2_changeOver_53 (fun H locs hP hD hS => ?_)
          obtain ⟨f_18, ef_18⟩ : ∃ z9 : Nat → Int32, z9 = upd f_16 x_17.toNatClampNeg x_12 := ⟨_, rfl⟩
          rw [← ef_18] at hP hD
          have hP : va_P (dC, dI) vwCl [(h0, .inr (2, [.int a_pl, .int a_li, .int a_le, .int a_lc, .int a_ac, .int a_ng, .ref a_first, .ref a_now, .ref a_lawPlace, .ref a_lawOther, .ref a_lawEach, .ref a_lawFrom, .ref a_foes, .ref a_suitTable, .ref a_acts])), (a_first, .inl (cyI, 7, .inl a_f_first)), (a_now, .inl (cyI, 7, .inl a_f_now)), (a_lawPlace, .inl (cyI, 6, .inl a_f_lawPlace)), (a_lawOther, .inl (cyI, 6, .inl a_f_lawOther)), (a_lawEach, .inl (cyI, 6, .inl a_f_lawEach)), (a_lawFrom, .inl (cyI, 6, .inl a_f_lawFrom)), (a_foes, .inl (cyI, 7, .inl a_f_foes)), (a_suitTable, .inl (cyI, 49, .inl a_f_suitTable)), (a_acts, .inl (cyI, 40, .inl a_f_acts)), (r0, .inl (cyI, 7, .inl f_18))] H := hP
          have hD : va_D A [(h0, .inr (2, [.int a_pl, .int a_li, .int a_le, .int a_lc, .int a_ac, .int a_ng, .ref a_first, .ref a_now, .ref a_lawPlace, .ref a_lawOther, .ref a_lawEach, .ref a_lawFrom, .ref a_foes, .ref a_suitTable, .ref a_acts])), (a_first, .inl (cyI, 7, .inl a_f_first)), (a_now, .inl (cyI, 7, .inl a_f_now)), (a_lawPlace, .inl (cyI, 6, .inl a_f_lawPlace)), (a_lawOther, .inl (cyI, 6, .inl a_f_lawOther)), (a_lawEach, .inl (cyI, 6, .inl a_f_lawEach)), (a_lawFrom, .inl (cyI, 6, .inl a_f_lawFrom)), (a_foes, .inl (cyI, 7, .inl a_f_foes)), (a_suitTable, .inl (cyI, 49, .inl a_f_suitTable)), (a_acts, .inl (cyI, 40, .inl a_f_acts)), (r0, .inl (cyI, 7, .inl f_18))] := hD
          have hf_18 : rg 0 6 7 f_18 := by rw [ef_18]; exact rg_upd (hf_16) ⟨by omega, by omega⟩
          exact join_8 f_18 _ _ _ hf_18 hP hD hS (lv_sub hl [1, 2, 3, 4] rfl)
  exact key_3 _ 0 f0 _ _ _ (by decide) g5 hP hD hS (lv_sub hl [0, 1, 2, 3] rfl) (Nat.lt_succ_self _)

/- X2_changeOver -/
set_option maxHeartbeats 4000000 in
set_option maxRecDepth 100000 in
theorem n_changeOverNow (l : Launch) (dC : Nat → ClassId) (dI : Nat → Nat → Nat) (cyI cyB cyJ cyZ cyH cyN : ClassId) (sz : Nat) (h0 a_first a_now a_lawPlace a_lawOther a_lawEach a_lawFrom a_foes a_suitTable a_acts : Nat) (a_pl a_li a_le a_lc a_ac a_ng : Int32) (a_f_first a_f_now a_f_lawPlace a_f_lawOther a_f_lawEach a_f_lawFrom a_f_foes a_f_suitTable a_f_acts : Nat → Int32) (p0 : Int32) (g0 : rg 0 6 7 a_f_first) (g1 : rg 0 6 7 a_f_now) (g2 : rg 0 6 6 a_f_lawPlace) (g3 : rg 0 6 6 a_f_lawOther) (g4 : ra 40 a_f_acts) (g5 : 0 ≤ a_pl.toInt ∧ a_pl.toInt ≤ 7) (g6 : 0 ≤ a_lc.toInt ∧ a_lc.toInt ≤ 6) (g7 : 0 ≤ a_ac.toInt ∧ a_ac.toInt ≤ 40) : Met l yX2_changeOver (wk yX2_changeOver cX2_changeOver 5 none) ({ frames := 1, cells := 0, slots := 0, locals := 60 }) (va_Pc [.ref h0, .ref a_now, .int p0] (fun U => U.heap.size = sz ∧ va_P (dC, dI) vwCl [(h0, .inr (2, [.int a_pl, .int a_li, .int a_le, .int a_lc, .int a_ac, .int a_ng, .ref a_first, .ref a_now, .ref a_lawPlace, .ref a_lawOther, .ref a_lawEach, .ref a_lawFrom, .ref a_foes, .ref a_suitTable, .ref a_acts])), (a_first, .inl (cyI, 7, .inl a_f_first)), (a_now, .inl (cyI, 7, .inl a_f_now)), (a_lawPlace, .inl (cyI, 6, .inl a_f_lawPlace)), (a_lawOther, .inl (cyI, 6, .inl a_f_lawOther)), (a_lawEach, .inl (cyI, 6, .inl a_f_lawEach)), (a_lawFrom, .inl (cyI, 6, .inl a_f_lawFrom)), (a_foes, .inl (cyI, 7, .inl a_f_foes)), (a_suitTable, .inl (cyI, 49, .inl a_f_suitTable)), (a_acts, .inl (cyI, 40, .inl a_f_acts))] U.heap ∧ va_K (dC, dI) vwCl [(cyI, .int), (cyB, .byte), (cyJ, .long), (cyZ, .boolean), (cyH, .object RX2), (cyN, .array .long)] U ∧ va_D (fun _ => True) [(h0, .inr (2, [.int a_pl, .int a_li, .int a_le, .int a_lc, .int a_ac, .int a_ng, .ref a_first, .ref a_now, .ref a_lawPlace, .ref a_lawOther, .ref a_lawEach, .ref a_lawFrom, .ref a_foes, .ref a_suitTable, .ref a_acts])), (a_first, .inl (cyI, 7, .inl a_f_first)), (a_now, .inl (cyI, 7, .inl a_f_now)), (a_lawPlace, .inl (cyI, 6, .inl a_f_lawPlace)), (a_lawOther, .inl (cyI, 6, .inl a_f_lawOther)), (a_lawEach, .inl (cyI, 6, .inl a_f_lawEach)), (a_lawFrom, .inl (cyI, 6, .inl a_f_lawFrom)), (a_foes, .inl (cyI, 7, .inl a_f_foes)), (a_suitTable, .inl (cyI, 49, .inl a_f_suitTable)), (a_acts, .inl (cyI, 40, .inl a_f_acts))])) (va_Qv (fun _ : Unit => True) (fun (_ : Unit) (t : State) => ∃ y0 : Nat → Int32, (rg 0 6 7 y0) ∧ va_P (dC, dI) vwCl [(h0, .inr (2, [.int a_pl, .int a_li, .int a_le, .int a_lc, .int a_ac, .int a_ng, .ref a_first, .ref a_now, .ref a_lawPlace, .ref a_lawOther, .ref a_lawEach, .ref a_lawFrom, .ref a_foes, .ref a_suitTable, .ref a_acts])), (a_first, .inl (cyI, 7, .inl a_f_first)), (a_now, .inl (cyI, 7, .inl y0)), (a_lawPlace, .inl (cyI, 6, .inl a_f_lawPlace)), (a_lawOther, .inl (cyI, 6, .inl a_f_lawOther)), (a_lawEach, .inl (cyI, 6, .inl a_f_lawEach)), (a_lawFrom, .inl (cyI, 6, .inl a_f_lawFrom)), (a_foes, .inl (cyI, 7, .inl a_f_foes)), (a_suitTable, .inl (cyI, 49, .inl a_f_suitTable)), (a_acts, .inl (cyI, 40, .inl a_f_acts))] t.heap ∧ va_D (va_A [(h0, .inr (2, [.int a_pl, .int a_li, .int a_le, .int a_lc, .int a_ac, .int a_ng, .ref a_first, .ref a_now, .ref a_lawPlace, .ref a_lawOther, .ref a_lawEach, .ref a_lawFrom, .ref a_foes, .ref a_suitTable, .ref a_acts])), (a_first, .inl (cyI, 7, .inl a_f_first)), (a_now, .inl (cyI, 7, .inl a_f_now)), (a_lawPlace, .inl (cyI, 6, .inl a_f_lawPlace)), (a_lawOther, .inl (cyI, 6, .inl a_f_lawOther)), (a_lawEach, .inl (cyI, 6, .inl a_f_lawEach)), (a_lawFrom, .inl (cyI, 6, .inl a_f_lawFrom)), (a_foes, .inl (cyI, 7, .inl a_f_foes)), (a_suitTable, .inl (cyI, 49, .inl a_f_suitTable)), (a_acts, .inl (cyI, 40, .inl a_f_acts))] sz) [(h0, .inr (2, [.int a_pl, .int a_li, .int a_le, .int a_lc, .int a_ac, .int a_ng, .ref a_first, .ref a_now, .ref a_lawPlace, .ref a_lawOther, .ref a_lawEach, .ref a_lawFrom, .ref a_foes, .ref a_suitTable, .ref a_acts])), (a_first, .inl (cyI, 7, .inl a_f_first)), (a_now, .inl (cyI, 7, .inl y0)), (a_lawPlace, .inl (cyI, 6, .inl a_f_lawPlace)), (a_lawOther, .inl (cyI, 6, .inl a_f_lawOther)), (a_lawEach, .inl (cyI, 6, .inl a_f_lawEach)), (a_lawFrom, .inl (cyI, 6, .inl a_f_lawFrom)), (a_foes, .inl (cyI, 7, .inl a_f_foes)), (a_suitTable, .inl (cyI, 49, .inl a_f_suitTable)), (a_acts, .inl (cyI, 40, .inl a_f_acts))]) (va_A [(h0, .inr (2, [.int a_pl, .int a_li, .int a_le, .int a_lc, .int a_ac, .int a_ng, .ref a_first, .ref a_now, .ref a_lawPlace, .ref a_lawOther, .ref a_lawEach, .ref a_lawFrom, .ref a_foes, .ref a_suitTable, .ref a_acts])), (a_first, .inl (cyI, 7, .inl a_f_first)), (a_now, .inl (cyI, 7, .inl a_f_now)), (a_lawPlace, .inl (cyI, 6, .inl a_f_lawPlace)), (a_lawOther, .inl (cyI, 6, .inl a_f_lawOther)), (a_lawEach, .inl (cyI, 6, .inl a_f_lawEach)), (a_lawFrom, .inl (cyI, 6, .inl a_f_lawFrom)), (a_foes, .inl (cyI, 7, .inl a_f_foes)), (a_suitTable, .inl (cyI, 49, .inl a_f_suitTable)), (a_acts, .inl (cyI, 40, .inl a_f_acts))] sz)) 0 0 (va_A [(h0, .inr (2, [.int a_pl, .int a_li, .int a_le, .int a_lc, .int a_ac, .int a_ng, .ref a_first, .ref a_now, .ref a_lawPlace, .ref a_lawOther, .ref a_lawEach, .ref a_lawFrom, .ref a_foes, .ref a_suitTable, .ref a_acts])), (a_first, .inl (cyI, 7, .inl a_f_first)), (a_now, .inl (cyI, 7, .inl a_f_now)), (a_lawPlace, .inl (cyI, 6, .inl a_f_lawPlace)), (a_lawOther, .inl (cyI, 6, .inl a_f_lawOther)), (a_lawEach, .inl (cyI, 6, .inl a_f_lawEach)), (a_lawFrom, .inl (cyI, 6, .inl a_f_lawFrom)), (a_foes, .inl (cyI, 7, .inl a_f_foes)), (a_suitTable, .inl (cyI, 49, .inl a_f_suitTable)), (a_acts, .inl (cyI, 40, .inl a_f_acts))] sz) := by
  refine Met.ofW (cc := cX2_changeOver) (maxL := 5) (ret := none) (by decide) rfl ?_
  intro p e s m args below meth c s₁ B hml hv
  obtain ⟨rfl, hsz, hP, hK, hD0⟩ := hv
  have hx := B.exec
  have hb := B.bytes
  have hr := B.returns
  have hts : ∀ w ∈ uU, w.before ([.ref h0, .ref a_now, .int p0] : List Value).toArray s = true := fun w h => atoms_spec (ws := wk yX2_changeOver cX2_changeOver 5 none) B.pre w (List.mem_cons_of_mem _ h)
  have hown : s.vm.findClass RX2 = some m.cls := findClass_of_methodNamed B.named
  have hlocks := B.notSynchronized
  subst hsz
  have hD := hD0.self (sz := s.heap.size)
  generalize hAe : va_A [(h0, .inr (2, [.int a_pl, .int a_li, .int a_le, .int a_lc, .int a_ac, .int a_ng, .ref a_first, .ref a_now, .ref a_lawPlace, .ref a_lawOther, .ref a_lawEach, .ref a_lawFrom, .ref a_foes, .ref a_suitTable, .ref a_acts])), (a_first, .inl (cyI, 7, .inl a_f_first)), (a_now, .inl (cyI, 7, .inl a_f_now)), (a_lawPlace, .inl (cyI, 6, .inl a_f_lawPlace)), (a_lawOther, .inl (cyI, 6, .inl a_f_lawOther)), (a_lawEach, .inl (cyI, 6, .inl a_f_lawEach)), (a_lawFrom, .inl (cyI, 6, .inl a_f_lawFrom)), (a_foes, .inl (cyI, 7, .inl a_f_foes)), (a_suitTable, .inl (cyI, 49, .inl a_f_suitTable)), (a_acts, .inl (cyI, 40, .inl a_f_acts))] s.heap.size = A at hD ⊢
  have hA : ∀ q : Nat, s.heap.size ≤ q → A q := fun q h => by rw [← hAe]; exact Or.inr h
  have hS : va_S A s.heap s.heap [] := va_S.rf
  have hP : va_P (dC, dI) vwCl [(h0, .inr (2, [.int a_pl, .int a_li, .int a_le, .int a_lc, .int a_ac, .int a_ng, .ref a_first, .ref a_now, .ref a_lawPlace, .ref a_lawOther, .ref a_lawEach, .ref a_lawFrom, .ref a_foes, .ref a_suitTable, .ref a_acts])), (a_first, .inl (cyI, 7, .inl a_f_first)), (a_now, .inl (cyI, 7, .inl a_f_now)), (a_lawPlace, .inl (cyI, 6, .inl a_f_lawPlace)), (a_lawOther, .inl (cyI, 6, .inl a_f_lawOther)), (a_lawEach, .inl (cyI, 6, .inl a_f_lawEach)), (a_lawFrom, .inl (cyI, 6, .inl a_f_lawFrom)), (a_foes, .inl (cyI, 7, .inl a_f_foes)), (a_suitTable, .inl (cyI, 49, .inl a_f_suitTable)), (a_acts, .inl (cyI, 40, .inl a_f_acts))] s.heap := hP
  have hl := lv_entry ([.ref h0, .ref a_now, .int p0]) (n := 5) (Nat.le_of_ble_eq_true rfl)
  rw [lg_entry_eq]
  generalize (lg_sl ([.ref h0, .ref a_now, .int p0]) ++ List.replicate (5 - (lg_sl ([.ref h0, .ref a_now, .int p0])).length) Slot.unset).toArray = ls at hl ⊢
  have hl : lv_has ls 5 [(0, .ref h0), (1, .ref a_now), (2, .int p0)] := hl
  obtain ⟨H, hHe⟩ : ∃ H, H = s.heap := ⟨_, rfl⟩
  have hP : va_P (dC, dI) vwCl [(h0, .inr (2, [.int a_pl, .int a_li, .int a_le, .int a_lc, .int a_ac, .int a_ng, .ref a_first, .ref a_now, .ref a_lawPlace, .ref a_lawOther, .ref a_lawEach, .ref a_lawFrom, .ref a_foes, .ref a_suitTable, .ref a_acts])), (a_first, .inl (cyI, 7, .inl a_f_first)), (a_now, .inl (cyI, 7, .inl a_f_now)), (a_lawPlace, .inl (cyI, 6, .inl a_f_lawPlace)), (a_lawOther, .inl (cyI, 6, .inl a_f_lawOther)), (a_lawEach, .inl (cyI, 6, .inl a_f_lawEach)), (a_lawFrom, .inl (cyI, 6, .inl a_f_lawFrom)), (a_foes, .inl (cyI, 7, .inl a_f_foes)), (a_suitTable, .inl (cyI, 49, .inl a_f_suitTable)), (a_acts, .inl (cyI, 40, .inl a_f_acts))] H := by rw [hHe]; exact hP
  have hS : va_S A s.heap H [] := by rw [hHe]; exact hS
  refine cv_heap hHe ?_
  obtain ⟨Q9, hQ9⟩ : ∃ Q9 : State → Prop, Q9 = MQ below (va_Qv (fun _ : Unit => True) (fun (_ : Unit) (t : State) => ∃ y0 : Nat → Int32, (rg 0 6 7 y0) ∧ va_P (dC, dI) vwCl [(h0, .inr (2, [.int a_pl, .int a_li, .int a_le, .int a_lc, .int a_ac, .int a_ng, .ref a_first, .ref a_now, .ref a_lawPlace, .ref a_lawOther, .ref a_lawEach, .ref a_lawFrom, .ref a_foes, .ref a_suitTable, .ref a_acts])), (a_first, .inl (cyI, 7, .inl a_f_first)), (a_now, .inl (cyI, 7, .inl y0)), (a_lawPlace, .inl (cyI, 6, .inl a_f_lawPlace)), (a_lawOther, .inl (cyI, 6, .inl a_f_lawOther)), (a_lawEach, .inl (cyI, 6, .inl a_f_lawEach)), (a_lawFrom, .inl (cyI, 6, .inl a_f_lawFrom)), (a_foes, .inl (cyI, 7, .inl a_f_foes)), (a_suitTable, .inl (cyI, 49, .inl a_f_suitTable)), (a_acts, .inl (cyI, 40, .inl a_f_acts))] t.heap ∧ va_D A [(h0, .inr (2, [.int a_pl, .int a_li, .int a_le, .int a_lc, .int a_ac, .int a_ng, .ref a_first, .ref a_now, .ref a_lawPlace, .ref a_lawOther, .ref a_lawEach, .ref a_lawFrom, .ref a_foes, .ref a_suitTable, .ref a_acts])), (a_first, .inl (cyI, 7, .inl a_f_first)), (a_now, .inl (cyI, 7, .inl y0)), (a_lawPlace, .inl (cyI, 6, .inl a_f_lawPlace)), (a_lawOther, .inl (cyI, 6, .inl a_f_lawOther)), (a_lawEach, .inl (cyI, 6, .inl a_f_lawEach)), (a_lawFrom, .inl (cyI, 6, .inl a_f_lawFrom)), (a_foes, .inl (cyI, 7, .inl a_f_foes)), (a_suitTable, .inl (cyI, 49, .inl a_f_suitTable)), (a_acts, .inl (cyI, 40, .inl a_f_acts))]) A) ([.ref h0, .ref a_now, .int p0] : List Value).toArray s 0 0 A := ⟨_, rfl⟩
  rw [← hQ9]
  refine lv_iconst (v := 0) hx hb dX2_changeOver_0 (by decide) ?_
  refine lv_istore_n (lv' := [(3, .int 0), (0, .ref h0), (1, .ref a_now), (2, .int p0)]) hx hb dX2_changeOver_1 rfl hl (by decide) rfl (fun ls hl => ?_)
  have key_3 : ∀ (nkey_3 : Nat) (u_1 : Int32) (f_2 : Nat → Int32) (H : Heap) (locs : List Loc) (ls : Array Slot), (0 ≤ u_1.toInt ∧ u_1.toInt ≤ 6) → rg 0 6 7 f_2 → va_P (dC, dI) vwCl [(h0, .inr (2, [.int a_pl, .int a_li, .int a_le, .int a_lc, .int a_ac, .int a_ng, .ref a_first, .ref a_now, .ref a_lawPlace, .ref a_lawOther, .ref a_lawEach, .ref a_lawFrom, .ref a_foes, .ref a_suitTable, .ref a_acts])), (a_first, .inl (cyI, 7, .inl a_f_first)), (a_now, .inl (cyI, 7, .inl f_2)), (a_lawPlace, .inl (cyI, 6, .inl a_f_lawPlace)), (a_lawOther, .inl (cyI, 6, .inl a_f_lawOther)), (a_lawEach, .inl (cyI, 6, .inl a_f_lawEach)), (a_lawFrom, .inl (cyI, 6, .inl a_f_lawFrom)), (a_foes, .inl (cyI, 7, .inl a_f_foes)), (a_suitTable, .inl (cyI, 49, .inl a_f_suitTable)), (a_acts, .inl (cyI, 40, .inl a_f_acts))] H → va_D A [(h0, .inr (2, [.int a_pl, .int a_li, .int a_le, .int a_lc, .int a_ac, .int a_ng, .ref a_first, .ref a_now, .ref a_lawPlace, .ref a_lawOther, .ref a_lawEach, .ref a_lawFrom, .ref a_foes, .ref a_suitTable, .ref a_acts])), (a_first, .inl (cyI, 7, .inl a_f_first)), (a_now, .inl (cyI, 7, .inl f_2)), (a_lawPlace, .inl (cyI, 6, .inl a_f_lawPlace)), (a_lawOther, .inl (cyI, 6, .inl a_f_lawOther)), (a_lawEach, .inl (cyI, 6, .inl a_f_lawEach)), (a_lawFrom, .inl (cyI, 6, .inl a_f_lawFrom)), (a_foes, .inl (cyI, 7, .inl a_f_foes)), (a_suitTable, .inl (cyI, 49, .inl a_f_suitTable)), (a_acts, .inl (cyI, 40, .inl a_f_acts))] → va_S A s.heap H locs → lv_has ls 5 [(3, .int u_1), (0, .ref h0), (1, .ref a_now), (2, .int p0)] → (a_lc.toInt - u_1.toInt).toNat < nkey_3 → W p l e ({ frames := 1, cells := 0, slots := 0, locals := 60 }) s m ([.ref h0, .ref a_now, .int p0] : List Value).toArray below meth c H locs 0 0 Q9 (F0 m 2 ls []) := by
    intro nkey_3
    induction nkey_3 with
    | zero => intro u_1 f_2 H locs ls hu_1 hf_2 hP hD hS hl hnkey_3; exact absurd hnkey_3 (Nat.not_lt_zero _)
    | succ nkey_3 ihkey_3 =>
      intro u_1 f_2 H locs ls hu_1 hf_2 hP hD hS hl hnkey_3
      refine lv_iload_n hx hb dX2_changeOver_2 rfl (lv_at hl 0 rfl) ?_
      refine lv_aload_n hx hb dX2_changeOver_3 rfl (lv_at hl 1 rfl) ?_
      refine va_get (D := (dC, dI)) (ci := 2) (v := .int a_lc) (C := RX2) (T := TX2) (N := 15) hx hb hts uinX2 hown hK hP 0 rfl rfl 3 (by decide) (hts _ wd_1_92) (fun _ h9 => h9) rfl dX2_changeOver_4 ?_
      refine lv_icmp_ge (tgt := 60) hx hb dX2_changeOver_7 (by decide) (fun c_4 => ?_) (fun c_4 => ?_)
      · have c_4 : a_lc.toInt ≤ u_1.toInt := cv_le c_4
        rw [hQ9]
        have hP9 := hP.sub (ws' := [(h0, .inr (2, [.int a_pl, .int a_li, .int a_le, .int a_lc, .int a_ac, .int a_ng, .ref a_first, .ref a_now, .ref a_lawPlace, .ref a_lawOther, .ref a_lawEach, .ref a_lawFrom, .ref a_foes, .ref a_suitTable, .ref a_acts])), (a_first, .inl (cyI, 7, .inl a_f_first)), (a_now, .inl (cyI, 7, .inl f_2)), (a_lawPlace, .inl (cyI, 6, .inl a_f_lawPlace)), (a_lawOther, .inl (cyI, 6, .inl a_f_lawOther)), (a_lawEach, .inl (cyI, 6, .inl a_f_lawEach)), (a_lawFrom, .inl (cyI, 6, .inl a_f_lawFrom)), (a_foes, .inl (cyI, 7, .inl a_f_foes)), (a_suitTable, .inl (cyI, 49, .inl a_f_suitTable)), (a_acts, .inl (cyI, 40, .inl a_f_acts))]) [0, 1, 2, 3, 4, 5, 6, 7, 8, 9] rfl
        have hD9 := hD.sub (ws' := [(h0, .inr (2, [.int a_pl, .int a_li, .int a_le, .int a_lc, .int a_ac, .int a_ng, .ref a_first, .ref a_now, .ref a_lawPlace, .ref a_lawOther, .ref a_lawEach, .ref a_lawFrom, .ref a_foes, .ref a_suitTable, .ref a_acts])), (a_first, .inl (cyI, 7, .inl a_f_first)), (a_now, .inl (cyI, 7, .inl f_2)), (a_lawPlace, .inl (cyI, 6, .inl a_f_lawPlace)), (a_lawOther, .inl (cyI, 6, .inl a_f_lawOther)), (a_lawEach, .inl (cyI, 6, .inl a_f_lawEach)), (a_lawFrom, .inl (cyI, 6, .inl a_f_lawFrom)), (a_foes, .inl (cyI, 7, .inl a_f_foes)), (a_suitTable, .inl (cyI, 49, .inl a_f_suitTable)), (a_acts, .inl (cyI, 40, .inl a_f_acts))]) [0, 1, 2, 3, 4, 5, 6, 7, 8, 9] (by decide) rfl
        exact W.vret hx hb hr (fun t ht hW => ⟨⟨(), rfl, trivial, ⟨f_2, hf_2, by rw [ht]; exact hP9, hD9⟩⟩, hS.F ht⟩) hS.2.2 dX2_changeOver_60
      · have c_4 : u_1.toInt < a_lc.toInt := cv_nle c_4
        refine lv_iload_n hx hb dX2_changeOver_10 rfl (lv_at hl 3 rfl) ?_
        refine lv_iload_n hx hb dX2_changeOver_11 rfl (lv_at hl 0 rfl) ?_
        refine lv_ishr hx hb dX2_changeOver_12 ?_
        refine lv_topi (fun x_5 ex_5 => ?_)
        refine lv_iconst (v := 1) hx hb dX2_changeOver_13 (by decide) ?_
        refine lv_iand hx hb dX2_changeOver_14 ?_
        refine lv_topi (fun x_6 ex_6 => ?_)
        have fx_6 : 0 ≤ x_6.toInt ∧ x_6.toInt ≤ 1 := by rw [ex_6]; exact cv_andR (by decide) (by decide)
        have join_8 : ∀ (f_7 : Nat → Int32) (H : Heap) (locs : List Loc) (ls : Array Slot), rg 0 6 7 f_7 → va_P (dC, dI) vwCl [(h0, .inr (2, [.int a_pl, .int a_li, .int a_le, .int a_lc, .int a_ac, .int a_ng, .ref a_first, .ref a_now, .ref a_lawPlace, .ref a_lawOther, .ref a_lawEach, .ref a_lawFrom, .ref a_foes, .ref a_suitTable, .ref a_acts])), (a_first, .inl (cyI, 7, .inl a_f_first)), (a_now, .inl (cyI, 7, .inl f_7)), (a_lawPlace, .inl (cyI, 6, .inl a_f_lawPlace)), (a_lawOther, .inl (cyI, 6, .inl a_f_lawOther)), (a_lawEach, .inl (cyI, 6, .inl a_f_lawEach)), (a_lawFrom, .inl (cyI, 6, .inl a_f_lawFrom)), (a_foes, .inl (cyI, 7, .inl a_f_foes)), (a_suitTable, .inl (cyI, 49, .inl a_f_suitTable)), (a_acts, .inl (cyI, 40, .inl a_f_acts))] H → va_D A [(h0, .inr (2, [.int a_pl, .int a_li, .int a_le, .int a_lc, .int a_ac, .int a_ng, .ref a_first, .ref a_now, .ref a_lawPlace, .ref a_lawOther, .ref a_lawEach, .ref a_lawFrom, .ref a_foes, .ref a_suitTable, .ref a_acts])), (a_first, .inl (cyI, 7, .inl a_f_first)), (a_now, .inl (cyI, 7, .inl f_7)), (a_lawPlace, .inl (cyI, 6, .inl a_f_lawPlace)), (a_lawOther, .inl (cyI, 6, .inl a_f_lawOther)), (a_lawEach, .inl (cyI, 6, .inl a_f_lawEach)), (a_lawFrom, .inl (cyI, 6, .inl a_f_lawFrom)), (a_foes, .inl (cyI, 7, .inl a_f_foes)), (a_suitTable, .inl (cyI, 49, .inl a_f_suitTable)), (a_acts, .inl (cyI, 40, .inl a_f_acts))] → va_S A s.heap H locs → lv_has ls 5 [(3, .int u_1), (0, .ref h0), (1, .ref a_now), (2, .int p0)] → W p l e ({ frames := 1, cells := 0, slots := 0, locals := 60 }) s m ([.ref h0, .ref a_now, .int p0] : List Value).toArray below meth c H locs 0 0 Q9 (F0 m 54 ls []) := by
          intro f_7 H locs ls hf_7 hP hD hS hl
          obtain ⟨x_9, ex_9⟩ : ∃ y : Int32, y = u_1 + 1 := ⟨_, rfl⟩
          refine lv_iinc (v := x_9) (lv' := [(3, .int x_9), (0, .ref h0), (1, .ref a_now), (2, .int p0)]) hx hb dX2_changeOver_54 hl (k := 0) rfl (by rw [ex_9]; rfl) (by decide) rfl (fun ls hl => ?_)
          have fx_9 : x_9.toInt = u_1.toInt + 1 := by rw [ex_9]; exact cv_addI (by have : (1 : Int32).toInt = 1 := rfl; omega) (by have : (1 : Int32).toInt = 1 := rfl; omega)
          refine lv_goto (tgt := 2) hx hb dX2_changeOver_57 (by decide) ?_
          exact ihkey_3 x_9 f_7 _ _ _ (by omega) hf_7 hP hD hS (lv_sub hl [0, 1, 2, 3] rfl) (by omega)
        refine lv_if_eq (tgt := 54) hx hb dX2_changeOver_15 (by decide) (fun c_10 => ?_) (fun c_10 => ?_)
        · have c_10 : x_6.toInt = 0 := cv_eq c_10
          exact join_8 f_2 _ _ _ hf_2 hP hD hS (lv_sub hl [0, 1, 2, 3] rfl)
        · have c_10 : x_6.toInt ≠ 0 := cv_ne c_10
          refine lv_aload_n hx hb dX2_changeOver_18 rfl (lv_at hl 2 rfl) ?_
          refine lv_aload_n hx hb dX2_changeOver_19 rfl (lv_at hl 1 rfl) ?_
          refine va_get (D := (dC, dI)) (ci := 2) (v := .ref a_lawPlace) (C := RX2) (T := TX2) (N := 15) hx hb hts uinX2 hown hK hP 0 rfl rfl 8 (by decide) (hts _ wd_1_107) (fun _ h9 => h9) rfl dX2_changeOver_20 ?_
          refine lv_iload_n hx hb dX2_changeOver_23 rfl (lv_at hl 0 rfl) ?_
          refine va_iald hx hb hK hP 3 0 rfl rfl (vp_in_iff.mpr (by omega)) dX2_changeOver_24 ?_
          refine lv_topi (fun x_11 ex_11 => ?_)
          have fx_11 : 0 ≤ x_11.toInt ∧ x_11.toInt ≤ 6 := by rw [ex_11]; exact g2 _ (cv_ix (by omega) (by omega))
          refine va_iald hx hb hK hP 2 0 rfl rfl (vp_in_iff.mpr (by omega)) dX2_changeOver_25 ?_
          refine lv_topi (fun x_12 ex_12 => ?_)
          have fx_12 : 0 ≤ x_12.toInt ∧ x_12.toInt ≤ 6 := by rw [ex_12]; exact hf_2 _ (cv_ix (by omega) (by omega))
          refine lv_istore (lv' := [(4, .int x_12), (3, .int u_1), (0, .ref h0), (1, .ref a_now), (2, .int p0)]) hx hb dX2_changeOver_26 hl (by decide) rfl (fun ls hl => ?_)
          refine lv_aload_n hx hb dX2_changeOver_28 rfl (lv_at hl 3 rfl) ?_
          refine lv_aload_n hx hb dX2_changeOver_29 rfl (lv_at hl 2 rfl) ?_
          refine va_get (D := (dC, dI)) (ci := 2) (v := .ref a_lawPlace) (C := RX2) (T := TX2) (N := 15) hx hb hts uinX2 hown hK hP 0 rfl rfl 8 (by decide) (hts _ wd_1_107) (fun _ h9 => h9) rfl dX2_changeOver_30 ?_
          refine lv_iload_n hx hb dX2_changeOver_33 rfl (lv_at hl 1 rfl) ?_
          refine va_iald hx hb hK hP 3 0 rfl rfl (vp_in_iff.mpr (by omega)) dX2_changeOver_34 ?_
          refine lv_topi (fun x_13 ex_13 => ?_)
          have fx_13 : 0 ≤ x_13.toInt ∧ x_13.toInt ≤ 6 := by rw [ex_13]; exact g2 _ (cv_ix (by omega) (by omega))
          refine lv_aload_n hx hb dX2_changeOver_35 rfl (lv_at hl 3 rfl) ?_
          refine lv_aload_n hx hb dX2_changeOver_36 rfl (lv_at hl 2 rfl) ?_
          refine va_get (D := (dC, dI)) (ci := 2) (v := .ref a_lawOther) (C := RX2) (T := TX2) (N := 15) hx hb hts uinX2 hown hK hP 0 rfl rfl 9 (by decide) (hts _ wd_1_110) (fun _ h9 => h9) rfl dX2_changeOver_37 ?_
          refine lv_iload_n hx hb dX2_changeOver_40 rfl (lv_at hl 1 rfl) ?_
          refine va_iald hx hb hK hP 4 0 rfl rfl (vp_in_iff.mpr (by omega)) dX2_changeOver_41 ?_
          refine lv_topi (fun x_14 ex_14 => ?_)
          have fx_14 : 0 ≤ x_14.toInt ∧ x_14.toInt ≤ 6 := by rw [ex_14]; exact g3 _ (cv_ix (by omega) (by omega))
          refine va_iald hx hb hK hP 2 0 rfl rfl (vp_in_iff.mpr (by omega)) dX2_changeOver_42 ?_
          refine lv_topi (fun x_15 ex_15 => ?_)
          have fx_15 : 0 ≤ x_15.toInt ∧ x_15.toInt ≤ 6 := by rw [ex_15]; exact hf_2 _ (cv_ix (by omega) (by omega))
          refine va_iast hx hb hK hP hD hS 2 0 rfl rfl (vp_in_iff.mpr (by omega)) dX2_changeOver_43 (fun H locs hP hD hS => ?_)
          obtain ⟨f_16, ef_16⟩ : ∃ z9 : Nat → Int32, z9 = upd f_2 x_13.toNatClampNeg x_15 := ⟨_, rfl⟩
          rw [← ef_16] at hP hD
          have hP : va_P (dC, dI) vwCl [(h0, .inr (2, [.int a_pl, .int a_li, .int a_le, .int a_lc, .int a_ac, .int a_ng, .ref a_first, .ref a_now, .ref a_lawPlace, .ref a_lawOther, .ref a_lawEach, .ref a_lawFrom, .ref a_foes, .ref a_suitTable, .ref a_acts])), (a_first, .inl (cyI, 7, .inl a_f_first)), (a_now, .inl (cyI, 7, .inl f_16)), (a_lawPlace, .inl (cyI, 6, .inl a_f_lawPlace)), (a_lawOther, .inl (cyI, 6, .inl a_f_lawOther)), (a_lawEach, .inl (cyI, 6, .inl a_f_lawEach)), (a_lawFrom, .inl (cyI, 6, .inl a_f_lawFrom)), (a_foes, .inl (cyI, 7, .inl a_f_foes)), (a_suitTable, .inl (cyI, 49, .inl a_f_suitTable)), (a_acts, .inl (cyI, 40, .inl a_f_acts))] H := hP
          have hD : va_D A [(h0, .inr (2, [.int a_pl, .int a_li, .int a_le, .int a_lc, .int a_ac, .int a_ng, .ref a_first, .ref a_now, .ref a_lawPlace, .ref a_lawOther, .ref a_lawEach, .ref a_lawFrom, .ref a_foes, .ref a_suitTable, .ref a_acts])), (a_first, .inl (cyI, 7, .inl a_f_first)), (a_now, .inl (cyI, 7, .inl f_16)), (a_lawPlace, .inl (cyI, 6, .inl a_f_lawPlace)), (a_lawOther, .inl (cyI, 6, .inl a_f_lawOther)), (a_lawEach, .inl (cyI, 6, .inl a_f_lawEach)), (a_lawFrom, .inl (cyI, 6, .inl a_f_lawFrom)), (a_foes, .inl (cyI, 7, .inl a_f_foes)), (a_suitTable, .inl (cyI, 49, .inl a_f_suitTable)), (a_acts, .inl (cyI, 40, .inl a_f_acts))] := hD
          have hf_16 : rg 0 6 7 f_16 := by rw [ef_16]; exact rg_upd (hf_2) ⟨by omega, by omega⟩
          refine lv_aload_n hx hb dX2_changeOver_44 rfl (lv_at hl 3 rfl) ?_
          refine lv_aload_n hx hb dX2_changeOver_45 rfl (lv_at hl 2 rfl) ?_
          refine va_get (D := (dC, dI)) (ci := 2) (v := .ref a_lawOther) (C := RX2) (T := TX2) (N := 15) hx hb hts uinX2 hown hK hP 0 rfl rfl 9 (by decide) (hts _ wd_1_110) (fun _ h9 => h9) rfl dX2_changeOver_46 ?_
          refine lv_iload_n hx hb dX2_changeOver_49 rfl (lv_at hl 1 rfl) ?_
          refine va_iald hx hb hK hP 4 0 rfl rfl (vp_in_iff.mpr (by omega)) dX2_changeOver_50 ?_
          refine lv_topi (fun x_17 ex_17 => ?_)
          have fx_17 : 0 ≤ x_17.toInt ∧ x_17.toInt ≤ 6 := by rw [ex_17]; exact g3 _ (cv_ix (by omega) (by omega))
          refine lv_iload hx hb dX2_changeOver_51 (lv_at hl 0 rfl) ?_
          refine va_iast hx hb hK hP hD hS 2 0 rfl rfl (vp_in_iff.mpr (by omega)) dX2_changeOver_53 (fun H locs hP hD hS => ?_)
          obtain ⟨f_18, ef_18⟩ : ∃ z9 : Nat → Int32, z9 = upd f_16 x_17.toNatClampNeg x_12 := ⟨_, rfl⟩
          rw [← ef_18] at hP hD
          have hP : va_P (dC, dI) vwCl [(h0, .inr (2, [.int a_pl, .int a_li, .int a_le, .int a_lc, .int a_ac, .int a_ng, .ref a_first, .ref a_now, .ref a_lawPlace, .ref a_lawOther, .ref a_lawEach, .ref a_lawFrom, .ref a_foes, .ref a_suitTable, .ref a_acts])), (a_first, .inl (cyI, 7, .inl a_f_first)), (a_now, .inl (cyI, 7, .inl f_18)), (a_lawPlace, .inl (cyI, 6, .inl a_f_lawPlace)), (a_lawOther, .inl (cyI, 6, .inl a_f_lawOther)), (a_lawEach, .inl (cyI, 6, .inl a_f_lawEach)), (a_lawFrom, .inl (cyI, 6, .inl a_f_lawFrom)), (a_foes, .inl (cyI, 7, .inl a_f_foes)), (a_suitTable, .inl (cyI, 49, .inl a_f_suitTable)), (a_acts, .inl (cyI, 40, .inl a_f_acts))] H := hP
          have hD : va_D A [(h0, .inr (2, [.int a_pl, .int a_li, .int a_le, .int a_lc, .int a_ac, .int a_ng, .ref a_first, .ref a_now, .ref a_lawPlace, .ref a_lawOther, .ref a_lawEach, .ref a_lawFrom, .ref a_foes, .ref a_suitTable, .ref a_acts])), (a_first, .inl (cyI, 7, .inl a_f_first)), (a_now, .inl (cyI, 7, .inl f_18)), (a_lawPlace, .inl (cyI, 6, .inl a_f_lawPlace)), (a_lawOther, .inl (cyI, 6, .inl a_f_lawOther)), (a_lawEach, .inl (cyI, 6, .inl a_f_lawEach)), (a_lawFrom, .inl (cyI, 6, .inl a_f_lawFrom)), (a_foes, .inl (cyI, 7, .inl a_f_foes)), (a_suitTable, .inl (cyI, 49, .inl a_f_suitTable)), (a_acts, .inl (cyI, 40, .inl a_f_acts))] := hD
          have hf_18 : rg 0 6 7 f_18 := by rw [ef_18]; exact rg_upd (hf_16) ⟨by omega, by omega⟩
          exact join_8 f_18 _ _ _ hf_18 hP hD hS (lv_sub hl [1, 2, 3, 4] rfl)
  exact key_3 _ 0 a_f_now _ _ _ (by decide) g1 hP hD hS (lv_sub hl [0, 1, 2, 3] rfl) (Nat.lt_succ_self _)

/- X2_changeBack -/
set_option maxHeartbeats 4000000 in
set_option maxRecDepth 100000 in
theorem n_changeBack (l : Launch) (dC : Nat → ClassId) (dI : Nat → Nat → Nat) (cyI cyB cyJ cyZ cyH cyN : ClassId) (sz : Nat) (h0 a_first a_now a_lawPlace a_lawOther a_lawEach a_lawFrom a_foes a_suitTable a_acts : Nat) (a_pl a_li a_le a_lc a_ac a_ng : Int32) (a_f_first a_f_now a_f_lawPlace a_f_lawOther a_f_lawEach a_f_lawFrom a_f_foes a_f_suitTable a_f_acts : Nat → Int32) (p0 : Int32) (g0 : rg 0 6 7 a_f_first) (g1 : rg 0 6 7 a_f_now) (g2 : rg 0 6 6 a_f_lawPlace) (g3 : rg 0 6 6 a_f_lawOther) (g4 : ra 40 a_f_acts) (g5 : 0 ≤ a_pl.toInt ∧ a_pl.toInt ≤ 7) (g6 : 0 ≤ a_lc.toInt ∧ a_lc.toInt ≤ 6) (g7 : 0 ≤ a_ac.toInt ∧ a_ac.toInt ≤ 40) : Met l yX2_changeBack (wk yX2_changeBack cX2_changeBack 4 none) ({ frames := 2, cells := 0, slots := 0, locals := 83 }) (va_Pc [.ref h0, .ref a_now, .int p0] (fun U => U.heap.size = sz ∧ va_P (dC, dI) vwCl [(h0, .inr (2, [.int a_pl, .int a_li, .int a_le, .int a_lc, .int a_ac, .int a_ng, .ref a_first, .ref a_now, .ref a_lawPlace, .ref a_lawOther, .ref a_lawEach, .ref a_lawFrom, .ref a_foes, .ref a_suitTable, .ref a_acts])), (a_first, .inl (cyI, 7, .inl a_f_first)), (a_now, .inl (cyI, 7, .inl a_f_now)), (a_lawPlace, .inl (cyI, 6, .inl a_f_lawPlace)), (a_lawOther, .inl (cyI, 6, .inl a_f_lawOther)), (a_lawEach, .inl (cyI, 6, .inl a_f_lawEach)), (a_lawFrom, .inl (cyI, 6, .inl a_f_lawFrom)), (a_foes, .inl (cyI, 7, .inl a_f_foes)), (a_suitTable, .inl (cyI, 49, .inl a_f_suitTable)), (a_acts, .inl (cyI, 40, .inl a_f_acts))] U.heap ∧ va_K (dC, dI) vwCl [(cyI, .int), (cyB, .byte), (cyJ, .long), (cyZ, .boolean), (cyH, .object RX2), (cyN, .array .long)] U ∧ va_D (fun _ => True) [(h0, .inr (2, [.int a_pl, .int a_li, .int a_le, .int a_lc, .int a_ac, .int a_ng, .ref a_first, .ref a_now, .ref a_lawPlace, .ref a_lawOther, .ref a_lawEach, .ref a_lawFrom, .ref a_foes, .ref a_suitTable, .ref a_acts])), (a_first, .inl (cyI, 7, .inl a_f_first)), (a_now, .inl (cyI, 7, .inl a_f_now)), (a_lawPlace, .inl (cyI, 6, .inl a_f_lawPlace)), (a_lawOther, .inl (cyI, 6, .inl a_f_lawOther)), (a_lawEach, .inl (cyI, 6, .inl a_f_lawEach)), (a_lawFrom, .inl (cyI, 6, .inl a_f_lawFrom)), (a_foes, .inl (cyI, 7, .inl a_f_foes)), (a_suitTable, .inl (cyI, 49, .inl a_f_suitTable)), (a_acts, .inl (cyI, 40, .inl a_f_acts))])) (va_Qv (fun _ : Unit => True) (fun (_ : Unit) (t : State) => ∃ y0 : Nat → Int32, (rg 0 6 7 y0) ∧ va_P (dC, dI) vwCl [(h0, .inr (2, [.int a_pl, .int a_li, .int a_le, .int a_lc, .int a_ac, .int a_ng, .ref a_first, .ref a_now, .ref a_lawPlace, .ref a_lawOther, .ref a_lawEach, .ref a_lawFrom, .ref a_foes, .ref a_suitTable, .ref a_acts])), (a_first, .inl (cyI, 7, .inl a_f_first)), (a_now, .inl (cyI, 7, .inl y0)), (a_lawPlace, .inl (cyI, 6, .inl a_f_lawPlace)), (a_lawOther, .inl (cyI, 6, .inl a_f_lawOther)), (a_lawEach, .inl (cyI, 6, .inl a_f_lawEach)), (a_lawFrom, .inl (cyI, 6, .inl a_f_lawFrom)), (a_foes, .inl (cyI, 7, .inl a_f_foes)), (a_suitTable, .inl (cyI, 49, .inl a_f_suitTable)), (a_acts, .inl (cyI, 40, .inl a_f_acts))] t.heap ∧ va_D (va_A [(h0, .inr (2, [.int a_pl, .int a_li, .int a_le, .int a_lc, .int a_ac, .int a_ng, .ref a_first, .ref a_now, .ref a_lawPlace, .ref a_lawOther, .ref a_lawEach, .ref a_lawFrom, .ref a_foes, .ref a_suitTable, .ref a_acts])), (a_first, .inl (cyI, 7, .inl a_f_first)), (a_now, .inl (cyI, 7, .inl a_f_now)), (a_lawPlace, .inl (cyI, 6, .inl a_f_lawPlace)), (a_lawOther, .inl (cyI, 6, .inl a_f_lawOther)), (a_lawEach, .inl (cyI, 6, .inl a_f_lawEach)), (a_lawFrom, .inl (cyI, 6, .inl a_f_lawFrom)), (a_foes, .inl (cyI, 7, .inl a_f_foes)), (a_suitTable, .inl (cyI, 49, .inl a_f_suitTable)), (a_acts, .inl (cyI, 40, .inl a_f_acts))] sz) [(h0, .inr (2, [.int a_pl, .int a_li, .int a_le, .int a_lc, .int a_ac, .int a_ng, .ref a_first, .ref a_now, .ref a_lawPlace, .ref a_lawOther, .ref a_lawEach, .ref a_lawFrom, .ref a_foes, .ref a_suitTable, .ref a_acts])), (a_first, .inl (cyI, 7, .inl a_f_first)), (a_now, .inl (cyI, 7, .inl y0)), (a_lawPlace, .inl (cyI, 6, .inl a_f_lawPlace)), (a_lawOther, .inl (cyI, 6, .inl a_f_lawOther)), (a_lawEach, .inl (cyI, 6, .inl a_f_lawEach)), (a_lawFrom, .inl (cyI, 6, .inl a_f_lawFrom)), (a_foes, .inl (cyI, 7, .inl a_f_foes)), (a_suitTable, .inl (cyI, 49, .inl a_f_suitTable)), (a_acts, .inl (cyI, 40, .inl a_f_acts))]) (va_A [(h0, .inr (2, [.int a_pl, .int a_li, .int a_le, .int a_lc, .int a_ac, .int a_ng, .ref a_first, .ref a_now, .ref a_lawPlace, .ref a_lawOther, .ref a_lawEach, .ref a_lawFrom, .ref a_foes, .ref a_suitTable, .ref a_acts])), (a_first, .inl (cyI, 7, .inl a_f_first)), (a_now, .inl (cyI, 7, .inl a_f_now)), (a_lawPlace, .inl (cyI, 6, .inl a_f_lawPlace)), (a_lawOther, .inl (cyI, 6, .inl a_f_lawOther)), (a_lawEach, .inl (cyI, 6, .inl a_f_lawEach)), (a_lawFrom, .inl (cyI, 6, .inl a_f_lawFrom)), (a_foes, .inl (cyI, 7, .inl a_f_foes)), (a_suitTable, .inl (cyI, 49, .inl a_f_suitTable)), (a_acts, .inl (cyI, 40, .inl a_f_acts))] sz)) 0 0 (va_A [(h0, .inr (2, [.int a_pl, .int a_li, .int a_le, .int a_lc, .int a_ac, .int a_ng, .ref a_first, .ref a_now, .ref a_lawPlace, .ref a_lawOther, .ref a_lawEach, .ref a_lawFrom, .ref a_foes, .ref a_suitTable, .ref a_acts])), (a_first, .inl (cyI, 7, .inl a_f_first)), (a_now, .inl (cyI, 7, .inl a_f_now)), (a_lawPlace, .inl (cyI, 6, .inl a_f_lawPlace)), (a_lawOther, .inl (cyI, 6, .inl a_f_lawOther)), (a_lawEach, .inl (cyI, 6, .inl a_f_lawEach)), (a_lawFrom, .inl (cyI, 6, .inl a_f_lawFrom)), (a_foes, .inl (cyI, 7, .inl a_f_foes)), (a_suitTable, .inl (cyI, 49, .inl a_f_suitTable)), (a_acts, .inl (cyI, 40, .inl a_f_acts))] sz) := by
  refine Met.ofW (cc := cX2_changeBack) (maxL := 4) (ret := none) (by decide) rfl ?_
  intro p e s m args below meth c s₁ B hml hv
  obtain ⟨rfl, hsz, hP, hK, hD0⟩ := hv
  have hx := B.exec
  have hb := B.bytes
  have hr := B.returns
  have hts : ∀ w ∈ uU, w.before ([.ref h0, .ref a_now, .int p0] : List Value).toArray s = true := fun w h => atoms_spec (ws := wk yX2_changeBack cX2_changeBack 4 none) B.pre w (List.mem_cons_of_mem _ h)
  have hown : s.vm.findClass RX2 = some m.cls := findClass_of_methodNamed B.named
  have hlocks := B.notSynchronized
  subst hsz
  have hD := hD0.self (sz := s.heap.size)
  generalize hAe : va_A [(h0, .inr (2, [.int a_pl, .int a_li, .int a_le, .int a_lc, .int a_ac, .int a_ng, .ref a_first, .ref a_now, .ref a_lawPlace, .ref a_lawOther, .ref a_lawEach, .ref a_lawFrom, .ref a_foes, .ref a_suitTable, .ref a_acts])), (a_first, .inl (cyI, 7, .inl a_f_first)), (a_now, .inl (cyI, 7, .inl a_f_now)), (a_lawPlace, .inl (cyI, 6, .inl a_f_lawPlace)), (a_lawOther, .inl (cyI, 6, .inl a_f_lawOther)), (a_lawEach, .inl (cyI, 6, .inl a_f_lawEach)), (a_lawFrom, .inl (cyI, 6, .inl a_f_lawFrom)), (a_foes, .inl (cyI, 7, .inl a_f_foes)), (a_suitTable, .inl (cyI, 49, .inl a_f_suitTable)), (a_acts, .inl (cyI, 40, .inl a_f_acts))] s.heap.size = A at hD ⊢
  have hA : ∀ q : Nat, s.heap.size ≤ q → A q := fun q h => by rw [← hAe]; exact Or.inr h
  have hS : va_S A s.heap s.heap [] := va_S.rf
  have hP : va_P (dC, dI) vwCl [(h0, .inr (2, [.int a_pl, .int a_li, .int a_le, .int a_lc, .int a_ac, .int a_ng, .ref a_first, .ref a_now, .ref a_lawPlace, .ref a_lawOther, .ref a_lawEach, .ref a_lawFrom, .ref a_foes, .ref a_suitTable, .ref a_acts])), (a_first, .inl (cyI, 7, .inl a_f_first)), (a_now, .inl (cyI, 7, .inl a_f_now)), (a_lawPlace, .inl (cyI, 6, .inl a_f_lawPlace)), (a_lawOther, .inl (cyI, 6, .inl a_f_lawOther)), (a_lawEach, .inl (cyI, 6, .inl a_f_lawEach)), (a_lawFrom, .inl (cyI, 6, .inl a_f_lawFrom)), (a_foes, .inl (cyI, 7, .inl a_f_foes)), (a_suitTable, .inl (cyI, 49, .inl a_f_suitTable)), (a_acts, .inl (cyI, 40, .inl a_f_acts))] s.heap := hP
  have hl := lv_entry ([.ref h0, .ref a_now, .int p0]) (n := 4) (Nat.le_of_ble_eq_true rfl)
  rw [lg_entry_eq]
  generalize (lg_sl ([.ref h0, .ref a_now, .int p0]) ++ List.replicate (4 - (lg_sl ([.ref h0, .ref a_now, .int p0])).length) Slot.unset).toArray = ls at hl ⊢
  have hl : lv_has ls 4 [(0, .ref h0), (1, .ref a_now), (2, .int p0)] := hl
  obtain ⟨H, hHe⟩ : ∃ H, H = s.heap := ⟨_, rfl⟩
  have hP : va_P (dC, dI) vwCl [(h0, .inr (2, [.int a_pl, .int a_li, .int a_le, .int a_lc, .int a_ac, .int a_ng, .ref a_first, .ref a_now, .ref a_lawPlace, .ref a_lawOther, .ref a_lawEach, .ref a_lawFrom, .ref a_foes, .ref a_suitTable, .ref a_acts])), (a_first, .inl (cyI, 7, .inl a_f_first)), (a_now, .inl (cyI, 7, .inl a_f_now)), (a_lawPlace, .inl (cyI, 6, .inl a_f_lawPlace)), (a_lawOther, .inl (cyI, 6, .inl a_f_lawOther)), (a_lawEach, .inl (cyI, 6, .inl a_f_lawEach)), (a_lawFrom, .inl (cyI, 6, .inl a_f_lawFrom)), (a_foes, .inl (cyI, 7, .inl a_f_foes)), (a_suitTable, .inl (cyI, 49, .inl a_f_suitTable)), (a_acts, .inl (cyI, 40, .inl a_f_acts))] H := by rw [hHe]; exact hP
  have hS : va_S A s.heap H [] := by rw [hHe]; exact hS
  refine cv_heap hHe ?_
  obtain ⟨Q9, hQ9⟩ : ∃ Q9 : State → Prop, Q9 = MQ below (va_Qv (fun _ : Unit => True) (fun (_ : Unit) (t : State) => ∃ y0 : Nat → Int32, (rg 0 6 7 y0) ∧ va_P (dC, dI) vwCl [(h0, .inr (2, [.int a_pl, .int a_li, .int a_le, .int a_lc, .int a_ac, .int a_ng, .ref a_first, .ref a_now, .ref a_lawPlace, .ref a_lawOther, .ref a_lawEach, .ref a_lawFrom, .ref a_foes, .ref a_suitTable, .ref a_acts])), (a_first, .inl (cyI, 7, .inl a_f_first)), (a_now, .inl (cyI, 7, .inl y0)), (a_lawPlace, .inl (cyI, 6, .inl a_f_lawPlace)), (a_lawOther, .inl (cyI, 6, .inl a_f_lawOther)), (a_lawEach, .inl (cyI, 6, .inl a_f_lawEach)), (a_lawFrom, .inl (cyI, 6, .inl a_f_lawFrom)), (a_foes, .inl (cyI, 7, .inl a_f_foes)), (a_suitTable, .inl (cyI, 49, .inl a_f_suitTable)), (a_acts, .inl (cyI, 40, .inl a_f_acts))] t.heap ∧ va_D A [(h0, .inr (2, [.int a_pl, .int a_li, .int a_le, .int a_lc, .int a_ac, .int a_ng, .ref a_first, .ref a_now, .ref a_lawPlace, .ref a_lawOther, .ref a_lawEach, .ref a_lawFrom, .ref a_foes, .ref a_suitTable, .ref a_acts])), (a_first, .inl (cyI, 7, .inl a_f_first)), (a_now, .inl (cyI, 7, .inl y0)), (a_lawPlace, .inl (cyI, 6, .inl a_f_lawPlace)), (a_lawOther, .inl (cyI, 6, .inl a_f_lawOther)), (a_lawEach, .inl (cyI, 6, .inl a_f_lawEach)), (a_lawFrom, .inl (cyI, 6, .inl a_f_lawFrom)), (a_foes, .inl (cyI, 7, .inl a_f_foes)), (a_suitTable, .inl (cyI, 49, .inl a_f_suitTable)), (a_acts, .inl (cyI, 40, .inl a_f_acts))]) A) ([.ref h0, .ref a_now, .int p0] : List Value).toArray s 0 0 A := ⟨_, rfl⟩
  rw [← hQ9]
  refine lv_aload_n hx hb dX2_changeBack_0 rfl (lv_at hl 0 rfl) ?_
  refine va_get (D := (dC, dI)) (ci := 2) (v := .int a_lc) (C := RX2) (T := TX2) (N := 15) hx hb hts uinX2 hown hK hP 0 rfl rfl 3 (by decide) (hts _ wd_1_92) (fun _ h9 => h9) rfl dX2_changeBack_1 ?_
  refine lv_iconst (v := 1) hx hb dX2_changeBack_4 (by decide) ?_
  refine lv_isub hx hb dX2_changeBack_5 ?_
  refine lv_topi (fun x_1 ex_1 => ?_)
  have fx_1 : x_1.toInt = a_lc.toInt - 1 := by rw [ex_1]; exact cv_subI (by have : (1 : Int32).toInt = 1 := rfl; omega) (by have : (1 : Int32).toInt = 1 := rfl; omega)
  refine lv_istore_n (lv' := [(3, .int x_1), (0, .ref h0), (1, .ref a_now), (2, .int p0)]) hx hb dX2_changeBack_6 rfl hl (by decide) rfl (fun ls hl => ?_)
  have key_4 : ∀ (nkey_4 : Nat) (u_2 : Int32) (f_3 : Nat → Int32) (H : Heap) (locs : List Loc) (ls : Array Slot), ((-1) ≤ u_2.toInt ∧ u_2.toInt ≤ 5) → rg 0 6 7 f_3 → va_P (dC, dI) vwCl [(h0, .inr (2, [.int a_pl, .int a_li, .int a_le, .int a_lc, .int a_ac, .int a_ng, .ref a_first, .ref a_now, .ref a_lawPlace, .ref a_lawOther, .ref a_lawEach, .ref a_lawFrom, .ref a_foes, .ref a_suitTable, .ref a_acts])), (a_first, .inl (cyI, 7, .inl a_f_first)), (a_now, .inl (cyI, 7, .inl f_3)), (a_lawPlace, .inl (cyI, 6, .inl a_f_lawPlace)), (a_lawOther, .inl (cyI, 6, .inl a_f_lawOther)), (a_lawEach, .inl (cyI, 6, .inl a_f_lawEach)), (a_lawFrom, .inl (cyI, 6, .inl a_f_lawFrom)), (a_foes, .inl (cyI, 7, .inl a_f_foes)), (a_suitTable, .inl (cyI, 49, .inl a_f_suitTable)), (a_acts, .inl (cyI, 40, .inl a_f_acts))] H → va_D A [(h0, .inr (2, [.int a_pl, .int a_li, .int a_le, .int a_lc, .int a_ac, .int a_ng, .ref a_first, .ref a_now, .ref a_lawPlace, .ref a_lawOther, .ref a_lawEach, .ref a_lawFrom, .ref a_foes, .ref a_suitTable, .ref a_acts])), (a_first, .inl (cyI, 7, .inl a_f_first)), (a_now, .inl (cyI, 7, .inl f_3)), (a_lawPlace, .inl (cyI, 6, .inl a_f_lawPlace)), (a_lawOther, .inl (cyI, 6, .inl a_f_lawOther)), (a_lawEach, .inl (cyI, 6, .inl a_f_lawEach)), (a_lawFrom, .inl (cyI, 6, .inl a_f_lawFrom)), (a_foes, .inl (cyI, 7, .inl a_f_foes)), (a_suitTable, .inl (cyI, 49, .inl a_f_suitTable)), (a_acts, .inl (cyI, 40, .inl a_f_acts))] → va_S A s.heap H locs → lv_has ls 4 [(3, .int u_2), (0, .ref h0), (1, .ref a_now), (2, .int p0)] → (u_2.toInt - 0 + 1).toNat < nkey_4 → W p l e ({ frames := 2, cells := 0, slots := 0, locals := 83 }) s m ([.ref h0, .ref a_now, .int p0] : List Value).toArray below meth c H locs 0 0 Q9 (F0 m 7 ls []) := by
    intro nkey_4
    induction nkey_4 with
    | zero => intro u_2 f_3 H locs ls hu_2 hf_3 hP hD hS hl hnkey_4; exact absurd hnkey_4 (Nat.not_lt_zero _)
    | succ nkey_4 ihkey_4 =>
      intro u_2 f_3 H locs ls hu_2 hf_3 hP hD hS hl hnkey_4
      refine lv_iload_n hx hb dX2_changeBack_7 rfl (lv_at hl 0 rfl) ?_
      refine lv_if_lt (tgt := 41) hx hb dX2_changeBack_8 (by decide) (fun c_5 => ?_) (fun c_5 => ?_)
      · have c_5 : u_2.toInt < 0 := cv_lt c_5
        rw [hQ9]
        have hP9 := hP.sub (ws' := [(h0, .inr (2, [.int a_pl, .int a_li, .int a_le, .int a_lc, .int a_ac, .int a_ng, .ref a_first, .ref a_now, .ref a_lawPlace, .ref a_lawOther, .ref a_lawEach, .ref a_lawFrom, .ref a_foes, .ref a_suitTable, .ref a_acts])), (a_first, .inl (cyI, 7, .inl a_f_first)), (a_now, .inl (cyI, 7, .inl f_3)), (a_lawPlace, .inl (cyI, 6, .inl a_f_lawPlace)), (a_lawOther, .inl (cyI, 6, .inl a_f_lawOther)), (a_lawEach, .inl (cyI, 6, .inl a_f_lawEach)), (a_lawFrom, .inl (cyI, 6, .inl a_f_lawFrom)), (a_foes, .inl (cyI, 7, .inl a_f_foes)), (a_suitTable, .inl (cyI, 49, .inl a_f_suitTable)), (a_acts, .inl (cyI, 40, .inl a_f_acts))]) [0, 1, 2, 3, 4, 5, 6, 7, 8, 9] rfl
        have hD9 := hD.sub (ws' := [(h0, .inr (2, [.int a_pl, .int a_li, .int a_le, .int a_lc, .int a_ac, .int a_ng, .ref a_first, .ref a_now, .ref a_lawPlace, .ref a_lawOther, .ref a_lawEach, .ref a_lawFrom, .ref a_foes, .ref a_suitTable, .ref a_acts])), (a_first, .inl (cyI, 7, .inl a_f_first)), (a_now, .inl (cyI, 7, .inl f_3)), (a_lawPlace, .inl (cyI, 6, .inl a_f_lawPlace)), (a_lawOther, .inl (cyI, 6, .inl a_f_lawOther)), (a_lawEach, .inl (cyI, 6, .inl a_f_lawEach)), (a_lawFrom, .inl (cyI, 6, .inl a_f_lawFrom)), (a_foes, .inl (cyI, 7, .inl a_f_foes)), (a_suitTable, .inl (cyI, 49, .inl a_f_suitTable)), (a_acts, .inl (cyI, 40, .inl a_f_acts))]) [0, 1, 2, 3, 4, 5, 6, 7, 8, 9] (by decide) rfl
        exact W.vret hx hb hr (fun t ht hW => ⟨⟨(), rfl, trivial, ⟨f_3, hf_3, by rw [ht]; exact hP9, hD9⟩⟩, hS.F ht⟩) hS.2.2 dX2_changeBack_41
      · have c_5 : 0 ≤ u_2.toInt := cv_nlt c_5
        refine lv_iload_n hx hb dX2_changeBack_11 rfl (lv_at hl 3 rfl) ?_
        refine lv_iload_n hx hb dX2_changeBack_12 rfl (lv_at hl 0 rfl) ?_
        refine lv_ishr hx hb dX2_changeBack_13 ?_
        refine lv_topi (fun x_6 ex_6 => ?_)
        refine lv_iconst (v := 1) hx hb dX2_changeBack_14 (by decide) ?_
        refine lv_iand hx hb dX2_changeBack_15 ?_
        refine lv_topi (fun x_7 ex_7 => ?_)
        have fx_7 : 0 ≤ x_7.toInt ∧ x_7.toInt ≤ 1 := by rw [ex_7]; exact cv_andR (by decide) (by decide)
        have join_9 : ∀ (f_8 : Nat → Int32) (H : Heap) (locs : List Loc) (ls : Array Slot), rg 0 6 7 f_8 → va_P (dC, dI) vwCl [(h0, .inr (2, [.int a_pl, .int a_li, .int a_le, .int a_lc, .int a_ac, .int a_ng, .ref a_first, .ref a_now, .ref a_lawPlace, .ref a_lawOther, .ref a_lawEach, .ref a_lawFrom, .ref a_foes, .ref a_suitTable, .ref a_acts])), (a_first, .inl (cyI, 7, .inl a_f_first)), (a_now, .inl (cyI, 7, .inl f_8)), (a_lawPlace, .inl (cyI, 6, .inl a_f_lawPlace)), (a_lawOther, .inl (cyI, 6, .inl a_f_lawOther)), (a_lawEach, .inl (cyI, 6, .inl a_f_lawEach)), (a_lawFrom, .inl (cyI, 6, .inl a_f_lawFrom)), (a_foes, .inl (cyI, 7, .inl a_f_foes)), (a_suitTable, .inl (cyI, 49, .inl a_f_suitTable)), (a_acts, .inl (cyI, 40, .inl a_f_acts))] H → va_D A [(h0, .inr (2, [.int a_pl, .int a_li, .int a_le, .int a_lc, .int a_ac, .int a_ng, .ref a_first, .ref a_now, .ref a_lawPlace, .ref a_lawOther, .ref a_lawEach, .ref a_lawFrom, .ref a_foes, .ref a_suitTable, .ref a_acts])), (a_first, .inl (cyI, 7, .inl a_f_first)), (a_now, .inl (cyI, 7, .inl f_8)), (a_lawPlace, .inl (cyI, 6, .inl a_f_lawPlace)), (a_lawOther, .inl (cyI, 6, .inl a_f_lawOther)), (a_lawEach, .inl (cyI, 6, .inl a_f_lawEach)), (a_lawFrom, .inl (cyI, 6, .inl a_f_lawFrom)), (a_foes, .inl (cyI, 7, .inl a_f_foes)), (a_suitTable, .inl (cyI, 49, .inl a_f_suitTable)), (a_acts, .inl (cyI, 40, .inl a_f_acts))] → va_S A s.heap H locs → lv_has ls 4 [(3, .int u_2), (0, .ref h0), (1, .ref a_now), (2, .int p0)] → W p l e ({ frames := 2, cells := 0, slots := 0, locals := 83 }) s m ([.ref h0, .ref a_now, .int p0] : List Value).toArray below meth c H locs 0 0 Q9 (F0 m 35 ls []) := by
          intro f_8 H locs ls hf_8 hP hD hS hl
          obtain ⟨x_10, ex_10⟩ : ∃ y : Int32, y = u_2 + (-1) := ⟨_, rfl⟩
          refine lv_iinc (v := x_10) (lv' := [(3, .int x_10), (0, .ref h0), (1, .ref a_now), (2, .int p0)]) hx hb dX2_changeBack_35 hl (k := 0) rfl (by rw [ex_10]; rfl) (by decide) rfl (fun ls hl => ?_)
          have fx_10 : x_10.toInt = u_2.toInt + (-1) := by rw [ex_10]; exact cv_addI (by have : ((-1) : Int32).toInt = (-1) := rfl; omega) (by have : ((-1) : Int32).toInt = (-1) := rfl; omega)
          refine lv_goto (tgt := 7) hx hb dX2_changeBack_38 (by decide) ?_
          exact ihkey_4 x_10 f_8 _ _ _ (by omega) hf_8 hP hD hS (lv_sub hl [0, 1, 2, 3] rfl) (by omega)
        refine lv_if_eq (tgt := 35) hx hb dX2_changeBack_16 (by decide) (fun c_11 => ?_) (fun c_11 => ?_)
        · have c_11 : x_7.toInt = 0 := cv_eq c_11
          exact join_9 f_3 _ _ _ hf_3 hP hD hS (lv_sub hl [0, 1, 2, 3] rfl)
        · have c_11 : x_7.toInt ≠ 0 := cv_ne c_11
          refine lv_aload_n hx hb dX2_changeBack_19 rfl (lv_at hl 2 rfl) ?_
          refine lv_aload_n hx hb dX2_changeBack_20 rfl (lv_at hl 1 rfl) ?_
          refine va_get (D := (dC, dI)) (ci := 2) (v := .ref a_lawPlace) (C := RX2) (T := TX2) (N := 15) hx hb hts uinX2 hown hK hP 0 rfl rfl 8 (by decide) (hts _ wd_1_107) (fun _ h9 => h9) rfl dX2_changeBack_21 ?_
          refine lv_iload_n hx hb dX2_changeBack_24 rfl (lv_at hl 0 rfl) ?_
          refine va_iald hx hb hK hP 3 0 rfl rfl (vp_in_iff.mpr (by omega)) dX2_changeBack_25 ?_
          refine lv_topi (fun x_12 ex_12 => ?_)
          have fx_12 : 0 ≤ x_12.toInt ∧ x_12.toInt ≤ 6 := by rw [ex_12]; exact g2 _ (cv_ix (by omega) (by omega))
          refine lv_aload_n hx hb dX2_changeBack_26 rfl (lv_at hl 1 rfl) ?_
          refine va_get (D := (dC, dI)) (ci := 2) (v := .ref a_lawOther) (C := RX2) (T := TX2) (N := 15) hx hb hts uinX2 hown hK hP 0 rfl rfl 9 (by decide) (hts _ wd_1_110) (fun _ h9 => h9) rfl dX2_changeBack_27 ?_
          refine lv_iload_n hx hb dX2_changeBack_30 rfl (lv_at hl 0 rfl) ?_
          refine va_iald hx hb hK hP 4 0 rfl rfl (vp_in_iff.mpr (by omega)) dX2_changeBack_31 ?_
          refine lv_topi (fun x_13 ex_13 => ?_)
          have fx_13 : 0 ≤ x_13.toInt ∧ x_13.toInt ≤ 6 := by rw [ex_13]; exact g3 _ (cv_ix (by omega) (by omega))
          have hPc := hP.sub (ws' := [(a_now, .inl (cyI, 7, .inl f_3))]) [2] rfl
          have hKc := hK.sub (tys' := [(cyI, .int), (cyB, .byte), (cyJ, .long), (cyZ, .boolean), (cyH, .object RX2), (cyN, .array .long)]) [0, 1, 2, 3, 4, 5] rfl
          have hDc := hD.sub (ws' := [(a_now, .inl (cyI, 7, .inl f_3))]) [2] (by decide) rfl
          have hFc := va_free (wc := [(a_now, .inl (cyI, 7, .inl f_3))]) hD hS hA [2] rfl
          refine va_callv (va_runS (As := [.ref a_now, .int x_12, .int x_13]) (rest := []) ⟨hx, hb, hml, hown, hts⟩ (n_exchange l dC dI cyI cyB cyJ cyZ cyH cyN H.size a_now f_3 x_12 x_13 hf_3 (by omega) (by omega)) (va_cwS 3 hts (gdS wd_5_167 wd_3_200 wd_1_19 wd_3_201) rfl rfl rfl (by decide +kernel) ⟨Nat.le_of_ble_eq_true rfl, Nat.le_of_ble_eq_true rfl⟩) ⟨fun a U g mk q => by obtain ⟨q0, q1, qP, qK, qD⟩ := q; exact ⟨q0, q1, qP, va_K.moved (u := U) (U := U.calling g mk a) (Vm.Alike.refl U.vm) qK, qD⟩, fun U hU hW => ⟨rfl, by rw [hU], by rw [hU]; exact hPc, va_K.moved hW.alike hKc, hDc.weaken (fun _ _ _ _ => trivial)⟩⟩ rfl rfl hl.1 rfl (lv_room (Nat.le_of_ble_eq_true rfl)) dX2_changeBack_32 ⟨Nat.le_of_ble_eq_true rfl, Nat.le_of_ble_eq_true rfl⟩) hS (fun q _ h => hFc q h) hFc (fun  u t H1 locs ht hvm hw hB hz1 hk1 hS => ?_)
          obtain ⟨y0_14, hp_15, hP1, hD1⟩ := hB
          rw [ht] at hP1
          obtain ⟨hP, hD⟩ := va_join (wr := [(h0, .inr (2, [.int a_pl, .int a_li, .int a_le, .int a_lc, .int a_ac, .int a_ng, .ref a_first, .ref a_now, .ref a_lawPlace, .ref a_lawOther, .ref a_lawEach, .ref a_lawFrom, .ref a_foes, .ref a_suitTable, .ref a_acts])), (a_first, .inl (cyI, 7, .inl a_f_first)), (a_lawPlace, .inl (cyI, 6, .inl a_f_lawPlace)), (a_lawOther, .inl (cyI, 6, .inl a_f_lawOther)), (a_lawEach, .inl (cyI, 6, .inl a_f_lawEach)), (a_lawFrom, .inl (cyI, 6, .inl a_f_lawFrom)), (a_foes, .inl (cyI, 7, .inl a_f_foes)), (a_suitTable, .inl (cyI, 49, .inl a_f_suitTable)), (a_acts, .inl (cyI, 40, .inl a_f_acts))]) (w1 := [(a_now, .inl (cyI, 7, .inl y0_14))]) hP hD [2] [0, 1, 3, 4, 5, 6, 7, 8, 9] rfl rfl (by decide) (by decide) hk1 hFc hP1 hD1
          generalize H1 = H at hP hS ⊢
          have hP : va_P (dC, dI) vwCl [(h0, .inr (2, [.int a_pl, .int a_li, .int a_le, .int a_lc, .int a_ac, .int a_ng, .ref a_first, .ref a_now, .ref a_lawPlace, .ref a_lawOther, .ref a_lawEach, .ref a_lawFrom, .ref a_foes, .ref a_suitTable, .ref a_acts])), (a_first, .inl (cyI, 7, .inl a_f_first)), (a_lawPlace, .inl (cyI, 6, .inl a_f_lawPlace)), (a_lawOther, .inl (cyI, 6, .inl a_f_lawOther)), (a_lawEach, .inl (cyI, 6, .inl a_f_lawEach)), (a_lawFrom, .inl (cyI, 6, .inl a_f_lawFrom)), (a_foes, .inl (cyI, 7, .inl a_f_foes)), (a_suitTable, .inl (cyI, 49, .inl a_f_suitTable)), (a_acts, .inl (cyI, 40, .inl a_f_acts)), (a_now, .inl (cyI, 7, .inl y0_14))] H := hP
          have hD : va_D A [(h0, .inr (2, [.int a_pl, .int a_li, .int a_le, .int a_lc, .int a_ac, .int a_ng, .ref a_first, .ref a_now, .ref a_lawPlace, .ref a_lawOther, .ref a_lawEach, .ref a_lawFrom, .ref a_foes, .ref a_suitTable, .ref a_acts])), (a_first, .inl (cyI, 7, .inl a_f_first)), (a_lawPlace, .inl (cyI, 6, .inl a_f_lawPlace)), (a_lawOther, .inl (cyI, 6, .inl a_f_lawOther)), (a_lawEach, .inl (cyI, 6, .inl a_f_lawEach)), (a_lawFrom, .inl (cyI, 6, .inl a_f_lawFrom)), (a_foes, .inl (cyI, 7, .inl a_f_foes)), (a_suitTable, .inl (cyI, 49, .inl a_f_suitTable)), (a_acts, .inl (cyI, 40, .inl a_f_acts)), (a_now, .inl (cyI, 7, .inl y0_14))] := hD
          have hP := hP.sub (ws' := [(h0, .inr (2, [.int a_pl, .int a_li, .int a_le, .int a_lc, .int a_ac, .int a_ng, .ref a_first, .ref a_now, .ref a_lawPlace, .ref a_lawOther, .ref a_lawEach, .ref a_lawFrom, .ref a_foes, .ref a_suitTable, .ref a_acts])), (a_first, .inl (cyI, 7, .inl a_f_first)), (a_now, .inl (cyI, 7, .inl y0_14)), (a_lawPlace, .inl (cyI, 6, .inl a_f_lawPlace)), (a_lawOther, .inl (cyI, 6, .inl a_f_lawOther)), (a_lawEach, .inl (cyI, 6, .inl a_f_lawEach)), (a_lawFrom, .inl (cyI, 6, .inl a_f_lawFrom)), (a_foes, .inl (cyI, 7, .inl a_f_foes)), (a_suitTable, .inl (cyI, 49, .inl a_f_suitTable)), (a_acts, .inl (cyI, 40, .inl a_f_acts))]) [0, 1, 9, 2, 3, 4, 5, 6, 7, 8] rfl
          have hD := hD.sub (ws' := [(h0, .inr (2, [.int a_pl, .int a_li, .int a_le, .int a_lc, .int a_ac, .int a_ng, .ref a_first, .ref a_now, .ref a_lawPlace, .ref a_lawOther, .ref a_lawEach, .ref a_lawFrom, .ref a_foes, .ref a_suitTable, .ref a_acts])), (a_first, .inl (cyI, 7, .inl a_f_first)), (a_now, .inl (cyI, 7, .inl y0_14)), (a_lawPlace, .inl (cyI, 6, .inl a_f_lawPlace)), (a_lawOther, .inl (cyI, 6, .inl a_f_lawOther)), (a_lawEach, .inl (cyI, 6, .inl a_f_lawEach)), (a_lawFrom, .inl (cyI, 6, .inl a_f_lawFrom)), (a_foes, .inl (cyI, 7, .inl a_f_foes)), (a_suitTable, .inl (cyI, 49, .inl a_f_suitTable)), (a_acts, .inl (cyI, 40, .inl a_f_acts))]) [0, 1, 9, 2, 3, 4, 5, 6, 7, 8] (by decide) rfl
          exact join_9 y0_14 _ _ _ hp_15 hP hD hS (lv_sub hl [0, 1, 2, 3] rfl)
  exact key_4 _ x_1 a_f_now _ _ _ (by omega) g1 hP hD hS (lv_sub hl [0, 1, 2, 3] rfl) (Nat.lt_succ_self _)

/- X2_actSwap -/
set_option maxHeartbeats 4000000 in
set_option maxRecDepth 100000 in
theorem n_actSwap (l : Launch) (dC : Nat → ClassId) (dI : Nat → Nat → Nat) (cyI cyB cyJ cyZ cyH cyN : ClassId) (sz : Nat) (h0 a_first a_now a_lawPlace a_lawOther a_lawEach a_lawFrom a_foes a_suitTable a_acts : Nat) (a_pl a_li a_le a_lc a_ac a_ng : Int32) (a_f_first a_f_now a_f_lawPlace a_f_lawOther a_f_lawEach a_f_lawFrom a_f_foes a_f_suitTable a_f_acts : Nat → Int32) (p0 p1 : Int32) (g0 : rg 0 6 7 a_f_first) (g1 : rg 0 6 7 a_f_now) (g2 : rg 0 6 6 a_f_lawPlace) (g3 : rg 0 6 6 a_f_lawOther) (g4 : ra 40 a_f_acts) (g5 : 0 ≤ a_pl.toInt ∧ a_pl.toInt ≤ 7) (g6 : 0 ≤ a_lc.toInt ∧ a_lc.toInt ≤ 6) (g7 : 0 ≤ a_ac.toInt ∧ a_ac.toInt ≤ 39) (g8 : 0 ≤ p0.toInt ∧ p0.toInt ≤ 6) (g9 : 0 ≤ p1.toInt ∧ p1.toInt ≤ 6) : Met l yX2_actSwap (wk yX2_actSwap cX2_actSwap 3 none) ({ frames := 2, cells := 0, slots := 0, locals := 83 }) (va_Pc [.ref h0, .int p0, .int p1] (fun U => U.heap.size = sz ∧ va_P (dC, dI) vwCl [(h0, .inr (2, [.int a_pl, .int a_li, .int a_le, .int a_lc, .int a_ac, .int a_ng, .ref a_first, .ref a_now, .ref a_lawPlace, .ref a_lawOther, .ref a_lawEach, .ref a_lawFrom, .ref a_foes, .ref a_suitTable, .ref a_acts])), (a_first, .inl (cyI, 7, .inl a_f_first)), (a_now, .inl (cyI, 7, .inl a_f_now)), (a_lawPlace, .inl (cyI, 6, .inl a_f_lawPlace)), (a_lawOther, .inl (cyI, 6, .inl a_f_lawOther)), (a_lawEach, .inl (cyI, 6, .inl a_f_lawEach)), (a_lawFrom, .inl (cyI, 6, .inl a_f_lawFrom)), (a_foes, .inl (cyI, 7, .inl a_f_foes)), (a_suitTable, .inl (cyI, 49, .inl a_f_suitTable)), (a_acts, .inl (cyI, 40, .inl a_f_acts))] U.heap ∧ va_K (dC, dI) vwCl [(cyI, .int), (cyB, .byte), (cyJ, .long), (cyZ, .boolean), (cyH, .object RX2), (cyN, .array .long)] U ∧ va_D (fun _ => True) [(h0, .inr (2, [.int a_pl, .int a_li, .int a_le, .int a_lc, .int a_ac, .int a_ng, .ref a_first, .ref a_now, .ref a_lawPlace, .ref a_lawOther, .ref a_lawEach, .ref a_lawFrom, .ref a_foes, .ref a_suitTable, .ref a_acts])), (a_first, .inl (cyI, 7, .inl a_f_first)), (a_now, .inl (cyI, 7, .inl a_f_now)), (a_lawPlace, .inl (cyI, 6, .inl a_f_lawPlace)), (a_lawOther, .inl (cyI, 6, .inl a_f_lawOther)), (a_lawEach, .inl (cyI, 6, .inl a_f_lawEach)), (a_lawFrom, .inl (cyI, 6, .inl a_f_lawFrom)), (a_foes, .inl (cyI, 7, .inl a_f_foes)), (a_suitTable, .inl (cyI, 49, .inl a_f_suitTable)), (a_acts, .inl (cyI, 40, .inl a_f_acts))])) (va_Qv (fun _ : Unit => True) (fun (_ : Unit) (t : State) => ∃ z0 : Int32, ∃ y1 : Nat → Int32, ∃ y2 : Nat → Int32, (1 ≤ z0.toInt ∧ z0.toInt ≤ 40) ∧ (rg 0 6 7 y1) ∧ (ra 40 y2) ∧ va_P (dC, dI) vwCl [(h0, .inr (2, [.int a_pl, .int a_li, .int a_le, .int a_lc, .int z0, .int a_ng, .ref a_first, .ref a_now, .ref a_lawPlace, .ref a_lawOther, .ref a_lawEach, .ref a_lawFrom, .ref a_foes, .ref a_suitTable, .ref a_acts])), (a_first, .inl (cyI, 7, .inl a_f_first)), (a_now, .inl (cyI, 7, .inl y1)), (a_lawPlace, .inl (cyI, 6, .inl a_f_lawPlace)), (a_lawOther, .inl (cyI, 6, .inl a_f_lawOther)), (a_lawEach, .inl (cyI, 6, .inl a_f_lawEach)), (a_lawFrom, .inl (cyI, 6, .inl a_f_lawFrom)), (a_foes, .inl (cyI, 7, .inl a_f_foes)), (a_suitTable, .inl (cyI, 49, .inl a_f_suitTable)), (a_acts, .inl (cyI, 40, .inl y2))] t.heap ∧ va_D (va_A [(h0, .inr (2, [.int a_pl, .int a_li, .int a_le, .int a_lc, .int a_ac, .int a_ng, .ref a_first, .ref a_now, .ref a_lawPlace, .ref a_lawOther, .ref a_lawEach, .ref a_lawFrom, .ref a_foes, .ref a_suitTable, .ref a_acts])), (a_first, .inl (cyI, 7, .inl a_f_first)), (a_now, .inl (cyI, 7, .inl a_f_now)), (a_lawPlace, .inl (cyI, 6, .inl a_f_lawPlace)), (a_lawOther, .inl (cyI, 6, .inl a_f_lawOther)), (a_lawEach, .inl (cyI, 6, .inl a_f_lawEach)), (a_lawFrom, .inl (cyI, 6, .inl a_f_lawFrom)), (a_foes, .inl (cyI, 7, .inl a_f_foes)), (a_suitTable, .inl (cyI, 49, .inl a_f_suitTable)), (a_acts, .inl (cyI, 40, .inl a_f_acts))] sz) [(h0, .inr (2, [.int a_pl, .int a_li, .int a_le, .int a_lc, .int z0, .int a_ng, .ref a_first, .ref a_now, .ref a_lawPlace, .ref a_lawOther, .ref a_lawEach, .ref a_lawFrom, .ref a_foes, .ref a_suitTable, .ref a_acts])), (a_first, .inl (cyI, 7, .inl a_f_first)), (a_now, .inl (cyI, 7, .inl y1)), (a_lawPlace, .inl (cyI, 6, .inl a_f_lawPlace)), (a_lawOther, .inl (cyI, 6, .inl a_f_lawOther)), (a_lawEach, .inl (cyI, 6, .inl a_f_lawEach)), (a_lawFrom, .inl (cyI, 6, .inl a_f_lawFrom)), (a_foes, .inl (cyI, 7, .inl a_f_foes)), (a_suitTable, .inl (cyI, 49, .inl a_f_suitTable)), (a_acts, .inl (cyI, 40, .inl y2))]) (va_A [(h0, .inr (2, [.int a_pl, .int a_li, .int a_le, .int a_lc, .int a_ac, .int a_ng, .ref a_first, .ref a_now, .ref a_lawPlace, .ref a_lawOther, .ref a_lawEach, .ref a_lawFrom, .ref a_foes, .ref a_suitTable, .ref a_acts])), (a_first, .inl (cyI, 7, .inl a_f_first)), (a_now, .inl (cyI, 7, .inl a_f_now)), (a_lawPlace, .inl (cyI, 6, .inl a_f_lawPlace)), (a_lawOther, .inl (cyI, 6, .inl a_f_lawOther)), (a_lawEach, .inl (cyI, 6, .inl a_f_lawEach)), (a_lawFrom, .inl (cyI, 6, .inl a_f_lawFrom)), (a_foes, .inl (cyI, 7, .inl a_f_foes)), (a_suitTable, .inl (cyI, 49, .inl a_f_suitTable)), (a_acts, .inl (cyI, 40, .inl a_f_acts))] sz)) 0 0 (va_A [(h0, .inr (2, [.int a_pl, .int a_li, .int a_le, .int a_lc, .int a_ac, .int a_ng, .ref a_first, .ref a_now, .ref a_lawPlace, .ref a_lawOther, .ref a_lawEach, .ref a_lawFrom, .ref a_foes, .ref a_suitTable, .ref a_acts])), (a_first, .inl (cyI, 7, .inl a_f_first)), (a_now, .inl (cyI, 7, .inl a_f_now)), (a_lawPlace, .inl (cyI, 6, .inl a_f_lawPlace)), (a_lawOther, .inl (cyI, 6, .inl a_f_lawOther)), (a_lawEach, .inl (cyI, 6, .inl a_f_lawEach)), (a_lawFrom, .inl (cyI, 6, .inl a_f_lawFrom)), (a_foes, .inl (cyI, 7, .inl a_f_foes)), (a_suitTable, .inl (cyI, 49, .inl a_f_suitTable)), (a_acts, .inl (cyI, 40, .inl a_f_acts))] sz) := by
  refine Met.ofW (cc := cX2_actSwap) (maxL := 3) (ret := none) (by decide) rfl ?_
  intro p e s m args below meth c s₁ B hml hv
  obtain ⟨rfl, hsz, hP, hK, hD0⟩ := hv
  have hx := B.exec
  have hb := B.bytes
  have hr := B.returns
  have hts : ∀ w ∈ uU, w.before ([.ref h0, .int p0, .int p1] : List Value).toArray s = true := fun w h => atoms_spec (ws := wk yX2_actSwap cX2_actSwap 3 none) B.pre w (List.mem_cons_of_mem _ h)
  have hown : s.vm.findClass RX2 = some m.cls := findClass_of_methodNamed B.named
  have hlocks := B.notSynchronized
  subst hsz
  have hD := hD0.self (sz := s.heap.size)
  generalize hAe : va_A [(h0, .inr (2, [.int a_pl, .int a_li, .int a_le, .int a_lc, .int a_ac, .int a_ng, .ref a_first, .ref a_now, .ref a_lawPlace, .ref a_lawOther, .ref a_lawEach, .ref a_lawFrom, .ref a_foes, .ref a_suitTable, .ref a_acts])), (a_first, .inl (cyI, 7, .inl a_f_first)), (a_now, .inl (cyI, 7, .inl a_f_now)), (a_lawPlace, .inl (cyI, 6, .inl a_f_lawPlace)), (a_lawOther, .inl (cyI, 6, .inl a_f_lawOther)), (a_lawEach, .inl (cyI, 6, .inl a_f_lawEach)), (a_lawFrom, .inl (cyI, 6, .inl a_f_lawFrom)), (a_foes, .inl (cyI, 7, .inl a_f_foes)), (a_suitTable, .inl (cyI, 49, .inl a_f_suitTable)), (a_acts, .inl (cyI, 40, .inl a_f_acts))] s.heap.size = A at hD ⊢
  have hA : ∀ q : Nat, s.heap.size ≤ q → A q := fun q h => by rw [← hAe]; exact Or.inr h
  have hS : va_S A s.heap s.heap [] := va_S.rf
  have hP : va_P (dC, dI) vwCl [(h0, .inr (2, [.int a_pl, .int a_li, .int a_le, .int a_lc, .int a_ac, .int a_ng, .ref a_first, .ref a_now, .ref a_lawPlace, .ref a_lawOther, .ref a_lawEach, .ref a_lawFrom, .ref a_foes, .ref a_suitTable, .ref a_acts])), (a_first, .inl (cyI, 7, .inl a_f_first)), (a_now, .inl (cyI, 7, .inl a_f_now)), (a_lawPlace, .inl (cyI, 6, .inl a_f_lawPlace)), (a_lawOther, .inl (cyI, 6, .inl a_f_lawOther)), (a_lawEach, .inl (cyI, 6, .inl a_f_lawEach)), (a_lawFrom, .inl (cyI, 6, .inl a_f_lawFrom)), (a_foes, .inl (cyI, 7, .inl a_f_foes)), (a_suitTable, .inl (cyI, 49, .inl a_f_suitTable)), (a_acts, .inl (cyI, 40, .inl a_f_acts))] s.heap := hP
  have hl := lv_entry ([.ref h0, .int p0, .int p1]) (n := 3) (Nat.le_of_ble_eq_true rfl)
  rw [lg_entry_eq]
  generalize (lg_sl ([.ref h0, .int p0, .int p1]) ++ List.replicate (3 - (lg_sl ([.ref h0, .int p0, .int p1])).length) Slot.unset).toArray = ls at hl ⊢
  have hl : lv_has ls 3 [(0, .ref h0), (1, .int p0), (2, .int p1)] := hl
  obtain ⟨H, hHe⟩ : ∃ H, H = s.heap := ⟨_, rfl⟩
  have hP : va_P (dC, dI) vwCl [(h0, .inr (2, [.int a_pl, .int a_li, .int a_le, .int a_lc, .int a_ac, .int a_ng, .ref a_first, .ref a_now, .ref a_lawPlace, .ref a_lawOther, .ref a_lawEach, .ref a_lawFrom, .ref a_foes, .ref a_suitTable, .ref a_acts])), (a_first, .inl (cyI, 7, .inl a_f_first)), (a_now, .inl (cyI, 7, .inl a_f_now)), (a_lawPlace, .inl (cyI, 6, .inl a_f_lawPlace)), (a_lawOther, .inl (cyI, 6, .inl a_f_lawOther)), (a_lawEach, .inl (cyI, 6, .inl a_f_lawEach)), (a_lawFrom, .inl (cyI, 6, .inl a_f_lawFrom)), (a_foes, .inl (cyI, 7, .inl a_f_foes)), (a_suitTable, .inl (cyI, 49, .inl a_f_suitTable)), (a_acts, .inl (cyI, 40, .inl a_f_acts))] H := by rw [hHe]; exact hP
  have hS : va_S A s.heap H [] := by rw [hHe]; exact hS
  refine cv_heap hHe ?_
  obtain ⟨Q9, hQ9⟩ : ∃ Q9 : State → Prop, Q9 = MQ below (va_Qv (fun _ : Unit => True) (fun (_ : Unit) (t : State) => ∃ z0 : Int32, ∃ y1 : Nat → Int32, ∃ y2 : Nat → Int32, (1 ≤ z0.toInt ∧ z0.toInt ≤ 40) ∧ (rg 0 6 7 y1) ∧ (ra 40 y2) ∧ va_P (dC, dI) vwCl [(h0, .inr (2, [.int a_pl, .int a_li, .int a_le, .int a_lc, .int z0, .int a_ng, .ref a_first, .ref a_now, .ref a_lawPlace, .ref a_lawOther, .ref a_lawEach, .ref a_lawFrom, .ref a_foes, .ref a_suitTable, .ref a_acts])), (a_first, .inl (cyI, 7, .inl a_f_first)), (a_now, .inl (cyI, 7, .inl y1)), (a_lawPlace, .inl (cyI, 6, .inl a_f_lawPlace)), (a_lawOther, .inl (cyI, 6, .inl a_f_lawOther)), (a_lawEach, .inl (cyI, 6, .inl a_f_lawEach)), (a_lawFrom, .inl (cyI, 6, .inl a_f_lawFrom)), (a_foes, .inl (cyI, 7, .inl a_f_foes)), (a_suitTable, .inl (cyI, 49, .inl a_f_suitTable)), (a_acts, .inl (cyI, 40, .inl y2))] t.heap ∧ va_D A [(h0, .inr (2, [.int a_pl, .int a_li, .int a_le, .int a_lc, .int z0, .int a_ng, .ref a_first, .ref a_now, .ref a_lawPlace, .ref a_lawOther, .ref a_lawEach, .ref a_lawFrom, .ref a_foes, .ref a_suitTable, .ref a_acts])), (a_first, .inl (cyI, 7, .inl a_f_first)), (a_now, .inl (cyI, 7, .inl y1)), (a_lawPlace, .inl (cyI, 6, .inl a_f_lawPlace)), (a_lawOther, .inl (cyI, 6, .inl a_f_lawOther)), (a_lawEach, .inl (cyI, 6, .inl a_f_lawEach)), (a_lawFrom, .inl (cyI, 6, .inl a_f_lawFrom)), (a_foes, .inl (cyI, 7, .inl a_f_foes)), (a_suitTable, .inl (cyI, 49, .inl a_f_suitTable)), (a_acts, .inl (cyI, 40, .inl y2))]) A) ([.ref h0, .int p0, .int p1] : List Value).toArray s 0 0 A := ⟨_, rfl⟩
  rw [← hQ9]
  refine lv_aload_n hx hb dX2_actSwap_0 rfl (lv_at hl 0 rfl) ?_
  refine va_get (D := (dC, dI)) (ci := 2) (v := .ref a_now) (C := RX2) (T := TX2) (N := 15) hx hb hts uinX2 hown hK hP 0 rfl rfl 7 (by decide) (hts _ wd_1_102) (fun _ h9 => h9) rfl dX2_actSwap_1 ?_
  refine lv_iload_n hx hb dX2_actSwap_4 rfl (lv_at hl 1 rfl) ?_
  refine lv_iload_n hx hb dX2_actSwap_5 rfl (lv_at hl 2 rfl) ?_
  have hPc := hP.sub (ws' := [(a_now, .inl (cyI, 7, .inl a_f_now))]) [2] rfl
  have hKc := hK.sub (tys' := [(cyI, .int), (cyB, .byte), (cyJ, .long), (cyZ, .boolean), (cyH, .object RX2), (cyN, .array .long)]) [0, 1, 2, 3, 4, 5] rfl
  have hDc := hD.sub (ws' := [(a_now, .inl (cyI, 7, .inl a_f_now))]) [2] (by decide) rfl
  have hFc := va_free (wc := [(a_now, .inl (cyI, 7, .inl a_f_now))]) hD hS hA [2] rfl
  refine va_callv (va_runS (As := [.ref a_now, .int p0, .int p1]) (rest := []) ⟨hx, hb, hml, hown, hts⟩ (n_exchange l dC dI cyI cyB cyJ cyZ cyH cyN H.size a_now a_f_now p0 p1 g1 (by omega) (by omega)) (va_cwS 3 hts (gdS wd_5_167 wd_3_200 wd_1_19 wd_3_201) rfl rfl rfl (by decide +kernel) ⟨Nat.le_of_ble_eq_true rfl, Nat.le_of_ble_eq_true rfl⟩) ⟨fun a U g mk q => by obtain ⟨q0, q1, qP, qK, qD⟩ := q; exact ⟨q0, q1, qP, va_K.moved (u := U) (U := U.calling g mk a) (Vm.Alike.refl U.vm) qK, qD⟩, fun U hU hW => ⟨rfl, by rw [hU], by rw [hU]; exact hPc, va_K.moved hW.alike hKc, hDc.weaken (fun _ _ _ _ => trivial)⟩⟩ rfl rfl hl.1 rfl (lv_room (Nat.le_of_ble_eq_true rfl)) dX2_actSwap_6 ⟨Nat.le_of_ble_eq_true rfl, Nat.le_of_ble_eq_true rfl⟩) hS (fun q _ h => hFc q h) hFc (fun  u t H1 locs ht hvm hw hB hz1 hk1 hS => ?_)
  obtain ⟨y0_1, hp_2, hP1, hD1⟩ := hB
  rw [ht] at hP1
  obtain ⟨hP, hD⟩ := va_join (wr := [(h0, .inr (2, [.int a_pl, .int a_li, .int a_le, .int a_lc, .int a_ac, .int a_ng, .ref a_first, .ref a_now, .ref a_lawPlace, .ref a_lawOther, .ref a_lawEach, .ref a_lawFrom, .ref a_foes, .ref a_suitTable, .ref a_acts])), (a_first, .inl (cyI, 7, .inl a_f_first)), (a_lawPlace, .inl (cyI, 6, .inl a_f_lawPlace)), (a_lawOther, .inl (cyI, 6, .inl a_f_lawOther)), (a_lawEach, .inl (cyI, 6, .inl a_f_lawEach)), (a_lawFrom, .inl (cyI, 6, .inl a_f_lawFrom)), (a_foes, .inl (cyI, 7, .inl a_f_foes)), (a_suitTable, .inl (cyI, 49, .inl a_f_suitTable)), (a_acts, .inl (cyI, 40, .inl a_f_acts))]) (w1 := [(a_now, .inl (cyI, 7, .inl y0_1))]) hP hD [2] [0, 1, 3, 4, 5, 6, 7, 8, 9] rfl rfl (by decide) (by decide) hk1 hFc hP1 hD1
  generalize H1 = H at hP hS ⊢
  have hP : va_P (dC, dI) vwCl [(h0, .inr (2, [.int a_pl, .int a_li, .int a_le, .int a_lc, .int a_ac, .int a_ng, .ref a_first, .ref a_now, .ref a_lawPlace, .ref a_lawOther, .ref a_lawEach, .ref a_lawFrom, .ref a_foes, .ref a_suitTable, .ref a_acts])), (a_first, .inl (cyI, 7, .inl a_f_first)), (a_lawPlace, .inl (cyI, 6, .inl a_f_lawPlace)), (a_lawOther, .inl (cyI, 6, .inl a_f_lawOther)), (a_lawEach, .inl (cyI, 6, .inl a_f_lawEach)), (a_lawFrom, .inl (cyI, 6, .inl a_f_lawFrom)), (a_foes, .inl (cyI, 7, .inl a_f_foes)), (a_suitTable, .inl (cyI, 49, .inl a_f_suitTable)), (a_acts, .inl (cyI, 40, .inl a_f_acts)), (a_now, .inl (cyI, 7, .inl y0_1))] H := hP
  have hD : va_D A [(h0, .inr (2, [.int a_pl, .int a_li, .int a_le, .int a_lc, .int a_ac, .int a_ng, .ref a_first, .ref a_now, .ref a_lawPlace, .ref a_lawOther, .ref a_lawEach, .ref a_lawFrom, .ref a_foes, .ref a_suitTable, .ref a_acts])), (a_first, .inl (cyI, 7, .inl a_f_first)), (a_lawPlace, .inl (cyI, 6, .inl a_f_lawPlace)), (a_lawOther, .inl (cyI, 6, .inl a_f_lawOther)), (a_lawEach, .inl (cyI, 6, .inl a_f_lawEach)), (a_lawFrom, .inl (cyI, 6, .inl a_f_lawFrom)), (a_foes, .inl (cyI, 7, .inl a_f_foes)), (a_suitTable, .inl (cyI, 49, .inl a_f_suitTable)), (a_acts, .inl (cyI, 40, .inl a_f_acts)), (a_now, .inl (cyI, 7, .inl y0_1))] := hD
  have hP := hP.sub (ws' := [(h0, .inr (2, [.int a_pl, .int a_li, .int a_le, .int a_lc, .int a_ac, .int a_ng, .ref a_first, .ref a_now, .ref a_lawPlace, .ref a_lawOther, .ref a_lawEach, .ref a_lawFrom, .ref a_foes, .ref a_suitTable, .ref a_acts])), (a_first, .inl (cyI, 7, .inl a_f_first)), (a_now, .inl (cyI, 7, .inl y0_1)), (a_lawPlace, .inl (cyI, 6, .inl a_f_lawPlace)), (a_lawOther, .inl (cyI, 6, .inl a_f_lawOther)), (a_lawEach, .inl (cyI, 6, .inl a_f_lawEach)), (a_lawFrom, .inl (cyI, 6, .inl a_f_lawFrom)), (a_foes, .inl (cyI, 7, .inl a_f_foes)), (a_suitTable, .inl (cyI, 49, .inl a_f_suitTable)), (a_acts, .inl (cyI, 40, .inl a_f_acts))]) [0, 1, 9, 2, 3, 4, 5, 6, 7, 8] rfl
  have hD := hD.sub (ws' := [(h0, .inr (2, [.int a_pl, .int a_li, .int a_le, .int a_lc, .int a_ac, .int a_ng, .ref a_first, .ref a_now, .ref a_lawPlace, .ref a_lawOther, .ref a_lawEach, .ref a_lawFrom, .ref a_foes, .ref a_suitTable, .ref a_acts])), (a_first, .inl (cyI, 7, .inl a_f_first)), (a_now, .inl (cyI, 7, .inl y0_1)), (a_lawPlace, .inl (cyI, 6, .inl a_f_lawPlace)), (a_lawOther, .inl (cyI, 6, .inl a_f_lawOther)), (a_lawEach, .inl (cyI, 6, .inl a_f_lawEach)), (a_lawFrom, .inl (cyI, 6, .inl a_f_lawFrom)), (a_foes, .inl (cyI, 7, .inl a_f_foes)), (a_suitTable, .inl (cyI, 49, .inl a_f_suitTable)), (a_acts, .inl (cyI, 40, .inl a_f_acts))]) [0, 1, 9, 2, 3, 4, 5, 6, 7, 8] (by decide) rfl
  refine lv_aload_n hx hb dX2_actSwap_9 rfl (lv_at hl 0 rfl) ?_
  refine va_get (D := (dC, dI)) (ci := 2) (v := .ref a_acts) (C := RX2) (T := TX2) (N := 15) hx hb hts uinX2 hown hK hP 0 rfl rfl 14 (by decide) (hts _ wd_1_123) (fun _ h9 => h9) rfl dX2_actSwap_10 ?_
  refine lv_aload_n hx hb dX2_actSwap_13 rfl (lv_at hl 0 rfl) ?_
  refine va_get (D := (dC, dI)) (ci := 2) (v := .int a_ac) (C := RX2) (T := TX2) (N := 15) hx hb hts uinX2 hown hK hP 0 rfl rfl 4 (by decide) (hts _ wd_1_95) (fun _ h9 => h9) rfl dX2_actSwap_14 ?_
  refine lv_bipush (v := 8) hx hb dX2_actSwap_17 (by decide) ?_
  refine lv_iload_n hx hb dX2_actSwap_19 rfl (lv_at hl 1 rfl) ?_
  refine lv_imul hx hb dX2_actSwap_20 ?_
  refine lv_topi (fun x_3 ex_3 => ?_)
  have fx_3 : x_3.toInt = 8 * p0.toInt := by rw [ex_3]; exact cv_mulI (by rw [show (8 : Int32).toInt = 8 from rfl]; omega) (by rw [show (8 : Int32).toInt = 8 from rfl]; omega)
  refine lv_iload_n hx hb dX2_actSwap_21 rfl (lv_at hl 2 rfl) ?_
  refine lv_iadd hx hb dX2_actSwap_22 ?_
  refine lv_topi (fun x_4 ex_4 => ?_)
  have fx_4 : x_4.toInt = x_3.toInt + p1.toInt := by rw [ex_4]; exact cv_addI (by omega) (by omega)
  refine va_iast hx hb hK hP hD hS 9 0 rfl rfl (vp_in_iff.mpr (by omega)) dX2_actSwap_23 (fun H locs hP hD hS => ?_)
  obtain ⟨f_5, ef_5⟩ : ∃ z9 : Nat → Int32, z9 = upd a_f_acts a_ac.toNatClampNeg x_4 := ⟨_, rfl⟩
  rw [← ef_5] at hP hD
  have hP : va_P (dC, dI) vwCl [(h0, .inr (2, [.int a_pl, .int a_li, .int a_le, .int a_lc, .int a_ac, .int a_ng, .ref a_first, .ref a_now, .ref a_lawPlace, .ref a_lawOther, .ref a_lawEach, .ref a_lawFrom, .ref a_foes, .ref a_suitTable, .ref a_acts])), (a_first, .inl (cyI, 7, .inl a_f_first)), (a_now, .inl (cyI, 7, .inl y0_1)), (a_lawPlace, .inl (cyI, 6, .inl a_f_lawPlace)), (a_lawOther, .inl (cyI, 6, .inl a_f_lawOther)), (a_lawEach, .inl (cyI, 6, .inl a_f_lawEach)), (a_lawFrom, .inl (cyI, 6, .inl a_f_lawFrom)), (a_foes, .inl (cyI, 7, .inl a_f_foes)), (a_suitTable, .inl (cyI, 49, .inl a_f_suitTable)), (a_acts, .inl (cyI, 40, .inl f_5))] H := hP
  have hD : va_D A [(h0, .inr (2, [.int a_pl, .int a_li, .int a_le, .int a_lc, .int a_ac, .int a_ng, .ref a_first, .ref a_now, .ref a_lawPlace, .ref a_lawOther, .ref a_lawEach, .ref a_lawFrom, .ref a_foes, .ref a_suitTable, .ref a_acts])), (a_first, .inl (cyI, 7, .inl a_f_first)), (a_now, .inl (cyI, 7, .inl y0_1)), (a_lawPlace, .inl (cyI, 6, .inl a_f_lawPlace)), (a_lawOther, .inl (cyI, 6, .inl a_f_lawOther)), (a_lawEach, .inl (cyI, 6, .inl a_f_lawEach)), (a_lawFrom, .inl (cyI, 6, .inl a_f_lawFrom)), (a_foes, .inl (cyI, 7, .inl a_f_foes)), (a_suitTable, .inl (cyI, 49, .inl a_f_suitTable)), (a_acts, .inl (cyI, 40, .inl f_5))] := hD
  have hf_5 : ra 40 f_5 := by rw [ef_5]; exact ra_upd (g4) (by omega)
  refine lv_aload_n hx hb dX2_actSwap_24 rfl (lv_at hl 0 rfl) ?_
  refine lv_dup hx hb dX2_actSwap_25 rfl ?_
  refine va_get (D := (dC, dI)) (ci := 2) (v := .int a_ac) (C := RX2) (T := TX2) (N := 15) hx hb hts uinX2 hown hK hP 0 rfl rfl 4 (by decide) (hts _ wd_1_95) (fun _ h9 => h9) rfl dX2_actSwap_26 ?_
  refine lv_iconst (v := 1) hx hb dX2_actSwap_29 (by decide) ?_
  refine lv_iadd hx hb dX2_actSwap_30 ?_
  refine lv_topi (fun x_6 ex_6 => ?_)
  have fx_6 : x_6.toInt = a_ac.toInt + 1 := by rw [ex_6]; exact cv_addI (by have : (1 : Int32).toInt = 1 := rfl; omega) (by have : (1 : Int32).toInt = 1 := rfl; omega)
  refine va_put (D := (dC, dI)) (ci := 2) (v := .int x_6) (ty := .int) (C := RX2) (T := TX2) (N := 15) hx hb hts uinX2 tyX2 tyX2_ok nmX2 hown hK hP hD hS 0 rfl rfl 4 (by decide) (hts _ wd_1_95) (fun _ h9 => h9) rfl (by decide +kernel) rfl rfl (Nat.le_of_ble_eq_true rfl) dX2_actSwap_31 (fun H locs hP hD hS => ?_)
  have hP : va_P (dC, dI) vwCl [(h0, .inr (2, [.int a_pl, .int a_li, .int a_le, .int a_lc, .int x_6, .int a_ng, .ref a_first, .ref a_now, .ref a_lawPlace, .ref a_lawOther, .ref a_lawEach, .ref a_lawFrom, .ref a_foes, .ref a_suitTable, .ref a_acts])), (a_first, .inl (cyI, 7, .inl a_f_first)), (a_now, .inl (cyI, 7, .inl y0_1)), (a_lawPlace, .inl (cyI, 6, .inl a_f_lawPlace)), (a_lawOther, .inl (cyI, 6, .inl a_f_lawOther)), (a_lawEach, .inl (cyI, 6, .inl a_f_lawEach)), (a_lawFrom, .inl (cyI, 6, .inl a_f_lawFrom)), (a_foes, .inl (cyI, 7, .inl a_f_foes)), (a_suitTable, .inl (cyI, 49, .inl a_f_suitTable)), (a_acts, .inl (cyI, 40, .inl f_5))] H := hP
  have hD : va_D A [(h0, .inr (2, [.int a_pl, .int a_li, .int a_le, .int a_lc, .int x_6, .int a_ng, .ref a_first, .ref a_now, .ref a_lawPlace, .ref a_lawOther, .ref a_lawEach, .ref a_lawFrom, .ref a_foes, .ref a_suitTable, .ref a_acts])), (a_first, .inl (cyI, 7, .inl a_f_first)), (a_now, .inl (cyI, 7, .inl y0_1)), (a_lawPlace, .inl (cyI, 6, .inl a_f_lawPlace)), (a_lawOther, .inl (cyI, 6, .inl a_f_lawOther)), (a_lawEach, .inl (cyI, 6, .inl a_f_lawEach)), (a_lawFrom, .inl (cyI, 6, .inl a_f_lawFrom)), (a_foes, .inl (cyI, 7, .inl a_f_foes)), (a_suitTable, .inl (cyI, 49, .inl a_f_suitTable)), (a_acts, .inl (cyI, 40, .inl f_5))] := hD
  rw [hQ9]
  have hP9 := hP.sub (ws' := [(h0, .inr (2, [.int a_pl, .int a_li, .int a_le, .int a_lc, .int x_6, .int a_ng, .ref a_first, .ref a_now, .ref a_lawPlace, .ref a_lawOther, .ref a_lawEach, .ref a_lawFrom, .ref a_foes, .ref a_suitTable, .ref a_acts])), (a_first, .inl (cyI, 7, .inl a_f_first)), (a_now, .inl (cyI, 7, .inl y0_1)), (a_lawPlace, .inl (cyI, 6, .inl a_f_lawPlace)), (a_lawOther, .inl (cyI, 6, .inl a_f_lawOther)), (a_lawEach, .inl (cyI, 6, .inl a_f_lawEach)), (a_lawFrom, .inl (cyI, 6, .inl a_f_lawFrom)), (a_foes, .inl (cyI, 7, .inl a_f_foes)), (a_suitTable, .inl (cyI, 49, .inl a_f_suitTable)), (a_acts, .inl (cyI, 40, .inl f_5))]) [0, 1, 2, 3, 4, 5, 6, 7, 8, 9] rfl
  have hD9 := hD.sub (ws' := [(h0, .inr (2, [.int a_pl, .int a_li, .int a_le, .int a_lc, .int x_6, .int a_ng, .ref a_first, .ref a_now, .ref a_lawPlace, .ref a_lawOther, .ref a_lawEach, .ref a_lawFrom, .ref a_foes, .ref a_suitTable, .ref a_acts])), (a_first, .inl (cyI, 7, .inl a_f_first)), (a_now, .inl (cyI, 7, .inl y0_1)), (a_lawPlace, .inl (cyI, 6, .inl a_f_lawPlace)), (a_lawOther, .inl (cyI, 6, .inl a_f_lawOther)), (a_lawEach, .inl (cyI, 6, .inl a_f_lawEach)), (a_lawFrom, .inl (cyI, 6, .inl a_f_lawFrom)), (a_foes, .inl (cyI, 7, .inl a_f_foes)), (a_suitTable, .inl (cyI, 49, .inl a_f_suitTable)), (a_acts, .inl (cyI, 40, .inl f_5))]) [0, 1, 2, 3, 4, 5, 6, 7, 8, 9] (by decide) rfl
  exact W.vret hx hb hr (fun t ht hW => ⟨⟨(), rfl, trivial, ⟨x_6, y0_1, f_5, (by omega), hp_2, hf_5, by rw [ht]; exact hP9, hD9⟩⟩, hS.F ht⟩) hS.2.2 dX2_actSwap_34

/- X2_takeAllBack -/
set_option maxHeartbeats 4000000 in
set_option maxRecDepth 100000 in
theorem n_takeAllBack (l : Launch) (dC : Nat → ClassId) (dI : Nat → Nat → Nat) (cyI cyB cyJ cyZ cyH cyN : ClassId) (sz : Nat) (h0 a_first a_now a_lawPlace a_lawOther a_lawEach a_lawFrom a_foes a_suitTable a_acts : Nat) (a_pl a_li a_le a_lc a_ac a_ng : Int32) (a_f_first a_f_now a_f_lawPlace a_f_lawOther a_f_lawEach a_f_lawFrom a_f_foes a_f_suitTable a_f_acts : Nat → Int32) (g0 : rg 0 6 7 a_f_first) (g1 : rg 0 6 7 a_f_now) (g2 : rg 0 6 6 a_f_lawPlace) (g3 : rg 0 6 6 a_f_lawOther) (g4 : ra 40 a_f_acts) (g5 : 0 ≤ a_pl.toInt ∧ a_pl.toInt ≤ 7) (g6 : 0 ≤ a_lc.toInt ∧ a_lc.toInt ≤ 6) (g7 : 0 ≤ a_ac.toInt ∧ a_ac.toInt ≤ 40) : Met l yX2_takeAllBack (wk yX2_takeAllBack cX2_takeAllBack 1 none) ({ frames := 1, cells := 0, slots := 0, locals := 60 }) (va_Pc [.ref h0] (fun U => U.heap.size = sz ∧ va_P (dC, dI) vwCl [(h0, .inr (2, [.int a_pl, .int a_li, .int a_le, .int a_lc, .int a_ac, .int a_ng, .ref a_first, .ref a_now, .ref a_lawPlace, .ref a_lawOther, .ref a_lawEach, .ref a_lawFrom, .ref a_foes, .ref a_suitTable, .ref a_acts])), (a_first, .inl (cyI, 7, .inl a_f_first)), (a_now, .inl (cyI, 7, .inl a_f_now)), (a_lawPlace, .inl (cyI, 6, .inl a_f_lawPlace)), (a_lawOther, .inl (cyI, 6, .inl a_f_lawOther)), (a_lawEach, .inl (cyI, 6, .inl a_f_lawEach)), (a_lawFrom, .inl (cyI, 6, .inl a_f_lawFrom)), (a_foes, .inl (cyI, 7, .inl a_f_foes)), (a_suitTable, .inl (cyI, 49, .inl a_f_suitTable)), (a_acts, .inl (cyI, 40, .inl a_f_acts))] U.heap ∧ va_K (dC, dI) vwCl [(cyI, .int), (cyB, .byte), (cyJ, .long), (cyZ, .boolean), (cyH, .object RX2), (cyN, .array .long)] U ∧ va_D (fun _ => True) [(h0, .inr (2, [.int a_pl, .int a_li, .int a_le, .int a_lc, .int a_ac, .int a_ng, .ref a_first, .ref a_now, .ref a_lawPlace, .ref a_lawOther, .ref a_lawEach, .ref a_lawFrom, .ref a_foes, .ref a_suitTable, .ref a_acts])), (a_first, .inl (cyI, 7, .inl a_f_first)), (a_now, .inl (cyI, 7, .inl a_f_now)), (a_lawPlace, .inl (cyI, 6, .inl a_f_lawPlace)), (a_lawOther, .inl (cyI, 6, .inl a_f_lawOther)), (a_lawEach, .inl (cyI, 6, .inl a_f_lawEach)), (a_lawFrom, .inl (cyI, 6, .inl a_f_lawFrom)), (a_foes, .inl (cyI, 7, .inl a_f_foes)), (a_suitTable, .inl (cyI, 49, .inl a_f_suitTable)), (a_acts, .inl (cyI, 40, .inl a_f_acts))])) (va_Qv (fun _ : Unit => True) (fun (_ : Unit) (t : State) => ∃ z0 : Int32, ∃ z1 : Int32, ∃ y2 : Nat → Int32, (0 ≤ z0.toInt ∧ z0.toInt ≤ 0) ∧ (0 ≤ z1.toInt ∧ z1.toInt ≤ 0) ∧ (rg 0 6 7 y2) ∧ va_P (dC, dI) vwCl [(h0, .inr (2, [.int a_pl, .int a_li, .int a_le, .int a_lc, .int z0, .int z1, .ref a_first, .ref a_now, .ref a_lawPlace, .ref a_lawOther, .ref a_lawEach, .ref a_lawFrom, .ref a_foes, .ref a_suitTable, .ref a_acts])), (a_first, .inl (cyI, 7, .inl a_f_first)), (a_now, .inl (cyI, 7, .inl y2)), (a_lawPlace, .inl (cyI, 6, .inl a_f_lawPlace)), (a_lawOther, .inl (cyI, 6, .inl a_f_lawOther)), (a_lawEach, .inl (cyI, 6, .inl a_f_lawEach)), (a_lawFrom, .inl (cyI, 6, .inl a_f_lawFrom)), (a_foes, .inl (cyI, 7, .inl a_f_foes)), (a_suitTable, .inl (cyI, 49, .inl a_f_suitTable)), (a_acts, .inl (cyI, 40, .inl a_f_acts))] t.heap ∧ va_D (va_A [(h0, .inr (2, [.int a_pl, .int a_li, .int a_le, .int a_lc, .int a_ac, .int a_ng, .ref a_first, .ref a_now, .ref a_lawPlace, .ref a_lawOther, .ref a_lawEach, .ref a_lawFrom, .ref a_foes, .ref a_suitTable, .ref a_acts])), (a_first, .inl (cyI, 7, .inl a_f_first)), (a_now, .inl (cyI, 7, .inl a_f_now)), (a_lawPlace, .inl (cyI, 6, .inl a_f_lawPlace)), (a_lawOther, .inl (cyI, 6, .inl a_f_lawOther)), (a_lawEach, .inl (cyI, 6, .inl a_f_lawEach)), (a_lawFrom, .inl (cyI, 6, .inl a_f_lawFrom)), (a_foes, .inl (cyI, 7, .inl a_f_foes)), (a_suitTable, .inl (cyI, 49, .inl a_f_suitTable)), (a_acts, .inl (cyI, 40, .inl a_f_acts))] sz) [(h0, .inr (2, [.int a_pl, .int a_li, .int a_le, .int a_lc, .int z0, .int z1, .ref a_first, .ref a_now, .ref a_lawPlace, .ref a_lawOther, .ref a_lawEach, .ref a_lawFrom, .ref a_foes, .ref a_suitTable, .ref a_acts])), (a_first, .inl (cyI, 7, .inl a_f_first)), (a_now, .inl (cyI, 7, .inl y2)), (a_lawPlace, .inl (cyI, 6, .inl a_f_lawPlace)), (a_lawOther, .inl (cyI, 6, .inl a_f_lawOther)), (a_lawEach, .inl (cyI, 6, .inl a_f_lawEach)), (a_lawFrom, .inl (cyI, 6, .inl a_f_lawFrom)), (a_foes, .inl (cyI, 7, .inl a_f_foes)), (a_suitTable, .inl (cyI, 49, .inl a_f_suitTable)), (a_acts, .inl (cyI, 40, .inl a_f_acts))]) (va_A [(h0, .inr (2, [.int a_pl, .int a_li, .int a_le, .int a_lc, .int a_ac, .int a_ng, .ref a_first, .ref a_now, .ref a_lawPlace, .ref a_lawOther, .ref a_lawEach, .ref a_lawFrom, .ref a_foes, .ref a_suitTable, .ref a_acts])), (a_first, .inl (cyI, 7, .inl a_f_first)), (a_now, .inl (cyI, 7, .inl a_f_now)), (a_lawPlace, .inl (cyI, 6, .inl a_f_lawPlace)), (a_lawOther, .inl (cyI, 6, .inl a_f_lawOther)), (a_lawEach, .inl (cyI, 6, .inl a_f_lawEach)), (a_lawFrom, .inl (cyI, 6, .inl a_f_lawFrom)), (a_foes, .inl (cyI, 7, .inl a_f_foes)), (a_suitTable, .inl (cyI, 49, .inl a_f_suitTable)), (a_acts, .inl (cyI, 40, .inl a_f_acts))] sz)) 0 0 (va_A [(h0, .inr (2, [.int a_pl, .int a_li, .int a_le, .int a_lc, .int a_ac, .int a_ng, .ref a_first, .ref a_now, .ref a_lawPlace, .ref a_lawOther, .ref a_lawEach, .ref a_lawFrom, .ref a_foes, .ref a_suitTable, .ref a_acts])), (a_first, .inl (cyI, 7, .inl a_f_first)), (a_now, .inl (cyI, 7, .inl a_f_now)), (a_lawPlace, .inl (cyI, 6, .inl a_f_lawPlace)), (a_lawOther, .inl (cyI, 6, .inl a_f_lawOther)), (a_lawEach, .inl (cyI, 6, .inl a_f_lawEach)), (a_lawFrom, .inl (cyI, 6, .inl a_f_lawFrom)), (a_foes, .inl (cyI, 7, .inl a_f_foes)), (a_suitTable, .inl (cyI, 49, .inl a_f_suitTable)), (a_acts, .inl (cyI, 40, .inl a_f_acts))] sz) := by
  refine Met.ofW (cc := cX2_takeAllBack) (maxL := 1) (ret := none) (by decide) rfl ?_
  intro p e s m args below meth c s₁ B hml hv
  obtain ⟨rfl, hsz, hP, hK, hD0⟩ := hv
  have hx := B.exec
  have hb := B.bytes
  have hr := B.returns
  have hts : ∀ w ∈ uU, w.before ([.ref h0] : List Value).toArray s = true := fun w h => atoms_spec (ws := wk yX2_takeAllBack cX2_takeAllBack 1 none) B.pre w (List.mem_cons_of_mem _ h)
  have hown : s.vm.findClass RX2 = some m.cls := findClass_of_methodNamed B.named
  have hlocks := B.notSynchronized
  subst hsz
  have hD := hD0.self (sz := s.heap.size)
  generalize hAe : va_A [(h0, .inr (2, [.int a_pl, .int a_li, .int a_le, .int a_lc, .int a_ac, .int a_ng, .ref a_first, .ref a_now, .ref a_lawPlace, .ref a_lawOther, .ref a_lawEach, .ref a_lawFrom, .ref a_foes, .ref a_suitTable, .ref a_acts])), (a_first, .inl (cyI, 7, .inl a_f_first)), (a_now, .inl (cyI, 7, .inl a_f_now)), (a_lawPlace, .inl (cyI, 6, .inl a_f_lawPlace)), (a_lawOther, .inl (cyI, 6, .inl a_f_lawOther)), (a_lawEach, .inl (cyI, 6, .inl a_f_lawEach)), (a_lawFrom, .inl (cyI, 6, .inl a_f_lawFrom)), (a_foes, .inl (cyI, 7, .inl a_f_foes)), (a_suitTable, .inl (cyI, 49, .inl a_f_suitTable)), (a_acts, .inl (cyI, 40, .inl a_f_acts))] s.heap.size = A at hD ⊢
  have hA : ∀ q : Nat, s.heap.size ≤ q → A q := fun q h => by rw [← hAe]; exact Or.inr h
  have hS : va_S A s.heap s.heap [] := va_S.rf
  have hP : va_P (dC, dI) vwCl [(h0, .inr (2, [.int a_pl, .int a_li, .int a_le, .int a_lc, .int a_ac, .int a_ng, .ref a_first, .ref a_now, .ref a_lawPlace, .ref a_lawOther, .ref a_lawEach, .ref a_lawFrom, .ref a_foes, .ref a_suitTable, .ref a_acts])), (a_first, .inl (cyI, 7, .inl a_f_first)), (a_now, .inl (cyI, 7, .inl a_f_now)), (a_lawPlace, .inl (cyI, 6, .inl a_f_lawPlace)), (a_lawOther, .inl (cyI, 6, .inl a_f_lawOther)), (a_lawEach, .inl (cyI, 6, .inl a_f_lawEach)), (a_lawFrom, .inl (cyI, 6, .inl a_f_lawFrom)), (a_foes, .inl (cyI, 7, .inl a_f_foes)), (a_suitTable, .inl (cyI, 49, .inl a_f_suitTable)), (a_acts, .inl (cyI, 40, .inl a_f_acts))] s.heap := hP
  have hl := lv_entry ([.ref h0]) (n := 1) (Nat.le_of_ble_eq_true rfl)
  rw [lg_entry_eq]
  generalize (lg_sl ([.ref h0]) ++ List.replicate (1 - (lg_sl ([.ref h0])).length) Slot.unset).toArray = ls at hl ⊢
  have hl : lv_has ls 1 [(0, .ref h0)] := hl
  obtain ⟨H, hHe⟩ : ∃ H, H = s.heap := ⟨_, rfl⟩
  have hP : va_P (dC, dI) vwCl [(h0, .inr (2, [.int a_pl, .int a_li, .int a_le, .int a_lc, .int a_ac, .int a_ng, .ref a_first, .ref a_now, .ref a_lawPlace, .ref a_lawOther, .ref a_lawEach, .ref a_lawFrom, .ref a_foes, .ref a_suitTable, .ref a_acts])), (a_first, .inl (cyI, 7, .inl a_f_first)), (a_now, .inl (cyI, 7, .inl a_f_now)), (a_lawPlace, .inl (cyI, 6, .inl a_f_lawPlace)), (a_lawOther, .inl (cyI, 6, .inl a_f_lawOther)), (a_lawEach, .inl (cyI, 6, .inl a_f_lawEach)), (a_lawFrom, .inl (cyI, 6, .inl a_f_lawFrom)), (a_foes, .inl (cyI, 7, .inl a_f_foes)), (a_suitTable, .inl (cyI, 49, .inl a_f_suitTable)), (a_acts, .inl (cyI, 40, .inl a_f_acts))] H := by rw [hHe]; exact hP
  have hS : va_S A s.heap H [] := by rw [hHe]; exact hS
  refine cv_heap hHe ?_
  obtain ⟨Q9, hQ9⟩ : ∃ Q9 : State → Prop, Q9 = MQ below (va_Qv (fun _ : Unit => True) (fun (_ : Unit) (t : State) => ∃ z0 : Int32, ∃ z1 : Int32, ∃ y2 : Nat → Int32, (0 ≤ z0.toInt ∧ z0.toInt ≤ 0) ∧ (0 ≤ z1.toInt ∧ z1.toInt ≤ 0) ∧ (rg 0 6 7 y2) ∧ va_P (dC, dI) vwCl [(h0, .inr (2, [.int a_pl, .int a_li, .int a_le, .int a_lc, .int z0, .int z1, .ref a_first, .ref a_now, .ref a_lawPlace, .ref a_lawOther, .ref a_lawEach, .ref a_lawFrom, .ref a_foes, .ref a_suitTable, .ref a_acts])), (a_first, .inl (cyI, 7, .inl a_f_first)), (a_now, .inl (cyI, 7, .inl y2)), (a_lawPlace, .inl (cyI, 6, .inl a_f_lawPlace)), (a_lawOther, .inl (cyI, 6, .inl a_f_lawOther)), (a_lawEach, .inl (cyI, 6, .inl a_f_lawEach)), (a_lawFrom, .inl (cyI, 6, .inl a_f_lawFrom)), (a_foes, .inl (cyI, 7, .inl a_f_foes)), (a_suitTable, .inl (cyI, 49, .inl a_f_suitTable)), (a_acts, .inl (cyI, 40, .inl a_f_acts))] t.heap ∧ va_D A [(h0, .inr (2, [.int a_pl, .int a_li, .int a_le, .int a_lc, .int z0, .int z1, .ref a_first, .ref a_now, .ref a_lawPlace, .ref a_lawOther, .ref a_lawEach, .ref a_lawFrom, .ref a_foes, .ref a_suitTable, .ref a_acts])), (a_first, .inl (cyI, 7, .inl a_f_first)), (a_now, .inl (cyI, 7, .inl y2)), (a_lawPlace, .inl (cyI, 6, .inl a_f_lawPlace)), (a_lawOther, .inl (cyI, 6, .inl a_f_lawOther)), (a_lawEach, .inl (cyI, 6, .inl a_f_lawEach)), (a_lawFrom, .inl (cyI, 6, .inl a_f_lawFrom)), (a_foes, .inl (cyI, 7, .inl a_f_foes)), (a_suitTable, .inl (cyI, 49, .inl a_f_suitTable)), (a_acts, .inl (cyI, 40, .inl a_f_acts))]) A) ([.ref h0] : List Value).toArray s 0 0 A := ⟨_, rfl⟩
  rw [← hQ9]
  refine lv_aload_n hx hb dX2_takeAllBack_0 rfl (lv_at hl 0 rfl) ?_
  refine va_get (D := (dC, dI)) (ci := 2) (v := .ref a_first) (C := RX2) (T := TX2) (N := 15) hx hb hts uinX2 hown hK hP 0 rfl rfl 6 (by decide) (hts _ wd_1_100) (fun _ h9 => h9) rfl dX2_takeAllBack_1 ?_
  refine lv_iconst (v := 0) hx hb dX2_takeAllBack_4 (by decide) ?_
  refine lv_aload_n hx hb dX2_takeAllBack_5 rfl (lv_at hl 0 rfl) ?_
  refine va_get (D := (dC, dI)) (ci := 2) (v := .ref a_now) (C := RX2) (T := TX2) (N := 15) hx hb hts uinX2 hown hK hP 0 rfl rfl 7 (by decide) (hts _ wd_1_102) (fun _ h9 => h9) rfl dX2_takeAllBack_6 ?_
  refine lv_iconst (v := 0) hx hb dX2_takeAllBack_9 (by decide) ?_
  refine lv_bipush (v := 7) hx hb dX2_takeAllBack_10 (by decide) ?_
  refine va_copyi (ty := .int) hx hb (by rw [hml]; exact hl.1.symm) hown (hts _ wd_3_41) (hts _ wd_3_43) (hts _ wd_3_42) (hts _ wd_1_18) hK hP hD hS 1 2 0 0 rfl rfl rfl rfl rfl (by decide) (by decide) (by decide) (by decide) (by decide) (fun _ _ => rfl) (Nat.le_of_ble_eq_true rfl) (Nat.le_of_ble_eq_true rfl) dX2_takeAllBack_12 (fun H locs hP hD hS => ?_)
  obtain ⟨f_1, ef_1⟩ : ∃ z9 : Nat → Int32, z9 = va_cpy a_f_first a_f_now (0 : Int32).toNatClampNeg (0 : Int32).toNatClampNeg (7 : Int32).toNatClampNeg := ⟨_, rfl⟩
  rw [← ef_1] at hP hD
  have hP : va_P (dC, dI) vwCl [(h0, .inr (2, [.int a_pl, .int a_li, .int a_le, .int a_lc, .int a_ac, .int a_ng, .ref a_first, .ref a_now, .ref a_lawPlace, .ref a_lawOther, .ref a_lawEach, .ref a_lawFrom, .ref a_foes, .ref a_suitTable, .ref a_acts])), (a_first, .inl (cyI, 7, .inl a_f_first)), (a_now, .inl (cyI, 7, .inl f_1)), (a_lawPlace, .inl (cyI, 6, .inl a_f_lawPlace)), (a_lawOther, .inl (cyI, 6, .inl a_f_lawOther)), (a_lawEach, .inl (cyI, 6, .inl a_f_lawEach)), (a_lawFrom, .inl (cyI, 6, .inl a_f_lawFrom)), (a_foes, .inl (cyI, 7, .inl a_f_foes)), (a_suitTable, .inl (cyI, 49, .inl a_f_suitTable)), (a_acts, .inl (cyI, 40, .inl a_f_acts))] H := hP
  have hD : va_D A [(h0, .inr (2, [.int a_pl, .int a_li, .int a_le, .int a_lc, .int a_ac, .int a_ng, .ref a_first, .ref a_now, .ref a_lawPlace, .ref a_lawOther, .ref a_lawEach, .ref a_lawFrom, .ref a_foes, .ref a_suitTable, .ref a_acts])), (a_first, .inl (cyI, 7, .inl a_f_first)), (a_now, .inl (cyI, 7, .inl f_1)), (a_lawPlace, .inl (cyI, 6, .inl a_f_lawPlace)), (a_lawOther, .inl (cyI, 6, .inl a_f_lawOther)), (a_lawEach, .inl (cyI, 6, .inl a_f_lawEach)), (a_lawFrom, .inl (cyI, 6, .inl a_f_lawFrom)), (a_foes, .inl (cyI, 7, .inl a_f_foes)), (a_suitTable, .inl (cyI, 49, .inl a_f_suitTable)), (a_acts, .inl (cyI, 40, .inl a_f_acts))] := hD
  have hf_1 : rg 0 6 7 f_1 := by rw [ef_1]; exact rg_cpyall g0 (by decide) (by decide)
  refine lv_aload_n hx hb dX2_takeAllBack_15 rfl (lv_at hl 0 rfl) ?_
  refine lv_iconst (v := 0) hx hb dX2_takeAllBack_16 (by decide) ?_
  refine va_put (D := (dC, dI)) (ci := 2) (v := .int 0) (ty := .int) (C := RX2) (T := TX2) (N := 15) hx hb hts uinX2 tyX2 tyX2_ok nmX2 hown hK hP hD hS 0 rfl rfl 4 (by decide) (hts _ wd_1_95) (fun _ h9 => h9) rfl (by decide +kernel) rfl rfl (Nat.le_of_ble_eq_true rfl) dX2_takeAllBack_17 (fun H locs hP hD hS => ?_)
  have hP : va_P (dC, dI) vwCl [(h0, .inr (2, [.int a_pl, .int a_li, .int a_le, .int a_lc, .int 0, .int a_ng, .ref a_first, .ref a_now, .ref a_lawPlace, .ref a_lawOther, .ref a_lawEach, .ref a_lawFrom, .ref a_foes, .ref a_suitTable, .ref a_acts])), (a_first, .inl (cyI, 7, .inl a_f_first)), (a_now, .inl (cyI, 7, .inl f_1)), (a_lawPlace, .inl (cyI, 6, .inl a_f_lawPlace)), (a_lawOther, .inl (cyI, 6, .inl a_f_lawOther)), (a_lawEach, .inl (cyI, 6, .inl a_f_lawEach)), (a_lawFrom, .inl (cyI, 6, .inl a_f_lawFrom)), (a_foes, .inl (cyI, 7, .inl a_f_foes)), (a_suitTable, .inl (cyI, 49, .inl a_f_suitTable)), (a_acts, .inl (cyI, 40, .inl a_f_acts))] H := hP
  have hD : va_D A [(h0, .inr (2, [.int a_pl, .int a_li, .int a_le, .int a_lc, .int 0, .int a_ng, .ref a_first, .ref a_now, .ref a_lawPlace, .ref a_lawOther, .ref a_lawEach, .ref a_lawFrom, .ref a_foes, .ref a_suitTable, .ref a_acts])), (a_first, .inl (cyI, 7, .inl a_f_first)), (a_now, .inl (cyI, 7, .inl f_1)), (a_lawPlace, .inl (cyI, 6, .inl a_f_lawPlace)), (a_lawOther, .inl (cyI, 6, .inl a_f_lawOther)), (a_lawEach, .inl (cyI, 6, .inl a_f_lawEach)), (a_lawFrom, .inl (cyI, 6, .inl a_f_lawFrom)), (a_foes, .inl (cyI, 7, .inl a_f_foes)), (a_suitTable, .inl (cyI, 49, .inl a_f_suitTable)), (a_acts, .inl (cyI, 40, .inl a_f_acts))] := hD
  refine lv_aload_n hx hb dX2_takeAllBack_20 rfl (lv_at hl 0 rfl) ?_
  refine lv_iconst (v := 0) hx hb dX2_takeAllBack_21 (by decide) ?_
  refine va_put (D := (dC, dI)) (ci := 2) (v := .int 0) (ty := .int) (C := RX2) (T := TX2) (N := 15) hx hb hts uinX2 tyX2 tyX2_ok nmX2 hown hK hP hD hS 0 rfl rfl 5 (by decide) (hts _ wd_1_97) (fun _ h9 => h9) rfl (by decide +kernel) rfl rfl (Nat.le_of_ble_eq_true rfl) dX2_takeAllBack_22 (fun H locs hP hD hS => ?_)
  have hP : va_P (dC, dI) vwCl [(h0, .inr (2, [.int a_pl, .int a_li, .int a_le, .int a_lc, .int 0, .int 0, .ref a_first, .ref a_now, .ref a_lawPlace, .ref a_lawOther, .ref a_lawEach, .ref a_lawFrom, .ref a_foes, .ref a_suitTable, .ref a_acts])), (a_first, .inl (cyI, 7, .inl a_f_first)), (a_now, .inl (cyI, 7, .inl f_1)), (a_lawPlace, .inl (cyI, 6, .inl a_f_lawPlace)), (a_lawOther, .inl (cyI, 6, .inl a_f_lawOther)), (a_lawEach, .inl (cyI, 6, .inl a_f_lawEach)), (a_lawFrom, .inl (cyI, 6, .inl a_f_lawFrom)), (a_foes, .inl (cyI, 7, .inl a_f_foes)), (a_suitTable, .inl (cyI, 49, .inl a_f_suitTable)), (a_acts, .inl (cyI, 40, .inl a_f_acts))] H := hP
  have hD : va_D A [(h0, .inr (2, [.int a_pl, .int a_li, .int a_le, .int a_lc, .int 0, .int 0, .ref a_first, .ref a_now, .ref a_lawPlace, .ref a_lawOther, .ref a_lawEach, .ref a_lawFrom, .ref a_foes, .ref a_suitTable, .ref a_acts])), (a_first, .inl (cyI, 7, .inl a_f_first)), (a_now, .inl (cyI, 7, .inl f_1)), (a_lawPlace, .inl (cyI, 6, .inl a_f_lawPlace)), (a_lawOther, .inl (cyI, 6, .inl a_f_lawOther)), (a_lawEach, .inl (cyI, 6, .inl a_f_lawEach)), (a_lawFrom, .inl (cyI, 6, .inl a_f_lawFrom)), (a_foes, .inl (cyI, 7, .inl a_f_foes)), (a_suitTable, .inl (cyI, 49, .inl a_f_suitTable)), (a_acts, .inl (cyI, 40, .inl a_f_acts))] := hD
  rw [hQ9]
  have hP9 := hP.sub (ws' := [(h0, .inr (2, [.int a_pl, .int a_li, .int a_le, .int a_lc, .int 0, .int 0, .ref a_first, .ref a_now, .ref a_lawPlace, .ref a_lawOther, .ref a_lawEach, .ref a_lawFrom, .ref a_foes, .ref a_suitTable, .ref a_acts])), (a_first, .inl (cyI, 7, .inl a_f_first)), (a_now, .inl (cyI, 7, .inl f_1)), (a_lawPlace, .inl (cyI, 6, .inl a_f_lawPlace)), (a_lawOther, .inl (cyI, 6, .inl a_f_lawOther)), (a_lawEach, .inl (cyI, 6, .inl a_f_lawEach)), (a_lawFrom, .inl (cyI, 6, .inl a_f_lawFrom)), (a_foes, .inl (cyI, 7, .inl a_f_foes)), (a_suitTable, .inl (cyI, 49, .inl a_f_suitTable)), (a_acts, .inl (cyI, 40, .inl a_f_acts))]) [0, 1, 2, 3, 4, 5, 6, 7, 8, 9] rfl
  have hD9 := hD.sub (ws' := [(h0, .inr (2, [.int a_pl, .int a_li, .int a_le, .int a_lc, .int 0, .int 0, .ref a_first, .ref a_now, .ref a_lawPlace, .ref a_lawOther, .ref a_lawEach, .ref a_lawFrom, .ref a_foes, .ref a_suitTable, .ref a_acts])), (a_first, .inl (cyI, 7, .inl a_f_first)), (a_now, .inl (cyI, 7, .inl f_1)), (a_lawPlace, .inl (cyI, 6, .inl a_f_lawPlace)), (a_lawOther, .inl (cyI, 6, .inl a_f_lawOther)), (a_lawEach, .inl (cyI, 6, .inl a_f_lawEach)), (a_lawFrom, .inl (cyI, 6, .inl a_f_lawFrom)), (a_foes, .inl (cyI, 7, .inl a_f_foes)), (a_suitTable, .inl (cyI, 49, .inl a_f_suitTable)), (a_acts, .inl (cyI, 40, .inl a_f_acts))]) [0, 1, 2, 3, 4, 5, 6, 7, 8, 9] (by decide) rfl
  exact W.vret hx hb hr (fun t ht hW => ⟨⟨(), rfl, trivial, ⟨0, 0, f_1, (by decide), (by decide), hf_1, by rw [ht]; exact hP9, hD9⟩⟩, hS.F ht⟩) hS.2.2 dX2_takeAllBack_25

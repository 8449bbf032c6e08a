/- X8_isSlot -/
set_option maxHeartbeats 4000000 in
set_option maxRecDepth 100000 in
theorem c_isSlot (l : Launch) (dC : Nat → ClassId) (dI : Nat → Nat → Nat) (cyI cyB cyJ cyZ cyH cyN : ClassId) (p0 : Int32) : Met l yX8_isSlot (wk yX8_isSlot cX8_isSlot 1 (some .boolean)) ({ frames := 1, cells := 0, slots := 0, locals := 60 }) (va_Pc [.int p0] (fun _ => True)) (vp_Si (fun r : Int32 => r = (if (0 ≤ p0.toInt ∧ p0.toInt < 4) then 1 else 0))) 0 0 (fun _ => False) := by
  refine Met.ofW (cc := cX8_isSlot) (maxL := 1) (ret := (some .boolean)) (by decide) rfl ?_
  intro p e s m args below meth c s₁ B hml hv
  obtain ⟨rfl, -⟩ := hv
  have hx := B.exec
  have hb := B.bytes
  have hr := B.returns
  have hts : ∀ w ∈ uU, w.before ([.int p0] : List Value).toArray s = true := fun w h => atoms_spec (ws := wk yX8_isSlot cX8_isSlot 1 (some .boolean)) B.pre w (List.mem_cons_of_mem _ h)
  have hown : s.vm.findClass RX8 = some m.cls := findClass_of_methodNamed B.named
  have hlocks := B.notSynchronized
  have hl := lv_entry ([.int p0]) (n := 1) (Nat.le_of_ble_eq_true rfl)
  rw [lg_entry_eq]
  generalize (lg_sl ([.int p0]) ++ List.replicate (1 - (lg_sl ([.int p0])).length) Slot.unset).toArray = ls at hl ⊢
  have hl : lv_has ls 1 [(0, .int p0)] := hl
  refine lv_iload_n hx hb dX8_isSlot_0 rfl (lv_at hl 0 rfl) ?_
  refine lv_if_lt (tgt := 13) hx hb dX8_isSlot_1 (by decide) (fun c_1 => ?_) (fun c_1 => ?_)
  · have c_1 : p0.toInt < 0 := cv_lt c_1
    refine lv_iconst (v := 0) hx hb dX8_isSlot_13 (by decide) ?_
    exact W.zret (v := 0) (ty := .boolean) hx hb hr rfl (fun t ht hW => ⟨0, rfl, (by first | (rw [if_pos (by omega)]; done) | (rw [if_neg (by omega)]; done) | (rw [if_neg (by omega), if_pos (by omega)]; done) | (rw [if_neg (by omega), if_neg (by omega)]; done)), ht⟩) (fun q h => by cases h) dX8_isSlot_14
  · have c_1 : 0 ≤ p0.toInt := cv_nlt c_1
    refine lv_iload_n hx hb dX8_isSlot_4 rfl (lv_at hl 0 rfl) ?_
    refine lv_iconst (v := 4) hx hb dX8_isSlot_5 (by decide) ?_
    refine lv_icmp_ge (tgt := 13) hx hb dX8_isSlot_6 (by decide) (fun c_2 => ?_) (fun c_2 => ?_)
    · have c_2 : 4 ≤ p0.toInt := cv_le c_2
      refine lv_iconst (v := 0) hx hb dX8_isSlot_13 (by decide) ?_
      exact W.zret (v := 0) (ty := .boolean) hx hb hr rfl (fun t ht hW => ⟨0, rfl, (by first | (rw [if_pos (by omega)]; done) | (rw [if_neg (by omega)]; done) | (rw [if_neg (by omega), if_pos (by omega)]; done) | (rw [if_neg (by omega), if_neg (by omega)]; done)), ht⟩) (fun q h => by cases h) dX8_isSlot_14
    · have c_2 : p0.toInt < 4 := cv_nle c_2
      refine lv_iconst (v := 1) hx hb dX8_isSlot_9 (by decide) ?_
      refine lv_goto (tgt := 14) hx hb dX8_isSlot_10 (by decide) ?_
      exact W.zret (v := 1) (ty := .boolean) hx hb hr rfl (fun t ht hW => ⟨1, rfl, (by first | (rw [if_pos (by omega)]; done) | (rw [if_neg (by omega)]; done) | (rw [if_neg (by omega), if_pos (by omega)]; done) | (rw [if_neg (by omega), if_neg (by omega)]; done)), ht⟩) (fun q h => by cases h) dX8_isSlot_14

/- X8_isWidth -/
set_option maxHeartbeats 4000000 in
set_option maxRecDepth 100000 in
theorem c_isWidth (l : Launch) (dC : Nat → ClassId) (dI : Nat → Nat → Nat) (cyI cyB cyJ cyZ cyH cyN : ClassId) (p0 : Int32) : Met l yX8_isWidth (wk yX8_isWidth cX8_isWidth 1 (some .boolean)) ({ frames := 1, cells := 0, slots := 0, locals := 60 }) (va_Pc [.int p0] (fun _ => True)) (vp_Si (fun r : Int32 => r = (if (0 ≤ p0.toInt ∧ p0.toInt < 4) then 1 else 0))) 0 0 (fun _ => False) := by
  refine Met.ofW (cc := cX8_isWidth) (maxL := 1) (ret := (some .boolean)) (by decide) rfl ?_
  intro p e s m args below meth c s₁ B hml hv
  obtain ⟨rfl, -⟩ := hv
  have hx := B.exec
  have hb := B.bytes
  have hr := B.returns
  have hts : ∀ w ∈ uU, w.before ([.int p0] : List Value).toArray s = true := fun w h => atoms_spec (ws := wk yX8_isWidth cX8_isWidth 1 (some .boolean)) B.pre w (List.mem_cons_of_mem _ h)
  have hown : s.vm.findClass RX8 = some m.cls := findClass_of_methodNamed B.named
  have hlocks := B.notSynchronized
  have hl := lv_entry ([.int p0]) (n := 1) (Nat.le_of_ble_eq_true rfl)
  rw [lg_entry_eq]
  generalize (lg_sl ([.int p0]) ++ List.replicate (1 - (lg_sl ([.int p0])).length) Slot.unset).toArray = ls at hl ⊢
  have hl : lv_has ls 1 [(0, .int p0)] := hl
  refine lv_iload_n hx hb dX8_isWidth_0 rfl (lv_at hl 0 rfl) ?_
  refine lv_if_lt (tgt := 13) hx hb dX8_isWidth_1 (by decide) (fun c_1 => ?_) (fun c_1 => ?_)
  · have c_1 : p0.toInt < 0 := cv_lt c_1
    refine lv_iconst (v := 0) hx hb dX8_isWidth_13 (by decide) ?_
    exact W.zret (v := 0) (ty := .boolean) hx hb hr rfl (fun t ht hW => ⟨0, rfl, (by first | (rw [if_pos (by omega)]; done) | (rw [if_neg (by omega)]; done) | (rw [if_neg (by omega), if_pos (by omega)]; done) | (rw [if_neg (by omega), if_neg (by omega)]; done)), ht⟩) (fun q h => by cases h) dX8_isWidth_14
  · have c_1 : 0 ≤ p0.toInt := cv_nlt c_1
    refine lv_iload_n hx hb dX8_isWidth_4 rfl (lv_at hl 0 rfl) ?_
    refine lv_iconst (v := 4) hx hb dX8_isWidth_5 (by decide) ?_
    refine lv_icmp_ge (tgt := 13) hx hb dX8_isWidth_6 (by decide) (fun c_2 => ?_) (fun c_2 => ?_)
    · have c_2 : 4 ≤ p0.toInt := cv_le c_2
      refine lv_iconst (v := 0) hx hb dX8_isWidth_13 (by decide) ?_
      exact W.zret (v := 0) (ty := .boolean) hx hb hr rfl (fun t ht hW => ⟨0, rfl, (by first | (rw [if_pos (by omega)]; done) | (rw [if_neg (by omega)]; done) | (rw [if_neg (by omega), if_pos (by omega)]; done) | (rw [if_neg (by omega), if_neg (by omega)]; done)), ht⟩) (fun q h => by cases h) dX8_isWidth_14
    · have c_2 : p0.toInt < 4 := cv_nle c_2
      refine lv_iconst (v := 1) hx hb dX8_isWidth_9 (by decide) ?_
      refine lv_goto (tgt := 14) hx hb dX8_isWidth_10 (by decide) ?_
      exact W.zret (v := 1) (ty := .boolean) hx hb hr rfl (fun t ht hW => ⟨1, rfl, (by first | (rw [if_pos (by omega)]; done) | (rw [if_neg (by omega)]; done) | (rw [if_neg (by omega), if_pos (by omega)]; done) | (rw [if_neg (by omega), if_neg (by omega)]; done)), ht⟩) (fun q h => by cases h) dX8_isWidth_14

/- X11_within -/
set_option maxHeartbeats 4000000 in
set_option maxRecDepth 100000 in
theorem c_within (l : Launch) (dC : Nat → ClassId) (dI : Nat → Nat → Nat) (cyI cyB cyJ cyZ cyH cyN : ClassId) (p0 p1 p2 : Int32) : Met l yX11_within (wk yX11_within cX11_within 3 (some .boolean)) ({ frames := 1, cells := 0, slots := 0, locals := 60 }) (va_Pc [.int p0, .int p1, .int p2] (fun _ => True)) (vp_Si (fun r : Int32 => r = (if (p1.toInt ≤ p0.toInt ∧ p0.toInt ≤ p2.toInt) then 1 else 0))) 0 0 (fun _ => False) := by
  refine Met.ofW (cc := cX11_within) (maxL := 3) (ret := (some .boolean)) (by decide) rfl ?_
  intro p e s m args below meth c s₁ B hml hv
  obtain ⟨rfl, -⟩ := hv
  have hx := B.exec
  have hb := B.bytes
  have hr := B.returns
  have hts : ∀ w ∈ uU, w.before ([.int p0, .int p1, .int p2] : List Value).toArray s = true := fun w h => atoms_spec (ws := wk yX11_within cX11_within 3 (some .boolean)) B.pre w (List.mem_cons_of_mem _ h)
  have hown : s.vm.findClass RX11 = some m.cls := findClass_of_methodNamed B.named
  have hlocks := B.notSynchronized
  have hl := lv_entry ([.int p0, .int p1, .int p2]) (n := 3) (Nat.le_of_ble_eq_true rfl)
  rw [lg_entry_eq]
  generalize (lg_sl ([.int p0, .int p1, .int p2]) ++ List.replicate (3 - (lg_sl ([.int p0, .int p1, .int p2])).length) Slot.unset).toArray = ls at hl ⊢
  have hl : lv_has ls 3 [(0, .int p0), (1, .int p1), (2, .int p2)] := hl
  refine lv_iload_n hx hb dX11_within_0 rfl (lv_at hl 0 rfl) ?_
  refine lv_iload_n hx hb dX11_within_1 rfl (lv_at hl 1 rfl) ?_
  refine lv_icmp_lt (tgt := 14) hx hb dX11_within_2 (by decide) (fun c_1 => ?_) (fun c_1 => ?_)
  · have c_1 : p0.toInt < p1.toInt := cv_lt c_1
    refine lv_iconst (v := 0) hx hb dX11_within_14 (by decide) ?_
    exact W.zret (v := 0) (ty := .boolean) hx hb hr rfl (fun t ht hW => ⟨0, rfl, (by first | (rw [if_pos (by omega)]; done) | (rw [if_neg (by omega)]; done) | (rw [if_neg (by omega), if_pos (by omega)]; done) | (rw [if_neg (by omega), if_neg (by omega)]; done)), ht⟩) (fun q h => by cases h) dX11_within_15
  · have c_1 : p1.toInt ≤ p0.toInt := cv_nlt c_1
    refine lv_iload_n hx hb dX11_within_5 rfl (lv_at hl 0 rfl) ?_
    refine lv_iload_n hx hb dX11_within_6 rfl (lv_at hl 2 rfl) ?_
    refine lv_icmp_gt (tgt := 14) hx hb dX11_within_7 (by decide) (fun c_2 => ?_) (fun c_2 => ?_)
    · have c_2 : p2.toInt < p0.toInt := cv_lt c_2
      refine lv_iconst (v := 0) hx hb dX11_within_14 (by decide) ?_
      exact W.zret (v := 0) (ty := .boolean) hx hb hr rfl (fun t ht hW => ⟨0, rfl, (by first | (rw [if_pos (by omega)]; done) | (rw [if_neg (by omega)]; done) | (rw [if_neg (by omega), if_pos (by omega)]; done) | (rw [if_neg (by omega), if_neg (by omega)]; done)), ht⟩) (fun q h => by cases h) dX11_within_15
    · have c_2 : p0.toInt ≤ p2.toInt := cv_nlt c_2
      refine lv_iconst (v := 1) hx hb dX11_within_10 (by decide) ?_
      refine lv_goto (tgt := 15) hx hb dX11_within_11 (by decide) ?_
      exact W.zret (v := 1) (ty := .boolean) hx hb hr rfl (fun t ht hW => ⟨1, rfl, (by first | (rw [if_pos (by omega)]; done) | (rw [if_neg (by omega)]; done) | (rw [if_neg (by omega), if_pos (by omega)]; done) | (rw [if_neg (by omega), if_neg (by omega)]; done)), ht⟩) (fun q h => by cases h) dX11_within_15

/- X2_isNone -/
set_option maxHeartbeats 4000000 in
set_option maxRecDepth 100000 in
theorem c_isNone (l : Launch) (dC : Nat → ClassId) (dI : Nat → Nat → Nat) (cyI cyB cyJ cyZ cyH cyN : ClassId) (h0 a_first a_now a_lawPlace a_lawOther a_lawEach a_lawFrom a_foes a_suitTable a_acts : Nat) : Met l yX2_isNone (wk yX2_isNone cX2_isNone 1 (some .boolean)) ({ frames := 1, cells := 0, slots := 0, locals := 60 }) (va_Pc [.ref h0] (fun U => va_P (dC, dI) vwCl [(h0, .inr (2, [.int 0, .int 0, .int 0, .int 0, .int 0, .int 0, .ref a_first, .ref a_now, .ref a_lawPlace, .ref a_lawOther, .ref a_lawEach, .ref a_lawFrom, .ref a_foes, .ref a_suitTable, .ref a_acts]))] U.heap ∧ va_K (dC, dI) vwCl [(cyI, .int), (cyB, .byte), (cyJ, .long), (cyZ, .boolean), (cyH, .object RX2), (cyN, .array .long)] U)) (vp_Si (fun r : Int32 => r = 1)) 0 0 (fun _ => False) := by
  refine Met.ofW (cc := cX2_isNone) (maxL := 1) (ret := (some .boolean)) (by decide) rfl ?_
  intro p e s m args below meth c s₁ B hml hv
  obtain ⟨rfl, hP, hK⟩ := hv
  have hx := B.exec
  have hb := B.bytes
  have hr := B.returns
  have hts : ∀ w ∈ uU, w.before ([.ref h0] : List Value).toArray s = true := fun w h => atoms_spec (ws := wk yX2_isNone cX2_isNone 1 (some .boolean)) B.pre w (List.mem_cons_of_mem _ h)
  have hown : s.vm.findClass RX2 = some m.cls := findClass_of_methodNamed B.named
  have hlocks := B.notSynchronized
  have hl := lv_entry ([.ref h0]) (n := 1) (Nat.le_of_ble_eq_true rfl)
  rw [lg_entry_eq]
  generalize (lg_sl ([.ref h0]) ++ List.replicate (1 - (lg_sl ([.ref h0])).length) Slot.unset).toArray = ls at hl ⊢
  have hl : lv_has ls 1 [(0, .ref h0)] := hl
  refine lv_aload_n hx hb dX2_isNone_0 rfl (lv_at hl 0 rfl) ?_
  refine va_get (D := (dC, dI)) (ci := 2) (v := .int 0) (C := RX2) (T := TX2) (N := 15) hx hb hts uinX2 hown hK hP 0 rfl rfl 0 (by decide) (hts _ wd_1_77) (fun _ h9 => h9) rfl dX2_isNone_1 ?_
  refine lv_if_ne (tgt := 11) hx hb dX2_isNone_4 (by decide) (fun c_1 => absurd c_1 (by decide)) (fun _ => ?_)
  refine lv_iconst (v := 1) hx hb dX2_isNone_7 (by decide) ?_
  refine lv_goto (tgt := 12) hx hb dX2_isNone_8 (by decide) ?_
  exact W.zret (v := 1) (ty := .boolean) hx hb hr rfl (fun t ht hW => ⟨1, rfl, rfl, ht⟩) (fun q h => by cases h) dX2_isNone_12

/- X2_holds -/
set_option maxHeartbeats 4000000 in
set_option maxRecDepth 100000 in
theorem c_holds (l : Launch) (dC : Nat → ClassId) (dI : Nat → Nat → Nat) (cyI cyB cyJ cyZ cyH cyN : ClassId) (h0 a_first a_now a_lawPlace a_lawOther a_lawEach a_lawFrom a_foes a_suitTable a_acts : Nat) (p0 : Int32) : Met l yX2_holds (wk yX2_holds cX2_holds 2 (some .boolean)) ({ frames := 1, cells := 0, slots := 0, locals := 60 }) (va_Pc [.ref h0, .int p0] (fun U => va_P (dC, dI) vwCl [(h0, .inr (2, [.int 0, .int 0, .int 0, .int 0, .int 0, .int 0, .ref a_first, .ref a_now, .ref a_lawPlace, .ref a_lawOther, .ref a_lawEach, .ref a_lawFrom, .ref a_foes, .ref a_suitTable, .ref a_acts]))] U.heap ∧ va_K (dC, dI) vwCl [(cyI, .int), (cyB, .byte), (cyJ, .long), (cyZ, .boolean), (cyH, .object RX2), (cyN, .array .long)] U)) (vp_Si (fun r : Int32 => r = 0)) 0 0 (fun _ => False) := by
  refine Met.ofW (cc := cX2_holds) (maxL := 2) (ret := (some .boolean)) (by decide) rfl ?_
  intro p e s m args below meth c s₁ B hml hv
  obtain ⟨rfl, hP, hK⟩ := hv
  have hx := B.exec
  have hb := B.bytes
  have hr := B.returns
  have hts : ∀ w ∈ uU, w.before ([.ref h0, .int p0] : List Value).toArray s = true := fun w h => atoms_spec (ws := wk yX2_holds cX2_holds 2 (some .boolean)) B.pre w (List.mem_cons_of_mem _ h)
  have hown : s.vm.findClass RX2 = some m.cls := findClass_of_methodNamed B.named
  have hlocks := B.notSynchronized
  have hl := lv_entry ([.ref h0, .int p0]) (n := 2) (Nat.le_of_ble_eq_true rfl)
  rw [lg_entry_eq]
  generalize (lg_sl ([.ref h0, .int p0]) ++ List.replicate (2 - (lg_sl ([.ref h0, .int p0])).length) Slot.unset).toArray = ls at hl ⊢
  have hl : lv_has ls 2 [(0, .ref h0), (1, .int p0)] := hl
  refine lv_iload_n hx hb dX2_holds_0 rfl (lv_at hl 1 rfl) ?_
  refine lv_if_lt (tgt := 25) hx hb dX2_holds_1 (by decide) (fun c_1 => ?_) (fun c_1 => ?_)
  · have c_1 : p0.toInt < 0 := cv_lt c_1
    refine lv_iconst (v := 0) hx hb dX2_holds_25 (by decide) ?_
    exact W.zret (v := 0) (ty := .boolean) hx hb hr rfl (fun t ht hW => ⟨0, rfl, rfl, ht⟩) (fun q h => by cases h) dX2_holds_26
  · have c_1 : 0 ≤ p0.toInt := cv_nlt c_1
    refine lv_iload_n hx hb dX2_holds_4 rfl (lv_at hl 1 rfl) ?_
    refine lv_aload_n hx hb dX2_holds_5 rfl (lv_at hl 0 rfl) ?_
    refine va_get (D := (dC, dI)) (ci := 2) (v := .int 0) (C := RX2) (T := TX2) (N := 15) hx hb hts uinX2 hown hK hP 0 rfl rfl 0 (by decide) (hts _ wd_1_77) (fun _ h9 => h9) rfl dX2_holds_6 ?_
    refine lv_icmp_ge (tgt := 25) hx hb dX2_holds_9 (by decide) (fun _ => ?_) (fun c_2 => absurd (show p0.toInt < 0 from cv_nle c_2) (by omega))
    refine lv_iconst (v := 0) hx hb dX2_holds_25 (by decide) ?_
    exact W.zret (v := 0) (ty := .boolean) hx hb hr rfl (fun t ht hW => ⟨0, rfl, rfl, ht⟩) (fun q h => by cases h) dX2_holds_26

/- X2_foePairs -/
set_option maxHeartbeats 4000000 in
set_option maxRecDepth 100000 in
theorem c_foePairs (l : Launch) (dC : Nat → ClassId) (dI : Nat → Nat → Nat) (cyI cyB cyJ cyZ cyH cyN : ClassId) (h0 a_first a_now a_lawPlace a_lawOther a_lawEach a_lawFrom a_foes a_suitTable a_acts : Nat) : Met l yX2_foePairs (wk yX2_foePairs cX2_foePairs 3 (some .int)) ({ frames := 1, cells := 0, slots := 0, locals := 60 }) (va_Pc [.ref h0] (fun U => va_P (dC, dI) vwCl [(h0, .inr (2, [.int 0, .int 0, .int 0, .int 0, .int 0, .int 0, .ref a_first, .ref a_now, .ref a_lawPlace, .ref a_lawOther, .ref a_lawEach, .ref a_lawFrom, .ref a_foes, .ref a_suitTable, .ref a_acts]))] U.heap ∧ va_K (dC, dI) vwCl [(cyI, .int), (cyB, .byte), (cyJ, .long), (cyZ, .boolean), (cyH, .object RX2), (cyN, .array .long)] U)) (vp_Si (fun r : Int32 => r = 0)) 0 0 (fun _ => False) := by
  refine Met.ofW (cc := cX2_foePairs) (maxL := 3) (ret := (some .int)) (by decide) rfl ?_
  intro p e s m args below meth c s₁ B hml hv
  obtain ⟨rfl, hP, hK⟩ := hv
  have hx := B.exec
  have hb := B.bytes
  have hr := B.returns
  have hts : ∀ w ∈ uU, w.before ([.ref h0] : List Value).toArray s = true := fun w h => atoms_spec (ws := wk yX2_foePairs cX2_foePairs 3 (some .int)) B.pre w (List.mem_cons_of_mem _ h)
  have hown : s.vm.findClass RX2 = some m.cls := findClass_of_methodNamed B.named
  have hlocks := B.notSynchronized
  have hl := lv_entry ([.ref h0]) (n := 3) (Nat.le_of_ble_eq_true rfl)
  rw [lg_entry_eq]
  generalize (lg_sl ([.ref h0]) ++ List.replicate (3 - (lg_sl ([.ref h0])).length) Slot.unset).toArray = ls at hl ⊢
  have hl : lv_has ls 3 [(0, .ref h0)] := hl
  refine lv_iconst (v := 0) hx hb dX2_foePairs_0 (by decide) ?_
  refine lv_istore_n (lv' := [(1, .int 0), (0, .ref h0)]) hx hb dX2_foePairs_1 rfl hl (by decide) rfl (fun ls hl => ?_)
  refine lv_iconst (v := 0) hx hb dX2_foePairs_2 (by decide) ?_
  refine lv_istore_n (lv' := [(2, .int 0), (1, .int 0), (0, .ref h0)]) hx hb dX2_foePairs_3 rfl hl (by decide) rfl (fun ls hl => ?_)
  refine lv_iload_n hx hb dX2_foePairs_4 rfl (lv_at hl 0 rfl) ?_
  refine lv_aload_n hx hb dX2_foePairs_5 rfl (lv_at hl 2 rfl) ?_
  refine va_get (D := (dC, dI)) (ci := 2) (v := .int 0) (C := RX2) (T := TX2) (N := 15) hx hb hts uinX2 hown hK hP 0 rfl rfl 0 (by decide) (hts _ wd_1_77) (fun _ h9 => h9) rfl dX2_foePairs_6 ?_
  refine lv_icmp_ge (tgt := 30) hx hb dX2_foePairs_9 (by decide) (fun _ => ?_) (fun c_1 => absurd c_1 (by decide))
  refine lv_iload_n hx hb dX2_foePairs_30 rfl (lv_at hl 1 rfl) ?_
  refine lv_iconst (v := 2) hx hb dX2_foePairs_31 (by decide) ?_
  refine lv_idiv hx hb dX2_foePairs_32 (by decide) ?_
  refine cv_topi (b := 0) (by decide) ?_
  exact W.iret (v := 0) hx hb hr (fun t ht hW => ⟨0, rfl, rfl, ht⟩) (fun q h => by cases h) dX2_foePairs_33

/- X8_isFilled -/
set_option maxHeartbeats 4000000 in
set_option maxRecDepth 100000 in
theorem c_isFilled (l : Launch) (dC : Nat → ClassId) (dI : Nat → Nat → Nat) (cyI cyB cyJ cyZ cyH cyN : ClassId) (h0 sNum sLen sWid sMade : Nat) (p0 : Int32) (g0 : 0 ≤ p0.toInt ∧ p0.toInt < 4) : Met l yX8_isFilled (wk yX8_isFilled cX8_isFilled 2 (some .boolean)) ({ frames := 1, cells := 0, slots := 0, locals := 60 }) (va_Pc [.ref h0, .int p0] (fun U => va_P (dC, dI) vwCl [(h0, .inr (7, [.ref sNum, .ref sLen, .ref sWid, .ref sMade])), (sMade, .inl (cyZ, 4, .inl (fun _ => 0)))] U.heap ∧ va_K (dC, dI) vwCl [(cyI, .int), (cyB, .byte), (cyJ, .long), (cyZ, .boolean), (cyH, .object RX2), (cyN, .array .long)] U)) (vp_Si (fun r : Int32 => r = 0)) 0 0 (fun _ => False) := by
  refine Met.ofW (cc := cX8_isFilled) (maxL := 2) (ret := (some .boolean)) (by decide) rfl ?_
  intro p e s m args below meth c s₁ B hml hv
  obtain ⟨rfl, hP, hK⟩ := hv
  have hx := B.exec
  have hb := B.bytes
  have hr := B.returns
  have hts : ∀ w ∈ uU, w.before ([.ref h0, .int p0] : List Value).toArray s = true := fun w h => atoms_spec (ws := wk yX8_isFilled cX8_isFilled 2 (some .boolean)) B.pre w (List.mem_cons_of_mem _ h)
  have hown : s.vm.findClass RX8 = some m.cls := findClass_of_methodNamed B.named
  have hlocks := B.notSynchronized
  have hl := lv_entry ([.ref h0, .int p0]) (n := 2) (Nat.le_of_ble_eq_true rfl)
  rw [lg_entry_eq]
  generalize (lg_sl ([.ref h0, .int p0]) ++ List.replicate (2 - (lg_sl ([.ref h0, .int p0])).length) Slot.unset).toArray = ls at hl ⊢
  have hl : lv_has ls 2 [(0, .ref h0), (1, .int p0)] := hl
  refine lv_aload_n hx hb dX8_isFilled_0 rfl (lv_at hl 0 rfl) ?_
  refine va_get (D := (dC, dI)) (ci := 7) (v := .ref sMade) (C := RX8) (T := TX8) (N := 4) hx hb hts uinX8 hown hK hP 0 rfl rfl 3 (by decide) (hts _ wd_1_173) (fun _ h9 => h9) rfl dX8_isFilled_1 ?_
  refine lv_iload_n hx hb dX8_isFilled_4 rfl (lv_at hl 1 rfl) ?_
  refine va_zald hx hb hK hP 1 3 rfl rfl (vp_in_iff.mpr (by omega)) dX8_isFilled_5 ?_
  refine cv_topi (b := 0) (rfl) ?_
  exact W.zret (v := 0) (ty := .boolean) hx hb hr rfl (fun t ht hW => ⟨0, rfl, rfl, ht⟩) (fun q h => by cases h) dX8_isFilled_6

/- X8_filled -/
set_option maxHeartbeats 4000000 in
set_option maxRecDepth 100000 in
theorem c_filled (l : Launch) (dC : Nat → ClassId) (dI : Nat → Nat → Nat) (cyI cyB cyJ cyZ cyH cyN : ClassId) (h0 sNum sLen sWid sMade : Nat) : Met l yX8_filled (wk yX8_filled cX8_filled 3 (some .int)) ({ frames := 1, cells := 0, slots := 0, locals := 60 }) (va_Pc [.ref h0] (fun U => va_P (dC, dI) vwCl [(h0, .inr (7, [.ref sNum, .ref sLen, .ref sWid, .ref sMade])), (sMade, .inl (cyZ, 4, .inl (fun _ => 0)))] U.heap ∧ va_K (dC, dI) vwCl [(cyI, .int), (cyB, .byte), (cyJ, .long), (cyZ, .boolean), (cyH, .object RX2), (cyN, .array .long)] U)) (vp_Si (fun r : Int32 => r = 0)) 0 0 (fun _ => False) := by
  refine Met.ofW (cc := cX8_filled) (maxL := 3) (ret := (some .int)) (by decide) rfl ?_
  intro p e s m args below meth c s₁ B hml hv
  obtain ⟨rfl, hP, hK⟩ := hv
  have hx := B.exec
  have hb := B.bytes
  have hr := B.returns
  have hts : ∀ w ∈ uU, w.before ([.ref h0] : List Value).toArray s = true := fun w h => atoms_spec (ws := wk yX8_filled cX8_filled 3 (some .int)) B.pre w (List.mem_cons_of_mem _ h)
  have hown : s.vm.findClass RX8 = some m.cls := findClass_of_methodNamed B.named
  have hlocks := B.notSynchronized
  have hl := lv_entry ([.ref h0]) (n := 3) (Nat.le_of_ble_eq_true rfl)
  rw [lg_entry_eq]
  generalize (lg_sl ([.ref h0]) ++ List.replicate (3 - (lg_sl ([.ref h0])).length) Slot.unset).toArray = ls at hl ⊢
  have hl : lv_has ls 3 [(0, .ref h0)] := hl
  refine lv_iconst (v := 0) hx hb dX8_filled_0 (by decide) ?_
  refine lv_istore_n (lv' := [(1, .int 0), (0, .ref h0)]) hx hb dX8_filled_1 rfl hl (by decide) rfl (fun ls hl => ?_)
  refine lv_iconst (v := 0) hx hb dX8_filled_2 (by decide) ?_
  refine lv_istore_n (lv' := [(2, .int 0), (1, .int 0), (0, .ref h0)]) hx hb dX8_filled_3 rfl hl (by decide) rfl (fun ls hl => ?_)
  refine lv_iload_n hx hb dX8_filled_4 rfl (lv_at hl 0 rfl) ?_
  refine lv_iconst (v := 4) hx hb dX8_filled_5 (by decide) ?_
  refine lv_icmp_ge (tgt := 27) hx hb dX8_filled_6 (by decide) (fun c_1 => absurd c_1 (by decide)) (fun _ => ?_)
  refine lv_aload_n hx hb dX8_filled_9 rfl (lv_at hl 2 rfl) ?_
  refine va_get (D := (dC, dI)) (ci := 7) (v := .ref sMade) (C := RX8) (T := TX8) (N := 4) hx hb hts uinX8 hown hK hP 0 rfl rfl 3 (by decide) (hts _ wd_1_173) (fun _ h9 => h9) rfl dX8_filled_10 ?_
  refine lv_iload_n hx hb dX8_filled_13 rfl (lv_at hl 0 rfl) ?_
  refine va_zald hx hb hK hP 1 3 rfl rfl (vp_in_iff.mpr (by decide)) dX8_filled_14 ?_
  refine cv_topi (b := 0) (rfl) ?_
  refine lv_if_eq (tgt := 21) hx hb dX8_filled_15 (by decide) (fun _ => ?_) (fun c_2 => absurd c_2 (by decide))
  refine lv_iinc (v := 1) (lv' := [(2, .int 1), (1, .int 0), (0, .ref h0)]) hx hb dX8_filled_21 hl (k := 0) rfl (by decide) (by decide) rfl (fun ls hl => ?_)
  refine lv_goto (tgt := 4) hx hb dX8_filled_24 (by decide) ?_
  refine lv_iload_n hx hb dX8_filled_4 rfl (lv_at hl 0 rfl) ?_
  refine lv_iconst (v := 4) hx hb dX8_filled_5 (by decide) ?_
  refine lv_icmp_ge (tgt := 27) hx hb dX8_filled_6 (by decide) (fun c_3 => absurd c_3 (by decide)) (fun _ => ?_)
  refine lv_aload_n hx hb dX8_filled_9 rfl (lv_at hl 2 rfl) ?_
  refine va_get (D := (dC, dI)) (ci := 7) (v := .ref sMade) (C := RX8) (T := TX8) (N := 4) hx hb hts uinX8 hown hK hP 0 rfl rfl 3 (by decide) (hts _ wd_1_173) (fun _ h9 => h9) rfl dX8_filled_10 ?_
  refine lv_iload_n hx hb dX8_filled_13 rfl (lv_at hl 0 rfl) ?_
  refine va_zald hx hb hK hP 1 3 rfl rfl (vp_in_iff.mpr (by decide)) dX8_filled_14 ?_
  refine cv_topi (b := 0) (rfl) ?_
  refine lv_if_eq (tgt := 21) hx hb dX8_filled_15 (by decide) (fun _ => ?_) (fun c_4 => absurd c_4 (by decide))
  refine lv_iinc (v := 2) (lv' := [(2, .int 2), (1, .int 0), (0, .ref h0)]) hx hb dX8_filled_21 hl (k := 0) rfl (by decide) (by decide) rfl (fun ls hl => ?_)
  refine lv_goto (tgt := 4) hx hb dX8_filled_24 (by decide) ?_
  refine lv_iload_n hx hb dX8_filled_4 rfl (lv_at hl 0 rfl) ?_
  refine lv_iconst (v := 4) hx hb dX8_filled_5 (by decide) ?_
  refine lv_icmp_ge (tgt := 27) hx hb dX8_filled_6 (by decide) (fun c_5 => absurd c_5 (by decide)) (fun _ => ?_)
  refine lv_aload_n hx hb dX8_filled_9 rfl (lv_at hl 2 rfl) ?_
  refine va_get (D := (dC, dI)) (ci := 7) (v := .ref sMade) (C := RX8) (T := TX8) (N := 4) hx hb hts uinX8 hown hK hP 0 rfl rfl 3 (by decide) (hts _ wd_1_173) (fun _ h9 => h9) rfl dX8_filled_10 ?_
  refine lv_iload_n hx hb dX8_filled_13 rfl (lv_at hl 0 rfl) ?_
  refine va_zald hx hb hK hP 1 3 rfl rfl (vp_in_iff.mpr (by decide)) dX8_filled_14 ?_
  refine cv_topi (b := 0) (rfl) ?_
  refine lv_if_eq (tgt := 21) hx hb dX8_filled_15 (by decide) (fun _ => ?_) (fun c_6 => absurd c_6 (by decide))
  refine lv_iinc (v := 3) (lv' := [(2, .int 3), (1, .int 0), (0, .ref h0)]) hx hb dX8_filled_21 hl (k := 0) rfl (by decide) (by decide) rfl (fun ls hl => ?_)
  refine lv_goto (tgt := 4) hx hb dX8_filled_24 (by decide) ?_
  refine lv_iload_n hx hb dX8_filled_4 rfl (lv_at hl 0 rfl) ?_
  refine lv_iconst (v := 4) hx hb dX8_filled_5 (by decide) ?_
  refine lv_icmp_ge (tgt := 27) hx hb dX8_filled_6 (by decide) (fun c_7 => absurd c_7 (by decide)) (fun _ => ?_)
  refine lv_aload_n hx hb dX8_filled_9 rfl (lv_at hl 2 rfl) ?_
  refine va_get (D := (dC, dI)) (ci := 7) (v := .ref sMade) (C := RX8) (T := TX8) (N := 4) hx hb hts uinX8 hown hK hP 0 rfl rfl 3 (by decide) (hts _ wd_1_173) (fun _ h9 => h9) rfl dX8_filled_10 ?_
  refine lv_iload_n hx hb dX8_filled_13 rfl (lv_at hl 0 rfl) ?_
  refine va_zald hx hb hK hP 1 3 rfl rfl (vp_in_iff.mpr (by decide)) dX8_filled_14 ?_
  refine cv_topi (b := 0) (rfl) ?_
  refine lv_if_eq (tgt := 21) hx hb dX8_filled_15 (by decide) (fun _ => ?_) (fun c_8 => absurd c_8 (by decide))
  refine lv_iinc (v := 4) (lv' := [(2, .int 4), (1, .int 0), (0, .ref h0)]) hx hb dX8_filled_21 hl (k := 0) rfl (by decide) (by decide) rfl (fun ls hl => ?_)
  refine lv_goto (tgt := 4) hx hb dX8_filled_24 (by decide) ?_
  refine lv_iload_n hx hb dX8_filled_4 rfl (lv_at hl 0 rfl) ?_
  refine lv_iconst (v := 4) hx hb dX8_filled_5 (by decide) ?_
  refine lv_icmp_ge (tgt := 27) hx hb dX8_filled_6 (by decide) (fun _ => ?_) (fun c_9 => absurd c_9 (by decide))
  refine lv_iload_n hx hb dX8_filled_27 rfl (lv_at hl 1 rfl) ?_
  exact W.iret (v := 0) hx hb hr (fun t ht hW => ⟨0, rfl, rfl, ht⟩) (fun q h => by cases h) dX8_filled_28

/- X8_isSlot -/
set_option maxHeartbeats 4000000 in
set_option maxRecDepth 100000 in
theorem n_isSlot (l : Launch) (dC : Nat → ClassId) (dI : Nat → Nat → Nat) (cyI cyB cyJ cyZ cyH cyN : ClassId) (p0 : Int32) : Met l yX8_isSlot (wk yX8_isSlot cX8_isSlot 1 (some .boolean)) ({ frames := 1, cells := 0, slots := 0, locals := 60 }) (va_Pc [.int p0] (fun _ => True)) (vp_Si (fun r : Int32 => r = (if (0 ≤ p0.toInt ∧ p0.toInt < 4) then 1 else 0))) 0 0 (fun _ => False) := by
  refine Met.ofW (cc := cX8_isSlot) (maxL := 1) (ret := (some .boolean)) (by decide) rfl ?_
  intro p e s m args below meth c s₁ B hml hv
  obtain ⟨rfl, -⟩ := hv
  have hx := B.exec
  have hb := B.bytes
  have hr := B.returns
  have hts : ∀ w ∈ uU, w.before ([.int p0] : List Value).toArray s = true := fun w h => atoms_spec (ws := wk yX8_isSlot cX8_isSlot 1 (some .boolean)) B.pre w (List.mem_cons_of_mem _ h)
  have hown : s.vm.findClass RX8 = some m.cls := findClass_of_methodNamed B.named
  have hlocks := B.notSynchronized
  have hl := lv_entry ([.int p0]) (n := 1) (Nat.le_of_ble_eq_true rfl)
  rw [lg_entry_eq]
  generalize (lg_sl ([.int p0]) ++ List.replicate (1 - (lg_sl ([.int p0])).length) Slot.unset).toArray = ls at hl ⊢
  have hl : lv_has ls 1 [(0, .int p0)] := hl
  obtain ⟨Q9, hQ9⟩ : ∃ Q9 : State → Prop, Q9 = MQ below (vp_Si (fun r : Int32 => r = (if (0 ≤ p0.toInt ∧ p0.toInt < 4) then 1 else 0))) ([.int p0] : List Value).toArray s 0 0 (fun _ => False) := ⟨_, rfl⟩
  rw [← hQ9]
  refine lv_iload_n hx hb dX8_isSlot_0 rfl (lv_at hl 0 rfl) ?_
  refine lv_if_lt (tgt := 13) hx hb dX8_isSlot_1 (by decide) (fun c_1 => ?_) (fun c_1 => ?_)
  · have c_1 : p0.toInt < 0 := cv_lt c_1
    refine lv_iconst (v := 0) hx hb dX8_isSlot_13 (by decide) ?_
    rw [hQ9]
    exact W.zret (v := 0) (ty := .boolean) hx hb hr rfl (fun t ht hW => ⟨0, rfl, (by first | (rw [if_pos (by omega)]; done) | (rw [if_neg (by omega)]; done) | (rw [if_neg (by omega), if_pos (by omega)]; done) | (rw [if_neg (by omega), if_neg (by omega)]; done)), ht⟩) (fun q h => by cases h) dX8_isSlot_14
  · have c_1 : 0 ≤ p0.toInt := cv_nlt c_1
    refine lv_iload_n hx hb dX8_isSlot_4 rfl (lv_at hl 0 rfl) ?_
    refine lv_iconst (v := 4) hx hb dX8_isSlot_5 (by decide) ?_
    refine lv_icmp_ge (tgt := 13) hx hb dX8_isSlot_6 (by decide) (fun c_2 => ?_) (fun c_2 => ?_)
    · have c_2 : 4 ≤ p0.toInt := cv_le c_2
      refine lv_iconst (v := 0) hx hb dX8_isSlot_13 (by decide) ?_
      rw [hQ9]
      exact W.zret (v := 0) (ty := .boolean) hx hb hr rfl (fun t ht hW => ⟨0, rfl, (by first | (rw [if_pos (by omega)]; done) | (rw [if_neg (by omega)]; done) | (rw [if_neg (by omega), if_pos (by omega)]; done) | (rw [if_neg (by omega), if_neg (by omega)]; done)), ht⟩) (fun q h => by cases h) dX8_isSlot_14
    · have c_2 : p0.toInt < 4 := cv_nle c_2
      refine lv_iconst (v := 1) hx hb dX8_isSlot_9 (by decide) ?_
      refine lv_goto (tgt := 14) hx hb dX8_isSlot_10 (by decide) ?_
      rw [hQ9]
      exact W.zret (v := 1) (ty := .boolean) hx hb hr rfl (fun t ht hW => ⟨1, rfl, (by first | (rw [if_pos (by omega)]; done) | (rw [if_neg (by omega)]; done) | (rw [if_neg (by omega), if_pos (by omega)]; done) | (rw [if_neg (by omega), if_neg (by omega)]; done)), ht⟩) (fun q h => by cases h) dX8_isSlot_14

/- X8_isWidth -/
set_option maxHeartbeats 4000000 in
set_option maxRecDepth 100000 in
theorem n_isWidth (l : Launch) (dC : Nat → ClassId) (dI : Nat → Nat → Nat) (cyI cyB cyJ cyZ cyH cyN : ClassId) (p0 : Int32) : Met l yX8_isWidth (wk yX8_isWidth cX8_isWidth 1 (some .boolean)) ({ frames := 1, cells := 0, slots := 0, locals := 60 }) (va_Pc [.int p0] (fun _ => True)) (vp_Si (fun r : Int32 => r = (if (0 ≤ p0.toInt ∧ p0.toInt < 4) then 1 else 0))) 0 0 (fun _ => False) := by
  refine Met.ofW (cc := cX8_isWidth) (maxL := 1) (ret := (some .boolean)) (by decide) rfl ?_
  intro p e s m args below meth c s₁ B hml hv
  obtain ⟨rfl, -⟩ := hv
  have hx := B.exec
  have hb := B.bytes
  have hr := B.returns
  have hts : ∀ w ∈ uU, w.before ([.int p0] : List Value).toArray s = true := fun w h => atoms_spec (ws := wk yX8_isWidth cX8_isWidth 1 (some .boolean)) B.pre w (List.mem_cons_of_mem _ h)
  have hown : s.vm.findClass RX8 = some m.cls := findClass_of_methodNamed B.named
  have hlocks := B.notSynchronized
  have hl := lv_entry ([.int p0]) (n := 1) (Nat.le_of_ble_eq_true rfl)
  rw [lg_entry_eq]
  generalize (lg_sl ([.int p0]) ++ List.replicate (1 - (lg_sl ([.int p0])).length) Slot.unset).toArray = ls at hl ⊢
  have hl : lv_has ls 1 [(0, .int p0)] := hl
  obtain ⟨Q9, hQ9⟩ : ∃ Q9 : State → Prop, Q9 = MQ below (vp_Si (fun r : Int32 => r = (if (0 ≤ p0.toInt ∧ p0.toInt < 4) then 1 else 0))) ([.int p0] : List Value).toArray s 0 0 (fun _ => False) := ⟨_, rfl⟩
  rw [← hQ9]
  refine lv_iload_n hx hb dX8_isWidth_0 rfl (lv_at hl 0 rfl) ?_
  refine lv_if_lt (tgt := 13) hx hb dX8_isWidth_1 (by decide) (fun c_1 => ?_) (fun c_1 => ?_)
  · have c_1 : p0.toInt < 0 := cv_lt c_1
    refine lv_iconst (v := 0) hx hb dX8_isWidth_13 (by decide) ?_
    rw [hQ9]
    exact W.zret (v := 0) (ty := .boolean) hx hb hr rfl (fun t ht hW => ⟨0, rfl, (by first | (rw [if_pos (by omega)]; done) | (rw [if_neg (by omega)]; done) | (rw [if_neg (by omega), if_pos (by omega)]; done) | (rw [if_neg (by omega), if_neg (by omega)]; done)), ht⟩) (fun q h => by cases h) dX8_isWidth_14
  · have c_1 : 0 ≤ p0.toInt := cv_nlt c_1
    refine lv_iload_n hx hb dX8_isWidth_4 rfl (lv_at hl 0 rfl) ?_
    refine lv_iconst (v := 4) hx hb dX8_isWidth_5 (by decide) ?_
    refine lv_icmp_ge (tgt := 13) hx hb dX8_isWidth_6 (by decide) (fun c_2 => ?_) (fun c_2 => ?_)
    · have c_2 : 4 ≤ p0.toInt := cv_le c_2
      refine lv_iconst (v := 0) hx hb dX8_isWidth_13 (by decide) ?_
      rw [hQ9]
      exact W.zret (v := 0) (ty := .boolean) hx hb hr rfl (fun t ht hW => ⟨0, rfl, (by first | (rw [if_pos (by omega)]; done) | (rw [if_neg (by omega)]; done) | (rw [if_neg (by omega), if_pos (by omega)]; done) | (rw [if_neg (by omega), if_neg (by omega)]; done)), ht⟩) (fun q h => by cases h) dX8_isWidth_14
    · have c_2 : p0.toInt < 4 := cv_nle c_2
      refine lv_iconst (v := 1) hx hb dX8_isWidth_9 (by decide) ?_
      refine lv_goto (tgt := 14) hx hb dX8_isWidth_10 (by decide) ?_
      rw [hQ9]
      exact W.zret (v := 1) (ty := .boolean) hx hb hr rfl (fun t ht hW => ⟨1, rfl, (by first | (rw [if_pos (by omega)]; done) | (rw [if_neg (by omega)]; done) | (rw [if_neg (by omega), if_pos (by omega)]; done) | (rw [if_neg (by omega), if_neg (by omega)]; done)), ht⟩) (fun q h => by cases h) dX8_isWidth_14

/- X11_within -/
set_option maxHeartbeats 4000000 in
set_option maxRecDepth 100000 in
theorem n_within (l : Launch) (dC : Nat → ClassId) (dI : Nat → Nat → Nat) (cyI cyB cyJ cyZ cyH cyN : ClassId) (p0 p1 p2 : Int32) : Met l yX11_within (wk yX11_within cX11_within 3 (some .boolean)) ({ frames := 1, cells := 0, slots := 0, locals := 60 }) (va_Pc [.int p0, .int p1, .int p2] (fun _ => True)) (vp_Si (fun r : Int32 => r = (if (p1.toInt ≤ p0.toInt ∧ p0.toInt ≤ p2.toInt) then 1 else 0))) 0 0 (fun _ => False) := by
  refine Met.ofW (cc := cX11_within) (maxL := 3) (ret := (some .boolean)) (by decide) rfl ?_
  intro p e s m args below meth c s₁ B hml hv
  obtain ⟨rfl, -⟩ := hv
  have hx := B.exec
  have hb := B.bytes
  have hr := B.returns
  have hts : ∀ w ∈ uU, w.before ([.int p0, .int p1, .int p2] : List Value).toArray s = true := fun w h => atoms_spec (ws := wk yX11_within cX11_within 3 (some .boolean)) B.pre w (List.mem_cons_of_mem _ h)
  have hown : s.vm.findClass RX11 = some m.cls := findClass_of_methodNamed B.named
  have hlocks := B.notSynchronized
  have hl := lv_entry ([.int p0, .int p1, .int p2]) (n := 3) (Nat.le_of_ble_eq_true rfl)
  rw [lg_entry_eq]
  generalize (lg_sl ([.int p0, .int p1, .int p2]) ++ List.replicate (3 - (lg_sl ([.int p0, .int p1, .int p2])).length) Slot.unset).toArray = ls at hl ⊢
  have hl : lv_has ls 3 [(0, .int p0), (1, .int p1), (2, .int p2)] := hl
  obtain ⟨Q9, hQ9⟩ : ∃ Q9 : State → Prop, Q9 = MQ below (vp_Si (fun r : Int32 => r = (if (p1.toInt ≤ p0.toInt ∧ p0.toInt ≤ p2.toInt) then 1 else 0))) ([.int p0, .int p1, .int p2] : List Value).toArray s 0 0 (fun _ => False) := ⟨_, rfl⟩
  rw [← hQ9]
  refine lv_iload_n hx hb dX11_within_0 rfl (lv_at hl 0 rfl) ?_
  refine lv_iload_n hx hb dX11_within_1 rfl (lv_at hl 1 rfl) ?_
  refine lv_icmp_lt (tgt := 14) hx hb dX11_within_2 (by decide) (fun c_1 => ?_) (fun c_1 => ?_)
  · have c_1 : p0.toInt < p1.toInt := cv_lt c_1
    refine lv_iconst (v := 0) hx hb dX11_within_14 (by decide) ?_
    rw [hQ9]
    exact W.zret (v := 0) (ty := .boolean) hx hb hr rfl (fun t ht hW => ⟨0, rfl, (by first | (rw [if_pos (by omega)]; done) | (rw [if_neg (by omega)]; done) | (rw [if_neg (by omega), if_pos (by omega)]; done) | (rw [if_neg (by omega), if_neg (by omega)]; done)), ht⟩) (fun q h => by cases h) dX11_within_15
  · have c_1 : p1.toInt ≤ p0.toInt := cv_nlt c_1
    refine lv_iload_n hx hb dX11_within_5 rfl (lv_at hl 0 rfl) ?_
    refine lv_iload_n hx hb dX11_within_6 rfl (lv_at hl 2 rfl) ?_
    refine lv_icmp_gt (tgt := 14) hx hb dX11_within_7 (by decide) (fun c_2 => ?_) (fun c_2 => ?_)
    · have c_2 : p2.toInt < p0.toInt := cv_lt c_2
      refine lv_iconst (v := 0) hx hb dX11_within_14 (by decide) ?_
      rw [hQ9]
      exact W.zret (v := 0) (ty := .boolean) hx hb hr rfl (fun t ht hW => ⟨0, rfl, (by first | (rw [if_pos (by omega)]; done) | (rw [if_neg (by omega)]; done) | (rw [if_neg (by omega), if_pos (by omega)]; done) | (rw [if_neg (by omega), if_neg (by omega)]; done)), ht⟩) (fun q h => by cases h) dX11_within_15
    · have c_2 : p0.toInt ≤ p2.toInt := cv_nlt c_2
      refine lv_iconst (v := 1) hx hb dX11_within_10 (by decide) ?_
      refine lv_goto (tgt := 15) hx hb dX11_within_11 (by decide) ?_
      rw [hQ9]
      exact W.zret (v := 1) (ty := .boolean) hx hb hr rfl (fun t ht hW => ⟨1, rfl, (by first | (rw [if_pos (by omega)]; done) | (rw [if_neg (by omega)]; done) | (rw [if_neg (by omega), if_pos (by omega)]; done) | (rw [if_neg (by omega), if_neg (by omega)]; done)), ht⟩) (fun q h => by cases h) dX11_within_15

/- X10_isLetter -/
set_option maxHeartbeats 4000000 in
set_option maxRecDepth 100000 in
theorem n_isLetter (l : Launch) (dC : Nat → ClassId) (dI : Nat → Nat → Nat) (cyI cyB cyJ cyZ cyH cyN : ClassId) (p0 : Int32) : Met l yX10_isLetter (wk yX10_isLetter cX10_isLetter 1 (some .boolean)) ({ frames := 1, cells := 0, slots := 0, locals := 60 }) (va_Pc [.int p0] (fun _ => True)) (vp_Si (fun r : Int32 => r = (if (97 ≤ p0.toInt ∧ p0.toInt ≤ 122) then 1 else 0))) 0 0 (fun _ => False) := by
  refine Met.ofW (cc := cX10_isLetter) (maxL := 1) (ret := (some .boolean)) (by decide) rfl ?_
  intro p e s m args below meth c s₁ B hml hv
  obtain ⟨rfl, -⟩ := hv
  have hx := B.exec
  have hb := B.bytes
  have hr := B.returns
  have hts : ∀ w ∈ uU, w.before ([.int p0] : List Value).toArray s = true := fun w h => atoms_spec (ws := wk yX10_isLetter cX10_isLetter 1 (some .boolean)) B.pre w (List.mem_cons_of_mem _ h)
  have hown : s.vm.findClass RX10 = some m.cls := findClass_of_methodNamed B.named
  have hlocks := B.notSynchronized
  have hl := lv_entry ([.int p0]) (n := 1) (Nat.le_of_ble_eq_true rfl)
  rw [lg_entry_eq]
  generalize (lg_sl ([.int p0]) ++ List.replicate (1 - (lg_sl ([.int p0])).length) Slot.unset).toArray = ls at hl ⊢
  have hl : lv_has ls 1 [(0, .int p0)] := hl
  obtain ⟨Q9, hQ9⟩ : ∃ Q9 : State → Prop, Q9 = MQ below (vp_Si (fun r : Int32 => r = (if (97 ≤ p0.toInt ∧ p0.toInt ≤ 122) then 1 else 0))) ([.int p0] : List Value).toArray s 0 0 (fun _ => False) := ⟨_, rfl⟩
  rw [← hQ9]
  refine lv_iload_n hx hb dX10_isLetter_0 rfl (lv_at hl 0 rfl) ?_
  refine lv_bipush (v := 97) hx hb dX10_isLetter_1 (by decide) ?_
  refine lv_icmp_lt (tgt := 16) hx hb dX10_isLetter_3 (by decide) (fun c_1 => ?_) (fun c_1 => ?_)
  · have c_1 : p0.toInt < 97 := cv_lt c_1
    refine lv_iconst (v := 0) hx hb dX10_isLetter_16 (by decide) ?_
    rw [hQ9]
    exact W.zret (v := 0) (ty := .boolean) hx hb hr rfl (fun t ht hW => ⟨0, rfl, (by first | (rw [if_pos (by omega)]; done) | (rw [if_neg (by omega)]; done) | (rw [if_neg (by omega), if_pos (by omega)]; done) | (rw [if_neg (by omega), if_neg (by omega)]; done)), ht⟩) (fun q h => by cases h) dX10_isLetter_17
  · have c_1 : 97 ≤ p0.toInt := cv_nlt c_1
    refine lv_iload_n hx hb dX10_isLetter_6 rfl (lv_at hl 0 rfl) ?_
    refine lv_bipush (v := 122) hx hb dX10_isLetter_7 (by decide) ?_
    refine lv_icmp_gt (tgt := 16) hx hb dX10_isLetter_9 (by decide) (fun c_2 => ?_) (fun c_2 => ?_)
    · have c_2 : 122 < p0.toInt := cv_lt c_2
      refine lv_iconst (v := 0) hx hb dX10_isLetter_16 (by decide) ?_
      rw [hQ9]
      exact W.zret (v := 0) (ty := .boolean) hx hb hr rfl (fun t ht hW => ⟨0, rfl, (by first | (rw [if_pos (by omega)]; done) | (rw [if_neg (by omega)]; done) | (rw [if_neg (by omega), if_pos (by omega)]; done) | (rw [if_neg (by omega), if_neg (by omega)]; done)), ht⟩) (fun q h => by cases h) dX10_isLetter_17
    · have c_2 : p0.toInt ≤ 122 := cv_nlt c_2
      refine lv_iconst (v := 1) hx hb dX10_isLetter_12 (by decide) ?_
      refine lv_goto (tgt := 17) hx hb dX10_isLetter_13 (by decide) ?_
      rw [hQ9]
      exact W.zret (v := 1) (ty := .boolean) hx hb hr rfl (fun t ht hW => ⟨1, rfl, (by first | (rw [if_pos (by omega)]; done) | (rw [if_neg (by omega)]; done) | (rw [if_neg (by omega), if_pos (by omega)]; done) | (rw [if_neg (by omega), if_neg (by omega)]; done)), ht⟩) (fun q h => by cases h) dX10_isLetter_17

/- X10_isDigit -/
set_option maxHeartbeats 4000000 in
set_option maxRecDepth 100000 in
theorem n_isDigit (l : Launch) (dC : Nat → ClassId) (dI : Nat → Nat → Nat) (cyI cyB cyJ cyZ cyH cyN : ClassId) (p0 : Int32) : Met l yX10_isDigit (wk yX10_isDigit cX10_isDigit 1 (some .boolean)) ({ frames := 1, cells := 0, slots := 0, locals := 60 }) (va_Pc [.int p0] (fun _ => True)) (vp_Si (fun r : Int32 => r = (if (48 ≤ p0.toInt ∧ p0.toInt ≤ 57) then 1 else 0))) 0 0 (fun _ => False) := by
  refine Met.ofW (cc := cX10_isDigit) (maxL := 1) (ret := (some .boolean)) (by decide) rfl ?_
  intro p e s m args below meth c s₁ B hml hv
  obtain ⟨rfl, -⟩ := hv
  have hx := B.exec
  have hb := B.bytes
  have hr := B.returns
  have hts : ∀ w ∈ uU, w.before ([.int p0] : List Value).toArray s = true := fun w h => atoms_spec (ws := wk yX10_isDigit cX10_isDigit 1 (some .boolean)) B.pre w (List.mem_cons_of_mem _ h)
  have hown : s.vm.findClass RX10 = some m.cls := findClass_of_methodNamed B.named
  have hlocks := B.notSynchronized
  have hl := lv_entry ([.int p0]) (n := 1) (Nat.le_of_ble_eq_true rfl)
  rw [lg_entry_eq]
  generalize (lg_sl ([.int p0]) ++ List.replicate (1 - (lg_sl ([.int p0])).length) Slot.unset).toArray = ls at hl ⊢
  have hl : lv_has ls 1 [(0, .int p0)] := hl
  obtain ⟨Q9, hQ9⟩ : ∃ Q9 : State → Prop, Q9 = MQ below (vp_Si (fun r : Int32 => r = (if (48 ≤ p0.toInt ∧ p0.toInt ≤ 57) then 1 else 0))) ([.int p0] : List Value).toArray s 0 0 (fun _ => False) := ⟨_, rfl⟩
  rw [← hQ9]
  refine lv_iload_n hx hb dX10_isDigit_0 rfl (lv_at hl 0 rfl) ?_
  refine lv_bipush (v := 48) hx hb dX10_isDigit_1 (by decide) ?_
  refine lv_icmp_lt (tgt := 16) hx hb dX10_isDigit_3 (by decide) (fun c_1 => ?_) (fun c_1 => ?_)
  · have c_1 : p0.toInt < 48 := cv_lt c_1
    refine lv_iconst (v := 0) hx hb dX10_isDigit_16 (by decide) ?_
    rw [hQ9]
    exact W.zret (v := 0) (ty := .boolean) hx hb hr rfl (fun t ht hW => ⟨0, rfl, (by first | (rw [if_pos (by omega)]; done) | (rw [if_neg (by omega)]; done) | (rw [if_neg (by omega), if_pos (by omega)]; done) | (rw [if_neg (by omega), if_neg (by omega)]; done)), ht⟩) (fun q h => by cases h) dX10_isDigit_17
  · have c_1 : 48 ≤ p0.toInt := cv_nlt c_1
    refine lv_iload_n hx hb dX10_isDigit_6 rfl (lv_at hl 0 rfl) ?_
    refine lv_bipush (v := 57) hx hb dX10_isDigit_7 (by decide) ?_
    refine lv_icmp_gt (tgt := 16) hx hb dX10_isDigit_9 (by decide) (fun c_2 => ?_) (fun c_2 => ?_)
    · have c_2 : 57 < p0.toInt := cv_lt c_2
      refine lv_iconst (v := 0) hx hb dX10_isDigit_16 (by decide) ?_
      rw [hQ9]
      exact W.zret (v := 0) (ty := .boolean) hx hb hr rfl (fun t ht hW => ⟨0, rfl, (by first | (rw [if_pos (by omega)]; done) | (rw [if_neg (by omega)]; done) | (rw [if_neg (by omega), if_pos (by omega)]; done) | (rw [if_neg (by omega), if_neg (by omega)]; done)), ht⟩) (fun q h => by cases h) dX10_isDigit_17
    · have c_2 : p0.toInt ≤ 57 := cv_nlt c_2
      refine lv_iconst (v := 1) hx hb dX10_isDigit_12 (by decide) ?_
      refine lv_goto (tgt := 17) hx hb dX10_isDigit_13 (by decide) ?_
      rw [hQ9]
      exact W.zret (v := 1) (ty := .boolean) hx hb hr rfl (fun t ht hW => ⟨1, rfl, (by first | (rw [if_pos (by omega)]; done) | (rw [if_neg (by omega)]; done) | (rw [if_neg (by omega), if_pos (by omega)]; done) | (rw [if_neg (by omega), if_neg (by omega)]; done)), ht⟩) (fun q h => by cases h) dX10_isDigit_17

/- X10_isBlank -/
set_option maxHeartbeats 4000000 in
set_option maxRecDepth 100000 in
theorem n_isBlank (l : Launch) (dC : Nat → ClassId) (dI : Nat → Nat → Nat) (cyI cyB cyJ cyZ cyH cyN : ClassId) (p0 : Int32) : Met l yX10_isBlank (wk yX10_isBlank cX10_isBlank 1 (some .boolean)) ({ frames := 1, cells := 0, slots := 0, locals := 60 }) (va_Pc [.int p0] (fun _ => True)) (vp_Si (fun r : Int32 => 0 ≤ r.toInt ∧ r.toInt ≤ 1)) 0 0 (fun _ => False) := by
  refine Met.ofW (cc := cX10_isBlank) (maxL := 1) (ret := (some .boolean)) (by decide) rfl ?_
  intro p e s m args below meth c s₁ B hml hv
  obtain ⟨rfl, -⟩ := hv
  have hx := B.exec
  have hb := B.bytes
  have hr := B.returns
  have hts : ∀ w ∈ uU, w.before ([.int p0] : List Value).toArray s = true := fun w h => atoms_spec (ws := wk yX10_isBlank cX10_isBlank 1 (some .boolean)) B.pre w (List.mem_cons_of_mem _ h)
  have hown : s.vm.findClass RX10 = some m.cls := findClass_of_methodNamed B.named
  have hlocks := B.notSynchronized
  have hl := lv_entry ([.int p0]) (n := 1) (Nat.le_of_ble_eq_true rfl)
  rw [lg_entry_eq]
  generalize (lg_sl ([.int p0]) ++ List.replicate (1 - (lg_sl ([.int p0])).length) Slot.unset).toArray = ls at hl ⊢
  have hl : lv_has ls 1 [(0, .int p0)] := hl
  obtain ⟨Q9, hQ9⟩ : ∃ Q9 : State → Prop, Q9 = MQ below (vp_Si (fun r : Int32 => 0 ≤ r.toInt ∧ r.toInt ≤ 1)) ([.int p0] : List Value).toArray s 0 0 (fun _ => False) := ⟨_, rfl⟩
  rw [← hQ9]
  refine lv_iload_n hx hb dX10_isBlank_0 rfl (lv_at hl 0 rfl) ?_
  refine lv_bipush (v := 32) hx hb dX10_isBlank_1 (by decide) ?_
  have join_2 : ∀ (u_1 : Int32) (ls : Array Slot), (0 ≤ u_1.toInt ∧ u_1.toInt ≤ 1) → lv_has ls 1 [(0, .int p0)] → W p l e ({ frames := 1, cells := 0, slots := 0, locals := 60 }) s m ([.int p0] : List Value).toArray below meth c s.heap [] 0 0 Q9 (F0 m 17 ls [.int u_1]) := by
    intro u_1 ls hu_1 hl
    rw [hQ9]
    exact W.zret (v := u_1) (ty := .boolean) hx hb hr (cv_nz (by omega) (by omega)) (fun t ht hW => ⟨u_1, rfl, (by omega), ht⟩) (fun q h => by cases h) dX10_isBlank_17
  refine lv_icmp_eq (tgt := 12) hx hb dX10_isBlank_3 (by decide) (fun c_3 => ?_) (fun c_3 => ?_)
  · have c_3 : p0.toInt = 32 := cv_eq c_3
    refine lv_iconst (v := 1) hx hb dX10_isBlank_12 (by decide) ?_
    refine lv_goto (tgt := 17) hx hb dX10_isBlank_13 (by decide) ?_
    exact join_2 1 _ (by decide) (lv_sub hl [0] rfl)
  · have c_3 : p0.toInt ≠ 32 := cv_ne c_3
    refine lv_iload_n hx hb dX10_isBlank_6 rfl (lv_at hl 0 rfl) ?_
    refine lv_bipush (v := 10) hx hb dX10_isBlank_7 (by decide) ?_
    refine lv_icmp_ne (tgt := 16) hx hb dX10_isBlank_9 (by decide) (fun c_4 => ?_) (fun c_4 => ?_)
    · have c_4 : p0.toInt ≠ 10 := cv_ne c_4
      refine lv_iconst (v := 0) hx hb dX10_isBlank_16 (by decide) ?_
      exact join_2 0 _ (by decide) (lv_sub hl [0] rfl)
    · have c_4 : p0.toInt = 10 := cv_eq c_4
      refine lv_iconst (v := 1) hx hb dX10_isBlank_12 (by decide) ?_
      refine lv_goto (tgt := 17) hx hb dX10_isBlank_13 (by decide) ?_
      exact join_2 1 _ (by decide) (lv_sub hl [0] rfl)

/- X7_headIn -/
set_option maxHeartbeats 4000000 in
set_option maxRecDepth 100000 in
theorem n_headIn (l : Launch) (dC : Nat → ClassId) (dI : Nat → Nat → Nat) (cyI cyB cyJ cyZ cyH cyN : ClassId) (p0 p1 : Int32) : Met l yX7_headIn (wk yX7_headIn cX7_headIn 2 (some .int)) ({ frames := 1, cells := 0, slots := 0, locals := 60 }) (va_Pc [.int p0, .int p1] (fun _ => True)) (vp_Si (fun r : Int32 => 0 ≤ r.toInt ∧ r.toInt ≤ 7)) 0 0 (fun _ => False) := by
  refine Met.ofW (cc := cX7_headIn) (maxL := 2) (ret := (some .int)) (by decide) rfl ?_
  intro p e s m args below meth c s₁ B hml hv
  obtain ⟨rfl, -⟩ := hv
  have hx := B.exec
  have hb := B.bytes
  have hr := B.returns
  have hts : ∀ w ∈ uU, w.before ([.int p0, .int p1] : List Value).toArray s = true := fun w h => atoms_spec (ws := wk yX7_headIn cX7_headIn 2 (some .int)) B.pre w (List.mem_cons_of_mem _ h)
  have hown : s.vm.findClass RX7 = some m.cls := findClass_of_methodNamed B.named
  have hlocks := B.notSynchronized
  have hl := lv_entry ([.int p0, .int p1]) (n := 2) (Nat.le_of_ble_eq_true rfl)
  rw [lg_entry_eq]
  generalize (lg_sl ([.int p0, .int p1]) ++ List.replicate (2 - (lg_sl ([.int p0, .int p1])).length) Slot.unset).toArray = ls at hl ⊢
  have hl : lv_has ls 2 [(0, .int p0), (1, .int p1)] := hl
  obtain ⟨Q9, hQ9⟩ : ∃ Q9 : State → Prop, Q9 = MQ below (vp_Si (fun r : Int32 => 0 ≤ r.toInt ∧ r.toInt ≤ 7)) ([.int p0, .int p1] : List Value).toArray s 0 0 (fun _ => False) := ⟨_, rfl⟩
  rw [← hQ9]
  refine lv_iload_n hx hb dX7_headIn_0 rfl (lv_at hl 0 rfl) ?_
  refine lv_iconst (v := 3) hx hb dX7_headIn_1 (by decide) ?_
  refine lv_iload_n hx hb dX7_headIn_2 rfl (lv_at hl 1 rfl) ?_
  refine lv_imul hx hb dX7_headIn_3 ?_
  refine lv_topi (fun x_1 ex_1 => ?_)
  refine lv_ishr hx hb dX7_headIn_4 ?_
  refine lv_topi (fun x_2 ex_2 => ?_)
  refine lv_bipush (v := 7) hx hb dX7_headIn_5 (by decide) ?_
  refine lv_iand hx hb dX7_headIn_7 ?_
  refine lv_topi (fun x_3 ex_3 => ?_)
  have fx_3 : 0 ≤ x_3.toInt ∧ x_3.toInt ≤ 7 := by rw [ex_3]; exact cv_andR (by decide) (by decide)
  rw [hQ9]
  exact W.iret (v := x_3) hx hb hr (fun t ht hW => ⟨x_3, rfl, (by omega), ht⟩) (fun q h => by cases h) dX7_headIn_8

/- X3_commonDivisor -/
set_option maxHeartbeats 4000000 in
set_option maxRecDepth 100000 in
theorem n_commonDivisor (l : Launch) (dC : Nat → ClassId) (dI : Nat → Nat → Nat) (cyI cyB cyJ cyZ cyH cyN : ClassId) (p0 p1 : Int64) : Met l yX3_commonDivisor (wk yX3_commonDivisor cX3_commonDivisor 11 (some .long)) ({ frames := 1, cells := 0, slots := 0, locals := 60 }) (va_Pc [.long p0, .long p1] (fun _ => True)) (vp_Sl (fun r : Int64 => True)) 0 0 (fun _ => False) := by
  refine Met.ofW (cc := cX3_commonDivisor) (maxL := 11) (ret := (some .long)) (by decide) rfl ?_
  intro p e s m args below meth c s₁ B hml hv
  obtain ⟨rfl, -⟩ := hv
  have hx := B.exec
  have hb := B.bytes
  have hr := B.returns
  have hts : ∀ w ∈ uU, w.before ([.long p0, .long p1] : List Value).toArray s = true := fun w h => atoms_spec (ws := wk yX3_commonDivisor cX3_commonDivisor 11 (some .long)) B.pre w (List.mem_cons_of_mem _ h)
  have hown : s.vm.findClass RX3 = some m.cls := findClass_of_methodNamed B.named
  have hlocks := B.notSynchronized
  have hl := lv_entry ([.long p0, .long p1]) (n := 11) (Nat.le_of_ble_eq_true rfl)
  rw [lg_entry_eq]
  generalize (lg_sl ([.long p0, .long p1]) ++ List.replicate (11 - (lg_sl ([.long p0, .long p1])).length) Slot.unset).toArray = ls at hl ⊢
  have hl : lv_has ls 11 [(0, .long p0), (2, .long p1)] := hl
  obtain ⟨Q9, hQ9⟩ : ∃ Q9 : State → Prop, Q9 = MQ below (vp_Sl (fun r : Int64 => True)) ([.long p0, .long p1] : List Value).toArray s 0 0 (fun _ => False) := ⟨_, rfl⟩
  rw [← hQ9]
  refine lv_lload_n hx hb dX3_commonDivisor_0 rfl (lv_at hl 0 rfl) ?_
  refine lv_lstore (lv' := [(4, .long p0), (0, .long p0), (2, .long p1)]) hx hb dX3_commonDivisor_1 hl (by decide) rfl (fun ls hl => ?_)
  refine lv_lload_n hx hb dX3_commonDivisor_3 rfl (lv_at hl 2 rfl) ?_
  refine lv_lstore (lv' := [(6, .long p1), (4, .long p0), (0, .long p0), (2, .long p1)]) hx hb dX3_commonDivisor_4 hl (by decide) rfl (fun ls hl => ?_)
  refine lv_iconst (v := 0) hx hb dX3_commonDivisor_6 (by decide) ?_
  refine lv_istore (lv' := [(8, .int 0), (6, .long p1), (4, .long p0), (0, .long p0), (2, .long p1)]) hx hb dX3_commonDivisor_7 hl (by decide) rfl (fun ls hl => ?_)
  have key_4 : ∀ (nkey_4 : Nat) (u_1 : Int32) (u_2 : Int64) (u_3 : Int64) (ls : Array Slot), (0 ≤ u_1.toInt ∧ u_1.toInt ≤ 255) → lv_has ls 11 [(8, .int u_1), (6, .long u_2), (4, .long u_3), (0, .long p0), (2, .long p1)] → (200 - u_1.toInt).toNat < nkey_4 → W p l e ({ frames := 1, cells := 0, slots := 0, locals := 60 }) s m ([.long p0, .long p1] : List Value).toArray below meth c s.heap [] 0 0 Q9 (F0 m 9 ls []) := by
    intro nkey_4
    induction nkey_4 with
    | zero => intro u_1 u_2 u_3 ls hu_1 hl hnkey_4; exact absurd hnkey_4 (Nat.not_lt_zero _)
    | succ nkey_4 ihkey_4 =>
      intro u_1 u_2 u_3 ls hu_1 hl hnkey_4
      refine lv_iload hx hb dX3_commonDivisor_9 (lv_at hl 0 rfl) ?_
      refine lv_sipush (v := 200) hx hb dX3_commonDivisor_11 (by decide) ?_
      have join_5 : ∀ (ls : Array Slot), lv_has ls 11 [(8, .int u_1), (6, .long u_2), (4, .long u_3), (0, .long p0), (2, .long p1)] → W p l e ({ frames := 1, cells := 0, slots := 0, locals := 60 }) s m ([.long p0, .long p1] : List Value).toArray below meth c s.heap [] 0 0 Q9 (F0 m 45 ls []) := by
        intro ls hl
        refine lv_lload hx hb dX3_commonDivisor_45 (lv_at hl 2 rfl) ?_
        rw [hQ9]
        exact W.lret (v := u_3) hx hb hr (fun t ht hW => ⟨u_3, rfl, trivial, ht⟩) (fun q h => by cases h) dX3_commonDivisor_47
      refine lv_icmp_ge (tgt := 45) hx hb dX3_commonDivisor_14 (by decide) (fun c_6 => ?_) (fun c_6 => ?_)
      · have c_6 : 200 ≤ u_1.toInt := cv_le c_6
        exact join_5 _ (lv_sub hl [0, 1, 2, 3, 4] rfl)
      · have c_6 : u_1.toInt < 200 := cv_nle c_6
        refine lv_lload hx hb dX3_commonDivisor_17 (lv_at hl 1 rfl) ?_
        refine lv_lconst (v := 0) hx hb dX3_commonDivisor_19 (by decide) ?_
        refine W.lcmp hx hb dX3_commonDivisor_20 ?_
        refine lv_if_eq (tgt := 45) hx hb dX3_commonDivisor_21 (by decide) (fun c_7 => ?_) (fun c_7 => ?_)
        · have c_7 : u_2.toInt = 0 := cv_ceq c_7
          exact join_5 _ (lv_sub hl [0, 1, 2, 3, 4] rfl)
        · have c_7 : u_2.toInt ≠ 0 := cv_cne c_7
          refine lv_lload hx hb dX3_commonDivisor_24 (lv_at hl 2 rfl) ?_
          refine lv_lload hx hb dX3_commonDivisor_26 (lv_at hl 1 rfl) ?_
          refine lv_lrem hx hb dX3_commonDivisor_28 (fun q => by have := congrArg Int64.toInt q; have h0 : (0 : Int64).toInt = 0 := rfl; omega) ?_
          refine lv_topl (fun y_8 ey_8 => ?_)
          refine lv_lstore (lv' := [(9, .long y_8), (8, .int u_1), (6, .long u_2), (4, .long u_3), (0, .long p0), (2, .long p1)]) hx hb dX3_commonDivisor_29 hl (by decide) rfl (fun ls hl => ?_)
          refine lv_lload hx hb dX3_commonDivisor_31 (lv_at hl 2 rfl) ?_
          refine lv_lstore (lv' := [(4, .long u_2), (9, .long y_8), (8, .int u_1), (6, .long u_2), (0, .long p0), (2, .long p1)]) hx hb dX3_commonDivisor_33 hl (by decide) rfl (fun ls hl => ?_)
          refine lv_lload hx hb dX3_commonDivisor_35 (lv_at hl 1 rfl) ?_
          refine lv_lstore (lv' := [(6, .long y_8), (4, .long u_2), (9, .long y_8), (8, .int u_1), (0, .long p0), (2, .long p1)]) hx hb dX3_commonDivisor_37 hl (by decide) rfl (fun ls hl => ?_)
          obtain ⟨x_9, ex_9⟩ : ∃ y : Int32, y = u_1 + 1 := ⟨_, rfl⟩
          refine lv_iinc (v := x_9) (lv' := [(8, .int x_9), (6, .long y_8), (4, .long u_2), (9, .long y_8), (0, .long p0), (2, .long p1)]) hx hb dX3_commonDivisor_39 hl (k := 3) rfl (by rw [ex_9]; rfl) (by decide) rfl (fun ls hl => ?_)
          have fx_9 : x_9.toInt = u_1.toInt + 1 := by rw [ex_9]; exact cv_addI (by have : (1 : Int32).toInt = 1 := rfl; omega) (by have : (1 : Int32).toInt = 1 := rfl; omega)
          refine lv_goto (tgt := 9) hx hb dX3_commonDivisor_42 (by decide) ?_
          exact ihkey_4 x_9 y_8 u_2 _ (by omega) (lv_sub hl [0, 1, 2, 4, 5] rfl) (by omega)
  exact key_4 _ 0 p1 p0 _ (by decide) (lv_sub hl [0, 1, 2, 3, 4] rfl) (Nat.lt_succ_self _)

/- X3_placeDrawn -/
set_option maxHeartbeats 4000000 in
set_option maxRecDepth 100000 in
theorem n_placeDrawn (l : Launch) (dC : Nat → ClassId) (dI : Nat → Nat → Nat) (cyI cyB cyJ cyZ cyH cyN : ClassId) (p0 p1 p2 p3 : Int32) (g0 : 0 ≤ p3.toInt ∧ p3.toInt ≤ 7) (g1 : 0 ≤ p1.toInt ∧ p1.toInt ≤ 60) : Met l yX3_placeDrawn (wk yX3_placeDrawn cX3_placeDrawn 10 (some .int)) ({ frames := 1, cells := 0, slots := 0, locals := 60 }) (va_Pc [.int p0, .int p1, .int p2, .int p3] (fun _ => True)) (vp_Si (fun r : Int32 => True)) 0 0 (fun _ => False) := by
  refine Met.ofW (cc := cX3_placeDrawn) (maxL := 10) (ret := (some .int)) (by decide) rfl ?_
  intro p e s m args below meth c s₁ B hml hv
  obtain ⟨rfl, -⟩ := hv
  have hx := B.exec
  have hb := B.bytes
  have hr := B.returns
  have hts : ∀ w ∈ uU, w.before ([.int p0, .int p1, .int p2, .int p3] : List Value).toArray s = true := fun w h => atoms_spec (ws := wk yX3_placeDrawn cX3_placeDrawn 10 (some .int)) B.pre w (List.mem_cons_of_mem _ h)
  have hown : s.vm.findClass RX3 = some m.cls := findClass_of_methodNamed B.named
  have hlocks := B.notSynchronized
  have hl := lv_entry ([.int p0, .int p1, .int p2, .int p3]) (n := 10) (Nat.le_of_ble_eq_true rfl)
  rw [lg_entry_eq]
  generalize (lg_sl ([.int p0, .int p1, .int p2, .int p3]) ++ List.replicate (10 - (lg_sl ([.int p0, .int p1, .int p2, .int p3])).length) Slot.unset).toArray = ls at hl ⊢
  have hl : lv_has ls 10 [(0, .int p0), (1, .int p1), (2, .int p2), (3, .int p3)] := hl
  obtain ⟨Q9, hQ9⟩ : ∃ Q9 : State → Prop, Q9 = MQ below (vp_Si (fun r : Int32 => True)) ([.int p0, .int p1, .int p2, .int p3] : List Value).toArray s 0 0 (fun _ => False) := ⟨_, rfl⟩
  rw [← hQ9]
  refine lv_iload_n hx hb dX3_placeDrawn_0 rfl (lv_at hl 3 rfl) ?_
  refine lv_iconst (v := 1) hx hb dX3_placeDrawn_1 (by decide) ?_
  refine lv_isub hx hb dX3_placeDrawn_2 ?_
  refine lv_topi (fun x_1 ex_1 => ?_)
  have fx_1 : x_1.toInt = p3.toInt - 1 := by rw [ex_1]; exact cv_subI (by have : (1 : Int32).toInt = 1 := rfl; omega) (by have : (1 : Int32).toInt = 1 := rfl; omega)
  refine lv_istore (lv' := [(4, .int x_1), (0, .int p0), (1, .int p1), (2, .int p2), (3, .int p3)]) hx hb dX3_placeDrawn_3 hl (by decide) rfl (fun ls hl => ?_)
  refine lv_iload_n hx hb dX3_placeDrawn_5 rfl (lv_at hl 3 rfl) ?_
  refine lv_istore (lv' := [(5, .int p2), (4, .int x_1), (0, .int p0), (1, .int p1), (2, .int p2), (3, .int p3)]) hx hb dX3_placeDrawn_6 hl (by decide) rfl (fun ls hl => ?_)
  refine lv_iload_n hx hb dX3_placeDrawn_8 rfl (lv_at hl 2 rfl) ?_
  obtain ⟨y_2, ey_2⟩ : ∃ z : Int64, z = p0.toInt64 := ⟨_, rfl⟩
  have fy_2 : y_2.toInt = p0.toInt := by rw [ey_2]; exact Int32.toInt_toInt64 _
  refine lv_i2l (v := y_2) hx hb dX3_placeDrawn_9 ey_2.symm ?_
  refine lv_lstore (lv' := [(6, .long y_2), (5, .int p2), (4, .int x_1), (0, .int p0), (1, .int p1), (2, .int p2), (3, .int p3)]) hx hb dX3_placeDrawn_10 hl (by decide) rfl (fun ls hl => ?_)
  refine lv_iconst (v := 0) hx hb dX3_placeDrawn_12 (by decide) ?_
  refine lv_istore (lv' := [(8, .int 0), (6, .long y_2), (5, .int p2), (4, .int x_1), (0, .int p0), (1, .int p1), (2, .int p2), (3, .int p3)]) hx hb dX3_placeDrawn_13 hl (by decide) rfl (fun ls hl => ?_)
  have key_6 : ∀ (nkey_6 : Nat) (u_3 : Int32) (u_4 : Int64) (u_5 : Int32) (ls : Array Slot), (0 ≤ u_3.toInt ∧ u_3.toInt ≤ 60) → lv_has ls 10 [(8, .int u_3), (6, .long u_4), (5, .int u_5), (4, .int x_1), (0, .int p0), (1, .int p1), (2, .int p2), (3, .int p3)] → (p1.toInt - u_3.toInt).toNat < nkey_6 → W p l e ({ frames := 1, cells := 0, slots := 0, locals := 60 }) s m ([.int p0, .int p1, .int p2, .int p3] : List Value).toArray below meth c s.heap [] 0 0 Q9 (F0 m 15 ls []) := by
    intro nkey_6
    induction nkey_6 with
    | zero => intro u_3 u_4 u_5 ls hu_3 hl hnkey_6; exact absurd hnkey_6 (Nat.not_lt_zero _)
    | succ nkey_6 ihkey_6 =>
      intro u_3 u_4 u_5 ls hu_3 hl hnkey_6
      refine lv_iload hx hb dX3_placeDrawn_15 (lv_at hl 0 rfl) ?_
      refine lv_iload_n hx hb dX3_placeDrawn_17 rfl (lv_at hl 5 rfl) ?_
      have join_7 : ∀ (ls : Array Slot), lv_has ls 10 [(8, .int u_3), (6, .long u_4), (5, .int u_5), (4, .int x_1), (0, .int p0), (1, .int p1), (2, .int p2), (3, .int p3)] → W p l e ({ frames := 1, cells := 0, slots := 0, locals := 60 }) s m ([.int p0, .int p1, .int p2, .int p3] : List Value).toArray below meth c s.heap [] 0 0 Q9 (F0 m 90 ls []) := by
        intro ls hl
        refine lv_iload hx hb dX3_placeDrawn_90 (lv_at hl 2 rfl) ?_
        rw [hQ9]
        exact W.iret (v := u_5) hx hb hr (fun t ht hW => ⟨u_5, rfl, trivial, ht⟩) (fun q h => by cases h) dX3_placeDrawn_92
      refine lv_icmp_ge (tgt := 90) hx hb dX3_placeDrawn_18 (by decide) (fun c_8 => ?_) (fun c_8 => ?_)
      · have c_8 : p1.toInt ≤ u_3.toInt := cv_le c_8
        exact join_7 _ (lv_sub hl [0, 1, 2, 3, 4, 5, 6, 7] rfl)
      · have c_8 : u_3.toInt < p1.toInt := cv_nle c_8
        refine lv_iload hx hb dX3_placeDrawn_21 (lv_at hl 3 rfl) ?_
        refine lv_if_le (tgt := 90) hx hb dX3_placeDrawn_23 (by decide) (fun c_9 => ?_) (fun c_9 => ?_)
        · have c_9 : x_1.toInt ≤ 0 := cv_le c_9
          exact join_7 _ (lv_sub hl [0, 1, 2, 3, 4, 5, 6, 7] rfl)
        · have c_9 : 0 < x_1.toInt := cv_nle c_9
          refine lv_ldc2 (v := 1103515245) hx hb hown (hts _ wd_5_210) dX3_placeDrawn_26 ?_
          refine lv_lload hx hb dX3_placeDrawn_29 (lv_at hl 1 rfl) ?_
          refine lv_lmul hx hb dX3_placeDrawn_31 ?_
          refine lv_topl (fun y_10 ey_10 => ?_)
          refine lv_ldc2 (v := 12345) hx hb hown (hts _ wd_5_211) dX3_placeDrawn_32 ?_
          refine lv_ladd hx hb dX3_placeDrawn_35 ?_
          refine lv_topl (fun y_11 ey_11 => ?_)
          refine lv_ldc2 (v := 2147483648) hx hb hown (hts _ wd_5_212) dX3_placeDrawn_36 ?_
          refine lv_lrem hx hb dX3_placeDrawn_39 (by decide) ?_
          refine lv_topl (fun y_12 ey_12 => ?_)
          refine lv_lstore (lv' := [(6, .long y_12), (8, .int u_3), (5, .int u_5), (4, .int x_1), (0, .int p0), (1, .int p1), (2, .int p2), (3, .int p3)]) hx hb dX3_placeDrawn_40 hl (by decide) rfl (fun ls hl => ?_)
          refine lv_lload hx hb dX3_placeDrawn_42 (lv_at hl 0 rfl) ?_
          refine lv_ldc2 (v := 65536) hx hb hown (hts _ wd_5_213) dX3_placeDrawn_44 ?_
          refine lv_ldiv hx hb dX3_placeDrawn_47 (by decide) ?_
          refine lv_topl (fun y_13 ey_13 => ?_)
          refine lv_iload hx hb dX3_placeDrawn_48 (lv_at hl 3 rfl) ?_
          obtain ⟨y_14, ey_14⟩ : ∃ z : Int64, z = x_1.toInt64 := ⟨_, rfl⟩
          have fy_14 : y_14.toInt = x_1.toInt := by rw [ey_14]; exact Int32.toInt_toInt64 _
          refine lv_i2l (v := y_14) hx hb dX3_placeDrawn_50 ey_14.symm ?_
          refine lv_lrem hx hb dX3_placeDrawn_51 (fun q => by have := congrArg Int64.toInt q; have h0 : (0 : Int64).toInt = 0 := rfl; omega) ?_
          refine lv_topl (fun y_15 ey_15 => ?_)
          refine lv_l2i hx hb dX3_placeDrawn_52 rfl ?_
          refine lv_topi (fun x_16 ex_16 => ?_)
          refine lv_istore (lv' := [(9, .int x_16), (6, .long y_12), (8, .int u_3), (5, .int u_5), (4, .int x_1), (0, .int p0), (1, .int p1), (2, .int p2), (3, .int p3)]) hx hb dX3_placeDrawn_53 hl (by decide) rfl (fun ls hl => ?_)
          refine lv_iload hx hb dX3_placeDrawn_55 (lv_at hl 3 rfl) ?_
          refine lv_iload hx hb dX3_placeDrawn_57 (lv_at hl 0 rfl) ?_
          have join_18 : ∀ (u_17 : Int32) (ls : Array Slot), lv_has ls 10 [(9, .int x_16), (6, .long y_12), (8, .int u_3), (5, .int u_17), (4, .int x_1), (0, .int p0), (1, .int p1), (2, .int p2), (3, .int p3)] → W p l e ({ frames := 1, cells := 0, slots := 0, locals := 60 }) s m ([.int p0, .int p1, .int p2, .int p3] : List Value).toArray below meth c s.heap [] 0 0 Q9 (F0 m 84 ls []) := by
            intro u_17 ls hl
            obtain ⟨x_19, ex_19⟩ : ∃ y : Int32, y = u_3 + 1 := ⟨_, rfl⟩
            refine lv_iinc (v := x_19) (lv' := [(8, .int x_19), (9, .int x_16), (6, .long y_12), (5, .int u_17), (4, .int x_1), (0, .int p0), (1, .int p1), (2, .int p2), (3, .int p3)]) hx hb dX3_placeDrawn_84 hl (k := 2) rfl (by rw [ex_19]; rfl) (by decide) rfl (fun ls hl => ?_)
            have fx_19 : x_19.toInt = u_3.toInt + 1 := by rw [ex_19]; exact cv_addI (by have : (1 : Int32).toInt = 1 := rfl; omega) (by have : (1 : Int32).toInt = 1 := rfl; omega)
            refine lv_goto (tgt := 15) hx hb dX3_placeDrawn_87 (by decide) ?_
            exact ihkey_6 x_19 y_12 u_17 _ (by omega) (lv_sub hl [0, 2, 3, 4, 5, 6, 7, 8] rfl) (by omega)
          refine lv_icmp_ne (tgt := 71) hx hb dX3_placeDrawn_59 (by decide) (fun c_20 => ?_) (fun c_20 => ?_)
          · have c_20 : u_5.toInt ≠ x_16.toInt := cv_ne c_20
            refine lv_iload hx hb dX3_placeDrawn_71 (lv_at hl 3 rfl) ?_
            refine lv_iload hx hb dX3_placeDrawn_73 (lv_at hl 0 rfl) ?_
            refine lv_iconst (v := 1) hx hb dX3_placeDrawn_75 (by decide) ?_
            refine lv_iadd hx hb dX3_placeDrawn_76 ?_
            refine lv_topi (fun x_21 ex_21 => ?_)
            refine lv_icmp_ne (tgt := 84) hx hb dX3_placeDrawn_77 (by decide) (fun c_22 => ?_) (fun c_22 => ?_)
            · have c_22 : u_5.toInt ≠ x_21.toInt := cv_ne c_22
              exact join_18 u_5 _ (lv_sub hl [0, 1, 2, 3, 4, 5, 6, 7, 8] rfl)
            · have c_22 : u_5.toInt = x_21.toInt := cv_eq c_22
              refine lv_iload hx hb dX3_placeDrawn_80 (lv_at hl 0 rfl) ?_
              refine lv_istore (lv' := [(5, .int x_16), (9, .int x_16), (6, .long y_12), (8, .int u_3), (4, .int x_1), (0, .int p0), (1, .int p1), (2, .int p2), (3, .int p3)]) hx hb dX3_placeDrawn_82 hl (by decide) rfl (fun ls hl => ?_)
              exact join_18 x_16 _ (lv_sub hl [1, 2, 3, 0, 4, 5, 6, 7, 8] rfl)
          · have c_20 : u_5.toInt = x_16.toInt := cv_eq c_20
            refine lv_iload hx hb dX3_placeDrawn_62 (lv_at hl 0 rfl) ?_
            refine lv_iconst (v := 1) hx hb dX3_placeDrawn_64 (by decide) ?_
            refine lv_iadd hx hb dX3_placeDrawn_65 ?_
            refine lv_topi (fun x_23 ex_23 => ?_)
            refine lv_istore (lv' := [(5, .int x_23), (9, .int x_16), (6, .long y_12), (8, .int u_3), (4, .int x_1), (0, .int p0), (1, .int p1), (2, .int p2), (3, .int p3)]) hx hb dX3_placeDrawn_66 hl (by decide) rfl (fun ls hl => ?_)
            refine lv_goto (tgt := 84) hx hb dX3_placeDrawn_68 (by decide) ?_
            exact join_18 x_23 _ (lv_sub hl [1, 2, 3, 0, 4, 5, 6, 7, 8] rfl)
  exact key_6 _ 0 y_2 p2 _ (by decide) (lv_sub hl [0, 1, 2, 3, 4, 5, 6, 7] rfl) (Nat.lt_succ_self _)

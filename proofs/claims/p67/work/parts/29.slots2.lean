/- X8_isFilled -/
set_option maxHeartbeats 4000000 in
set_option maxRecDepth 100000 in
theorem n_isFilled (l : Launch) (dC : Nat → ClassId) (dI : Nat → Nat → Nat) (cyI cyB cyJ cyZ cyH cyN : ClassId) (h0 sNum sLen sWid sMade n0 n1 n2 n3 : Nat) (nF : Nat → Option Nat) (s_fm s_fl s_fw : Nat → Int32) (s_n0 s_n1 s_n2 s_n3 : Nat → Int64) (p0 : Int32) (g0 : rg 0 1 4 s_fm) (g1 : rg 0 60 4 s_fl) (g2 : rg 0 3 4 s_fw) (g3 : 0 ≤ p0.toInt ∧ p0.toInt ≤ 3) (g4 : nF 0 = some n0) (g5 : nF 1 = some n1) (g6 : nF 2 = some n2) (g7 : nF 3 = some n3) : Met l yX8_isFilled (wk yX8_isFilled cX8_isFilled 2 (some .boolean)) ({ frames := 1, cells := 0, slots := 0, locals := 60 }) (va_Pc [.ref h0, .int p0] (fun U => va_P (dC, dI) vwCl [(h0, .inr (7, [.ref sNum, .ref sLen, .ref sWid, .ref sMade])), (sMade, .inl (cyZ, 4, .inl s_fm)), (sLen, .inl (cyI, 4, .inl s_fl)), (sWid, .inl (cyI, 4, .inl s_fw)), (sNum, .inl (cyN, 4, .inr (.inr (.inr (.inr nF))))), (n0, .inl (cyJ, 60, .inr (.inl s_n0))), (n1, .inl (cyJ, 60, .inr (.inl s_n1))), (n2, .inl (cyJ, 60, .inr (.inl s_n2))), (n3, .inl (cyJ, 60, .inr (.inl s_n3)))] U.heap ∧ va_K (dC, dI) vwCl [(cyI, .int), (cyB, .byte), (cyJ, .long), (cyZ, .boolean), (cyH, .object RX2), (cyN, .array .long)] U)) (vp_Si (fun r : Int32 => 0 ≤ r.toInt ∧ r.toInt ≤ 1)) 0 0 (fun _ => False) := by
  refine Met.ofW (cc := cX8_isFilled) (maxL := 2) (ret := (some .boolean)) (by decide) rfl ?_
  intro p e s m args below meth c s₁ B hml hv
  obtain ⟨rfl, hP, hK⟩ := hv
  have hx := B.exec
  have hb := B.bytes
  have hr := B.returns
  have hts : ∀ w ∈ uU, w.before ([.ref h0, .int p0] : List Value).toArray s = true := fun w h => atoms_spec (ws := wk yX8_isFilled cX8_isFilled 2 (some .boolean)) B.pre w (List.mem_cons_of_mem _ h)
  have hown : s.vm.findClass RX8 = some m.cls := findClass_of_methodNamed B.named
  have hlocks := B.notSynchronized
  have hl := lv_entry ([.ref h0, .int p0]) (n := 2) (Nat.le_of_ble_eq_true rfl)
  rw [lg_entry_eq]
  generalize (lg_sl ([.ref h0, .int p0]) ++ List.replicate (2 - (lg_sl ([.ref h0, .int p0])).length) Slot.unset).toArray = ls at hl ⊢
  have hl : lv_has ls 2 [(0, .ref h0), (1, .int p0)] := hl
  obtain ⟨Q9, hQ9⟩ : ∃ Q9 : State → Prop, Q9 = MQ below (vp_Si (fun r : Int32 => 0 ≤ r.toInt ∧ r.toInt ≤ 1)) ([.ref h0, .int p0] : List Value).toArray s 0 0 (fun _ => False) := ⟨_, rfl⟩
  rw [← hQ9]
  refine lv_aload_n hx hb dX8_isFilled_0 rfl (lv_at hl 0 rfl) ?_
  refine va_get (D := (dC, dI)) (ci := 7) (v := .ref sMade) (C := RX8) (T := TX8) (N := 4) hx hb hts uinX8 hown hK hP 0 rfl rfl 3 (by decide) (hts _ wd_1_173) (fun _ h9 => h9) rfl dX8_isFilled_1 ?_
  refine lv_iload_n hx hb dX8_isFilled_4 rfl (lv_at hl 1 rfl) ?_
  refine va_zald hx hb hK hP 1 3 rfl rfl (vp_in_iff.mpr (by omega)) dX8_isFilled_5 ?_
  refine lv_topi (fun x_1 ex_1 => ?_)
  have fx_1 : 0 ≤ x_1.toInt ∧ x_1.toInt ≤ 1 := by rw [ex_1]; exact g0 _ (cv_ix (by omega) (by omega))
  rw [hQ9]
  exact W.zret (v := x_1) (ty := .boolean) hx hb hr (cv_nz (by omega) (by omega)) (fun t ht hW => ⟨x_1, rfl, (by omega), ht⟩) (fun q h => by cases h) dX8_isFilled_6

/- X8_filled -/
set_option maxHeartbeats 4000000 in
set_option maxRecDepth 100000 in
theorem n_filled (l : Launch) (dC : Nat → ClassId) (dI : Nat → Nat → Nat) (cyI cyB cyJ cyZ cyH cyN : ClassId) (h0 sNum sLen sWid sMade n0 n1 n2 n3 : Nat) (nF : Nat → Option Nat) (s_fm s_fl s_fw : Nat → Int32) (s_n0 s_n1 s_n2 s_n3 : Nat → Int64) (g0 : rg 0 1 4 s_fm) (g1 : rg 0 60 4 s_fl) (g2 : rg 0 3 4 s_fw) (g3 : nF 0 = some n0) (g4 : nF 1 = some n1) (g5 : nF 2 = some n2) (g6 : nF 3 = some n3) : Met l yX8_filled (wk yX8_filled cX8_filled 3 (some .int)) ({ frames := 1, cells := 0, slots := 0, locals := 60 }) (va_Pc [.ref h0] (fun U => va_P (dC, dI) vwCl [(h0, .inr (7, [.ref sNum, .ref sLen, .ref sWid, .ref sMade])), (sMade, .inl (cyZ, 4, .inl s_fm)), (sLen, .inl (cyI, 4, .inl s_fl)), (sWid, .inl (cyI, 4, .inl s_fw)), (sNum, .inl (cyN, 4, .inr (.inr (.inr (.inr nF))))), (n0, .inl (cyJ, 60, .inr (.inl s_n0))), (n1, .inl (cyJ, 60, .inr (.inl s_n1))), (n2, .inl (cyJ, 60, .inr (.inl s_n2))), (n3, .inl (cyJ, 60, .inr (.inl s_n3)))] U.heap ∧ va_K (dC, dI) vwCl [(cyI, .int), (cyB, .byte), (cyJ, .long), (cyZ, .boolean), (cyH, .object RX2), (cyN, .array .long)] U)) (vp_Si (fun r : Int32 => True)) 0 0 (fun _ => False) := by
  refine Met.ofW (cc := cX8_filled) (maxL := 3) (ret := (some .int)) (by decide) rfl ?_
  intro p e s m args below meth c s₁ B hml hv
  obtain ⟨rfl, hP, hK⟩ := hv
  have hx := B.exec
  have hb := B.bytes
  have hr := B.returns
  have hts : ∀ w ∈ uU, w.before ([.ref h0] : List Value).toArray s = true := fun w h => atoms_spec (ws := wk yX8_filled cX8_filled 3 (some .int)) B.pre w (List.mem_cons_of_mem _ h)
  have hown : s.vm.findClass RX8 = some m.cls := findClass_of_methodNamed B.named
  have hlocks := B.notSynchronized
  have hl := lv_entry ([.ref h0]) (n := 3) (Nat.le_of_ble_eq_true rfl)
  rw [lg_entry_eq]
  generalize (lg_sl ([.ref h0]) ++ List.replicate (3 - (lg_sl ([.ref h0])).length) Slot.unset).toArray = ls at hl ⊢
  have hl : lv_has ls 3 [(0, .ref h0)] := hl
  obtain ⟨Q9, hQ9⟩ : ∃ Q9 : State → Prop, Q9 = MQ below (vp_Si (fun r : Int32 => True)) ([.ref h0] : List Value).toArray s 0 0 (fun _ => False) := ⟨_, rfl⟩
  rw [← hQ9]
  refine lv_iconst (v := 0) hx hb dX8_filled_0 (by decide) ?_
  refine lv_istore_n (lv' := [(1, .int 0), (0, .ref h0)]) hx hb dX8_filled_1 rfl hl (by decide) rfl (fun ls hl => ?_)
  refine lv_iconst (v := 0) hx hb dX8_filled_2 (by decide) ?_
  refine lv_istore_n (lv' := [(2, .int 0), (1, .int 0), (0, .ref h0)]) hx hb dX8_filled_3 rfl hl (by decide) rfl (fun ls hl => ?_)
  have key_3 : ∀ (nkey_3 : Nat) (u_1 : Int32) (u_2 : Int32) (ls : Array Slot), (0 ≤ u_1.toInt ∧ u_1.toInt ≤ 4) → lv_has ls 3 [(2, .int u_1), (1, .int u_2), (0, .ref h0)] → (4 - u_1.toInt).toNat < nkey_3 → W p l e ({ frames := 1, cells := 0, slots := 0, locals := 60 }) s m ([.ref h0] : List Value).toArray below meth c s.heap [] 0 0 Q9 (F0 m 4 ls []) := by
    intro nkey_3
    induction nkey_3 with
    | zero => intro u_1 u_2 ls hu_1 hl hnkey_3; exact absurd hnkey_3 (Nat.not_lt_zero _)
    | succ nkey_3 ihkey_3 =>
      intro u_1 u_2 ls hu_1 hl hnkey_3
      refine lv_iload_n hx hb dX8_filled_4 rfl (lv_at hl 0 rfl) ?_
      refine lv_iconst (v := 4) hx hb dX8_filled_5 (by decide) ?_
      refine lv_icmp_ge (tgt := 27) hx hb dX8_filled_6 (by decide) (fun c_4 => ?_) (fun c_4 => ?_)
      · have c_4 : 4 ≤ u_1.toInt := cv_le c_4
        refine lv_iload_n hx hb dX8_filled_27 rfl (lv_at hl 1 rfl) ?_
        rw [hQ9]
        exact W.iret (v := u_2) hx hb hr (fun t ht hW => ⟨u_2, rfl, trivial, ht⟩) (fun q h => by cases h) dX8_filled_28
      · have c_4 : u_1.toInt < 4 := cv_nle c_4
        refine lv_aload_n hx hb dX8_filled_9 rfl (lv_at hl 2 rfl) ?_
        refine va_get (D := (dC, dI)) (ci := 7) (v := .ref sMade) (C := RX8) (T := TX8) (N := 4) hx hb hts uinX8 hown hK hP 0 rfl rfl 3 (by decide) (hts _ wd_1_173) (fun _ h9 => h9) rfl dX8_filled_10 ?_
        refine lv_iload_n hx hb dX8_filled_13 rfl (lv_at hl 0 rfl) ?_
        refine va_zald hx hb hK hP 1 3 rfl rfl (vp_in_iff.mpr (by omega)) dX8_filled_14 ?_
        refine lv_topi (fun x_5 ex_5 => ?_)
        have fx_5 : 0 ≤ x_5.toInt ∧ x_5.toInt ≤ 1 := by rw [ex_5]; exact g0 _ (cv_ix (by omega) (by omega))
        have join_7 : ∀ (u_6 : Int32) (ls : Array Slot), lv_has ls 3 [(2, .int u_1), (1, .int u_6), (0, .ref h0)] → W p l e ({ frames := 1, cells := 0, slots := 0, locals := 60 }) s m ([.ref h0] : List Value).toArray below meth c s.heap [] 0 0 Q9 (F0 m 21 ls []) := by
          intro u_6 ls hl
          obtain ⟨x_8, ex_8⟩ : ∃ y : Int32, y = u_1 + 1 := ⟨_, rfl⟩
          refine lv_iinc (v := x_8) (lv' := [(2, .int x_8), (1, .int u_6), (0, .ref h0)]) hx hb dX8_filled_21 hl (k := 0) rfl (by rw [ex_8]; rfl) (by decide) rfl (fun ls hl => ?_)
          have fx_8 : x_8.toInt = u_1.toInt + 1 := by rw [ex_8]; exact cv_addI (by have : (1 : Int32).toInt = 1 := rfl; omega) (by have : (1 : Int32).toInt = 1 := rfl; omega)
          refine lv_goto (tgt := 4) hx hb dX8_filled_24 (by decide) ?_
          exact ihkey_3 x_8 u_6 _ (by omega) (lv_sub hl [0, 1, 2] rfl) (by omega)
        refine lv_if_eq (tgt := 21) hx hb dX8_filled_15 (by decide) (fun c_9 => ?_) (fun c_9 => ?_)
        · have c_9 : x_5.toInt = 0 := cv_eq c_9
          exact join_7 u_2 _ (lv_sub hl [0, 1, 2] rfl)
        · have c_9 : x_5.toInt ≠ 0 := cv_ne c_9
          obtain ⟨x_10, ex_10⟩ : ∃ y : Int32, y = u_2 + 1 := ⟨_, rfl⟩
          refine lv_iinc (v := x_10) (lv' := [(1, .int x_10), (2, .int u_1), (0, .ref h0)]) hx hb dX8_filled_18 hl (k := 1) rfl (by rw [ex_10]; rfl) (by decide) rfl (fun ls hl => ?_)
          exact join_7 x_10 _ (lv_sub hl [1, 0, 2] rfl)
  exact key_3 _ 0 0 _ (by decide) (lv_sub hl [0, 1, 2] rfl) (Nat.lt_succ_self _)

/- X8_covers -/
set_option maxHeartbeats 4000000 in
set_option maxRecDepth 100000 in
theorem n_covers (l : Launch) (dC : Nat → ClassId) (dI : Nat → Nat → Nat) (cyI cyB cyJ cyZ cyH cyN : ClassId) (h0 sNum sLen sWid sMade n0 n1 n2 n3 : Nat) (nF : Nat → Option Nat) (s_fm s_fl s_fw : Nat → Int32) (s_n0 s_n1 s_n2 s_n3 : Nat → Int64) (p0 p1 p2 : Int32) (g0 : rg 0 1 4 s_fm) (g1 : rg 0 60 4 s_fl) (g2 : rg 0 3 4 s_fw) (g3 : 0 ≤ p0.toInt ∧ p0.toInt ≤ 3) (g4 : nF 0 = some n0) (g5 : nF 1 = some n1) (g6 : nF 2 = some n2) (g7 : nF 3 = some n3) : Met l yX8_covers (wk yX8_covers cX8_covers 4 (some .boolean)) ({ frames := 1, cells := 0, slots := 0, locals := 60 }) (va_Pc [.ref h0, .int p0, .int p1, .int p2] (fun U => va_P (dC, dI) vwCl [(h0, .inr (7, [.ref sNum, .ref sLen, .ref sWid, .ref sMade])), (sMade, .inl (cyZ, 4, .inl s_fm)), (sLen, .inl (cyI, 4, .inl s_fl)), (sWid, .inl (cyI, 4, .inl s_fw)), (sNum, .inl (cyN, 4, .inr (.inr (.inr (.inr nF))))), (n0, .inl (cyJ, 60, .inr (.inl s_n0))), (n1, .inl (cyJ, 60, .inr (.inl s_n1))), (n2, .inl (cyJ, 60, .inr (.inl s_n2))), (n3, .inl (cyJ, 60, .inr (.inl s_n3)))] U.heap ∧ va_K (dC, dI) vwCl [(cyI, .int), (cyB, .byte), (cyJ, .long), (cyZ, .boolean), (cyH, .object RX2), (cyN, .array .long)] U)) (vp_Si (fun r : Int32 => 0 ≤ r.toInt ∧ r.toInt ≤ 1)) 0 0 (fun _ => False) := by
  refine Met.ofW (cc := cX8_covers) (maxL := 4) (ret := (some .boolean)) (by decide) rfl ?_
  intro p e s m args below meth c s₁ B hml hv
  obtain ⟨rfl, hP, hK⟩ := hv
  have hx := B.exec
  have hb := B.bytes
  have hr := B.returns
  have hts : ∀ w ∈ uU, w.before ([.ref h0, .int p0, .int p1, .int p2] : List Value).toArray s = true := fun w h => atoms_spec (ws := wk yX8_covers cX8_covers 4 (some .boolean)) B.pre w (List.mem_cons_of_mem _ h)
  have hown : s.vm.findClass RX8 = some m.cls := findClass_of_methodNamed B.named
  have hlocks := B.notSynchronized
  have hl := lv_entry ([.ref h0, .int p0, .int p1, .int p2]) (n := 4) (Nat.le_of_ble_eq_true rfl)
  rw [lg_entry_eq]
  generalize (lg_sl ([.ref h0, .int p0, .int p1, .int p2]) ++ List.replicate (4 - (lg_sl ([.ref h0, .int p0, .int p1, .int p2])).length) Slot.unset).toArray = ls at hl ⊢
  have hl : lv_has ls 4 [(0, .ref h0), (1, .int p0), (2, .int p1), (3, .int p2)] := hl
  obtain ⟨Q9, hQ9⟩ : ∃ Q9 : State → Prop, Q9 = MQ below (vp_Si (fun r : Int32 => 0 ≤ r.toInt ∧ r.toInt ≤ 1)) ([.ref h0, .int p0, .int p1, .int p2] : List Value).toArray s 0 0 (fun _ => False) := ⟨_, rfl⟩
  rw [← hQ9]
  refine lv_iload_n hx hb dX8_covers_0 rfl (lv_at hl 2 rfl) ?_
  have join_2 : ∀ (u_1 : Int32) (ls : Array Slot), (0 ≤ u_1.toInt ∧ u_1.toInt ≤ 1) → lv_has ls 4 [(0, .ref h0), (1, .int p0), (2, .int p1), (3, .int p2)] → W p l e ({ frames := 1, cells := 0, slots := 0, locals := 60 }) s m ([.ref h0, .int p0, .int p1, .int p2] : List Value).toArray below meth c s.heap [] 0 0 Q9 (F0 m 35 ls [.int u_1]) := by
    intro u_1 ls hu_1 hl
    rw [hQ9]
    exact W.zret (v := u_1) (ty := .boolean) hx hb hr (cv_nz (by omega) (by omega)) (fun t ht hW => ⟨u_1, rfl, (by omega), ht⟩) (fun q h => by cases h) dX8_covers_35
  refine lv_if_lt (tgt := 34) hx hb dX8_covers_1 (by decide) (fun c_3 => ?_) (fun c_3 => ?_)
  · have c_3 : p1.toInt < 0 := cv_lt c_3
    refine lv_iconst (v := 0) hx hb dX8_covers_34 (by decide) ?_
    exact join_2 0 _ (by decide) (lv_sub hl [0, 1, 2, 3] rfl)
  · have c_3 : 0 ≤ p1.toInt := cv_nlt c_3
    refine lv_iload_n hx hb dX8_covers_4 rfl (lv_at hl 3 rfl) ?_
    refine lv_if_lt (tgt := 34) hx hb dX8_covers_5 (by decide) (fun c_4 => ?_) (fun c_4 => ?_)
    · have c_4 : p2.toInt < 0 := cv_lt c_4
      refine lv_iconst (v := 0) hx hb dX8_covers_34 (by decide) ?_
      exact join_2 0 _ (by decide) (lv_sub hl [0, 1, 2, 3] rfl)
    · have c_4 : 0 ≤ p2.toInt := cv_nlt c_4
      refine lv_iload_n hx hb dX8_covers_8 rfl (lv_at hl 3 rfl) ?_
      refine lv_aload_n hx hb dX8_covers_9 rfl (lv_at hl 0 rfl) ?_
      refine va_get (D := (dC, dI)) (ci := 7) (v := .ref sLen) (C := RX8) (T := TX8) (N := 4) hx hb hts uinX8 hown hK hP 0 rfl rfl 1 (by decide) (hts _ wd_1_168) (fun _ h9 => h9) rfl dX8_covers_10 ?_
      refine lv_iload_n hx hb dX8_covers_13 rfl (lv_at hl 1 rfl) ?_
      refine va_iald hx hb hK hP 2 0 rfl rfl (vp_in_iff.mpr (by omega)) dX8_covers_14 ?_
      refine lv_topi (fun x_5 ex_5 => ?_)
      have fx_5 : 0 ≤ x_5.toInt ∧ x_5.toInt ≤ 60 := by rw [ex_5]; exact g1 _ (cv_ix (by omega) (by omega))
      refine lv_icmp_gt (tgt := 34) hx hb dX8_covers_15 (by decide) (fun c_6 => ?_) (fun c_6 => ?_)
      · have c_6 : x_5.toInt < p2.toInt := cv_lt c_6
        refine lv_iconst (v := 0) hx hb dX8_covers_34 (by decide) ?_
        exact join_2 0 _ (by decide) (lv_sub hl [0, 1, 2, 3] rfl)
      · have c_6 : p2.toInt ≤ x_5.toInt := cv_nlt c_6
        refine lv_iload_n hx hb dX8_covers_18 rfl (lv_at hl 2 rfl) ?_
        refine lv_aload_n hx hb dX8_covers_19 rfl (lv_at hl 0 rfl) ?_
        refine va_get (D := (dC, dI)) (ci := 7) (v := .ref sLen) (C := RX8) (T := TX8) (N := 4) hx hb hts uinX8 hown hK hP 0 rfl rfl 1 (by decide) (hts _ wd_1_168) (fun _ h9 => h9) rfl dX8_covers_20 ?_
        refine lv_iload_n hx hb dX8_covers_23 rfl (lv_at hl 1 rfl) ?_
        refine va_iald hx hb hK hP 2 0 rfl rfl (vp_in_iff.mpr (by omega)) dX8_covers_24 ?_
        refine lv_topi (fun x_7 ex_7 => ?_)
        have fx_7 : 0 ≤ x_7.toInt ∧ x_7.toInt ≤ 60 := by rw [ex_7]; exact g1 _ (cv_ix (by omega) (by omega))
        refine lv_iload_n hx hb dX8_covers_25 rfl (lv_at hl 3 rfl) ?_
        refine lv_isub hx hb dX8_covers_26 ?_
        refine lv_topi (fun x_8 ex_8 => ?_)
        have fx_8 : x_8.toInt = x_7.toInt - p2.toInt := by rw [ex_8]; exact cv_subI (by omega) (by omega)
        refine lv_icmp_gt (tgt := 34) hx hb dX8_covers_27 (by decide) (fun c_9 => ?_) (fun c_9 => ?_)
        · have c_9 : x_8.toInt < p1.toInt := cv_lt c_9
          refine lv_iconst (v := 0) hx hb dX8_covers_34 (by decide) ?_
          exact join_2 0 _ (by decide) (lv_sub hl [0, 1, 2, 3] rfl)
        · have c_9 : p1.toInt ≤ x_8.toInt := cv_nlt c_9
          refine lv_iconst (v := 1) hx hb dX8_covers_30 (by decide) ?_
          refine lv_goto (tgt := 35) hx hb dX8_covers_31 (by decide) ?_
          exact join_2 1 _ (by decide) (lv_sub hl [0, 1, 2, 3] rfl)

/- X8_cut -/
set_option maxHeartbeats 4000000 in
set_option maxRecDepth 100000 in
theorem n_cut (l : Launch) (dC : Nat → ClassId) (dI : Nat → Nat → Nat) (cyI cyB cyJ cyZ cyH cyN : ClassId) (p0 : Int64) (p1 : Int32) : Met l yX8_cut (wk yX8_cut cX8_cut 3 (some .long)) ({ frames := 1, cells := 0, slots := 0, locals := 60 }) (va_Pc [.long p0, .int p1] (fun _ => True)) (vp_Sl (fun r : Int64 => True)) 0 0 (fun _ => False) := by
  refine Met.ofW (cc := cX8_cut) (maxL := 3) (ret := (some .long)) (by decide) rfl ?_
  intro p e s m args below meth c s₁ B hml hv
  obtain ⟨rfl, -⟩ := hv
  have hx := B.exec
  have hb := B.bytes
  have hr := B.returns
  have hts : ∀ w ∈ uU, w.before ([.long p0, .int p1] : List Value).toArray s = true := fun w h => atoms_spec (ws := wk yX8_cut cX8_cut 3 (some .long)) B.pre w (List.mem_cons_of_mem _ h)
  have hown : s.vm.findClass RX8 = some m.cls := findClass_of_methodNamed B.named
  have hlocks := B.notSynchronized
  have hl := lv_entry ([.long p0, .int p1]) (n := 3) (Nat.le_of_ble_eq_true rfl)
  rw [lg_entry_eq]
  generalize (lg_sl ([.long p0, .int p1]) ++ List.replicate (3 - (lg_sl ([.long p0, .int p1])).length) Slot.unset).toArray = ls at hl ⊢
  have hl : lv_has ls 3 [(0, .long p0), (2, .int p1)] := hl
  obtain ⟨Q9, hQ9⟩ : ∃ Q9 : State → Prop, Q9 = MQ below (vp_Sl (fun r : Int64 => True)) ([.long p0, .int p1] : List Value).toArray s 0 0 (fun _ => False) := ⟨_, rfl⟩
  rw [← hQ9]
  refine lv_iload_n hx hb dX8_cut_0 rfl (lv_at hl 1 rfl) ?_
  rcases (show p1.toInt = 0 ∨ p1.toInt = 1 ∨ p1.toInt = 2 ∨ (p1.toInt < 0 ∨ 2 < p1.toInt) by omega) with c_1 | c_1 | c_1 | c_1
  · refine lv_tableIn (off := 27) (tgt := 28) hx hb dX8_cut_1 (by omega) (by omega) (by rw [c_1]; rfl) (by decide) ?_
    refine lv_lload_n hx hb dX8_cut_28 rfl (lv_at hl 0 rfl) ?_
    refine lv_l2i hx hb dX8_cut_29 rfl ?_
    refine lv_topi (fun x_2 ex_2 => ?_)
    refine lv_i2b hx hb dX8_cut_30 rfl ?_
    refine lv_topi (fun x_3 ex_3 => ?_)
    obtain ⟨y_4, ey_4⟩ : ∃ z : Int64, z = x_3.toInt64 := ⟨_, rfl⟩
    have fy_4 : y_4.toInt = x_3.toInt := by rw [ey_4]; exact Int32.toInt_toInt64 _
    refine lv_i2l (v := y_4) hx hb dX8_cut_31 ey_4.symm ?_
    rw [hQ9]
    exact W.lret (v := y_4) hx hb hr (fun t ht hW => ⟨y_4, rfl, trivial, ht⟩) (fun q h => by cases h) dX8_cut_32
  · refine lv_tableIn (off := 32) (tgt := 33) hx hb dX8_cut_1 (by omega) (by omega) (by rw [c_1]; rfl) (by decide) ?_
    refine lv_lload_n hx hb dX8_cut_33 rfl (lv_at hl 0 rfl) ?_
    refine lv_l2i hx hb dX8_cut_34 rfl ?_
    refine lv_topi (fun x_5 ex_5 => ?_)
    refine lv_i2s hx hb dX8_cut_35 rfl ?_
    refine lv_topi (fun x_6 ex_6 => ?_)
    obtain ⟨y_7, ey_7⟩ : ∃ z : Int64, z = x_6.toInt64 := ⟨_, rfl⟩
    have fy_7 : y_7.toInt = x_6.toInt := by rw [ey_7]; exact Int32.toInt_toInt64 _
    refine lv_i2l (v := y_7) hx hb dX8_cut_36 ey_7.symm ?_
    rw [hQ9]
    exact W.lret (v := y_7) hx hb hr (fun t ht hW => ⟨y_7, rfl, trivial, ht⟩) (fun q h => by cases h) dX8_cut_37
  · refine lv_tableIn (off := 37) (tgt := 38) hx hb dX8_cut_1 (by omega) (by omega) (by rw [c_1]; rfl) (by decide) ?_
    refine lv_lload_n hx hb dX8_cut_38 rfl (lv_at hl 0 rfl) ?_
    refine lv_l2i hx hb dX8_cut_39 rfl ?_
    refine lv_topi (fun x_8 ex_8 => ?_)
    obtain ⟨y_9, ey_9⟩ : ∃ z : Int64, z = x_8.toInt64 := ⟨_, rfl⟩
    have fy_9 : y_9.toInt = x_8.toInt := by rw [ey_9]; exact Int32.toInt_toInt64 _
    refine lv_i2l (v := y_9) hx hb dX8_cut_40 ey_9.symm ?_
    rw [hQ9]
    exact W.lret (v := y_9) hx hb hr (fun t ht hW => ⟨y_9, rfl, trivial, ht⟩) (fun q h => by cases h) dX8_cut_41
  · refine lv_tableOut (tgt := 42) hx hb dX8_cut_1 (by omega) (by decide) ?_
    refine lv_lload_n hx hb dX8_cut_42 rfl (lv_at hl 0 rfl) ?_
    rw [hQ9]
    exact W.lret (v := p0) hx hb hr (fun t ht hW => ⟨p0, rfl, trivial, ht⟩) (fun q h => by cases h) dX8_cut_43

/- X8_make -/
set_option maxHeartbeats 4000000 in
set_option maxRecDepth 100000 in
theorem n_make (l : Launch) (dC : Nat → ClassId) (dI : Nat → Nat → Nat) (cyI cyB cyJ cyZ cyH cyN : ClassId) (sz : Nat) (h0 sNum sLen sWid sMade n0 n1 n2 n3 : Nat) (nF : Nat → Option Nat) (s_fm s_fl s_fw : Nat → Int32) (s_n0 s_n1 s_n2 s_n3 : Nat → Int64) (p0 p1 p2 : Int32) (g0 : rg 0 1 4 s_fm) (g1 : rg 0 60 4 s_fl) (g2 : rg 0 3 4 s_fw) (g3 : 0 ≤ p0.toInt ∧ p0.toInt ≤ 3) (g4 : 0 ≤ p1.toInt ∧ p1.toInt ≤ 3) (g5 : 0 ≤ p2.toInt ∧ p2.toInt ≤ 60) (g6 : nF 0 = some n0) (g7 : nF 1 = some n1) (g8 : nF 2 = some n2) (g9 : nF 3 = some n3) : Met l yX8_make (wk yX8_make cX8_make 4 none) ({ frames := 2, cells := 0, slots := 0, locals := 84 }) (va_Pc [.ref h0, .int p0, .int p1, .int p2] (fun U => U.heap.size = sz ∧ va_P (dC, dI) vwCl [(h0, .inr (7, [.ref sNum, .ref sLen, .ref sWid, .ref sMade])), (sMade, .inl (cyZ, 4, .inl s_fm)), (sLen, .inl (cyI, 4, .inl s_fl)), (sWid, .inl (cyI, 4, .inl s_fw)), (sNum, .inl (cyN, 4, .inr (.inr (.inr (.inr nF))))), (n0, .inl (cyJ, 60, .inr (.inl s_n0))), (n1, .inl (cyJ, 60, .inr (.inl s_n1))), (n2, .inl (cyJ, 60, .inr (.inl s_n2))), (n3, .inl (cyJ, 60, .inr (.inl s_n3)))] U.heap ∧ va_K (dC, dI) vwCl [(cyI, .int), (cyB, .byte), (cyJ, .long), (cyZ, .boolean), (cyH, .object RX2), (cyN, .array .long)] U ∧ va_D (fun _ => True) [(h0, .inr (7, [.ref sNum, .ref sLen, .ref sWid, .ref sMade])), (sMade, .inl (cyZ, 4, .inl s_fm)), (sLen, .inl (cyI, 4, .inl s_fl)), (sWid, .inl (cyI, 4, .inl s_fw)), (sNum, .inl (cyN, 4, .inr (.inr (.inr (.inr nF))))), (n0, .inl (cyJ, 60, .inr (.inl s_n0))), (n1, .inl (cyJ, 60, .inr (.inl s_n1))), (n2, .inl (cyJ, 60, .inr (.inl s_n2))), (n3, .inl (cyJ, 60, .inr (.inl s_n3)))])) (va_Qv (fun _ : Unit => True) (fun (_ : Unit) (t : State) => ∃ y0 : Nat → Int32, ∃ y1 : Nat → Int32, ∃ y2 : Nat → Int32, ∃ y3 : Nat → Int64, ∃ y4 : Nat → Int64, ∃ y5 : Nat → Int64, ∃ y6 : Nat → Int64, (rg 0 1 4 y0) ∧ (rg 0 60 4 y1) ∧ (rg 0 3 4 y2) ∧ va_P (dC, dI) vwCl [(h0, .inr (7, [.ref sNum, .ref sLen, .ref sWid, .ref sMade])), (sMade, .inl (cyZ, 4, .inl y0)), (sLen, .inl (cyI, 4, .inl y1)), (sWid, .inl (cyI, 4, .inl y2)), (sNum, .inl (cyN, 4, .inr (.inr (.inr (.inr nF))))), (n0, .inl (cyJ, 60, .inr (.inl y3))), (n1, .inl (cyJ, 60, .inr (.inl y4))), (n2, .inl (cyJ, 60, .inr (.inl y5))), (n3, .inl (cyJ, 60, .inr (.inl y6)))] t.heap ∧ va_D (va_A [(h0, .inr (7, [.ref sNum, .ref sLen, .ref sWid, .ref sMade])), (sMade, .inl (cyZ, 4, .inl s_fm)), (sLen, .inl (cyI, 4, .inl s_fl)), (sWid, .inl (cyI, 4, .inl s_fw)), (sNum, .inl (cyN, 4, .inr (.inr (.inr (.inr nF))))), (n0, .inl (cyJ, 60, .inr (.inl s_n0))), (n1, .inl (cyJ, 60, .inr (.inl s_n1))), (n2, .inl (cyJ, 60, .inr (.inl s_n2))), (n3, .inl (cyJ, 60, .inr (.inl s_n3)))] sz) [(h0, .inr (7, [.ref sNum, .ref sLen, .ref sWid, .ref sMade])), (sMade, .inl (cyZ, 4, .inl y0)), (sLen, .inl (cyI, 4, .inl y1)), (sWid, .inl (cyI, 4, .inl y2)), (sNum, .inl (cyN, 4, .inr (.inr (.inr (.inr nF))))), (n0, .inl (cyJ, 60, .inr (.inl y3))), (n1, .inl (cyJ, 60, .inr (.inl y4))), (n2, .inl (cyJ, 60, .inr (.inl y5))), (n3, .inl (cyJ, 60, .inr (.inl y6)))]) (va_A [(h0, .inr (7, [.ref sNum, .ref sLen, .ref sWid, .ref sMade])), (sMade, .inl (cyZ, 4, .inl s_fm)), (sLen, .inl (cyI, 4, .inl s_fl)), (sWid, .inl (cyI, 4, .inl s_fw)), (sNum, .inl (cyN, 4, .inr (.inr (.inr (.inr nF))))), (n0, .inl (cyJ, 60, .inr (.inl s_n0))), (n1, .inl (cyJ, 60, .inr (.inl s_n1))), (n2, .inl (cyJ, 60, .inr (.inl s_n2))), (n3, .inl (cyJ, 60, .inr (.inl s_n3)))] sz)) 0 0 (va_A [(h0, .inr (7, [.ref sNum, .ref sLen, .ref sWid, .ref sMade])), (sMade, .inl (cyZ, 4, .inl s_fm)), (sLen, .inl (cyI, 4, .inl s_fl)), (sWid, .inl (cyI, 4, .inl s_fw)), (sNum, .inl (cyN, 4, .inr (.inr (.inr (.inr nF))))), (n0, .inl (cyJ, 60, .inr (.inl s_n0))), (n1, .inl (cyJ, 60, .inr (.inl s_n1))), (n2, .inl (cyJ, 60, .inr (.inl s_n2))), (n3, .inl (cyJ, 60, .inr (.inl s_n3)))] sz) := by
  refine Met.ofW (cc := cX8_make) (maxL := 4) (ret := none) (by decide) rfl ?_
  intro p e s m args below meth c s₁ B hml hv
  obtain ⟨rfl, hsz, hP, hK, hD0⟩ := hv
  have hx := B.exec
  have hb := B.bytes
  have hr := B.returns
  have hts : ∀ w ∈ uU, w.before ([.ref h0, .int p0, .int p1, .int p2] : List Value).toArray s = true := fun w h => atoms_spec (ws := wk yX8_make cX8_make 4 none) B.pre w (List.mem_cons_of_mem _ h)
  have hown : s.vm.findClass RX8 = some m.cls := findClass_of_methodNamed B.named
  have hlocks := B.notSynchronized
  subst hsz
  have hD := hD0.self (sz := s.heap.size)
  generalize hAe : va_A [(h0, .inr (7, [.ref sNum, .ref sLen, .ref sWid, .ref sMade])), (sMade, .inl (cyZ, 4, .inl s_fm)), (sLen, .inl (cyI, 4, .inl s_fl)), (sWid, .inl (cyI, 4, .inl s_fw)), (sNum, .inl (cyN, 4, .inr (.inr (.inr (.inr nF))))), (n0, .inl (cyJ, 60, .inr (.inl s_n0))), (n1, .inl (cyJ, 60, .inr (.inl s_n1))), (n2, .inl (cyJ, 60, .inr (.inl s_n2))), (n3, .inl (cyJ, 60, .inr (.inl s_n3)))] s.heap.size = A at hD ⊢
  have hA : ∀ q : Nat, s.heap.size ≤ q → A q := fun q h => by rw [← hAe]; exact Or.inr h
  have hS : va_S A s.heap s.heap [] := va_S.rf
  have hP : va_P (dC, dI) vwCl [(h0, .inr (7, [.ref sNum, .ref sLen, .ref sWid, .ref sMade])), (sMade, .inl (cyZ, 4, .inl s_fm)), (sLen, .inl (cyI, 4, .inl s_fl)), (sWid, .inl (cyI, 4, .inl s_fw)), (sNum, .inl (cyN, 4, .inr (.inr (.inr (.inr nF))))), (n0, .inl (cyJ, 60, .inr (.inl s_n0))), (n1, .inl (cyJ, 60, .inr (.inl s_n1))), (n2, .inl (cyJ, 60, .inr (.inl s_n2))), (n3, .inl (cyJ, 60, .inr (.inl s_n3)))] s.heap := hP
  have hl := lv_entry ([.ref h0, .int p0, .int p1, .int p2]) (n := 4) (Nat.le_of_ble_eq_true rfl)
  rw [lg_entry_eq]
  generalize (lg_sl ([.ref h0, .int p0, .int p1, .int p2]) ++ List.replicate (4 - (lg_sl ([.ref h0, .int p0, .int p1, .int p2])).length) Slot.unset).toArray = ls at hl ⊢
  have hl : lv_has ls 4 [(0, .ref h0), (1, .int p0), (2, .int p1), (3, .int p2)] := hl
  obtain ⟨H, hHe⟩ : ∃ H, H = s.heap := ⟨_, rfl⟩
  have hP : va_P (dC, dI) vwCl [(h0, .inr (7, [.ref sNum, .ref sLen, .ref sWid, .ref sMade])), (sMade, .inl (cyZ, 4, .inl s_fm)), (sLen, .inl (cyI, 4, .inl s_fl)), (sWid, .inl (cyI, 4, .inl s_fw)), (sNum, .inl (cyN, 4, .inr (.inr (.inr (.inr nF))))), (n0, .inl (cyJ, 60, .inr (.inl s_n0))), (n1, .inl (cyJ, 60, .inr (.inl s_n1))), (n2, .inl (cyJ, 60, .inr (.inl s_n2))), (n3, .inl (cyJ, 60, .inr (.inl s_n3)))] H := by rw [hHe]; exact hP
  have hS : va_S A s.heap H [] := by rw [hHe]; exact hS
  refine cv_heap hHe ?_
  obtain ⟨Q9, hQ9⟩ : ∃ Q9 : State → Prop, Q9 = MQ below (va_Qv (fun _ : Unit => True) (fun (_ : Unit) (t : State) => ∃ y0 : Nat → Int32, ∃ y1 : Nat → Int32, ∃ y2 : Nat → Int32, ∃ y3 : Nat → Int64, ∃ y4 : Nat → Int64, ∃ y5 : Nat → Int64, ∃ y6 : Nat → Int64, (rg 0 1 4 y0) ∧ (rg 0 60 4 y1) ∧ (rg 0 3 4 y2) ∧ va_P (dC, dI) vwCl [(h0, .inr (7, [.ref sNum, .ref sLen, .ref sWid, .ref sMade])), (sMade, .inl (cyZ, 4, .inl y0)), (sLen, .inl (cyI, 4, .inl y1)), (sWid, .inl (cyI, 4, .inl y2)), (sNum, .inl (cyN, 4, .inr (.inr (.inr (.inr nF))))), (n0, .inl (cyJ, 60, .inr (.inl y3))), (n1, .inl (cyJ, 60, .inr (.inl y4))), (n2, .inl (cyJ, 60, .inr (.inl y5))), (n3, .inl (cyJ, 60, .inr (.inl y6)))] t.heap ∧ va_D A [(h0, .inr (7, [.ref sNum, .ref sLen, .ref sWid, .ref sMade])), (sMade, .inl (cyZ, 4, .inl y0)), (sLen, .inl (cyI, 4, .inl y1)), (sWid, .inl (cyI, 4, .inl y2)), (sNum, .inl (cyN, 4, .inr (.inr (.inr (.inr nF))))), (n0, .inl (cyJ, 60, .inr (.inl y3))), (n1, .inl (cyJ, 60, .inr (.inl y4))), (n2, .inl (cyJ, 60, .inr (.inl y5))), (n3, .inl (cyJ, 60, .inr (.inl y6)))]) A) ([.ref h0, .int p0, .int p1, .int p2] : List Value).toArray s 0 0 A := ⟨_, rfl⟩
  rw [← hQ9]
  refine lv_aload_n hx hb dX8_make_0 rfl (lv_at hl 0 rfl) ?_
  refine va_get (D := (dC, dI)) (ci := 7) (v := .ref sMade) (C := RX8) (T := TX8) (N := 4) hx hb hts uinX8 hown hK hP 0 rfl rfl 3 (by decide) (hts _ wd_1_173) (fun _ h9 => h9) rfl dX8_make_1 ?_
  refine lv_iload_n hx hb dX8_make_4 rfl (lv_at hl 1 rfl) ?_
  refine lv_iconst (v := 1) hx hb dX8_make_5 (by decide) ?_
  refine va_zast hx hb hK hP hD hS 1 3 rfl rfl (vp_in_iff.mpr (by omega)) dX8_make_6 (fun H locs hP hD hS => ?_)
  obtain ⟨f_1, ef_1⟩ : ∃ z9 : Nat → Int32, z9 = upd s_fm p0.toNatClampNeg (vp_nar .boolean 1) := ⟨_, rfl⟩
  rw [← ef_1] at hP hD
  have hP : va_P (dC, dI) vwCl [(h0, .inr (7, [.ref sNum, .ref sLen, .ref sWid, .ref sMade])), (sMade, .inl (cyZ, 4, .inl f_1)), (sLen, .inl (cyI, 4, .inl s_fl)), (sWid, .inl (cyI, 4, .inl s_fw)), (sNum, .inl (cyN, 4, .inr (.inr (.inr (.inr nF))))), (n0, .inl (cyJ, 60, .inr (.inl s_n0))), (n1, .inl (cyJ, 60, .inr (.inl s_n1))), (n2, .inl (cyJ, 60, .inr (.inl s_n2))), (n3, .inl (cyJ, 60, .inr (.inl s_n3)))] H := hP
  have hD : va_D A [(h0, .inr (7, [.ref sNum, .ref sLen, .ref sWid, .ref sMade])), (sMade, .inl (cyZ, 4, .inl f_1)), (sLen, .inl (cyI, 4, .inl s_fl)), (sWid, .inl (cyI, 4, .inl s_fw)), (sNum, .inl (cyN, 4, .inr (.inr (.inr (.inr nF))))), (n0, .inl (cyJ, 60, .inr (.inl s_n0))), (n1, .inl (cyJ, 60, .inr (.inl s_n1))), (n2, .inl (cyJ, 60, .inr (.inl s_n2))), (n3, .inl (cyJ, 60, .inr (.inl s_n3)))] := hD
  have hf_1 : rg 0 1 4 f_1 := by rw [ef_1]; exact rg_upd (g0) (by decide)
  refine lv_aload_n hx hb dX8_make_7 rfl (lv_at hl 0 rfl) ?_
  refine va_get (D := (dC, dI)) (ci := 7) (v := .ref sWid) (C := RX8) (T := TX8) (N := 4) hx hb hts uinX8 hown hK hP 0 rfl rfl 2 (by decide) (hts _ wd_1_171) (fun _ h9 => h9) rfl dX8_make_8 ?_
  refine lv_iload_n hx hb dX8_make_11 rfl (lv_at hl 1 rfl) ?_
  refine lv_iload_n hx hb dX8_make_12 rfl (lv_at hl 2 rfl) ?_
  refine va_iast hx hb hK hP hD hS 3 0 rfl rfl (vp_in_iff.mpr (by omega)) dX8_make_13 (fun H locs hP hD hS => ?_)
  obtain ⟨f_2, ef_2⟩ : ∃ z9 : Nat → Int32, z9 = upd s_fw p0.toNatClampNeg p1 := ⟨_, rfl⟩
  rw [← ef_2] at hP hD
  have hP : va_P (dC, dI) vwCl [(h0, .inr (7, [.ref sNum, .ref sLen, .ref sWid, .ref sMade])), (sMade, .inl (cyZ, 4, .inl f_1)), (sLen, .inl (cyI, 4, .inl s_fl)), (sWid, .inl (cyI, 4, .inl f_2)), (sNum, .inl (cyN, 4, .inr (.inr (.inr (.inr nF))))), (n0, .inl (cyJ, 60, .inr (.inl s_n0))), (n1, .inl (cyJ, 60, .inr (.inl s_n1))), (n2, .inl (cyJ, 60, .inr (.inl s_n2))), (n3, .inl (cyJ, 60, .inr (.inl s_n3)))] H := hP
  have hD : va_D A [(h0, .inr (7, [.ref sNum, .ref sLen, .ref sWid, .ref sMade])), (sMade, .inl (cyZ, 4, .inl f_1)), (sLen, .inl (cyI, 4, .inl s_fl)), (sWid, .inl (cyI, 4, .inl f_2)), (sNum, .inl (cyN, 4, .inr (.inr (.inr (.inr nF))))), (n0, .inl (cyJ, 60, .inr (.inl s_n0))), (n1, .inl (cyJ, 60, .inr (.inl s_n1))), (n2, .inl (cyJ, 60, .inr (.inl s_n2))), (n3, .inl (cyJ, 60, .inr (.inl s_n3)))] := hD
  have hf_2 : rg 0 3 4 f_2 := by rw [ef_2]; exact rg_upd (g2) ⟨by omega, by omega⟩
  refine lv_aload_n hx hb dX8_make_14 rfl (lv_at hl 0 rfl) ?_
  refine va_get (D := (dC, dI)) (ci := 7) (v := .ref sLen) (C := RX8) (T := TX8) (N := 4) hx hb hts uinX8 hown hK hP 0 rfl rfl 1 (by decide) (hts _ wd_1_168) (fun _ h9 => h9) rfl dX8_make_15 ?_
  refine lv_iload_n hx hb dX8_make_18 rfl (lv_at hl 1 rfl) ?_
  refine lv_iload_n hx hb dX8_make_19 rfl (lv_at hl 3 rfl) ?_
  refine va_iast hx hb hK hP hD hS 2 0 rfl rfl (vp_in_iff.mpr (by omega)) dX8_make_20 (fun H locs hP hD hS => ?_)
  obtain ⟨f_3, ef_3⟩ : ∃ z9 : Nat → Int32, z9 = upd s_fl p0.toNatClampNeg p2 := ⟨_, rfl⟩
  rw [← ef_3] at hP hD
  have hP : va_P (dC, dI) vwCl [(h0, .inr (7, [.ref sNum, .ref sLen, .ref sWid, .ref sMade])), (sMade, .inl (cyZ, 4, .inl f_1)), (sLen, .inl (cyI, 4, .inl f_3)), (sWid, .inl (cyI, 4, .inl f_2)), (sNum, .inl (cyN, 4, .inr (.inr (.inr (.inr nF))))), (n0, .inl (cyJ, 60, .inr (.inl s_n0))), (n1, .inl (cyJ, 60, .inr (.inl s_n1))), (n2, .inl (cyJ, 60, .inr (.inl s_n2))), (n3, .inl (cyJ, 60, .inr (.inl s_n3)))] H := hP
  have hD : va_D A [(h0, .inr (7, [.ref sNum, .ref sLen, .ref sWid, .ref sMade])), (sMade, .inl (cyZ, 4, .inl f_1)), (sLen, .inl (cyI, 4, .inl f_3)), (sWid, .inl (cyI, 4, .inl f_2)), (sNum, .inl (cyN, 4, .inr (.inr (.inr (.inr nF))))), (n0, .inl (cyJ, 60, .inr (.inl s_n0))), (n1, .inl (cyJ, 60, .inr (.inl s_n1))), (n2, .inl (cyJ, 60, .inr (.inl s_n2))), (n3, .inl (cyJ, 60, .inr (.inl s_n3)))] := hD
  have hf_3 : rg 0 60 4 f_3 := by rw [ef_3]; exact rg_upd (g1) ⟨by omega, by omega⟩
  refine lv_aload_n hx hb dX8_make_21 rfl (lv_at hl 0 rfl) ?_
  refine va_get (D := (dC, dI)) (ci := 7) (v := .ref sNum) (C := RX8) (T := TX8) (N := 4) hx hb hts uinX8 hown hK hP 0 rfl rfl 0 (by decide) (hts _ wd_1_165) (fun _ h9 => h9) rfl dX8_make_22 ?_
  refine lv_iload_n hx hb dX8_make_25 rfl (lv_at hl 1 rfl) ?_
  rcases (show p0.toInt = 0 ∨ p0.toInt = 1 ∨ p0.toInt = 2 ∨ p0.toInt = 3 by omega) with c_4 | c_4 | c_4 | c_4
  · obtain rfl : p0 = 0 := Int32.toInt_inj.mp c_4
    refine cv_aldA hx hb hK hP 4 5 rfl rfl (vp_in_iff.mpr (by decide)) dX8_make_26 ?_
    refine cv_topr (b := .ref n0) (by rw [show (0 : Int32).toNatClampNeg = 0 from rfl, g6]; rfl) ?_
    refine lv_lconst (v := 0) hx hb dX8_make_27 (by decide) ?_
    have hPc := hP.sub (ws' := [(n0, .inl (cyJ, 60, .inr (.inl s_n0)))]) [5] rfl
    have hKc := hK.sub (tys' := [(cyI, .int), (cyB, .byte), (cyJ, .long), (cyZ, .boolean), (cyH, .object RX2), (cyN, .array .long)]) [0, 1, 2, 3, 4, 5] rfl
    have hDc := hD.sub (ws' := [(n0, .inl (cyJ, 60, .inr (.inl s_n0)))]) [5] (by decide) rfl
    have hFc := va_free (wc := [(n0, .inl (cyJ, 60, .inr (.inl s_n0)))]) hD hS hA [5] rfl
    refine va_callv (va_runS (As := [.ref n0, .long 0]) (rest := []) ⟨hx, hb, hml, hown, hts⟩ (n_fillL60 l dC dI cyI cyB cyJ cyZ cyH cyN H.size n0 s_n0 0) (va_cwS 2 hts (gdS wd_6_15 wd_5_139 wd_1_12 wd_5_140) rfl rfl rfl (by decide +kernel) ⟨Nat.le_of_ble_eq_true rfl, Nat.le_of_ble_eq_true rfl⟩) ⟨fun a U g mk q => by obtain ⟨q0, q1, qP, qK, qD⟩ := q; exact ⟨q0, q1, qP, va_K.moved (u := U) (U := U.calling g mk a) (Vm.Alike.refl U.vm) qK, qD⟩, fun U hU hW => ⟨rfl, by rw [hU], by rw [hU]; exact hPc, va_K.moved hW.alike hKc, hDc.weaken (fun _ _ _ _ => trivial)⟩⟩ rfl rfl hl.1 rfl (lv_room (Nat.le_of_ble_eq_true rfl)) dX8_make_28 ⟨Nat.le_of_ble_eq_true rfl, Nat.le_of_ble_eq_true rfl⟩) hS (fun q _ h => hFc q h) hFc (fun  u t H1 locs ht hvm hw hB hz1 hk1 hS => ?_)
    obtain ⟨y0_5, hP1, hD1⟩ := hB
    rw [ht] at hP1
    obtain ⟨hP, hD⟩ := va_join (wr := [(h0, .inr (7, [.ref sNum, .ref sLen, .ref sWid, .ref sMade])), (sMade, .inl (cyZ, 4, .inl f_1)), (sLen, .inl (cyI, 4, .inl f_3)), (sWid, .inl (cyI, 4, .inl f_2)), (sNum, .inl (cyN, 4, .inr (.inr (.inr (.inr nF))))), (n1, .inl (cyJ, 60, .inr (.inl s_n1))), (n2, .inl (cyJ, 60, .inr (.inl s_n2))), (n3, .inl (cyJ, 60, .inr (.inl s_n3)))]) (w1 := [(n0, .inl (cyJ, 60, .inr (.inl y0_5)))]) hP hD [5] [0, 1, 2, 3, 4, 6, 7, 8] rfl rfl (by decide) (by decide) hk1 hFc hP1 hD1
    generalize H1 = H at hP hS ⊢
    have hP : va_P (dC, dI) vwCl [(h0, .inr (7, [.ref sNum, .ref sLen, .ref sWid, .ref sMade])), (sMade, .inl (cyZ, 4, .inl f_1)), (sLen, .inl (cyI, 4, .inl f_3)), (sWid, .inl (cyI, 4, .inl f_2)), (sNum, .inl (cyN, 4, .inr (.inr (.inr (.inr nF))))), (n1, .inl (cyJ, 60, .inr (.inl s_n1))), (n2, .inl (cyJ, 60, .inr (.inl s_n2))), (n3, .inl (cyJ, 60, .inr (.inl s_n3))), (n0, .inl (cyJ, 60, .inr (.inl y0_5)))] H := hP
    have hD : va_D A [(h0, .inr (7, [.ref sNum, .ref sLen, .ref sWid, .ref sMade])), (sMade, .inl (cyZ, 4, .inl f_1)), (sLen, .inl (cyI, 4, .inl f_3)), (sWid, .inl (cyI, 4, .inl f_2)), (sNum, .inl (cyN, 4, .inr (.inr (.inr (.inr nF))))), (n1, .inl (cyJ, 60, .inr (.inl s_n1))), (n2, .inl (cyJ, 60, .inr (.inl s_n2))), (n3, .inl (cyJ, 60, .inr (.inl s_n3))), (n0, .inl (cyJ, 60, .inr (.inl y0_5)))] := hD
    have hP := hP.sub (ws' := [(h0, .inr (7, [.ref sNum, .ref sLen, .ref sWid, .ref sMade])), (sMade, .inl (cyZ, 4, .inl f_1)), (sLen, .inl (cyI, 4, .inl f_3)), (sWid, .inl (cyI, 4, .inl f_2)), (sNum, .inl (cyN, 4, .inr (.inr (.inr (.inr nF))))), (n0, .inl (cyJ, 60, .inr (.inl y0_5))), (n1, .inl (cyJ, 60, .inr (.inl s_n1))), (n2, .inl (cyJ, 60, .inr (.inl s_n2))), (n3, .inl (cyJ, 60, .inr (.inl s_n3)))]) [0, 1, 2, 3, 4, 8, 5, 6, 7] rfl
    have hD := hD.sub (ws' := [(h0, .inr (7, [.ref sNum, .ref sLen, .ref sWid, .ref sMade])), (sMade, .inl (cyZ, 4, .inl f_1)), (sLen, .inl (cyI, 4, .inl f_3)), (sWid, .inl (cyI, 4, .inl f_2)), (sNum, .inl (cyN, 4, .inr (.inr (.inr (.inr nF))))), (n0, .inl (cyJ, 60, .inr (.inl y0_5))), (n1, .inl (cyJ, 60, .inr (.inl s_n1))), (n2, .inl (cyJ, 60, .inr (.inl s_n2))), (n3, .inl (cyJ, 60, .inr (.inl s_n3)))]) [0, 1, 2, 3, 4, 8, 5, 6, 7] (by decide) rfl
    rw [hQ9]
    have hP9 := hP.sub (ws' := [(h0, .inr (7, [.ref sNum, .ref sLen, .ref sWid, .ref sMade])), (sMade, .inl (cyZ, 4, .inl f_1)), (sLen, .inl (cyI, 4, .inl f_3)), (sWid, .inl (cyI, 4, .inl f_2)), (sNum, .inl (cyN, 4, .inr (.inr (.inr (.inr nF))))), (n0, .inl (cyJ, 60, .inr (.inl y0_5))), (n1, .inl (cyJ, 60, .inr (.inl s_n1))), (n2, .inl (cyJ, 60, .inr (.inl s_n2))), (n3, .inl (cyJ, 60, .inr (.inl s_n3)))]) [0, 1, 2, 3, 4, 5, 6, 7, 8] rfl
    have hD9 := hD.sub (ws' := [(h0, .inr (7, [.ref sNum, .ref sLen, .ref sWid, .ref sMade])), (sMade, .inl (cyZ, 4, .inl f_1)), (sLen, .inl (cyI, 4, .inl f_3)), (sWid, .inl (cyI, 4, .inl f_2)), (sNum, .inl (cyN, 4, .inr (.inr (.inr (.inr nF))))), (n0, .inl (cyJ, 60, .inr (.inl y0_5))), (n1, .inl (cyJ, 60, .inr (.inl s_n1))), (n2, .inl (cyJ, 60, .inr (.inl s_n2))), (n3, .inl (cyJ, 60, .inr (.inl s_n3)))]) [0, 1, 2, 3, 4, 5, 6, 7, 8] (by decide) rfl
    exact W.vret hx hb hr (fun t ht hW => ⟨⟨(), rfl, trivial, ⟨f_1, f_3, f_2, y0_5, s_n1, s_n2, s_n3, hf_1, hf_3, hf_2, by rw [ht]; exact hP9, hD9⟩⟩, hS.F ht⟩) hS.2.2 dX8_make_31
  · obtain rfl : p0 = 1 := Int32.toInt_inj.mp c_4
    refine cv_aldA hx hb hK hP 4 5 rfl rfl (vp_in_iff.mpr (by decide)) dX8_make_26 ?_
    refine cv_topr (b := .ref n1) (by rw [show (1 : Int32).toNatClampNeg = 1 from rfl, g7]; rfl) ?_
    refine lv_lconst (v := 0) hx hb dX8_make_27 (by decide) ?_
    have hPc := hP.sub (ws' := [(n1, .inl (cyJ, 60, .inr (.inl s_n1)))]) [6] rfl
    have hKc := hK.sub (tys' := [(cyI, .int), (cyB, .byte), (cyJ, .long), (cyZ, .boolean), (cyH, .object RX2), (cyN, .array .long)]) [0, 1, 2, 3, 4, 5] rfl
    have hDc := hD.sub (ws' := [(n1, .inl (cyJ, 60, .inr (.inl s_n1)))]) [6] (by decide) rfl
    have hFc := va_free (wc := [(n1, .inl (cyJ, 60, .inr (.inl s_n1)))]) hD hS hA [6] rfl
    refine va_callv (va_runS (As := [.ref n1, .long 0]) (rest := []) ⟨hx, hb, hml, hown, hts⟩ (n_fillL60 l dC dI cyI cyB cyJ cyZ cyH cyN H.size n1 s_n1 0) (va_cwS 2 hts (gdS wd_6_15 wd_5_139 wd_1_12 wd_5_140) rfl rfl rfl (by decide +kernel) ⟨Nat.le_of_ble_eq_true rfl, Nat.le_of_ble_eq_true rfl⟩) ⟨fun a U g mk q => by obtain ⟨q0, q1, qP, qK, qD⟩ := q; exact ⟨q0, q1, qP, va_K.moved (u := U) (U := U.calling g mk a) (Vm.Alike.refl U.vm) qK, qD⟩, fun U hU hW => ⟨rfl, by rw [hU], by rw [hU]; exact hPc, va_K.moved hW.alike hKc, hDc.weaken (fun _ _ _ _ => trivial)⟩⟩ rfl rfl hl.1 rfl (lv_room (Nat.le_of_ble_eq_true rfl)) dX8_make_28 ⟨Nat.le_of_ble_eq_true rfl, Nat.le_of_ble_eq_true rfl⟩) hS (fun q _ h => hFc q h) hFc (fun  u t H1 locs ht hvm hw hB hz1 hk1 hS => ?_)
    obtain ⟨y0_6, hP1, hD1⟩ := hB
    rw [ht] at hP1
    obtain ⟨hP, hD⟩ := va_join (wr := [(h0, .inr (7, [.ref sNum, .ref sLen, .ref sWid, .ref sMade])), (sMade, .inl (cyZ, 4, .inl f_1)), (sLen, .inl (cyI, 4, .inl f_3)), (sWid, .inl (cyI, 4, .inl f_2)), (sNum, .inl (cyN, 4, .inr (.inr (.inr (.inr nF))))), (n0, .inl (cyJ, 60, .inr (.inl s_n0))), (n2, .inl (cyJ, 60, .inr (.inl s_n2))), (n3, .inl (cyJ, 60, .inr (.inl s_n3)))]) (w1 := [(n1, .inl (cyJ, 60, .inr (.inl y0_6)))]) hP hD [6] [0, 1, 2, 3, 4, 5, 7, 8] rfl rfl (by decide) (by decide) hk1 hFc hP1 hD1
    generalize H1 = H at hP hS ⊢
    have hP : va_P (dC, dI) vwCl [(h0, .inr (7, [.ref sNum, .ref sLen, .ref sWid, .ref sMade])), (sMade, .inl (cyZ, 4, .inl f_1)), (sLen, .inl (cyI, 4, .inl f_3)), (sWid, .inl (cyI, 4, .inl f_2)), (sNum, .inl (cyN, 4, .inr (.inr (.inr (.inr nF))))), (n0, .inl (cyJ, 60, .inr (.inl s_n0))), (n2, .inl (cyJ, 60, .inr (.inl s_n2))), (n3, .inl (cyJ, 60, .inr (.inl s_n3))), (n1, .inl (cyJ, 60, .inr (.inl y0_6)))] H := hP
    have hD : va_D A [(h0, .inr (7, [.ref sNum, .ref sLen, .ref sWid, .ref sMade])), (sMade, .inl (cyZ, 4, .inl f_1)), (sLen, .inl (cyI, 4, .inl f_3)), (sWid, .inl (cyI, 4, .inl f_2)), (sNum, .inl (cyN, 4, .inr (.inr (.inr (.inr nF))))), (n0, .inl (cyJ, 60, .inr (.inl s_n0))), (n2, .inl (cyJ, 60, .inr (.inl s_n2))), (n3, .inl (cyJ, 60, .inr (.inl s_n3))), (n1, .inl (cyJ, 60, .inr (.inl y0_6)))] := hD
    have hP := hP.sub (ws' := [(h0, .inr (7, [.ref sNum, .ref sLen, .ref sWid, .ref sMade])), (sMade, .inl (cyZ, 4, .inl f_1)), (sLen, .inl (cyI, 4, .inl f_3)), (sWid, .inl (cyI, 4, .inl f_2)), (sNum, .inl (cyN, 4, .inr (.inr (.inr (.inr nF))))), (n0, .inl (cyJ, 60, .inr (.inl s_n0))), (n1, .inl (cyJ, 60, .inr (.inl y0_6))), (n2, .inl (cyJ, 60, .inr (.inl s_n2))), (n3, .inl (cyJ, 60, .inr (.inl s_n3)))]) [0, 1, 2, 3, 4, 5, 8, 6, 7] rfl
    have hD := hD.sub (ws' := [(h0, .inr (7, [.ref sNum, .ref sLen, .ref sWid, .ref sMade])), (sMade, .inl (cyZ, 4, .inl f_1)), (sLen, .inl (cyI, 4, .inl f_3)), (sWid, .inl (cyI, 4, .inl f_2)), (sNum, .inl (cyN, 4, .inr (.inr (.inr (.inr nF))))), (n0, .inl (cyJ, 60, .inr (.inl s_n0))), (n1, .inl (cyJ, 60, .inr (.inl y0_6))), (n2, .inl (cyJ, 60, .inr (.inl s_n2))), (n3, .inl (cyJ, 60, .inr (.inl s_n3)))]) [0, 1, 2, 3, 4, 5, 8, 6, 7] (by decide) rfl
    rw [hQ9]
    have hP9 := hP.sub (ws' := [(h0, .inr (7, [.ref sNum, .ref sLen, .ref sWid, .ref sMade])), (sMade, .inl (cyZ, 4, .inl f_1)), (sLen, .inl (cyI, 4, .inl f_3)), (sWid, .inl (cyI, 4, .inl f_2)), (sNum, .inl (cyN, 4, .inr (.inr (.inr (.inr nF))))), (n0, .inl (cyJ, 60, .inr (.inl s_n0))), (n1, .inl (cyJ, 60, .inr (.inl y0_6))), (n2, .inl (cyJ, 60, .inr (.inl s_n2))), (n3, .inl (cyJ, 60, .inr (.inl s_n3)))]) [0, 1, 2, 3, 4, 5, 6, 7, 8] rfl
    have hD9 := hD.sub (ws' := [(h0, .inr (7, [.ref sNum, .ref sLen, .ref sWid, .ref sMade])), (sMade, .inl (cyZ, 4, .inl f_1)), (sLen, .inl (cyI, 4, .inl f_3)), (sWid, .inl (cyI, 4, .inl f_2)), (sNum, .inl (cyN, 4, .inr (.inr (.inr (.inr nF))))), (n0, .inl (cyJ, 60, .inr (.inl s_n0))), (n1, .inl (cyJ, 60, .inr (.inl y0_6))), (n2, .inl (cyJ, 60, .inr (.inl s_n2))), (n3, .inl (cyJ, 60, .inr (.inl s_n3)))]) [0, 1, 2, 3, 4, 5, 6, 7, 8] (by decide) rfl
    exact W.vret hx hb hr (fun t ht hW => ⟨⟨(), rfl, trivial, ⟨f_1, f_3, f_2, s_n0, y0_6, s_n2, s_n3, hf_1, hf_3, hf_2, by rw [ht]; exact hP9, hD9⟩⟩, hS.F ht⟩) hS.2.2 dX8_make_31
  · obtain rfl : p0 = 2 := Int32.toInt_inj.mp c_4
    refine cv_aldA hx hb hK hP 4 5 rfl rfl (vp_in_iff.mpr (by decide)) dX8_make_26 ?_
    refine cv_topr (b := .ref n2) (by rw [show (2 : Int32).toNatClampNeg = 2 from rfl, g8]; rfl) ?_
    refine lv_lconst (v := 0) hx hb dX8_make_27 (by decide) ?_
    have hPc := hP.sub (ws' := [(n2, .inl (cyJ, 60, .inr (.inl s_n2)))]) [7] rfl
    have hKc := hK.sub (tys' := [(cyI, .int), (cyB, .byte), (cyJ, .long), (cyZ, .boolean), (cyH, .object RX2), (cyN, .array .long)]) [0, 1, 2, 3, 4, 5] rfl
    have hDc := hD.sub (ws' := [(n2, .inl (cyJ, 60, .inr (.inl s_n2)))]) [7] (by decide) rfl
    have hFc := va_free (wc := [(n2, .inl (cyJ, 60, .inr (.inl s_n2)))]) hD hS hA [7] rfl
    refine va_callv (va_runS (As := [.ref n2, .long 0]) (rest := []) ⟨hx, hb, hml, hown, hts⟩ (n_fillL60 l dC dI cyI cyB cyJ cyZ cyH cyN H.size n2 s_n2 0) (va_cwS 2 hts (gdS wd_6_15 wd_5_139 wd_1_12 wd_5_140) rfl rfl rfl (by decide +kernel) ⟨Nat.le_of_ble_eq_true rfl, Nat.le_of_ble_eq_true rfl⟩) ⟨fun a U g mk q => by obtain ⟨q0, q1, qP, qK, qD⟩ := q; exact ⟨q0, q1, qP, va_K.moved (u := U) (U := U.calling g mk a) (Vm.Alike.refl U.vm) qK, qD⟩, fun U hU hW => ⟨rfl, by rw [hU], by rw [hU]; exact hPc, va_K.moved hW.alike hKc, hDc.weaken (fun _ _ _ _ => trivial)⟩⟩ rfl rfl hl.1 rfl (lv_room (Nat.le_of_ble_eq_true rfl)) dX8_make_28 ⟨Nat.le_of_ble_eq_true rfl, Nat.le_of_ble_eq_true rfl⟩) hS (fun q _ h => hFc q h) hFc (fun  u t H1 locs ht hvm hw hB hz1 hk1 hS => ?_)
    obtain ⟨y0_7, hP1, hD1⟩ := hB
    rw [ht] at hP1
    obtain ⟨hP, hD⟩ := va_join (wr := [(h0, .inr (7, [.ref sNum, .ref sLen, .ref sWid, .ref sMade])), (sMade, .inl (cyZ, 4, .inl f_1)), (sLen, .inl (cyI, 4, .inl f_3)), (sWid, .inl (cyI, 4, .inl f_2)), (sNum, .inl (cyN, 4, .inr (.inr (.inr (.inr nF))))), (n0, .inl (cyJ, 60, .inr (.inl s_n0))), (n1, .inl (cyJ, 60, .inr (.inl s_n1))), (n3, .inl (cyJ, 60, .inr (.inl s_n3)))]) (w1 := [(n2, .inl (cyJ, 60, .inr (.inl y0_7)))]) hP hD [7] [0, 1, 2, 3, 4, 5, 6, 8] rfl rfl (by decide) (by decide) hk1 hFc hP1 hD1
    generalize H1 = H at hP hS ⊢
    have hP : va_P (dC, dI) vwCl [(h0, .inr (7, [.ref sNum, .ref sLen, .ref sWid, .ref sMade])), (sMade, .inl (cyZ, 4, .inl f_1)), (sLen, .inl (cyI, 4, .inl f_3)), (sWid, .inl (cyI, 4, .inl f_2)), (sNum, .inl (cyN, 4, .inr (.inr (.inr (.inr nF))))), (n0, .inl (cyJ, 60, .inr (.inl s_n0))), (n1, .inl (cyJ, 60, .inr (.inl s_n1))), (n3, .inl (cyJ, 60, .inr (.inl s_n3))), (n2, .inl (cyJ, 60, .inr (.inl y0_7)))] H := hP
    have hD : va_D A [(h0, .inr (7, [.ref sNum, .ref sLen, .ref sWid, .ref sMade])), (sMade, .inl (cyZ, 4, .inl f_1)), (sLen, .inl (cyI, 4, .inl f_3)), (sWid, .inl (cyI, 4, .inl f_2)), (sNum, .inl (cyN, 4, .inr (.inr (.inr (.inr nF))))), (n0, .inl (cyJ, 60, .inr (.inl s_n0))), (n1, .inl (cyJ, 60, .inr (.inl s_n1))), (n3, .inl (cyJ, 60, .inr (.inl s_n3))), (n2, .inl (cyJ, 60, .inr (.inl y0_7)))] := hD
    have hP := hP.sub (ws' := [(h0, .inr (7, [.ref sNum, .ref sLen, .ref sWid, .ref sMade])), (sMade, .inl (cyZ, 4, .inl f_1)), (sLen, .inl (cyI, 4, .inl f_3)), (sWid, .inl (cyI, 4, .inl f_2)), (sNum, .inl (cyN, 4, .inr (.inr (.inr (.inr nF))))), (n0, .inl (cyJ, 60, .inr (.inl s_n0))), (n1, .inl (cyJ, 60, .inr (.inl s_n1))), (n2, .inl (cyJ, 60, .inr (.inl y0_7))), (n3, .inl (cyJ, 60, .inr (.inl s_n3)))]) [0, 1, 2, 3, 4, 5, 6, 8, 7] rfl
    have hD := hD.sub (ws' := [(h0, .inr (7, [.ref sNum, .ref sLen, .ref sWid, .ref sMade])), (sMade, .inl (cyZ, 4, .inl f_1)), (sLen, .inl (cyI, 4, .inl f_3)), (sWid, .inl (cyI, 4, .inl f_2)), (sNum, .inl (cyN, 4, .inr (.inr (.inr (.inr nF))))), (n0, .inl (cyJ, 60, .inr (.inl s_n0))), (n1, .inl (cyJ, 60, .inr (.inl s_n1))), (n2, .inl (cyJ, 60, .inr (.inl y0_7))), (n3, .inl (cyJ, 60, .inr (.inl s_n3)))]) [0, 1, 2, 3, 4, 5, 6, 8, 7] (by decide) rfl
    rw [hQ9]
    have hP9 := hP.sub (ws' := [(h0, .inr (7, [.ref sNum, .ref sLen, .ref sWid, .ref sMade])), (sMade, .inl (cyZ, 4, .inl f_1)), (sLen, .inl (cyI, 4, .inl f_3)), (sWid, .inl (cyI, 4, .inl f_2)), (sNum, .inl (cyN, 4, .inr (.inr (.inr (.inr nF))))), (n0, .inl (cyJ, 60, .inr (.inl s_n0))), (n1, .inl (cyJ, 60, .inr (.inl s_n1))), (n2, .inl (cyJ, 60, .inr (.inl y0_7))), (n3, .inl (cyJ, 60, .inr (.inl s_n3)))]) [0, 1, 2, 3, 4, 5, 6, 7, 8] rfl
    have hD9 := hD.sub (ws' := [(h0, .inr (7, [.ref sNum, .ref sLen, .ref sWid, .ref sMade])), (sMade, .inl (cyZ, 4, .inl f_1)), (sLen, .inl (cyI, 4, .inl f_3)), (sWid, .inl (cyI, 4, .inl f_2)), (sNum, .inl (cyN, 4, .inr (.inr (.inr (.inr nF))))), (n0, .inl (cyJ, 60, .inr (.inl s_n0))), (n1, .inl (cyJ, 60, .inr (.inl s_n1))), (n2, .inl (cyJ, 60, .inr (.inl y0_7))), (n3, .inl (cyJ, 60, .inr (.inl s_n3)))]) [0, 1, 2, 3, 4, 5, 6, 7, 8] (by decide) rfl
    exact W.vret hx hb hr (fun t ht hW => ⟨⟨(), rfl, trivial, ⟨f_1, f_3, f_2, s_n0, s_n1, y0_7, s_n3, hf_1, hf_3, hf_2, by rw [ht]; exact hP9, hD9⟩⟩, hS.F ht⟩) hS.2.2 dX8_make_31
  · obtain rfl : p0 = 3 := Int32.toInt_inj.mp c_4
    refine cv_aldA hx hb hK hP 4 5 rfl rfl (vp_in_iff.mpr (by decide)) dX8_make_26 ?_
    refine cv_topr (b := .ref n3) (by rw [show (3 : Int32).toNatClampNeg = 3 from rfl, g9]; rfl) ?_
    refine lv_lconst (v := 0) hx hb dX8_make_27 (by decide) ?_
    have hPc := hP.sub (ws' := [(n3, .inl (cyJ, 60, .inr (.inl s_n3)))]) [8] rfl
    have hKc := hK.sub (tys' := [(cyI, .int), (cyB, .byte), (cyJ, .long), (cyZ, .boolean), (cyH, .object RX2), (cyN, .array .long)]) [0, 1, 2, 3, 4, 5] rfl
    have hDc := hD.sub (ws' := [(n3, .inl (cyJ, 60, .inr (.inl s_n3)))]) [8] (by decide) rfl
    have hFc := va_free (wc := [(n3, .inl (cyJ, 60, .inr (.inl s_n3)))]) hD hS hA [8] rfl
    refine va_callv (va_runS (As := [.ref n3, .long 0]) (rest := []) ⟨hx, hb, hml, hown, hts⟩ (n_fillL60 l dC dI cyI cyB cyJ cyZ cyH cyN H.size n3 s_n3 0) (va_cwS 2 hts (gdS wd_6_15 wd_5_139 wd_1_12 wd_5_140) rfl rfl rfl (by decide +kernel) ⟨Nat.le_of_ble_eq_true rfl, Nat.le_of_ble_eq_true rfl⟩) ⟨fun a U g mk q => by obtain ⟨q0, q1, qP, qK, qD⟩ := q; exact ⟨q0, q1, qP, va_K.moved (u := U) (U := U.calling g mk a) (Vm.Alike.refl U.vm) qK, qD⟩, fun U hU hW => ⟨rfl, by rw [hU], by rw [hU]; exact hPc, va_K.moved hW.alike hKc, hDc.weaken (fun _ _ _ _ => trivial)⟩⟩ rfl rfl hl.1 rfl (lv_room (Nat.le_of_ble_eq_true rfl)) dX8_make_28 ⟨Nat.le_of_ble_eq_true rfl, Nat.le_of_ble_eq_true rfl⟩) hS (fun q _ h => hFc q h) hFc (fun  u t H1 locs ht hvm hw hB hz1 hk1 hS => ?_)
    obtain ⟨y0_8, hP1, hD1⟩ := hB
    rw [ht] at hP1
    obtain ⟨hP, hD⟩ := va_join (wr := [(h0, .inr (7, [.ref sNum, .ref sLen, .ref sWid, .ref sMade])), (sMade, .inl (cyZ, 4, .inl f_1)), (sLen, .inl (cyI, 4, .inl f_3)), (sWid, .inl (cyI, 4, .inl f_2)), (sNum, .inl (cyN, 4, .inr (.inr (.inr (.inr nF))))), (n0, .inl (cyJ, 60, .inr (.inl s_n0))), (n1, .inl (cyJ, 60, .inr (.inl s_n1))), (n2, .inl (cyJ, 60, .inr (.inl s_n2)))]) (w1 := [(n3, .inl (cyJ, 60, .inr (.inl y0_8)))]) hP hD [8] [0, 1, 2, 3, 4, 5, 6, 7] rfl rfl (by decide) (by decide) hk1 hFc hP1 hD1
    generalize H1 = H at hP hS ⊢
    have hP : va_P (dC, dI) vwCl [(h0, .inr (7, [.ref sNum, .ref sLen, .ref sWid, .ref sMade])), (sMade, .inl (cyZ, 4, .inl f_1)), (sLen, .inl (cyI, 4, .inl f_3)), (sWid, .inl (cyI, 4, .inl f_2)), (sNum, .inl (cyN, 4, .inr (.inr (.inr (.inr nF))))), (n0, .inl (cyJ, 60, .inr (.inl s_n0))), (n1, .inl (cyJ, 60, .inr (.inl s_n1))), (n2, .inl (cyJ, 60, .inr (.inl s_n2))), (n3, .inl (cyJ, 60, .inr (.inl y0_8)))] H := hP
    have hD : va_D A [(h0, .inr (7, [.ref sNum, .ref sLen, .ref sWid, .ref sMade])), (sMade, .inl (cyZ, 4, .inl f_1)), (sLen, .inl (cyI, 4, .inl f_3)), (sWid, .inl (cyI, 4, .inl f_2)), (sNum, .inl (cyN, 4, .inr (.inr (.inr (.inr nF))))), (n0, .inl (cyJ, 60, .inr (.inl s_n0))), (n1, .inl (cyJ, 60, .inr (.inl s_n1))), (n2, .inl (cyJ, 60, .inr (.inl s_n2))), (n3, .inl (cyJ, 60, .inr (.inl y0_8)))] := hD
    rw [hQ9]
    have hP9 := hP.sub (ws' := [(h0, .inr (7, [.ref sNum, .ref sLen, .ref sWid, .ref sMade])), (sMade, .inl (cyZ, 4, .inl f_1)), (sLen, .inl (cyI, 4, .inl f_3)), (sWid, .inl (cyI, 4, .inl f_2)), (sNum, .inl (cyN, 4, .inr (.inr (.inr (.inr nF))))), (n0, .inl (cyJ, 60, .inr (.inl s_n0))), (n1, .inl (cyJ, 60, .inr (.inl s_n1))), (n2, .inl (cyJ, 60, .inr (.inl s_n2))), (n3, .inl (cyJ, 60, .inr (.inl y0_8)))]) [0, 1, 2, 3, 4, 5, 6, 7, 8] rfl
    have hD9 := hD.sub (ws' := [(h0, .inr (7, [.ref sNum, .ref sLen, .ref sWid, .ref sMade])), (sMade, .inl (cyZ, 4, .inl f_1)), (sLen, .inl (cyI, 4, .inl f_3)), (sWid, .inl (cyI, 4, .inl f_2)), (sNum, .inl (cyN, 4, .inr (.inr (.inr (.inr nF))))), (n0, .inl (cyJ, 60, .inr (.inl s_n0))), (n1, .inl (cyJ, 60, .inr (.inl s_n1))), (n2, .inl (cyJ, 60, .inr (.inl s_n2))), (n3, .inl (cyJ, 60, .inr (.inl y0_8)))]) [0, 1, 2, 3, 4, 5, 6, 7, 8] (by decide) rfl
    exact W.vret hx hb hr (fun t ht hW => ⟨⟨(), rfl, trivial, ⟨f_1, f_3, f_2, s_n0, s_n1, s_n2, y0_8, hf_1, hf_3, hf_2, by rw [ht]; exact hP9, hD9⟩⟩, hS.F ht⟩) hS.2.2 dX8_make_31

/- X8_readHeads -/
set_option maxHeartbeats 4000000 in
set_option maxRecDepth 100000 in
theorem n_readHeads (l : Launch) (dC : Nat → ClassId) (dI : Nat → Nat → Nat) (cyI cyB cyJ cyZ cyH cyN : ClassId) (sz : Nat) (h0 sNum sLen sWid sMade n0 n1 n2 n3 : Nat) (nF : Nat → Option Nat) (s_fm s_fl s_fw : Nat → Int32) (s_n0 s_n1 s_n2 s_n3 : Nat → Int64) (r0 : Nat) (f0 : Nat → Int32) (p0 p1 : Int32) (g0 : rg 0 1 4 s_fm) (g1 : rg 0 60 4 s_fl) (g2 : rg 0 3 4 s_fw) (g3 : rg 0 6 7 f0) (g4 : 0 ≤ p0.toInt ∧ p0.toInt ≤ 3) (g5 : 0 ≤ p1.toInt ∧ p1.toInt ≤ 7) (g6 : nF 0 = some n0) (g7 : nF 1 = some n1) (g8 : nF 2 = some n2) (g9 : nF 3 = some n3) : Met l yX8_readHeads (wk yX8_readHeads cX8_readHeads 8 (some .boolean)) ({ frames := 1, cells := 0, slots := 0, locals := 60 }) (va_Pc [.ref h0, .int p0, .int p1, .ref r0] (fun U => U.heap.size = sz ∧ va_P (dC, dI) vwCl [(h0, .inr (7, [.ref sNum, .ref sLen, .ref sWid, .ref sMade])), (sMade, .inl (cyZ, 4, .inl s_fm)), (sLen, .inl (cyI, 4, .inl s_fl)), (sWid, .inl (cyI, 4, .inl s_fw)), (sNum, .inl (cyN, 4, .inr (.inr (.inr (.inr nF))))), (n0, .inl (cyJ, 60, .inr (.inl s_n0))), (n1, .inl (cyJ, 60, .inr (.inl s_n1))), (n2, .inl (cyJ, 60, .inr (.inl s_n2))), (n3, .inl (cyJ, 60, .inr (.inl s_n3))), (r0, .inl (cyI, 7, .inl f0))] U.heap ∧ va_K (dC, dI) vwCl [(cyI, .int), (cyB, .byte), (cyJ, .long), (cyZ, .boolean), (cyH, .object RX2), (cyN, .array .long)] U ∧ va_D (fun _ => True) [(h0, .inr (7, [.ref sNum, .ref sLen, .ref sWid, .ref sMade])), (sMade, .inl (cyZ, 4, .inl s_fm)), (sLen, .inl (cyI, 4, .inl s_fl)), (sWid, .inl (cyI, 4, .inl s_fw)), (sNum, .inl (cyN, 4, .inr (.inr (.inr (.inr nF))))), (n0, .inl (cyJ, 60, .inr (.inl s_n0))), (n1, .inl (cyJ, 60, .inr (.inl s_n1))), (n2, .inl (cyJ, 60, .inr (.inl s_n2))), (n3, .inl (cyJ, 60, .inr (.inl s_n3))), (r0, .inl (cyI, 7, .inl f0))])) (va_Qi (fun (r : Int32) (_ : Unit) => 0 ≤ r.toInt ∧ r.toInt ≤ 1) (fun (_ : Unit) (t : State) => ∃ y0 : Nat → Int32, (rg 0 6 7 y0) ∧ va_P (dC, dI) vwCl [(h0, .inr (7, [.ref sNum, .ref sLen, .ref sWid, .ref sMade])), (sMade, .inl (cyZ, 4, .inl s_fm)), (sLen, .inl (cyI, 4, .inl s_fl)), (sWid, .inl (cyI, 4, .inl s_fw)), (sNum, .inl (cyN, 4, .inr (.inr (.inr (.inr nF))))), (n0, .inl (cyJ, 60, .inr (.inl s_n0))), (n1, .inl (cyJ, 60, .inr (.inl s_n1))), (n2, .inl (cyJ, 60, .inr (.inl s_n2))), (n3, .inl (cyJ, 60, .inr (.inl s_n3))), (r0, .inl (cyI, 7, .inl y0))] t.heap ∧ va_D (va_A [(h0, .inr (7, [.ref sNum, .ref sLen, .ref sWid, .ref sMade])), (sMade, .inl (cyZ, 4, .inl s_fm)), (sLen, .inl (cyI, 4, .inl s_fl)), (sWid, .inl (cyI, 4, .inl s_fw)), (sNum, .inl (cyN, 4, .inr (.inr (.inr (.inr nF))))), (n0, .inl (cyJ, 60, .inr (.inl s_n0))), (n1, .inl (cyJ, 60, .inr (.inl s_n1))), (n2, .inl (cyJ, 60, .inr (.inl s_n2))), (n3, .inl (cyJ, 60, .inr (.inl s_n3))), (r0, .inl (cyI, 7, .inl f0))] sz) [(h0, .inr (7, [.ref sNum, .ref sLen, .ref sWid, .ref sMade])), (sMade, .inl (cyZ, 4, .inl s_fm)), (sLen, .inl (cyI, 4, .inl s_fl)), (sWid, .inl (cyI, 4, .inl s_fw)), (sNum, .inl (cyN, 4, .inr (.inr (.inr (.inr nF))))), (n0, .inl (cyJ, 60, .inr (.inl s_n0))), (n1, .inl (cyJ, 60, .inr (.inl s_n1))), (n2, .inl (cyJ, 60, .inr (.inl s_n2))), (n3, .inl (cyJ, 60, .inr (.inl s_n3))), (r0, .inl (cyI, 7, .inl y0))]) (va_A [(h0, .inr (7, [.ref sNum, .ref sLen, .ref sWid, .ref sMade])), (sMade, .inl (cyZ, 4, .inl s_fm)), (sLen, .inl (cyI, 4, .inl s_fl)), (sWid, .inl (cyI, 4, .inl s_fw)), (sNum, .inl (cyN, 4, .inr (.inr (.inr (.inr nF))))), (n0, .inl (cyJ, 60, .inr (.inl s_n0))), (n1, .inl (cyJ, 60, .inr (.inl s_n1))), (n2, .inl (cyJ, 60, .inr (.inl s_n2))), (n3, .inl (cyJ, 60, .inr (.inl s_n3))), (r0, .inl (cyI, 7, .inl f0))] sz)) 0 0 (va_A [(h0, .inr (7, [.ref sNum, .ref sLen, .ref sWid, .ref sMade])), (sMade, .inl (cyZ, 4, .inl s_fm)), (sLen, .inl (cyI, 4, .inl s_fl)), (sWid, .inl (cyI, 4, .inl s_fw)), (sNum, .inl (cyN, 4, .inr (.inr (.inr (.inr nF))))), (n0, .inl (cyJ, 60, .inr (.inl s_n0))), (n1, .inl (cyJ, 60, .inr (.inl s_n1))), (n2, .inl (cyJ, 60, .inr (.inl s_n2))), (n3, .inl (cyJ, 60, .inr (.inl s_n3))), (r0, .inl (cyI, 7, .inl f0))] sz) := by
  refine Met.ofW (cc := cX8_readHeads) (maxL := 8) (ret := (some .boolean)) (by decide) rfl ?_
  intro p e s m args below meth c s₁ B hml hv
  obtain ⟨rfl, hsz, hP, hK, hD0⟩ := hv
  have hx := B.exec
  have hb := B.bytes
  have hr := B.returns
  have hts : ∀ w ∈ uU, w.before ([.ref h0, .int p0, .int p1, .ref r0] : List Value).toArray s = true := fun w h => atoms_spec (ws := wk yX8_readHeads cX8_readHeads 8 (some .boolean)) B.pre w (List.mem_cons_of_mem _ h)
  have hown : s.vm.findClass RX8 = some m.cls := findClass_of_methodNamed B.named
  have hlocks := B.notSynchronized
  subst hsz
  have hD := hD0.self (sz := s.heap.size)
  generalize hAe : va_A [(h0, .inr (7, [.ref sNum, .ref sLen, .ref sWid, .ref sMade])), (sMade, .inl (cyZ, 4, .inl s_fm)), (sLen, .inl (cyI, 4, .inl s_fl)), (sWid, .inl (cyI, 4, .inl s_fw)), (sNum, .inl (cyN, 4, .inr (.inr (.inr (.inr nF))))), (n0, .inl (cyJ, 60, .inr (.inl s_n0))), (n1, .inl (cyJ, 60, .inr (.inl s_n1))), (n2, .inl (cyJ, 60, .inr (.inl s_n2))), (n3, .inl (cyJ, 60, .inr (.inl s_n3))), (r0, .inl (cyI, 7, .inl f0))] s.heap.size = A at hD ⊢
  have hA : ∀ q : Nat, s.heap.size ≤ q → A q := fun q h => by rw [← hAe]; exact Or.inr h
  have hS : va_S A s.heap s.heap [] := va_S.rf
  have hP : va_P (dC, dI) vwCl [(h0, .inr (7, [.ref sNum, .ref sLen, .ref sWid, .ref sMade])), (sMade, .inl (cyZ, 4, .inl s_fm)), (sLen, .inl (cyI, 4, .inl s_fl)), (sWid, .inl (cyI, 4, .inl s_fw)), (sNum, .inl (cyN, 4, .inr (.inr (.inr (.inr nF))))), (n0, .inl (cyJ, 60, .inr (.inl s_n0))), (n1, .inl (cyJ, 60, .inr (.inl s_n1))), (n2, .inl (cyJ, 60, .inr (.inl s_n2))), (n3, .inl (cyJ, 60, .inr (.inl s_n3))), (r0, .inl (cyI, 7, .inl f0))] s.heap := hP
  have hl := lv_entry ([.ref h0, .int p0, .int p1, .ref r0]) (n := 8) (Nat.le_of_ble_eq_true rfl)
  rw [lg_entry_eq]
  generalize (lg_sl ([.ref h0, .int p0, .int p1, .ref r0]) ++ List.replicate (8 - (lg_sl ([.ref h0, .int p0, .int p1, .ref r0])).length) Slot.unset).toArray = ls at hl ⊢
  have hl : lv_has ls 8 [(0, .ref h0), (1, .int p0), (2, .int p1), (3, .ref r0)] := hl
  obtain ⟨H, hHe⟩ : ∃ H, H = s.heap := ⟨_, rfl⟩
  have hP : va_P (dC, dI) vwCl [(h0, .inr (7, [.ref sNum, .ref sLen, .ref sWid, .ref sMade])), (sMade, .inl (cyZ, 4, .inl s_fm)), (sLen, .inl (cyI, 4, .inl s_fl)), (sWid, .inl (cyI, 4, .inl s_fw)), (sNum, .inl (cyN, 4, .inr (.inr (.inr (.inr nF))))), (n0, .inl (cyJ, 60, .inr (.inl s_n0))), (n1, .inl (cyJ, 60, .inr (.inl s_n1))), (n2, .inl (cyJ, 60, .inr (.inl s_n2))), (n3, .inl (cyJ, 60, .inr (.inl s_n3))), (r0, .inl (cyI, 7, .inl f0))] H := by rw [hHe]; exact hP
  have hS : va_S A s.heap H [] := by rw [hHe]; exact hS
  refine cv_heap hHe ?_
  obtain ⟨Q9, hQ9⟩ : ∃ Q9 : State → Prop, Q9 = MQ below (va_Qi (fun (r : Int32) (_ : Unit) => 0 ≤ r.toInt ∧ r.toInt ≤ 1) (fun (_ : Unit) (t : State) => ∃ y0 : Nat → Int32, (rg 0 6 7 y0) ∧ va_P (dC, dI) vwCl [(h0, .inr (7, [.ref sNum, .ref sLen, .ref sWid, .ref sMade])), (sMade, .inl (cyZ, 4, .inl s_fm)), (sLen, .inl (cyI, 4, .inl s_fl)), (sWid, .inl (cyI, 4, .inl s_fw)), (sNum, .inl (cyN, 4, .inr (.inr (.inr (.inr nF))))), (n0, .inl (cyJ, 60, .inr (.inl s_n0))), (n1, .inl (cyJ, 60, .inr (.inl s_n1))), (n2, .inl (cyJ, 60, .inr (.inl s_n2))), (n3, .inl (cyJ, 60, .inr (.inl s_n3))), (r0, .inl (cyI, 7, .inl y0))] t.heap ∧ va_D A [(h0, .inr (7, [.ref sNum, .ref sLen, .ref sWid, .ref sMade])), (sMade, .inl (cyZ, 4, .inl s_fm)), (sLen, .inl (cyI, 4, .inl s_fl)), (sWid, .inl (cyI, 4, .inl s_fw)), (sNum, .inl (cyN, 4, .inr (.inr (.inr (.inr nF))))), (n0, .inl (cyJ, 60, .inr (.inl s_n0))), (n1, .inl (cyJ, 60, .inr (.inl s_n1))), (n2, .inl (cyJ, 60, .inr (.inl s_n2))), (n3, .inl (cyJ, 60, .inr (.inl s_n3))), (r0, .inl (cyI, 7, .inl y0))]) A) ([.ref h0, .int p0, .int p1, .ref r0] : List Value).toArray s 0 0 A := ⟨_, rfl⟩
  rw [← hQ9]
  refine lv_aload_n hx hb dX8_readHeads_0 rfl (lv_at hl 0 rfl) ?_
  refine va_get (D := (dC, dI)) (ci := 7) (v := .ref sLen) (C := RX8) (T := TX8) (N := 4) hx hb hts uinX8 hown hK hP 0 rfl rfl 1 (by decide) (hts _ wd_1_168) (fun _ h9 => h9) rfl dX8_readHeads_1 ?_
  refine lv_iload_n hx hb dX8_readHeads_4 rfl (lv_at hl 1 rfl) ?_
  refine va_iald hx hb hK hP 2 0 rfl rfl (vp_in_iff.mpr (by omega)) dX8_readHeads_5 ?_
  refine lv_topi (fun x_1 ex_1 => ?_)
  have fx_1 : 0 ≤ x_1.toInt ∧ x_1.toInt ≤ 60 := by rw [ex_1]; exact g1 _ (cv_ix (by omega) (by omega))
  refine lv_iload_n hx hb dX8_readHeads_6 rfl (lv_at hl 2 rfl) ?_
  refine lv_icmp_eq (tgt := 12) hx hb dX8_readHeads_7 (by decide) (fun c_2 => ?_) (fun c_2 => ?_)
  · have c_2 : x_1.toInt = p1.toInt := cv_eq c_2
    refine lv_iconst (v := 0) hx hb dX8_readHeads_12 (by decide) ?_
    refine lv_istore (lv' := [(4, .int 0), (0, .ref h0), (1, .int p0), (2, .int p1), (3, .ref r0)]) hx hb dX8_readHeads_13 hl (by decide) rfl (fun ls hl => ?_)
    refine lv_iconst (v := 0) hx hb dX8_readHeads_15 (by decide) ?_
    refine lv_istore (lv' := [(5, .int 0), (4, .int 0), (0, .ref h0), (1, .int p0), (2, .int p1), (3, .ref r0)]) hx hb dX8_readHeads_16 hl (by decide) rfl (fun ls hl => ?_)
    have key_7 : ∀ (nkey_7 : Nat) (u_3 : Int32) (u_4 : Int32) (u_5 : Int32) (f_6 : Nat → Int32) (H : Heap) (locs : List Loc) (ls : Array Slot), (0 ≤ u_3.toInt ∧ u_3.toInt ≤ 7) → (0 ≤ u_4.toInt ∧ u_4.toInt ≤ 127) → (0 ≤ u_5.toInt ∧ u_5.toInt ≤ 3) → rg 0 6 7 f_6 → va_P (dC, dI) vwCl [(h0, .inr (7, [.ref sNum, .ref sLen, .ref sWid, .ref sMade])), (sMade, .inl (cyZ, 4, .inl s_fm)), (sLen, .inl (cyI, 4, .inl s_fl)), (sWid, .inl (cyI, 4, .inl s_fw)), (sNum, .inl (cyN, 4, .inr (.inr (.inr (.inr nF))))), (n0, .inl (cyJ, 60, .inr (.inl s_n0))), (n1, .inl (cyJ, 60, .inr (.inl s_n1))), (n2, .inl (cyJ, 60, .inr (.inl s_n2))), (n3, .inl (cyJ, 60, .inr (.inl s_n3))), (r0, .inl (cyI, 7, .inl f_6))] H → va_D A [(h0, .inr (7, [.ref sNum, .ref sLen, .ref sWid, .ref sMade])), (sMade, .inl (cyZ, 4, .inl s_fm)), (sLen, .inl (cyI, 4, .inl s_fl)), (sWid, .inl (cyI, 4, .inl s_fw)), (sNum, .inl (cyN, 4, .inr (.inr (.inr (.inr nF))))), (n0, .inl (cyJ, 60, .inr (.inl s_n0))), (n1, .inl (cyJ, 60, .inr (.inl s_n1))), (n2, .inl (cyJ, 60, .inr (.inl s_n2))), (n3, .inl (cyJ, 60, .inr (.inl s_n3))), (r0, .inl (cyI, 7, .inl f_6))] → va_S A s.heap H locs → lv_has ls 8 [(5, .int u_3), (4, .int u_4), (0, .ref h0), (1, .int u_5), (2, .int p1), (3, .ref r0)] → (p1.toInt - u_3.toInt).toNat < nkey_7 → W p l e ({ frames := 1, cells := 0, slots := 0, locals := 60 }) s m ([.ref h0, .int p0, .int p1, .ref r0] : List Value).toArray below meth c H locs 0 0 Q9 (F0 m 18 ls []) := by
      intro nkey_7
      induction nkey_7 with
      | zero => intro u_3 u_4 u_5 f_6 H locs ls hu_3 hu_4 hu_5 hf_6 hP hD hS hl hnkey_7; exact absurd hnkey_7 (Nat.not_lt_zero _)
      | succ nkey_7 ihkey_7 =>
        intro u_3 u_4 u_5 f_6 H locs ls hu_3 hu_4 hu_5 hf_6 hP hD hS hl hnkey_7
        refine lv_iload hx hb dX8_readHeads_18 (lv_at hl 0 rfl) ?_
        refine lv_iload_n hx hb dX8_readHeads_20 rfl (lv_at hl 4 rfl) ?_
        refine lv_icmp_ge (tgt := 75) hx hb dX8_readHeads_21 (by decide) (fun c_8 => ?_) (fun c_8 => ?_)
        · have c_8 : p1.toInt ≤ u_3.toInt := cv_le c_8
          refine lv_iload hx hb dX8_readHeads_75 (lv_at hl 1 rfl) ?_
          refine lv_iconst (v := 1) hx hb dX8_readHeads_77 (by decide) ?_
          refine lv_iload_n hx hb dX8_readHeads_78 rfl (lv_at hl 4 rfl) ?_
          refine lv_ishl hx hb dX8_readHeads_79 ?_
          refine lv_topi (fun x_9 ex_9 => ?_)
          have fx_9 : 1 ≤ x_9.toInt ∧ x_9.toInt ≤ 128 := by rw [ex_9]; have q := cv_shl1 (y := p1) 0 7 (by decide) (by decide) (by omega) (by omega); omega
          refine lv_iconst (v := 1) hx hb dX8_readHeads_80 (by decide) ?_
          refine lv_isub hx hb dX8_readHeads_81 ?_
          refine lv_topi (fun x_10 ex_10 => ?_)
          have fx_10 : x_10.toInt = x_9.toInt - 1 := by rw [ex_10]; exact cv_subI (by have : (1 : Int32).toInt = 1 := rfl; omega) (by have : (1 : Int32).toInt = 1 := rfl; omega)
          have join_12 : ∀ (u_11 : Int32) (H : Heap) (locs : List Loc) (ls : Array Slot), (0 ≤ u_11.toInt ∧ u_11.toInt ≤ 1) → va_P (dC, dI) vwCl [(h0, .inr (7, [.ref sNum, .ref sLen, .ref sWid, .ref sMade])), (sMade, .inl (cyZ, 4, .inl s_fm)), (sLen, .inl (cyI, 4, .inl s_fl)), (sWid, .inl (cyI, 4, .inl s_fw)), (sNum, .inl (cyN, 4, .inr (.inr (.inr (.inr nF))))), (n0, .inl (cyJ, 60, .inr (.inl s_n0))), (n1, .inl (cyJ, 60, .inr (.inl s_n1))), (n2, .inl (cyJ, 60, .inr (.inl s_n2))), (n3, .inl (cyJ, 60, .inr (.inl s_n3))), (r0, .inl (cyI, 7, .inl f_6))] H → va_D A [(h0, .inr (7, [.ref sNum, .ref sLen, .ref sWid, .ref sMade])), (sMade, .inl (cyZ, 4, .inl s_fm)), (sLen, .inl (cyI, 4, .inl s_fl)), (sWid, .inl (cyI, 4, .inl s_fw)), (sNum, .inl (cyN, 4, .inr (.inr (.inr (.inr nF))))), (n0, .inl (cyJ, 60, .inr (.inl s_n0))), (n1, .inl (cyJ, 60, .inr (.inl s_n1))), (n2, .inl (cyJ, 60, .inr (.inl s_n2))), (n3, .inl (cyJ, 60, .inr (.inl s_n3))), (r0, .inl (cyI, 7, .inl f_6))] → va_S A s.heap H locs → lv_has ls 8 [(5, .int u_3), (4, .int u_4), (0, .ref h0), (1, .int u_5), (2, .int p1), (3, .ref r0)] → W p l e ({ frames := 1, cells := 0, slots := 0, locals := 60 }) s m ([.ref h0, .int p0, .int p1, .ref r0] : List Value).toArray below meth c H locs 0 0 Q9 (F0 m 90 ls [.int u_11]) := by
            intro u_11 H locs ls hu_11 hP hD hS hl
            rw [hQ9]
            have hP9 := hP.sub (ws' := [(h0, .inr (7, [.ref sNum, .ref sLen, .ref sWid, .ref sMade])), (sMade, .inl (cyZ, 4, .inl s_fm)), (sLen, .inl (cyI, 4, .inl s_fl)), (sWid, .inl (cyI, 4, .inl s_fw)), (sNum, .inl (cyN, 4, .inr (.inr (.inr (.inr nF))))), (n0, .inl (cyJ, 60, .inr (.inl s_n0))), (n1, .inl (cyJ, 60, .inr (.inl s_n1))), (n2, .inl (cyJ, 60, .inr (.inl s_n2))), (n3, .inl (cyJ, 60, .inr (.inl s_n3))), (r0, .inl (cyI, 7, .inl f_6))]) [0, 1, 2, 3, 4, 5, 6, 7, 8, 9] rfl
            have hD9 := hD.sub (ws' := [(h0, .inr (7, [.ref sNum, .ref sLen, .ref sWid, .ref sMade])), (sMade, .inl (cyZ, 4, .inl s_fm)), (sLen, .inl (cyI, 4, .inl s_fl)), (sWid, .inl (cyI, 4, .inl s_fw)), (sNum, .inl (cyN, 4, .inr (.inr (.inr (.inr nF))))), (n0, .inl (cyJ, 60, .inr (.inl s_n0))), (n1, .inl (cyJ, 60, .inr (.inl s_n1))), (n2, .inl (cyJ, 60, .inr (.inl s_n2))), (n3, .inl (cyJ, 60, .inr (.inl s_n3))), (r0, .inl (cyI, 7, .inl f_6))]) [0, 1, 2, 3, 4, 5, 6, 7, 8, 9] (by decide) rfl
            exact W.zret (v := u_11) (ty := .boolean) hx hb hr (cv_nz (by omega) (by omega)) (fun t ht hW => ⟨⟨u_11, (), rfl, (by omega), ⟨f_6, hf_6, by rw [ht]; exact hP9, hD9⟩⟩, hS.F ht⟩) hS.2.2 dX8_readHeads_90
          refine lv_icmp_ne (tgt := 89) hx hb dX8_readHeads_82 (by decide) (fun c_13 => ?_) (fun c_13 => ?_)
          · have c_13 : u_4.toInt ≠ x_10.toInt := cv_ne c_13
            refine lv_iconst (v := 0) hx hb dX8_readHeads_89 (by decide) ?_
            exact join_12 0 _ _ _ (by decide) hP hD hS (lv_sub hl [0, 1, 2, 3, 4, 5] rfl)
          · have c_13 : u_4.toInt = x_10.toInt := cv_eq c_13
            refine lv_iconst (v := 1) hx hb dX8_readHeads_85 (by decide) ?_
            refine lv_goto (tgt := 90) hx hb dX8_readHeads_86 (by decide) ?_
            exact join_12 1 _ _ _ (by decide) hP hD hS (lv_sub hl [0, 1, 2, 3, 4, 5] rfl)
        · have c_8 : u_3.toInt < p1.toInt := cv_nle c_8
          refine lv_aload_n hx hb dX8_readHeads_24 rfl (lv_at hl 2 rfl) ?_
          refine va_get (D := (dC, dI)) (ci := 7) (v := .ref sNum) (C := RX8) (T := TX8) (N := 4) hx hb hts uinX8 hown hK hP 0 rfl rfl 0 (by decide) (hts _ wd_1_165) (fun _ h9 => h9) rfl dX8_readHeads_25 ?_
          refine lv_iload_n hx hb dX8_readHeads_28 rfl (lv_at hl 3 rfl) ?_
          rcases (show u_5.toInt = 0 ∨ u_5.toInt = 1 ∨ u_5.toInt = 2 ∨ u_5.toInt = 3 by omega) with c_14 | c_14 | c_14 | c_14
          · obtain rfl : u_5 = 0 := Int32.toInt_inj.mp c_14
            refine cv_aldA hx hb hK hP 4 5 rfl rfl (vp_in_iff.mpr (by decide)) dX8_readHeads_29 ?_
            refine cv_topr (b := .ref n0) (by rw [show (0 : Int32).toNatClampNeg = 0 from rfl, g6]; rfl) ?_
            refine lv_iload hx hb dX8_readHeads_30 (lv_at hl 0 rfl) ?_
            refine va_lald hx hb hK hP 5 2 rfl rfl (vp_in_iff.mpr (by omega)) dX8_readHeads_32 ?_
            refine lv_topl (fun x_15 ex_15 => ?_)
            refine lv_lstore (lv' := [(6, .long x_15), (5, .int u_3), (4, .int u_4), (0, .ref h0), (1, .int 0), (2, .int p1), (3, .ref r0)]) hx hb dX8_readHeads_33 hl (by decide) rfl (fun ls hl => ?_)
            refine lv_lload hx hb dX8_readHeads_35 (lv_at hl 0 rfl) ?_
            refine lv_lconst (v := 0) hx hb dX8_readHeads_37 (by decide) ?_
            refine W.lcmp hx hb dX8_readHeads_38 ?_
            refine lv_if_lt (tgt := 50) hx hb dX8_readHeads_39 (by decide) (fun c_16 => ?_) (fun c_16 => ?_)
            · have c_16 : x_15.toInt < 0 := cv_clt c_16
              refine lv_iconst (v := 0) hx hb dX8_readHeads_50 (by decide) ?_
              rw [hQ9]
              have hP9 := hP.sub (ws' := [(h0, .inr (7, [.ref sNum, .ref sLen, .ref sWid, .ref sMade])), (sMade, .inl (cyZ, 4, .inl s_fm)), (sLen, .inl (cyI, 4, .inl s_fl)), (sWid, .inl (cyI, 4, .inl s_fw)), (sNum, .inl (cyN, 4, .inr (.inr (.inr (.inr nF))))), (n0, .inl (cyJ, 60, .inr (.inl s_n0))), (n1, .inl (cyJ, 60, .inr (.inl s_n1))), (n2, .inl (cyJ, 60, .inr (.inl s_n2))), (n3, .inl (cyJ, 60, .inr (.inl s_n3))), (r0, .inl (cyI, 7, .inl f_6))]) [0, 1, 2, 3, 4, 5, 6, 7, 8, 9] rfl
              have hD9 := hD.sub (ws' := [(h0, .inr (7, [.ref sNum, .ref sLen, .ref sWid, .ref sMade])), (sMade, .inl (cyZ, 4, .inl s_fm)), (sLen, .inl (cyI, 4, .inl s_fl)), (sWid, .inl (cyI, 4, .inl s_fw)), (sNum, .inl (cyN, 4, .inr (.inr (.inr (.inr nF))))), (n0, .inl (cyJ, 60, .inr (.inl s_n0))), (n1, .inl (cyJ, 60, .inr (.inl s_n1))), (n2, .inl (cyJ, 60, .inr (.inl s_n2))), (n3, .inl (cyJ, 60, .inr (.inl s_n3))), (r0, .inl (cyI, 7, .inl f_6))]) [0, 1, 2, 3, 4, 5, 6, 7, 8, 9] (by decide) rfl
              exact W.zret (v := 0) (ty := .boolean) hx hb hr rfl (fun t ht hW => ⟨⟨0, (), rfl, (by decide), ⟨f_6, hf_6, by rw [ht]; exact hP9, hD9⟩⟩, hS.F ht⟩) hS.2.2 dX8_readHeads_51
            · have c_16 : 0 ≤ x_15.toInt := cv_cnlt c_16
              refine lv_lload hx hb dX8_readHeads_42 (lv_at hl 0 rfl) ?_
              refine lv_iload_n hx hb dX8_readHeads_44 rfl (lv_at hl 5 rfl) ?_
              obtain ⟨y_17, ey_17⟩ : ∃ z : Int64, z = p1.toInt64 := ⟨_, rfl⟩
              have fy_17 : y_17.toInt = p1.toInt := by rw [ey_17]; exact Int32.toInt_toInt64 _
              refine lv_i2l (v := y_17) hx hb dX8_readHeads_45 ey_17.symm ?_
              refine W.lcmp hx hb dX8_readHeads_46 ?_
              refine lv_if_lt (tgt := 52) hx hb dX8_readHeads_47 (by decide) (fun c_18 => ?_) (fun c_18 => ?_)
              · have c_18 : x_15.toInt < y_17.toInt := cv_clt c_18
                refine lv_aload_n hx hb dX8_readHeads_52 rfl (lv_at hl 6 rfl) ?_
                refine lv_iload hx hb dX8_readHeads_53 (lv_at hl 1 rfl) ?_
                refine lv_lload hx hb dX8_readHeads_55 (lv_at hl 0 rfl) ?_
                refine lv_l2i hx hb dX8_readHeads_57 rfl ?_
                refine lv_topi (fun x_19 ex_19 => ?_)
                have fx_19 : x_19.toInt = x_15.toInt := by rw [ex_19]; exact cv_l2i (by omega) (by omega)
                refine va_iast hx hb hK hP hD hS 9 0 rfl rfl (vp_in_iff.mpr (by omega)) dX8_readHeads_58 (fun H locs hP hD hS => ?_)
                obtain ⟨f_20, ef_20⟩ : ∃ z9 : Nat → Int32, z9 = upd f_6 u_3.toNatClampNeg x_19 := ⟨_, rfl⟩
                rw [← ef_20] at hP hD
                have hP : va_P (dC, dI) vwCl [(h0, .inr (7, [.ref sNum, .ref sLen, .ref sWid, .ref sMade])), (sMade, .inl (cyZ, 4, .inl s_fm)), (sLen, .inl (cyI, 4, .inl s_fl)), (sWid, .inl (cyI, 4, .inl s_fw)), (sNum, .inl (cyN, 4, .inr (.inr (.inr (.inr nF))))), (n0, .inl (cyJ, 60, .inr (.inl s_n0))), (n1, .inl (cyJ, 60, .inr (.inl s_n1))), (n2, .inl (cyJ, 60, .inr (.inl s_n2))), (n3, .inl (cyJ, 60, .inr (.inl s_n3))), (r0, .inl (cyI, 7, .inl f_20))] H := hP
                have hD : va_D A [(h0, .inr (7, [.ref sNum, .ref sLen, .ref sWid, .ref sMade])), (sMade, .inl (cyZ, 4, .inl s_fm)), (sLen, .inl (cyI, 4, .inl s_fl)), (sWid, .inl (cyI, 4, .inl s_fw)), (sNum, .inl (cyN, 4, .inr (.inr (.inr (.inr nF))))), (n0, .inl (cyJ, 60, .inr (.inl s_n0))), (n1, .inl (cyJ, 60, .inr (.inl s_n1))), (n2, .inl (cyJ, 60, .inr (.inl s_n2))), (n3, .inl (cyJ, 60, .inr (.inl s_n3))), (r0, .inl (cyI, 7, .inl f_20))] := hD
                have hf_20 : rg 0 6 7 f_20 := by rw [ef_20]; exact rg_upd (hf_6) ⟨by omega, by omega⟩
                refine lv_iload hx hb dX8_readHeads_59 (lv_at hl 2 rfl) ?_
                refine lv_iconst (v := 1) hx hb dX8_readHeads_61 (by decide) ?_
                refine lv_lload hx hb dX8_readHeads_62 (lv_at hl 0 rfl) ?_
                refine lv_l2i hx hb dX8_readHeads_64 rfl ?_
                refine lv_topi (fun x_21 ex_21 => ?_)
                have fx_21 : x_21.toInt = x_15.toInt := by rw [ex_21]; exact cv_l2i (by omega) (by omega)
                refine lv_ishl hx hb dX8_readHeads_65 ?_
                refine lv_topi (fun x_22 ex_22 => ?_)
                have fx_22 : 1 ≤ x_22.toInt ∧ x_22.toInt ≤ 64 := by rw [ex_22]; have q := cv_shl1 (y := x_21) 0 6 (by decide) (by decide) (by omega) (by omega); omega
                refine lv_ior hx hb dX8_readHeads_66 ?_
                refine lv_topi (fun x_23 ex_23 => ?_)
                have fx_23 : 0 ≤ x_23.toInt ∧ x_23.toInt ≤ 127 := by rw [ex_23]; have q := cv_or (x := u_4) (y := x_22) 7 (by decide) (by omega) (by omega) (by omega) (by omega); omega
                refine lv_istore (lv' := [(4, .int x_23), (6, .long x_15), (5, .int u_3), (0, .ref h0), (1, .int 0), (2, .int p1), (3, .ref r0)]) hx hb dX8_readHeads_67 hl (by decide) rfl (fun ls hl => ?_)
                obtain ⟨x_24, ex_24⟩ : ∃ y : Int32, y = u_3 + 1 := ⟨_, rfl⟩
                refine lv_iinc (v := x_24) (lv' := [(5, .int x_24), (4, .int x_23), (6, .long x_15), (0, .ref h0), (1, .int 0), (2, .int p1), (3, .ref r0)]) hx hb dX8_readHeads_69 hl (k := 2) rfl (by rw [ex_24]; rfl) (by decide) rfl (fun ls hl => ?_)
                have fx_24 : x_24.toInt = u_3.toInt + 1 := by rw [ex_24]; exact cv_addI (by have : (1 : Int32).toInt = 1 := rfl; omega) (by have : (1 : Int32).toInt = 1 := rfl; omega)
                refine lv_goto (tgt := 18) hx hb dX8_readHeads_72 (by decide) ?_
                exact ihkey_7 x_24 x_23 0 f_20 _ _ _ (by omega) (by omega) (by decide) hf_20 hP hD hS (lv_sub hl [0, 1, 3, 4, 5, 6] rfl) (by omega)
              · have c_18 : y_17.toInt ≤ x_15.toInt := cv_cnlt c_18
                refine lv_iconst (v := 0) hx hb dX8_readHeads_50 (by decide) ?_
                rw [hQ9]
                have hP9 := hP.sub (ws' := [(h0, .inr (7, [.ref sNum, .ref sLen, .ref sWid, .ref sMade])), (sMade, .inl (cyZ, 4, .inl s_fm)), (sLen, .inl (cyI, 4, .inl s_fl)), (sWid, .inl (cyI, 4, .inl s_fw)), (sNum, .inl (cyN, 4, .inr (.inr (.inr (.inr nF))))), (n0, .inl (cyJ, 60, .inr (.inl s_n0))), (n1, .inl (cyJ, 60, .inr (.inl s_n1))), (n2, .inl (cyJ, 60, .inr (.inl s_n2))), (n3, .inl (cyJ, 60, .inr (.inl s_n3))), (r0, .inl (cyI, 7, .inl f_6))]) [0, 1, 2, 3, 4, 5, 6, 7, 8, 9] rfl
                have hD9 := hD.sub (ws' := [(h0, .inr (7, [.ref sNum, .ref sLen, .ref sWid, .ref sMade])), (sMade, .inl (cyZ, 4, .inl s_fm)), (sLen, .inl (cyI, 4, .inl s_fl)), (sWid, .inl (cyI, 4, .inl s_fw)), (sNum, .inl (cyN, 4, .inr (.inr (.inr (.inr nF))))), (n0, .inl (cyJ, 60, .inr (.inl s_n0))), (n1, .inl (cyJ, 60, .inr (.inl s_n1))), (n2, .inl (cyJ, 60, .inr (.inl s_n2))), (n3, .inl (cyJ, 60, .inr (.inl s_n3))), (r0, .inl (cyI, 7, .inl f_6))]) [0, 1, 2, 3, 4, 5, 6, 7, 8, 9] (by decide) rfl
                exact W.zret (v := 0) (ty := .boolean) hx hb hr rfl (fun t ht hW => ⟨⟨0, (), rfl, (by decide), ⟨f_6, hf_6, by rw [ht]; exact hP9, hD9⟩⟩, hS.F ht⟩) hS.2.2 dX8_readHeads_51
          · obtain rfl : u_5 = 1 := Int32.toInt_inj.mp c_14
            refine cv_aldA hx hb hK hP 4 5 rfl rfl (vp_in_iff.mpr (by decide)) dX8_readHeads_29 ?_
            refine cv_topr (b := .ref n1) (by rw [show (1 : Int32).toNatClampNeg = 1 from rfl, g7]; rfl) ?_
            refine lv_iload hx hb dX8_readHeads_30 (lv_at hl 0 rfl) ?_
            refine va_lald hx hb hK hP 6 2 rfl rfl (vp_in_iff.mpr (by omega)) dX8_readHeads_32 ?_
            refine lv_topl (fun x_25 ex_25 => ?_)
            refine lv_lstore (lv' := [(6, .long x_25), (5, .int u_3), (4, .int u_4), (0, .ref h0), (1, .int 1), (2, .int p1), (3, .ref r0)]) hx hb dX8_readHeads_33 hl (by decide) rfl (fun ls hl => ?_)
            refine lv_lload hx hb dX8_readHeads_35 (lv_at hl 0 rfl) ?_
            refine lv_lconst (v := 0) hx hb dX8_readHeads_37 (by decide) ?_
            refine W.lcmp hx hb dX8_readHeads_38 ?_
            refine lv_if_lt (tgt := 50) hx hb dX8_readHeads_39 (by decide) (fun c_26 => ?_) (fun c_26 => ?_)
            · have c_26 : x_25.toInt < 0 := cv_clt c_26
              refine lv_iconst (v := 0) hx hb dX8_readHeads_50 (by decide) ?_
              rw [hQ9]
              have hP9 := hP.sub (ws' := [(h0, .inr (7, [.ref sNum, .ref sLen, .ref sWid, .ref sMade])), (sMade, .inl (cyZ, 4, .inl s_fm)), (sLen, .inl (cyI, 4, .inl s_fl)), (sWid, .inl (cyI, 4, .inl s_fw)), (sNum, .inl (cyN, 4, .inr (.inr (.inr (.inr nF))))), (n0, .inl (cyJ, 60, .inr (.inl s_n0))), (n1, .inl (cyJ, 60, .inr (.inl s_n1))), (n2, .inl (cyJ, 60, .inr (.inl s_n2))), (n3, .inl (cyJ, 60, .inr (.inl s_n3))), (r0, .inl (cyI, 7, .inl f_6))]) [0, 1, 2, 3, 4, 5, 6, 7, 8, 9] rfl
              have hD9 := hD.sub (ws' := [(h0, .inr (7, [.ref sNum, .ref sLen, .ref sWid, .ref sMade])), (sMade, .inl (cyZ, 4, .inl s_fm)), (sLen, .inl (cyI, 4, .inl s_fl)), (sWid, .inl (cyI, 4, .inl s_fw)), (sNum, .inl (cyN, 4, .inr (.inr (.inr (.inr nF))))), (n0, .inl (cyJ, 60, .inr (.inl s_n0))), (n1, .inl (cyJ, 60, .inr (.inl s_n1))), (n2, .inl (cyJ, 60, .inr (.inl s_n2))), (n3, .inl (cyJ, 60, .inr (.inl s_n3))), (r0, .inl (cyI, 7, .inl f_6))]) [0, 1, 2, 3, 4, 5, 6, 7, 8, 9] (by decide) rfl
              exact W.zret (v := 0) (ty := .boolean) hx hb hr rfl (fun t ht hW => ⟨⟨0, (), rfl, (by decide), ⟨f_6, hf_6, by rw [ht]; exact hP9, hD9⟩⟩, hS.F ht⟩) hS.2.2 dX8_readHeads_51
            · have c_26 : 0 ≤ x_25.toInt := cv_cnlt c_26
              refine lv_lload hx hb dX8_readHeads_42 (lv_at hl 0 rfl) ?_
              refine lv_iload_n hx hb dX8_readHeads_44 rfl (lv_at hl 5 rfl) ?_
              obtain ⟨y_27, ey_27⟩ : ∃ z : Int64, z = p1.toInt64 := ⟨_, rfl⟩
              have fy_27 : y_27.toInt = p1.toInt := by rw [ey_27]; exact Int32.toInt_toInt64 _
              refine lv_i2l (v := y_27) hx hb dX8_readHeads_45 ey_27.symm ?_
              refine W.lcmp hx hb dX8_readHeads_46 ?_
              refine lv_if_lt (tgt := 52) hx hb dX8_readHeads_47 (by decide) (fun c_28 => ?_) (fun c_28 => ?_)
              · have c_28 : x_25.toInt < y_27.toInt := cv_clt c_28
                refine lv_aload_n hx hb dX8_readHeads_52 rfl (lv_at hl 6 rfl) ?_
                refine lv_iload hx hb dX8_readHeads_53 (lv_at hl 1 rfl) ?_
                refine lv_lload hx hb dX8_readHeads_55 (lv_at hl 0 rfl) ?_
                refine lv_l2i hx hb dX8_readHeads_57 rfl ?_
                refine lv_topi (fun x_29 ex_29 => ?_)
                have fx_29 : x_29.toInt = x_25.toInt := by rw [ex_29]; exact cv_l2i (by omega) (by omega)
                refine va_iast hx hb hK hP hD hS 9 0 rfl rfl (vp_in_iff.mpr (by omega)) dX8_readHeads_58 (fun H locs hP hD hS => ?_)
                obtain ⟨f_30, ef_30⟩ : ∃ z9 : Nat → Int32, z9 = upd f_6 u_3.toNatClampNeg x_29 := ⟨_, rfl⟩
                rw [← ef_30] at hP hD
                have hP : va_P (dC, dI) vwCl [(h0, .inr (7, [.ref sNum, .ref sLen, .ref sWid, .ref sMade])), (sMade, .inl (cyZ, 4, .inl s_fm)), (sLen, .inl (cyI, 4, .inl s_fl)), (sWid, .inl (cyI, 4, .inl s_fw)), (sNum, .inl (cyN, 4, .inr (.inr (.inr (.inr nF))))), (n0, .inl (cyJ, 60, .inr (.inl s_n0))), (n1, .inl (cyJ, 60, .inr (.inl s_n1))), (n2, .inl (cyJ, 60, .inr (.inl s_n2))), (n3, .inl (cyJ, 60, .inr (.inl s_n3))), (r0, .inl (cyI, 7, .inl f_30))] H := hP
                have hD : va_D A [(h0, .inr (7, [.ref sNum, .ref sLen, .ref sWid, .ref sMade])), (sMade, .inl (cyZ, 4, .inl s_fm)), (sLen, .inl (cyI, 4, .inl s_fl)), (sWid, .inl (cyI, 4, .inl s_fw)), (sNum, .inl (cyN, 4, .inr (.inr (.inr (.inr nF))))), (n0, .inl (cyJ, 60, .inr (.inl s_n0))), (n1, .inl (cyJ, 60, .inr (.inl s_n1))), (n2, .inl (cyJ, 60, .inr (.inl s_n2))), (n3, .inl (cyJ, 60, .inr (.inl s_n3))), (r0, .inl (cyI, 7, .inl f_30))] := hD
                have hf_30 : rg 0 6 7 f_30 := by rw [ef_30]; exact rg_upd (hf_6) ⟨by omega, by omega⟩
                refine lv_iload hx hb dX8_readHeads_59 (lv_at hl 2 rfl) ?_
                refine lv_iconst (v := 1) hx hb dX8_readHeads_61 (by decide) ?_
                refine lv_lload hx hb dX8_readHeads_62 (lv_at hl 0 rfl) ?_
                refine lv_l2i hx hb dX8_readHeads_64 rfl ?_
                refine lv_topi (fun x_31 ex_31 => ?_)
                have fx_31 : x_31.toInt = x_25.toInt := by rw [ex_31]; exact cv_l2i (by omega) (by omega)
                refine lv_ishl hx hb dX8_readHeads_65 ?_
                refine lv_topi (fun x_32 ex_32 => ?_)
                have fx_32 : 1 ≤ x_32.toInt ∧ x_32.toInt ≤ 64 := by rw [ex_32]; have q := cv_shl1 (y := x_31) 0 6 (by decide) (by decide) (by omega) (by omega); omega
                refine lv_ior hx hb dX8_readHeads_66 ?_
                refine lv_topi (fun x_33 ex_33 => ?_)
                have fx_33 : 0 ≤ x_33.toInt ∧ x_33.toInt ≤ 127 := by rw [ex_33]; have q := cv_or (x := u_4) (y := x_32) 7 (by decide) (by omega) (by omega) (by omega) (by omega); omega
                refine lv_istore (lv' := [(4, .int x_33), (6, .long x_25), (5, .int u_3), (0, .ref h0), (1, .int 1), (2, .int p1), (3, .ref r0)]) hx hb dX8_readHeads_67 hl (by decide) rfl (fun ls hl => ?_)
                obtain ⟨x_34, ex_34⟩ : ∃ y : Int32, y = u_3 + 1 := ⟨_, rfl⟩
                refine lv_iinc (v := x_34) (lv' := [(5, .int x_34), (4, .int x_33), (6, .long x_25), (0, .ref h0), (1, .int 1), (2, .int p1), (3, .ref r0)]) hx hb dX8_readHeads_69 hl (k := 2) rfl (by rw [ex_34]; rfl) (by decide) rfl (fun ls hl => ?_)
                have fx_34 : x_34.toInt = u_3.toInt + 1 := by rw [ex_34]; exact cv_addI (by have : (1 : Int32).toInt = 1 := rfl; omega) (by have : (1 : Int32).toInt = 1 := rfl; omega)
                refine lv_goto (tgt := 18) hx hb dX8_readHeads_72 (by decide) ?_
                exact ihkey_7 x_34 x_33 1 f_30 _ _ _ (by omega) (by omega) (by decide) hf_30 hP hD hS (lv_sub hl [0, 1, 3, 4, 5, 6] rfl) (by omega)
              · have c_28 : y_27.toInt ≤ x_25.toInt := cv_cnlt c_28
                refine lv_iconst (v := 0) hx hb dX8_readHeads_50 (by decide) ?_
                rw [hQ9]
                have hP9 := hP.sub (ws' := [(h0, .inr (7, [.ref sNum, .ref sLen, .ref sWid, .ref sMade])), (sMade, .inl (cyZ, 4, .inl s_fm)), (sLen, .inl (cyI, 4, .inl s_fl)), (sWid, .inl (cyI, 4, .inl s_fw)), (sNum, .inl (cyN, 4, .inr (.inr (.inr (.inr nF))))), (n0, .inl (cyJ, 60, .inr (.inl s_n0))), (n1, .inl (cyJ, 60, .inr (.inl s_n1))), (n2, .inl (cyJ, 60, .inr (.inl s_n2))), (n3, .inl (cyJ, 60, .inr (.inl s_n3))), (r0, .inl (cyI, 7, .inl f_6))]) [0, 1, 2, 3, 4, 5, 6, 7, 8, 9] rfl
                have hD9 := hD.sub (ws' := [(h0, .inr (7, [.ref sNum, .ref sLen, .ref sWid, .ref sMade])), (sMade, .inl (cyZ, 4, .inl s_fm)), (sLen, .inl (cyI, 4, .inl s_fl)), (sWid, .inl (cyI, 4, .inl s_fw)), (sNum, .inl (cyN, 4, .inr (.inr (.inr (.inr nF))))), (n0, .inl (cyJ, 60, .inr (.inl s_n0))), (n1, .inl (cyJ, 60, .inr (.inl s_n1))), (n2, .inl (cyJ, 60, .inr (.inl s_n2))), (n3, .inl (cyJ, 60, .inr (.inl s_n3))), (r0, .inl (cyI, 7, .inl f_6))]) [0, 1, 2, 3, 4, 5, 6, 7, 8, 9] (by decide) rfl
                exact W.zret (v := 0) (ty := .boolean) hx hb hr rfl (fun t ht hW => ⟨⟨0, (), rfl, (by decide), ⟨f_6, hf_6, by rw [ht]; exact hP9, hD9⟩⟩, hS.F ht⟩) hS.2.2 dX8_readHeads_51
          · obtain rfl : u_5 = 2 := Int32.toInt_inj.mp c_14
            refine cv_aldA hx hb hK hP 4 5 rfl rfl (vp_in_iff.mpr (by decide)) dX8_readHeads_29 ?_
            refine cv_topr (b := .ref n2) (by rw [show (2 : Int32).toNatClampNeg = 2 from rfl, g8]; rfl) ?_
            refine lv_iload hx hb dX8_readHeads_30 (lv_at hl 0 rfl) ?_
            refine va_lald hx hb hK hP 7 2 rfl rfl (vp_in_iff.mpr (by omega)) dX8_readHeads_32 ?_
            refine lv_topl (fun x_35 ex_35 => ?_)
            refine lv_lstore (lv' := [(6, .long x_35), (5, .int u_3), (4, .int u_4), (0, .ref h0), (1, .int 2), (2, .int p1), (3, .ref r0)]) hx hb dX8_readHeads_33 hl (by decide) rfl (fun ls hl => ?_)
            refine lv_lload hx hb dX8_readHeads_35 (lv_at hl 0 rfl) ?_
            refine lv_lconst (v := 0) hx hb dX8_readHeads_37 (by decide) ?_
            refine W.lcmp hx hb dX8_readHeads_38 ?_
            refine lv_if_lt (tgt := 50) hx hb dX8_readHeads_39 (by decide) (fun c_36 => ?_) (fun c_36 => ?_)
            · have c_36 : x_35.toInt < 0 := cv_clt c_36
              refine lv_iconst (v := 0) hx hb dX8_readHeads_50 (by decide) ?_
              rw [hQ9]
              have hP9 := hP.sub (ws' := [(h0, .inr (7, [.ref sNum, .ref sLen, .ref sWid, .ref sMade])), (sMade, .inl (cyZ, 4, .inl s_fm)), (sLen, .inl (cyI, 4, .inl s_fl)), (sWid, .inl (cyI, 4, .inl s_fw)), (sNum, .inl (cyN, 4, .inr (.inr (.inr (.inr nF))))), (n0, .inl (cyJ, 60, .inr (.inl s_n0))), (n1, .inl (cyJ, 60, .inr (.inl s_n1))), (n2, .inl (cyJ, 60, .inr (.inl s_n2))), (n3, .inl (cyJ, 60, .inr (.inl s_n3))), (r0, .inl (cyI, 7, .inl f_6))]) [0, 1, 2, 3, 4, 5, 6, 7, 8, 9] rfl
              have hD9 := hD.sub (ws' := [(h0, .inr (7, [.ref sNum, .ref sLen, .ref sWid, .ref sMade])), (sMade, .inl (cyZ, 4, .inl s_fm)), (sLen, .inl (cyI, 4, .inl s_fl)), (sWid, .inl (cyI, 4, .inl s_fw)), (sNum, .inl (cyN, 4, .inr (.inr (.inr (.inr nF))))), (n0, .inl (cyJ, 60, .inr (.inl s_n0))), (n1, .inl (cyJ, 60, .inr (.inl s_n1))), (n2, .inl (cyJ, 60, .inr (.inl s_n2))), (n3, .inl (cyJ, 60, .inr (.inl s_n3))), (r0, .inl (cyI, 7, .inl f_6))]) [0, 1, 2, 3, 4, 5, 6, 7, 8, 9] (by decide) rfl
              exact W.zret (v := 0) (ty := .boolean) hx hb hr rfl (fun t ht hW => ⟨⟨0, (), rfl, (by decide), ⟨f_6, hf_6, by rw [ht]; exact hP9, hD9⟩⟩, hS.F ht⟩) hS.2.2 dX8_readHeads_51
            · have c_36 : 0 ≤ x_35.toInt := cv_cnlt c_36
              refine lv_lload hx hb dX8_readHeads_42 (lv_at hl 0 rfl) ?_
              refine lv_iload_n hx hb dX8_readHeads_44 rfl (lv_at hl 5 rfl) ?_
              obtain ⟨y_37, ey_37⟩ : ∃ z : Int64, z = p1.toInt64 := ⟨_, rfl⟩
              have fy_37 : y_37.toInt = p1.toInt := by rw [ey_37]; exact Int32.toInt_toInt64 _
              refine lv_i2l (v := y_37) hx hb dX8_readHeads_45 ey_37.symm ?_
              refine W.lcmp hx hb dX8_readHeads_46 ?_
              refine lv_if_lt (tgt := 52) hx hb dX8_readHeads_47 (by decide) (fun c_38 => ?_) (fun c_38 => ?_)
              · have c_38 : x_35.toInt < y_37.toInt := cv_clt c_38
                refine lv_aload_n hx hb dX8_readHeads_52 rfl (lv_at hl 6 rfl) ?_
                refine lv_iload hx hb dX8_readHeads_53 (lv_at hl 1 rfl) ?_
                refine lv_lload hx hb dX8_readHeads_55 (lv_at hl 0 rfl) ?_
                refine lv_l2i hx hb dX8_readHeads_57 rfl ?_
                refine lv_topi (fun x_39 ex_39 => ?_)
                have fx_39 : x_39.toInt = x_35.toInt := by rw [ex_39]; exact cv_l2i (by omega) (by omega)
                refine va_iast hx hb hK hP hD hS 9 0 rfl rfl (vp_in_iff.mpr (by omega)) dX8_readHeads_58 (fun H locs hP hD hS => ?_)
                obtain ⟨f_40, ef_40⟩ : ∃ z9 : Nat → Int32, z9 = upd f_6 u_3.toNatClampNeg x_39 := ⟨_, rfl⟩
                rw [← ef_40] at hP hD
                have hP : va_P (dC, dI) vwCl [(h0, .inr (7, [.ref sNum, .ref sLen, .ref sWid, .ref sMade])), (sMade, .inl (cyZ, 4, .inl s_fm)), (sLen, .inl (cyI, 4, .inl s_fl)), (sWid, .inl (cyI, 4, .inl s_fw)), (sNum, .inl (cyN, 4, .inr (.inr (.inr (.inr nF))))), (n0, .inl (cyJ, 60, .inr (.inl s_n0))), (n1, .inl (cyJ, 60, .inr (.inl s_n1))), (n2, .inl (cyJ, 60, .inr (.inl s_n2))), (n3, .inl (cyJ, 60, .inr (.inl s_n3))), (r0, .inl (cyI, 7, .inl f_40))] H := hP
                have hD : va_D A [(h0, .inr (7, [.ref sNum, .ref sLen, .ref sWid, .ref sMade])), (sMade, .inl (cyZ, 4, .inl s_fm)), (sLen, .inl (cyI, 4, .inl s_fl)), (sWid, .inl (cyI, 4, .inl s_fw)), (sNum, .inl (cyN, 4, .inr (.inr (.inr (.inr nF))))), (n0, .inl (cyJ, 60, .inr (.inl s_n0))), (n1, .inl (cyJ, 60, .inr (.inl s_n1))), (n2, .inl (cyJ, 60, .inr (.inl s_n2))), (n3, .inl (cyJ, 60, .inr (.inl s_n3))), (r0, .inl (cyI, 7, .inl f_40))] := hD
                have hf_40 : rg 0 6 7 f_40 := by rw [ef_40]; exact rg_upd (hf_6) ⟨by omega, by omega⟩
                refine lv_iload hx hb dX8_readHeads_59 (lv_at hl 2 rfl) ?_
                refine lv_iconst (v := 1) hx hb dX8_readHeads_61 (by decide) ?_
                refine lv_lload hx hb dX8_readHeads_62 (lv_at hl 0 rfl) ?_
                refine lv_l2i hx hb dX8_readHeads_64 rfl ?_
                refine lv_topi (fun x_41 ex_41 => ?_)
                have fx_41 : x_41.toInt = x_35.toInt := by rw [ex_41]; exact cv_l2i (by omega) (by omega)
                refine lv_ishl hx hb dX8_readHeads_65 ?_
                refine lv_topi (fun x_42 ex_42 => ?_)
                have fx_42 : 1 ≤ x_42.toInt ∧ x_42.toInt ≤ 64 := by rw [ex_42]; have q := cv_shl1 (y := x_41) 0 6 (by decide) (by decide) (by omega) (by omega); omega
                refine lv_ior hx hb dX8_readHeads_66 ?_
                refine lv_topi (fun x_43 ex_43 => ?_)
                have fx_43 : 0 ≤ x_43.toInt ∧ x_43.toInt ≤ 127 := by rw [ex_43]; have q := cv_or (x := u_4) (y := x_42) 7 (by decide) (by omega) (by omega) (by omega) (by omega); omega
                refine lv_istore (lv' := [(4, .int x_43), (6, .long x_35), (5, .int u_3), (0, .ref h0), (1, .int 2), (2, .int p1), (3, .ref r0)]) hx hb dX8_readHeads_67 hl (by decide) rfl (fun ls hl => ?_)
                obtain ⟨x_44, ex_44⟩ : ∃ y : Int32, y = u_3 + 1 := ⟨_, rfl⟩
                refine lv_iinc (v := x_44) (lv' := [(5, .int x_44), (4, .int x_43), (6, .long x_35), (0, .ref h0), (1, .int 2), (2, .int p1), (3, .ref r0)]) hx hb dX8_readHeads_69 hl (k := 2) rfl (by rw [ex_44]; rfl) (by decide) rfl (fun ls hl => ?_)
                have fx_44 : x_44.toInt = u_3.toInt + 1 := by rw [ex_44]; exact cv_addI (by have : (1 : Int32).toInt = 1 := rfl; omega) (by have : (1 : Int32).toInt = 1 := rfl; omega)
                refine lv_goto (tgt := 18) hx hb dX8_readHeads_72 (by decide) ?_
                exact ihkey_7 x_44 x_43 2 f_40 _ _ _ (by omega) (by omega) (by decide) hf_40 hP hD hS (lv_sub hl [0, 1, 3, 4, 5, 6] rfl) (by omega)
              · have c_38 : y_37.toInt ≤ x_35.toInt := cv_cnlt c_38
                refine lv_iconst (v := 0) hx hb dX8_readHeads_50 (by decide) ?_
                rw [hQ9]
                have hP9 := hP.sub (ws' := [(h0, .inr (7, [.ref sNum, .ref sLen, .ref sWid, .ref sMade])), (sMade, .inl (cyZ, 4, .inl s_fm)), (sLen, .inl (cyI, 4, .inl s_fl)), (sWid, .inl (cyI, 4, .inl s_fw)), (sNum, .inl (cyN, 4, .inr (.inr (.inr (.inr nF))))), (n0, .inl (cyJ, 60, .inr (.inl s_n0))), (n1, .inl (cyJ, 60, .inr (.inl s_n1))), (n2, .inl (cyJ, 60, .inr (.inl s_n2))), (n3, .inl (cyJ, 60, .inr (.inl s_n3))), (r0, .inl (cyI, 7, .inl f_6))]) [0, 1, 2, 3, 4, 5, 6, 7, 8, 9] rfl
                have hD9 := hD.sub (ws' := [(h0, .inr (7, [.ref sNum, .ref sLen, .ref sWid, .ref sMade])), (sMade, .inl (cyZ, 4, .inl s_fm)), (sLen, .inl (cyI, 4, .inl s_fl)), (sWid, .inl (cyI, 4, .inl s_fw)), (sNum, .inl (cyN, 4, .inr (.inr (.inr (.inr nF))))), (n0, .inl (cyJ, 60, .inr (.inl s_n0))), (n1, .inl (cyJ, 60, .inr (.inl s_n1))), (n2, .inl (cyJ, 60, .inr (.inl s_n2))), (n3, .inl (cyJ, 60, .inr (.inl s_n3))), (r0, .inl (cyI, 7, .inl f_6))]) [0, 1, 2, 3, 4, 5, 6, 7, 8, 9] (by decide) rfl
                exact W.zret (v := 0) (ty := .boolean) hx hb hr rfl (fun t ht hW => ⟨⟨0, (), rfl, (by decide), ⟨f_6, hf_6, by rw [ht]; exact hP9, hD9⟩⟩, hS.F ht⟩) hS.2.2 dX8_readHeads_51
          · obtain rfl : u_5 = 3 := Int32.toInt_inj.mp c_14
            refine cv_aldA hx hb hK hP 4 5 rfl rfl (vp_in_iff.mpr (by decide)) dX8_readHeads_29 ?_
            refine cv_topr (b := .ref n3) (by rw [show (3 : Int32).toNatClampNeg = 3 from rfl, g9]; rfl) ?_
            refine lv_iload hx hb dX8_readHeads_30 (lv_at hl 0 rfl) ?_
            refine va_lald hx hb hK hP 8 2 rfl rfl (vp_in_iff.mpr (by omega)) dX8_readHeads_32 ?_
            refine lv_topl (fun x_45 ex_45 => ?_)
            refine lv_lstore (lv' := [(6, .long x_45), (5, .int u_3), (4, .int u_4), (0, .ref h0), (1, .int 3), (2, .int p1), (3, .ref r0)]) hx hb dX8_readHeads_33 hl (by decide) rfl (fun ls hl => ?_)
            refine lv_lload hx hb dX8_readHeads_35 (lv_at hl 0 rfl) ?_
            refine lv_lconst (v := 0) hx hb dX8_readHeads_37 (by decide) ?_
            refine W.lcmp hx hb dX8_readHeads_38 ?_
            refine lv_if_lt (tgt := 50) hx hb dX8_readHeads_39 (by decide) (fun c_46 => ?_) (fun c_46 => ?_)
            · have c_46 : x_45.toInt < 0 := cv_clt c_46
              refine lv_iconst (v := 0) hx hb dX8_readHeads_50 (by decide) ?_
              rw [hQ9]
              have hP9 := hP.sub (ws' := [(h0, .inr (7, [.ref sNum, .ref sLen, .ref sWid, .ref sMade])), (sMade, .inl (cyZ, 4, .inl s_fm)), (sLen, .inl (cyI, 4, .inl s_fl)), (sWid, .inl (cyI, 4, .inl s_fw)), (sNum, .inl (cyN, 4, .inr (.inr (.inr (.inr nF))))), (n0, .inl (cyJ, 60, .inr (.inl s_n0))), (n1, .inl (cyJ, 60, .inr (.inl s_n1))), (n2, .inl (cyJ, 60, .inr (.inl s_n2))), (n3, .inl (cyJ, 60, .inr (.inl s_n3))), (r0, .inl (cyI, 7, .inl f_6))]) [0, 1, 2, 3, 4, 5, 6, 7, 8, 9] rfl
              have hD9 := hD.sub (ws' := [(h0, .inr (7, [.ref sNum, .ref sLen, .ref sWid, .ref sMade])), (sMade, .inl (cyZ, 4, .inl s_fm)), (sLen, .inl (cyI, 4, .inl s_fl)), (sWid, .inl (cyI, 4, .inl s_fw)), (sNum, .inl (cyN, 4, .inr (.inr (.inr (.inr nF))))), (n0, .inl (cyJ, 60, .inr (.inl s_n0))), (n1, .inl (cyJ, 60, .inr (.inl s_n1))), (n2, .inl (cyJ, 60, .inr (.inl s_n2))), (n3, .inl (cyJ, 60, .inr (.inl s_n3))), (r0, .inl (cyI, 7, .inl f_6))]) [0, 1, 2, 3, 4, 5, 6, 7, 8, 9] (by decide) rfl
              exact W.zret (v := 0) (ty := .boolean) hx hb hr rfl (fun t ht hW => ⟨⟨0, (), rfl, (by decide), ⟨f_6, hf_6, by rw [ht]; exact hP9, hD9⟩⟩, hS.F ht⟩) hS.2.2 dX8_readHeads_51
            · have c_46 : 0 ≤ x_45.toInt := cv_cnlt c_46
              refine lv_lload hx hb dX8_readHeads_42 (lv_at hl 0 rfl) ?_
              refine lv_iload_n hx hb dX8_readHeads_44 rfl (lv_at hl 5 rfl) ?_
              obtain ⟨y_47, ey_47⟩ : ∃ z : Int64, z = p1.toInt64 := ⟨_, rfl⟩
              have fy_47 : y_47.toInt = p1.toInt := by rw [ey_47]; exact Int32.toInt_toInt64 _
              refine lv_i2l (v := y_47) hx hb dX8_readHeads_45 ey_47.symm ?_
              refine W.lcmp hx hb dX8_readHeads_46 ?_
              refine lv_if_lt (tgt := 52) hx hb dX8_readHeads_47 (by decide) (fun c_48 => ?_) (fun c_48 => ?_)
              · have c_48 : x_45.toInt < y_47.toInt := cv_clt c_48
                refine lv_aload_n hx hb dX8_readHeads_52 rfl (lv_at hl 6 rfl) ?_
                refine lv_iload hx hb dX8_readHeads_53 (lv_at hl 1 rfl) ?_
                refine lv_lload hx hb dX8_readHeads_55 (lv_at hl 0 rfl) ?_
                refine lv_l2i hx hb dX8_readHeads_57 rfl ?_
                refine lv_topi (fun x_49 ex_49 => ?_)
                have fx_49 : x_49.toInt = x_45.toInt := by rw [ex_49]; exact cv_l2i (by omega) (by omega)
                refine va_iast hx hb hK hP hD hS 9 0 rfl rfl (vp_in_iff.mpr (by omega)) dX8_readHeads_58 (fun H locs hP hD hS => ?_)
                obtain ⟨f_50, ef_50⟩ : ∃ z9 : Nat → Int32, z9 = upd f_6 u_3.toNatClampNeg x_49 := ⟨_, rfl⟩
                rw [← ef_50] at hP hD
                have hP : va_P (dC, dI) vwCl [(h0, .inr (7, [.ref sNum, .ref sLen, .ref sWid, .ref sMade])), (sMade, .inl (cyZ, 4, .inl s_fm)), (sLen, .inl (cyI, 4, .inl s_fl)), (sWid, .inl (cyI, 4, .inl s_fw)), (sNum, .inl (cyN, 4, .inr (.inr (.inr (.inr nF))))), (n0, .inl (cyJ, 60, .inr (.inl s_n0))), (n1, .inl (cyJ, 60, .inr (.inl s_n1))), (n2, .inl (cyJ, 60, .inr (.inl s_n2))), (n3, .inl (cyJ, 60, .inr (.inl s_n3))), (r0, .inl (cyI, 7, .inl f_50))] H := hP
                have hD : va_D A [(h0, .inr (7, [.ref sNum, .ref sLen, .ref sWid, .ref sMade])), (sMade, .inl (cyZ, 4, .inl s_fm)), (sLen, .inl (cyI, 4, .inl s_fl)), (sWid, .inl (cyI, 4, .inl s_fw)), (sNum, .inl (cyN, 4, .inr (.inr (.inr (.inr nF))))), (n0, .inl (cyJ, 60, .inr (.inl s_n0))), (n1, .inl (cyJ, 60, .inr (.inl s_n1))), (n2, .inl (cyJ, 60, .inr (.inl s_n2))), (n3, .inl (cyJ, 60, .inr (.inl s_n3))), (r0, .inl (cyI, 7, .inl f_50))] := hD
                have hf_50 : rg 0 6 7 f_50 := by rw [ef_50]; exact rg_upd (hf_6) ⟨by omega, by omega⟩
                refine lv_iload hx hb dX8_readHeads_59 (lv_at hl 2 rfl) ?_
                refine lv_iconst (v := 1) hx hb dX8_readHeads_61 (by decide) ?_
                refine lv_lload hx hb dX8_readHeads_62 (lv_at hl 0 rfl) ?_
                refine lv_l2i hx hb dX8_readHeads_64 rfl ?_
                refine lv_topi (fun x_51 ex_51 => ?_)
                have fx_51 : x_51.toInt = x_45.toInt := by rw [ex_51]; exact cv_l2i (by omega) (by omega)
                refine lv_ishl hx hb dX8_readHeads_65 ?_
                refine lv_topi (fun x_52 ex_52 => ?_)
                have fx_52 : 1 ≤ x_52.toInt ∧ x_52.toInt ≤ 64 := by rw [ex_52]; have q := cv_shl1 (y := x_51) 0 6 (by decide) (by decide) (by omega) (by omega); omega
                refine lv_ior hx hb dX8_readHeads_66 ?_
                refine lv_topi (fun x_53 ex_53 => ?_)
                have fx_53 : 0 ≤ x_53.toInt ∧ x_53.toInt ≤ 127 := by rw [ex_53]; have q := cv_or (x := u_4) (y := x_52) 7 (by decide) (by omega) (by omega) (by omega) (by omega); omega
                refine lv_istore (lv' := [(4, .int x_53), (6, .long x_45), (5, .int u_3), (0, .ref h0), (1, .int 3), (2, .int p1), (3, .ref r0)]) hx hb dX8_readHeads_67 hl (by decide) rfl (fun ls hl => ?_)
                obtain ⟨x_54, ex_54⟩ : ∃ y : Int32, y = u_3 + 1 := ⟨_, rfl⟩
                refine lv_iinc (v := x_54) (lv' := [(5, .int x_54), (4, .int x_53), (6, .long x_45), (0, .ref h0), (1, .int 3), (2, .int p1), (3, .ref r0)]) hx hb dX8_readHeads_69 hl (k := 2) rfl (by rw [ex_54]; rfl) (by decide) rfl (fun ls hl => ?_)
                have fx_54 : x_54.toInt = u_3.toInt + 1 := by rw [ex_54]; exact cv_addI (by have : (1 : Int32).toInt = 1 := rfl; omega) (by have : (1 : Int32).toInt = 1 := rfl; omega)
                refine lv_goto (tgt := 18) hx hb dX8_readHeads_72 (by decide) ?_
                exact ihkey_7 x_54 x_53 3 f_50 _ _ _ (by omega) (by omega) (by decide) hf_50 hP hD hS (lv_sub hl [0, 1, 3, 4, 5, 6] rfl) (by omega)
              · have c_48 : y_47.toInt ≤ x_45.toInt := cv_cnlt c_48
                refine lv_iconst (v := 0) hx hb dX8_readHeads_50 (by decide) ?_
                rw [hQ9]
                have hP9 := hP.sub (ws' := [(h0, .inr (7, [.ref sNum, .ref sLen, .ref sWid, .ref sMade])), (sMade, .inl (cyZ, 4, .inl s_fm)), (sLen, .inl (cyI, 4, .inl s_fl)), (sWid, .inl (cyI, 4, .inl s_fw)), (sNum, .inl (cyN, 4, .inr (.inr (.inr (.inr nF))))), (n0, .inl (cyJ, 60, .inr (.inl s_n0))), (n1, .inl (cyJ, 60, .inr (.inl s_n1))), (n2, .inl (cyJ, 60, .inr (.inl s_n2))), (n3, .inl (cyJ, 60, .inr (.inl s_n3))), (r0, .inl (cyI, 7, .inl f_6))]) [0, 1, 2, 3, 4, 5, 6, 7, 8, 9] rfl
                have hD9 := hD.sub (ws' := [(h0, .inr (7, [.ref sNum, .ref sLen, .ref sWid, .ref sMade])), (sMade, .inl (cyZ, 4, .inl s_fm)), (sLen, .inl (cyI, 4, .inl s_fl)), (sWid, .inl (cyI, 4, .inl s_fw)), (sNum, .inl (cyN, 4, .inr (.inr (.inr (.inr nF))))), (n0, .inl (cyJ, 60, .inr (.inl s_n0))), (n1, .inl (cyJ, 60, .inr (.inl s_n1))), (n2, .inl (cyJ, 60, .inr (.inl s_n2))), (n3, .inl (cyJ, 60, .inr (.inl s_n3))), (r0, .inl (cyI, 7, .inl f_6))]) [0, 1, 2, 3, 4, 5, 6, 7, 8, 9] (by decide) rfl
                exact W.zret (v := 0) (ty := .boolean) hx hb hr rfl (fun t ht hW => ⟨⟨0, (), rfl, (by decide), ⟨f_6, hf_6, by rw [ht]; exact hP9, hD9⟩⟩, hS.F ht⟩) hS.2.2 dX8_readHeads_51
    exact key_7 _ 0 0 p0 f0 _ _ _ (by decide) (by decide) (by omega) g3 hP hD hS (lv_sub hl [0, 1, 2, 3, 4, 5] rfl) (Nat.lt_succ_self _)
  · have c_2 : x_1.toInt ≠ p1.toInt := cv_ne c_2
    refine lv_iconst (v := 0) hx hb dX8_readHeads_10 (by decide) ?_
    rw [hQ9]
    have hP9 := hP.sub (ws' := [(h0, .inr (7, [.ref sNum, .ref sLen, .ref sWid, .ref sMade])), (sMade, .inl (cyZ, 4, .inl s_fm)), (sLen, .inl (cyI, 4, .inl s_fl)), (sWid, .inl (cyI, 4, .inl s_fw)), (sNum, .inl (cyN, 4, .inr (.inr (.inr (.inr nF))))), (n0, .inl (cyJ, 60, .inr (.inl s_n0))), (n1, .inl (cyJ, 60, .inr (.inl s_n1))), (n2, .inl (cyJ, 60, .inr (.inl s_n2))), (n3, .inl (cyJ, 60, .inr (.inl s_n3))), (r0, .inl (cyI, 7, .inl f0))]) [0, 1, 2, 3, 4, 5, 6, 7, 8, 9] rfl
    have hD9 := hD.sub (ws' := [(h0, .inr (7, [.ref sNum, .ref sLen, .ref sWid, .ref sMade])), (sMade, .inl (cyZ, 4, .inl s_fm)), (sLen, .inl (cyI, 4, .inl s_fl)), (sWid, .inl (cyI, 4, .inl s_fw)), (sNum, .inl (cyN, 4, .inr (.inr (.inr (.inr nF))))), (n0, .inl (cyJ, 60, .inr (.inl s_n0))), (n1, .inl (cyJ, 60, .inr (.inl s_n1))), (n2, .inl (cyJ, 60, .inr (.inl s_n2))), (n3, .inl (cyJ, 60, .inr (.inl s_n3))), (r0, .inl (cyI, 7, .inl f0))]) [0, 1, 2, 3, 4, 5, 6, 7, 8, 9] (by decide) rfl
    exact W.zret (v := 0) (ty := .boolean) hx hb hr rfl (fun t ht hW => ⟨⟨0, (), rfl, (by decide), ⟨f0, g3, by rw [ht]; exact hP9, hD9⟩⟩, hS.F ht⟩) hS.2.2 dX8_readHeads_11

set_option maxHeartbeats 4000000 in
set_option maxRecDepth 100000 in
theorem law_c32 {p : Program} {l : Launch} {e : Env} {s : State} {m : MethodId} {below : List Frame} {meth : Method} {c : Code} {b : Nat} {xs : Nat → Int32} (C0 : lw_At p s m meth c b 6 xs) (dC : Nat → ClassId) (dI : Nat → Nat → Nat) (cyI cyB cyJ cyZ cyH cyN : ClassId) (E : Nat → Nat) (iF nF : Nat → Option Nat) (wF : Nat → Int32) (g0 : nF 0 = some (E 57)) (g1 : nF 1 = some (E 58)) (g2 : nF 2 = some (E 59)) (g3 : nF 3 = some (E 60)) (g4 : iF 0 = some (E 24)) (g5 : iF 1 = some (E 34)) (g6 : iF 2 = some (E 44)) (g7 : ∀ j : Nat, j < 4 → wF j = -1) {H : Heap} {locs : List Loc} {ls : Array Slot} (hK : va_K (dC, dI) vwCl [(cyI, .int), (cyB, .byte), (cyJ, .long), (cyZ, .boolean), (cyH, .object RX2), (cyN, .array .long)] s) (hP : va_P (dC, dI) vwCl (wAll cyI cyB cyJ cyZ cyH cyN E iF nF wF) H) {A : Nat → Prop} (hAe : A = fun q => s.heap.size ≤ q) (hD : va_D A (wAll cyI cyB cyJ cyZ cyH cyN E iF nF wF)) (hS : va_S A s.heap H locs) (hl : lv_has ls 4 [(3, .int 0), (2, .ref (E 85)), (1, .ref (E 0)), (0, .ref b)]) : W p l e room_1 s m #[Value.ref b] below meth c H locs 110 15598 (lw_Z below #[Value.ref b] s) (F0 m 1038 ls []) := by
  obtain ⟨hx, hb, hr, hml, hown, hts0, hX, hbl, hlocks, hgv⟩ := id C0
  have hts : ∀ w ∈ uU, w.before #[Value.ref b] s = true := fun w h => hts0 w (uU_in h)
  have hbA : ¬ A b := by rw [hAe]; exact Nat.not_le.mpr hbl
  have hA : ∀ q : Nat, s.heap.size ≤ q → A q := fun q h => by rw [hAe]; exact h
  refine lv_aload_n hx hb dL_law_1038 rfl (lv_at hl 2 rfl) ?_
  have hPc := hP.sub (ws' := [((E 0), .inr (10, [.ref (E 1), .ref (E 3), .ref (E 13), .ref (E 23), .ref (E 54), .ref (E 55), .ref (E 64), .ref (E 69), .ref (E 71), .ref (E 75), .ref (E 78), .ref (E 80), .ref (E 83), .ref (E 84), .null])), ((E 3), .inr (2, [.int 0, .int 0, .int 0, .int 0, .int 0, .int 0, .ref (E 4), .ref (E 5), .ref (E 6), .ref (E 7), .ref (E 8), .ref (E 9), .ref (E 10), .ref (E 11), .ref (E 12)]))]) [0, 3] rfl
  have hKc := hK.sub (tys' := [(cyI, .int), (cyB, .byte), (cyJ, .long), (cyZ, .boolean), (cyH, .object RX2), (cyN, .array .long)]) [0, 1, 2, 3, 4, 5] rfl
  refine vp_callSi (va_Run.run (va_runV (As := []) (rest := []) ⟨hx, hb, hml, hown, hts⟩ (c_far l dC dI cyI cyB cyJ cyZ cyH cyN (E 0) (E 1) (E 3) (E 13) (E 23) (E 54) (E 55) (E 64) (E 69) (E 71) (E 75) (E 78) (E 80) (E 83) (E 84) (E 4) (E 5) (E 6) (E 7) (E 8) (E 9) (E 10) (E 11) (E 12)) (cwV 0 hts (gdV wd_4_161 wd_4_162 wd_4_163 wd_1_1 wd_4_164) rfl rfl rfl (by decide +kernel) ⟨Nat.le_of_ble_eq_true rfl, Nat.le_of_ble_eq_true rfl⟩) ⟨fun a U g mk q => by obtain ⟨q0, qP, qK⟩ := q; exact ⟨q0, qP, va_K.moved (u := U) (U := U.calling g mk a) (Vm.Alike.refl U.vm) qK⟩, va_recv hKc hPc (ci := 10) (q0 := 0) rfl rfl, fun U hU hW => ⟨rfl, by rw [hU]; exact hPc, va_K.moved hW.alike hKc⟩⟩ rfl rfl hl.1 rfl (lv_room (Nat.le_of_ble_eq_true rfl)) dL_law_1039 ⟨Nat.le_of_ble_eq_true rfl, Nat.le_of_ble_eq_true rfl⟩)) (fun r_1 hw => ?_)
  subst hw
  refine lv_aload_n hx hb dL_law_1042 rfl (lv_at hl 1 rfl) ?_
  have hPc := hP.sub (ws' := [((E 85), .inr (11, [.int 0, .ref (E 86), .ref (E 87), .ref (E 88), .ref (E 89), .ref (E 90), .int 0, .int 0, .int 0, .int 0, .int 0, .long 0, .int 0, .int 0, .int 0, .int (-1), .ref (E 91), .ref (E 92), .ref (E 93), .ref (E 94), .ref (E 95), .ref (E 96), .ref (E 97), .ref (E 98), .ref (E 99), .ref (E 100), .int 0, .ref (E 101), .ref (E 102), .ref (E 103), .ref (E 104), .int 0, .ref (E 105), .ref (E 106), .ref (E 107), .int 0, .int 0, .int 0, .int 0, .int 0, .int 0, .ref (E 108), .ref (E 109), .long 0])), ((E 91), .inl (cyI, 5, .inl (fun _ => 0))), ((E 92), .inl (cyI, 20, .inl (fun _ => 0)))]) [85, 91, 92] rfl
  have hKc := hK.sub (tys' := [(cyI, .int), (cyB, .byte), (cyJ, .long), (cyZ, .boolean), (cyH, .object RX2), (cyN, .array .long)]) [0, 1, 2, 3, 4, 5] rfl
  have hDc := hD.sub (ws' := [((E 85), .inr (11, [.int 0, .ref (E 86), .ref (E 87), .ref (E 88), .ref (E 89), .ref (E 90), .int 0, .int 0, .int 0, .int 0, .int 0, .long 0, .int 0, .int 0, .int 0, .int (-1), .ref (E 91), .ref (E 92), .ref (E 93), .ref (E 94), .ref (E 95), .ref (E 96), .ref (E 97), .ref (E 98), .ref (E 99), .ref (E 100), .int 0, .ref (E 101), .ref (E 102), .ref (E 103), .ref (E 104), .int 0, .ref (E 105), .ref (E 106), .ref (E 107), .int 0, .int 0, .int 0, .int 0, .int 0, .int 0, .ref (E 108), .ref (E 109), .long 0])), ((E 91), .inl (cyI, 5, .inl (fun _ => 0))), ((E 92), .inl (cyI, 20, .inl (fun _ => 0)))]) [85, 91, 92] (by decide) rfl
  have hFc := va_free (wc := [((E 85), .inr (11, [.int 0, .ref (E 86), .ref (E 87), .ref (E 88), .ref (E 89), .ref (E 90), .int 0, .int 0, .int 0, .int 0, .int 0, .long 0, .int 0, .int 0, .int 0, .int (-1), .ref (E 91), .ref (E 92), .ref (E 93), .ref (E 94), .ref (E 95), .ref (E 96), .ref (E 97), .ref (E 98), .ref (E 99), .ref (E 100), .int 0, .ref (E 101), .ref (E 102), .ref (E 103), .ref (E 104), .int 0, .ref (E 105), .ref (E 106), .ref (E 107), .int 0, .int 0, .int 0, .int 0, .int 0, .int 0, .ref (E 108), .ref (E 109), .long 0])), ((E 91), .inl (cyI, 5, .inl (fun _ => 0))), ((E 92), .inl (cyI, 20, .inl (fun _ => 0)))]) hD hS hA [85, 91, 92] rfl
  refine va_calli (va_runV (As := []) (rest := [.int (-2)]) ⟨hx, hb, hml, hown, hts⟩ (m_far l dC dI cyI cyB cyJ cyZ cyH cyN H.size (E 85) (E 86) (E 87) (E 88) (E 89) (E 90) (E 91) (E 92) (E 93) (E 94) (E 95) (E 96) (E 97) (E 98) (E 99) (E 100) (E 101) (E 102) (E 103) (E 104) (E 105) (E 106) (E 107) (E 108) (E 109)) (cwV 0 hts (gdV wd_8_47 wd_8_48 wd_8_49 wd_1_11 wd_8_50) rfl rfl rfl (by decide +kernel) ⟨Nat.le_of_ble_eq_true rfl, Nat.le_of_ble_eq_true rfl⟩) ⟨fun a U g mk q => by obtain ⟨q0, q1, qP, qK, qD⟩ := q; exact ⟨q0, q1, qP, va_K.moved (u := U) (U := U.calling g mk a) (Vm.Alike.refl U.vm) qK, qD⟩, va_recv hKc hPc (ci := 11) (q0 := 0) rfl rfl, fun U hU hW => ⟨rfl, by rw [hU], by rw [hU]; exact hPc, va_K.moved hW.alike hKc, hDc.weaken (fun _ _ _ _ => trivial)⟩⟩ rfl rfl hl.1 rfl (lv_room (Nat.le_of_ble_eq_true rfl)) dL_law_1043 ⟨Nat.le_of_ble_eq_true rfl, Nat.le_of_ble_eq_true rfl⟩) hS (fun q _ h => hFc q h) hFc (fun r_2 u t H1 locs ht hvm hw hB hz1 hk1 hS => ?_)
  generalize H1 = H at hS ⊢
  subst hw
  refine lv_icmp_eq (tgt := 1931) hx hb dL_law_1046 (by decide) (fun _ => ?_) (fun c_3 => absurd c_3 (by decide))
  have hS9 : va_S (fun q : Nat => s.heap.size ≤ q) s.heap H locs := by rw [← hAe]; exact hS
  exact law_end C0 hS9 (lv_sub hl [3, 0] rfl) (Nat.le_of_ble_eq_true rfl) (Nat.le_of_ble_eq_true rfl)

set_option maxHeartbeats 4000000 in
set_option maxRecDepth 100000 in
theorem law_c33 {p : Program} {l : Launch} {e : Env} {s : State} {m : MethodId} {below : List Frame} {meth : Method} {c : Code} {b : Nat} {xs : Nat → Int32} (C0 : lw_At p s m meth c b 6 xs) (dC : Nat → ClassId) (dI : Nat → Nat → Nat) (cyI cyB cyJ cyZ cyH cyN : ClassId) (E : Nat → Nat) (iF nF : Nat → Option Nat) (wF : Nat → Int32) (g0 : nF 0 = some (E 57)) (g1 : nF 1 = some (E 58)) (g2 : nF 2 = some (E 59)) (g3 : nF 3 = some (E 60)) (g4 : iF 0 = some (E 24)) (g5 : iF 1 = some (E 34)) (g6 : iF 2 = some (E 44)) (g7 : ∀ j : Nat, j < 4 → wF j = -1) {H : Heap} {locs : List Loc} {ls : Array Slot} (hK : va_K (dC, dI) vwCl [(cyI, .int), (cyB, .byte), (cyJ, .long), (cyZ, .boolean), (cyH, .object RX2), (cyN, .array .long)] s) (hP : va_P (dC, dI) vwCl (wAll cyI cyB cyJ cyZ cyH cyN E iF nF wF) H) {A : Nat → Prop} (hAe : A = fun q => s.heap.size ≤ q) (hD : va_D A (wAll cyI cyB cyJ cyZ cyH cyN E iF nF wF)) (hS : va_S A s.heap H locs) (hl : lv_has ls 4 [(3, .int 0), (2, .ref (E 85)), (1, .ref (E 0)), (0, .ref b)]) : W p l e room_1 s m #[Value.ref b] below meth c H locs 110 15598 (lw_Z below #[Value.ref b] s) (F0 m 1051 ls []) := by
  obtain ⟨hx, hb, hr, hml, hown, hts0, hX, hbl, hlocks, hgv⟩ := id C0
  have hts : ∀ w ∈ uU, w.before #[Value.ref b] s = true := fun w h => hts0 w (uU_in h)
  have hbA : ¬ A b := by rw [hAe]; exact Nat.not_le.mpr hbl
  have hA : ∀ q : Nat, s.heap.size ≤ q → A q := fun q h => by rw [hAe]; exact h
  refine lv_aload_n hx hb dL_law_1051 rfl (lv_at hl 2 rfl) ?_
  refine lv_aload_n hx hb dL_law_1052 rfl (lv_at hl 3 rfl) ?_
  refine lv_iload_n hx hb dL_law_1053 rfl (lv_at hl 0 rfl) ?_
  refine lv_iconst (v := 1) hx hb dL_law_1054 (by decide) ?_
  refine lv_iadd hx hb dL_law_1055 ?_
  refine cv_topi (b := 1) (by decide) ?_
  refine va_sld hx hb hX hbl hbA hS (vp_in_iff.mpr (by decide)) dL_law_1056 ?_
  refine cv_topi (b := xs 1) rfl ?_
  have hPc := hP.sub (ws' := [((E 0), .inr (10, [.ref (E 1), .ref (E 3), .ref (E 13), .ref (E 23), .ref (E 54), .ref (E 55), .ref (E 64), .ref (E 69), .ref (E 71), .ref (E 75), .ref (E 78), .ref (E 80), .ref (E 83), .ref (E 84), .null])), ((E 3), .inr (2, [.int 0, .int 0, .int 0, .int 0, .int 0, .int 0, .ref (E 4), .ref (E 5), .ref (E 6), .ref (E 7), .ref (E 8), .ref (E 9), .ref (E 10), .ref (E 11), .ref (E 12)]))]) [0, 3] rfl
  have hKc := hK.sub (tys' := [(cyI, .int), (cyB, .byte), (cyJ, .long), (cyZ, .boolean), (cyH, .object RX2), (cyN, .array .long)]) [0, 1, 2, 3, 4, 5] rfl
  refine vp_callSi (va_Run.run (va_runV (As := [.int (xs 1)]) (rest := []) ⟨hx, hb, hml, hown, hts⟩ (c_fits l dC dI cyI cyB cyJ cyZ cyH cyN (E 0) (E 1) (E 3) (E 13) (E 23) (E 54) (E 55) (E 64) (E 69) (E 71) (E 75) (E 78) (E 80) (E 83) (E 84) (E 4) (E 5) (E 6) (E 7) (E 8) (E 9) (E 10) (E 11) (E 12) (xs 1)) (cwV 1 hts (gdV wd_4_169 wd_4_170 wd_4_171 wd_1_1 wd_4_172) rfl rfl rfl (by decide +kernel) ⟨Nat.le_of_ble_eq_true rfl, Nat.le_of_ble_eq_true rfl⟩) ⟨fun a U g mk q => by obtain ⟨q0, qP, qK⟩ := q; exact ⟨q0, qP, va_K.moved (u := U) (U := U.calling g mk a) (Vm.Alike.refl U.vm) qK⟩, va_recv hKc hPc (ci := 10) (q0 := 0) rfl rfl, fun U hU hW => ⟨rfl, by rw [hU]; exact hPc, va_K.moved hW.alike hKc⟩⟩ rfl rfl hl.1 rfl (lv_room (Nat.le_of_ble_eq_true rfl)) dL_law_1057 ⟨Nat.le_of_ble_eq_true rfl, Nat.le_of_ble_eq_true rfl⟩)) (fun r_1 hw => ?_)
  subst hw
  refine lv_aload_n hx hb dL_law_1060 rfl (lv_at hl 1 rfl) ?_
  refine lv_aload_n hx hb dL_law_1061 rfl (lv_at hl 3 rfl) ?_
  refine lv_iload_n hx hb dL_law_1062 rfl (lv_at hl 0 rfl) ?_
  refine lv_iconst (v := 1) hx hb dL_law_1063 (by decide) ?_
  refine lv_iadd hx hb dL_law_1064 ?_
  refine cv_topi (b := 1) (by decide) ?_
  refine va_sld hx hb hX hbl hbA hS (vp_in_iff.mpr (by decide)) dL_law_1065 ?_
  refine cv_topi (b := xs 1) rfl ?_
  have hPc := hP.sub (ws' := [((E 85), .inr (11, [.int 0, .ref (E 86), .ref (E 87), .ref (E 88), .ref (E 89), .ref (E 90), .int 0, .int 0, .int 0, .int 0, .int 0, .long 0, .int 0, .int 0, .int 0, .int (-1), .ref (E 91), .ref (E 92), .ref (E 93), .ref (E 94), .ref (E 95), .ref (E 96), .ref (E 97), .ref (E 98), .ref (E 99), .ref (E 100), .int 0, .ref (E 101), .ref (E 102), .ref (E 103), .ref (E 104), .int 0, .ref (E 105), .ref (E 106), .ref (E 107), .int 0, .int 0, .int 0, .int 0, .int 0, .int 0, .ref (E 108), .ref (E 109), .long 0])), ((E 91), .inl (cyI, 5, .inl (fun _ => 0))), ((E 92), .inl (cyI, 20, .inl (fun _ => 0)))]) [85, 91, 92] rfl
  have hKc := hK.sub (tys' := [(cyI, .int), (cyB, .byte), (cyJ, .long), (cyZ, .boolean), (cyH, .object RX2), (cyN, .array .long)]) [0, 1, 2, 3, 4, 5] rfl
  have hDc := hD.sub (ws' := [((E 85), .inr (11, [.int 0, .ref (E 86), .ref (E 87), .ref (E 88), .ref (E 89), .ref (E 90), .int 0, .int 0, .int 0, .int 0, .int 0, .long 0, .int 0, .int 0, .int 0, .int (-1), .ref (E 91), .ref (E 92), .ref (E 93), .ref (E 94), .ref (E 95), .ref (E 96), .ref (E 97), .ref (E 98), .ref (E 99), .ref (E 100), .int 0, .ref (E 101), .ref (E 102), .ref (E 103), .ref (E 104), .int 0, .ref (E 105), .ref (E 106), .ref (E 107), .int 0, .int 0, .int 0, .int 0, .int 0, .int 0, .ref (E 108), .ref (E 109), .long 0])), ((E 91), .inl (cyI, 5, .inl (fun _ => 0))), ((E 92), .inl (cyI, 20, .inl (fun _ => 0)))]) [85, 91, 92] (by decide) rfl
  have hFc := va_free (wc := [((E 85), .inr (11, [.int 0, .ref (E 86), .ref (E 87), .ref (E 88), .ref (E 89), .ref (E 90), .int 0, .int 0, .int 0, .int 0, .int 0, .long 0, .int 0, .int 0, .int 0, .int (-1), .ref (E 91), .ref (E 92), .ref (E 93), .ref (E 94), .ref (E 95), .ref (E 96), .ref (E 97), .ref (E 98), .ref (E 99), .ref (E 100), .int 0, .ref (E 101), .ref (E 102), .ref (E 103), .ref (E 104), .int 0, .ref (E 105), .ref (E 106), .ref (E 107), .int 0, .int 0, .int 0, .int 0, .int 0, .int 0, .ref (E 108), .ref (E 109), .long 0])), ((E 91), .inl (cyI, 5, .inl (fun _ => 0))), ((E 92), .inl (cyI, 20, .inl (fun _ => 0)))]) hD hS hA [85, 91, 92] rfl
  refine va_calli (va_runV (As := [.int (xs 1)]) (rest := [.int (-2)]) ⟨hx, hb, hml, hown, hts⟩ (m_fits l dC dI cyI cyB cyJ cyZ cyH cyN H.size (E 85) (E 86) (E 87) (E 88) (E 89) (E 90) (E 91) (E 92) (E 93) (E 94) (E 95) (E 96) (E 97) (E 98) (E 99) (E 100) (E 101) (E 102) (E 103) (E 104) (E 105) (E 106) (E 107) (E 108) (E 109) (xs 1)) (cwV 1 hts (gdV wd_8_51 wd_8_52 wd_8_53 wd_1_11 wd_8_54) rfl rfl rfl (by decide +kernel) ⟨Nat.le_of_ble_eq_true rfl, Nat.le_of_ble_eq_true rfl⟩) ⟨fun a U g mk q => by obtain ⟨q0, q1, qP, qK, qD⟩ := q; exact ⟨q0, q1, qP, va_K.moved (u := U) (U := U.calling g mk a) (Vm.Alike.refl U.vm) qK, qD⟩, va_recv hKc hPc (ci := 11) (q0 := 0) rfl rfl, fun U hU hW => ⟨rfl, by rw [hU], by rw [hU]; exact hPc, va_K.moved hW.alike hKc, hDc.weaken (fun _ _ _ _ => trivial)⟩⟩ rfl rfl hl.1 rfl (lv_room (Nat.le_of_ble_eq_true rfl)) dL_law_1066 ⟨Nat.le_of_ble_eq_true rfl, Nat.le_of_ble_eq_true rfl⟩) hS (fun q _ h => hFc q h) hFc (fun r_2 u t H1 locs ht hvm hw hB hz1 hk1 hS => ?_)
  generalize H1 = H at hS ⊢
  subst hw
  refine lv_icmp_eq (tgt := 1931) hx hb dL_law_1069 (by decide) (fun _ => ?_) (fun c_3 => absurd c_3 (by decide))
  have hS9 : va_S (fun q : Nat => s.heap.size ≤ q) s.heap H locs := by rw [← hAe]; exact hS
  exact law_end C0 hS9 (lv_sub hl [3, 0] rfl) (Nat.le_of_ble_eq_true rfl) (Nat.le_of_ble_eq_true rfl)

set_option maxHeartbeats 4000000 in
set_option maxRecDepth 100000 in
theorem law_c34 {p : Program} {l : Launch} {e : Env} {s : State} {m : MethodId} {below : List Frame} {meth : Method} {c : Code} {b : Nat} {xs : Nat → Int32} (C0 : lw_At p s m meth c b 6 xs) (dC : Nat → ClassId) (dI : Nat → Nat → Nat) (cyI cyB cyJ cyZ cyH cyN : ClassId) (E : Nat → Nat) (iF nF : Nat → Option Nat) (wF : Nat → Int32) (g0 : nF 0 = some (E 57)) (g1 : nF 1 = some (E 58)) (g2 : nF 2 = some (E 59)) (g3 : nF 3 = some (E 60)) (g4 : iF 0 = some (E 24)) (g5 : iF 1 = some (E 34)) (g6 : iF 2 = some (E 44)) (g7 : ∀ j : Nat, j < 4 → wF j = -1) {H : Heap} {locs : List Loc} {ls : Array Slot} (hK : va_K (dC, dI) vwCl [(cyI, .int), (cyB, .byte), (cyJ, .long), (cyZ, .boolean), (cyH, .object RX2), (cyN, .array .long)] s) (hP : va_P (dC, dI) vwCl (wAll cyI cyB cyJ cyZ cyH cyN E iF nF wF) H) {A : Nat → Prop} (hAe : A = fun q => s.heap.size ≤ q) (hD : va_D A (wAll cyI cyB cyJ cyZ cyH cyN E iF nF wF)) (hS : va_S A s.heap H locs) (hl : lv_has ls 4 [(3, .int 0), (2, .ref (E 85)), (1, .ref (E 0)), (0, .ref b)]) : W p l e room_1 s m #[Value.ref b] below meth c H locs 110 15598 (lw_Z below #[Value.ref b] s) (F0 m 1074 ls []) := by
  obtain ⟨hx, hb, hr, hml, hown, hts0, hX, hbl, hlocks, hgv⟩ := id C0
  have hts : ∀ w ∈ uU, w.before #[Value.ref b] s = true := fun w h => hts0 w (uU_in h)
  have hbA : ¬ A b := by rw [hAe]; exact Nat.not_le.mpr hbl
  have hA : ∀ q : Nat, s.heap.size ≤ q → A q := fun q h => by rw [hAe]; exact h
  refine lv_aload_n hx hb dL_law_1074 rfl (lv_at hl 2 rfl) ?_
  refine lv_aload_n hx hb dL_law_1075 rfl (lv_at hl 3 rfl) ?_
  refine lv_iload_n hx hb dL_law_1076 rfl (lv_at hl 0 rfl) ?_
  refine lv_iconst (v := 1) hx hb dL_law_1077 (by decide) ?_
  refine lv_iadd hx hb dL_law_1078 ?_
  refine cv_topi (b := 1) (by decide) ?_
  refine va_sld hx hb hX hbl hbA hS (vp_in_iff.mpr (by decide)) dL_law_1079 ?_
  refine cv_topi (b := xs 1) rfl ?_
  refine lv_aload_n hx hb dL_law_1080 rfl (lv_at hl 3 rfl) ?_
  refine lv_iload_n hx hb dL_law_1081 rfl (lv_at hl 0 rfl) ?_
  refine lv_iconst (v := 2) hx hb dL_law_1082 (by decide) ?_
  refine lv_iadd hx hb dL_law_1083 ?_
  refine cv_topi (b := 2) (by decide) ?_
  refine va_sld hx hb hX hbl hbA hS (vp_in_iff.mpr (by decide)) dL_law_1084 ?_
  refine cv_topi (b := xs 2) rfl ?_
  have hPc := hP.sub (ws' := [((E 0), .inr (10, [.ref (E 1), .ref (E 3), .ref (E 13), .ref (E 23), .ref (E 54), .ref (E 55), .ref (E 64), .ref (E 69), .ref (E 71), .ref (E 75), .ref (E 78), .ref (E 80), .ref (E 83), .ref (E 84), .null])), ((E 3), .inr (2, [.int 0, .int 0, .int 0, .int 0, .int 0, .int 0, .ref (E 4), .ref (E 5), .ref (E 6), .ref (E 7), .ref (E 8), .ref (E 9), .ref (E 10), .ref (E 11), .ref (E 12)]))]) [0, 3] rfl
  have hKc := hK.sub (tys' := [(cyI, .int), (cyB, .byte), (cyJ, .long), (cyZ, .boolean), (cyH, .object RX2), (cyN, .array .long)]) [0, 1, 2, 3, 4, 5] rfl
  refine vp_callSi (va_Run.run (va_runV (As := [.int (xs 1), .int (xs 2)]) (rest := []) ⟨hx, hb, hml, hown, hts⟩ (c_fit l dC dI cyI cyB cyJ cyZ cyH cyN (E 0) (E 1) (E 3) (E 13) (E 23) (E 54) (E 55) (E 64) (E 69) (E 71) (E 75) (E 78) (E 80) (E 83) (E 84) (E 4) (E 5) (E 6) (E 7) (E 8) (E 9) (E 10) (E 11) (E 12) (xs 1) (xs 2)) (cwV 2 hts (gdV wd_4_201 wd_4_202 wd_4_203 wd_1_1 wd_4_204) rfl rfl rfl (by decide +kernel) ⟨Nat.le_of_ble_eq_true rfl, Nat.le_of_ble_eq_true rfl⟩) ⟨fun a U g mk q => by obtain ⟨q0, qP, qK⟩ := q; exact ⟨q0, qP, va_K.moved (u := U) (U := U.calling g mk a) (Vm.Alike.refl U.vm) qK⟩, va_recv hKc hPc (ci := 10) (q0 := 0) rfl rfl, fun U hU hW => ⟨rfl, by rw [hU]; exact hPc, va_K.moved hW.alike hKc⟩⟩ rfl rfl hl.1 rfl (lv_room (Nat.le_of_ble_eq_true rfl)) dL_law_1085 ⟨Nat.le_of_ble_eq_true rfl, Nat.le_of_ble_eq_true rfl⟩)) (fun r_1 hw => ?_)
  subst hw
  refine lv_aload_n hx hb dL_law_1088 rfl (lv_at hl 1 rfl) ?_
  refine lv_aload_n hx hb dL_law_1089 rfl (lv_at hl 3 rfl) ?_
  refine lv_iload_n hx hb dL_law_1090 rfl (lv_at hl 0 rfl) ?_
  refine lv_iconst (v := 1) hx hb dL_law_1091 (by decide) ?_
  refine lv_iadd hx hb dL_law_1092 ?_
  refine cv_topi (b := 1) (by decide) ?_
  refine va_sld hx hb hX hbl hbA hS (vp_in_iff.mpr (by decide)) dL_law_1093 ?_
  refine cv_topi (b := xs 1) rfl ?_
  refine lv_aload_n hx hb dL_law_1094 rfl (lv_at hl 3 rfl) ?_
  refine lv_iload_n hx hb dL_law_1095 rfl (lv_at hl 0 rfl) ?_
  refine lv_iconst (v := 2) hx hb dL_law_1096 (by decide) ?_
  refine lv_iadd hx hb dL_law_1097 ?_
  refine cv_topi (b := 2) (by decide) ?_
  refine va_sld hx hb hX hbl hbA hS (vp_in_iff.mpr (by decide)) dL_law_1098 ?_
  refine cv_topi (b := xs 2) rfl ?_
  have hPc := hP.sub (ws' := [((E 85), .inr (11, [.int 0, .ref (E 86), .ref (E 87), .ref (E 88), .ref (E 89), .ref (E 90), .int 0, .int 0, .int 0, .int 0, .int 0, .long 0, .int 0, .int 0, .int 0, .int (-1), .ref (E 91), .ref (E 92), .ref (E 93), .ref (E 94), .ref (E 95), .ref (E 96), .ref (E 97), .ref (E 98), .ref (E 99), .ref (E 100), .int 0, .ref (E 101), .ref (E 102), .ref (E 103), .ref (E 104), .int 0, .ref (E 105), .ref (E 106), .ref (E 107), .int 0, .int 0, .int 0, .int 0, .int 0, .int 0, .ref (E 108), .ref (E 109), .long 0])), ((E 91), .inl (cyI, 5, .inl (fun _ => 0))), ((E 92), .inl (cyI, 20, .inl (fun _ => 0)))]) [85, 91, 92] rfl
  have hKc := hK.sub (tys' := [(cyI, .int), (cyB, .byte), (cyJ, .long), (cyZ, .boolean), (cyH, .object RX2), (cyN, .array .long)]) [0, 1, 2, 3, 4, 5] rfl
  have hDc := hD.sub (ws' := [((E 85), .inr (11, [.int 0, .ref (E 86), .ref (E 87), .ref (E 88), .ref (E 89), .ref (E 90), .int 0, .int 0, .int 0, .int 0, .int 0, .long 0, .int 0, .int 0, .int 0, .int (-1), .ref (E 91), .ref (E 92), .ref (E 93), .ref (E 94), .ref (E 95), .ref (E 96), .ref (E 97), .ref (E 98), .ref (E 99), .ref (E 100), .int 0, .ref (E 101), .ref (E 102), .ref (E 103), .ref (E 104), .int 0, .ref (E 105), .ref (E 106), .ref (E 107), .int 0, .int 0, .int 0, .int 0, .int 0, .int 0, .ref (E 108), .ref (E 109), .long 0])), ((E 91), .inl (cyI, 5, .inl (fun _ => 0))), ((E 92), .inl (cyI, 20, .inl (fun _ => 0)))]) [85, 91, 92] (by decide) rfl
  have hFc := va_free (wc := [((E 85), .inr (11, [.int 0, .ref (E 86), .ref (E 87), .ref (E 88), .ref (E 89), .ref (E 90), .int 0, .int 0, .int 0, .int 0, .int 0, .long 0, .int 0, .int 0, .int 0, .int (-1), .ref (E 91), .ref (E 92), .ref (E 93), .ref (E 94), .ref (E 95), .ref (E 96), .ref (E 97), .ref (E 98), .ref (E 99), .ref (E 100), .int 0, .ref (E 101), .ref (E 102), .ref (E 103), .ref (E 104), .int 0, .ref (E 105), .ref (E 106), .ref (E 107), .int 0, .int 0, .int 0, .int 0, .int 0, .int 0, .ref (E 108), .ref (E 109), .long 0])), ((E 91), .inl (cyI, 5, .inl (fun _ => 0))), ((E 92), .inl (cyI, 20, .inl (fun _ => 0)))]) hD hS hA [85, 91, 92] rfl
  refine va_calli (va_runV (As := [.int (xs 1), .int (xs 2)]) (rest := [.int (-2)]) ⟨hx, hb, hml, hown, hts⟩ (m_fit l dC dI cyI cyB cyJ cyZ cyH cyN H.size (E 85) (E 86) (E 87) (E 88) (E 89) (E 90) (E 91) (E 92) (E 93) (E 94) (E 95) (E 96) (E 97) (E 98) (E 99) (E 100) (E 101) (E 102) (E 103) (E 104) (E 105) (E 106) (E 107) (E 108) (E 109) (xs 1) (xs 2)) (cwV 2 hts (gdV wd_8_68 wd_8_69 wd_8_70 wd_1_11 wd_8_71) rfl rfl rfl (by decide +kernel) ⟨Nat.le_of_ble_eq_true rfl, Nat.le_of_ble_eq_true rfl⟩) ⟨fun a U g mk q => by obtain ⟨q0, q1, qP, qK, qD⟩ := q; exact ⟨q0, q1, qP, va_K.moved (u := U) (U := U.calling g mk a) (Vm.Alike.refl U.vm) qK, qD⟩, va_recv hKc hPc (ci := 11) (q0 := 0) rfl rfl, fun U hU hW => ⟨rfl, by rw [hU], by rw [hU]; exact hPc, va_K.moved hW.alike hKc, hDc.weaken (fun _ _ _ _ => trivial)⟩⟩ rfl rfl hl.1 rfl (lv_room (Nat.le_of_ble_eq_true rfl)) dL_law_1099 ⟨Nat.le_of_ble_eq_true rfl, Nat.le_of_ble_eq_true rfl⟩) hS (fun q _ h => hFc q h) hFc (fun r_2 u t H1 locs ht hvm hw hB hz1 hk1 hS => ?_)
  generalize H1 = H at hS ⊢
  subst hw
  refine lv_icmp_eq (tgt := 1931) hx hb dL_law_1102 (by decide) (fun _ => ?_) (fun c_3 => absurd c_3 (by decide))
  have hS9 : va_S (fun q : Nat => s.heap.size ≤ q) s.heap H locs := by rw [← hAe]; exact hS
  exact law_end C0 hS9 (lv_sub hl [3, 0] rfl) (Nat.le_of_ble_eq_true rfl) (Nat.le_of_ble_eq_true rfl)

set_option maxHeartbeats 4000000 in
set_option maxRecDepth 100000 in
theorem law_c35 {p : Program} {l : Launch} {e : Env} {s : State} {m : MethodId} {below : List Frame} {meth : Method} {c : Code} {b : Nat} {xs : Nat → Int32} (C0 : lw_At p s m meth c b 6 xs) (dC : Nat → ClassId) (dI : Nat → Nat → Nat) (cyI cyB cyJ cyZ cyH cyN : ClassId) (E : Nat → Nat) (iF nF : Nat → Option Nat) (wF : Nat → Int32) (g0 : nF 0 = some (E 57)) (g1 : nF 1 = some (E 58)) (g2 : nF 2 = some (E 59)) (g3 : nF 3 = some (E 60)) (g4 : iF 0 = some (E 24)) (g5 : iF 1 = some (E 34)) (g6 : iF 2 = some (E 44)) (g7 : ∀ j : Nat, j < 4 → wF j = -1) {H : Heap} {locs : List Loc} {ls : Array Slot} (hK : va_K (dC, dI) vwCl [(cyI, .int), (cyB, .byte), (cyJ, .long), (cyZ, .boolean), (cyH, .object RX2), (cyN, .array .long)] s) (hP : va_P (dC, dI) vwCl (wAll cyI cyB cyJ cyZ cyH cyN E iF nF wF) H) {A : Nat → Prop} (hAe : A = fun q => s.heap.size ≤ q) (hD : va_D A (wAll cyI cyB cyJ cyZ cyH cyN E iF nF wF)) (hS : va_S A s.heap H locs) (hl : lv_has ls 4 [(3, .int 0), (2, .ref (E 85)), (1, .ref (E 0)), (0, .ref b)]) : W p l e room_1 s m #[Value.ref b] below meth c H locs 110 15598 (lw_Z below #[Value.ref b] s) (F0 m 1107 ls []) := by
  obtain ⟨hx, hb, hr, hml, hown, hts0, hX, hbl, hlocks, hgv⟩ := id C0
  have hts : ∀ w ∈ uU, w.before #[Value.ref b] s = true := fun w h => hts0 w (uU_in h)
  have hbA : ¬ A b := by rw [hAe]; exact Nat.not_le.mpr hbl
  have hA : ∀ q : Nat, s.heap.size ≤ q → A q := fun q h => by rw [hAe]; exact h
  refine lv_aload_n hx hb dL_law_1107 rfl (lv_at hl 2 rfl) ?_
  refine lv_aload_n hx hb dL_law_1108 rfl (lv_at hl 3 rfl) ?_
  refine lv_iload_n hx hb dL_law_1109 rfl (lv_at hl 0 rfl) ?_
  refine lv_iconst (v := 1) hx hb dL_law_1110 (by decide) ?_
  refine lv_iadd hx hb dL_law_1111 ?_
  refine cv_topi (b := 1) (by decide) ?_
  refine va_sld hx hb hX hbl hbA hS (vp_in_iff.mpr (by decide)) dL_law_1112 ?_
  refine cv_topi (b := xs 1) rfl ?_
  have hPc := hP.sub (ws' := [((E 0), .inr (10, [.ref (E 1), .ref (E 3), .ref (E 13), .ref (E 23), .ref (E 54), .ref (E 55), .ref (E 64), .ref (E 69), .ref (E 71), .ref (E 75), .ref (E 78), .ref (E 80), .ref (E 83), .ref (E 84), .null])), ((E 3), .inr (2, [.int 0, .int 0, .int 0, .int 0, .int 0, .int 0, .ref (E 4), .ref (E 5), .ref (E 6), .ref (E 7), .ref (E 8), .ref (E 9), .ref (E 10), .ref (E 11), .ref (E 12)]))]) [0, 3] rfl
  have hKc := hK.sub (tys' := [(cyI, .int), (cyB, .byte), (cyJ, .long), (cyZ, .boolean), (cyH, .object RX2), (cyN, .array .long)]) [0, 1, 2, 3, 4, 5] rfl
  refine vp_callSi (va_Run.run (va_runV (As := [.int (xs 1)]) (rest := []) ⟨hx, hb, hml, hown, hts⟩ (c_ask l dC dI cyI cyB cyJ cyZ cyH cyN (E 0) (E 1) (E 3) (E 13) (E 23) (E 54) (E 55) (E 64) (E 69) (E 71) (E 75) (E 78) (E 80) (E 83) (E 84) (E 4) (E 5) (E 6) (E 7) (E 8) (E 9) (E 10) (E 11) (E 12) (xs 1)) (cwV 1 hts (gdV wd_4_210 wd_4_211 wd_4_212 wd_1_1 wd_4_213) rfl rfl rfl (by decide +kernel) ⟨Nat.le_of_ble_eq_true rfl, Nat.le_of_ble_eq_true rfl⟩) ⟨fun a U g mk q => by obtain ⟨q0, qP, qK⟩ := q; exact ⟨q0, qP, va_K.moved (u := U) (U := U.calling g mk a) (Vm.Alike.refl U.vm) qK⟩, va_recv hKc hPc (ci := 10) (q0 := 0) rfl rfl, fun U hU hW => ⟨rfl, by rw [hU]; exact hPc, va_K.moved hW.alike hKc⟩⟩ rfl rfl hl.1 rfl (lv_room (Nat.le_of_ble_eq_true rfl)) dL_law_1113 ⟨Nat.le_of_ble_eq_true rfl, Nat.le_of_ble_eq_true rfl⟩)) (fun r_1 hw => ?_)
  subst hw
  refine lv_aload_n hx hb dL_law_1116 rfl (lv_at hl 1 rfl) ?_
  refine lv_aload_n hx hb dL_law_1117 rfl (lv_at hl 3 rfl) ?_
  refine lv_iload_n hx hb dL_law_1118 rfl (lv_at hl 0 rfl) ?_
  refine lv_iconst (v := 1) hx hb dL_law_1119 (by decide) ?_
  refine lv_iadd hx hb dL_law_1120 ?_
  refine cv_topi (b := 1) (by decide) ?_
  refine va_sld hx hb hX hbl hbA hS (vp_in_iff.mpr (by decide)) dL_law_1121 ?_
  refine cv_topi (b := xs 1) rfl ?_
  have hPc := hP.sub (ws' := [((E 85), .inr (11, [.int 0, .ref (E 86), .ref (E 87), .ref (E 88), .ref (E 89), .ref (E 90), .int 0, .int 0, .int 0, .int 0, .int 0, .long 0, .int 0, .int 0, .int 0, .int (-1), .ref (E 91), .ref (E 92), .ref (E 93), .ref (E 94), .ref (E 95), .ref (E 96), .ref (E 97), .ref (E 98), .ref (E 99), .ref (E 100), .int 0, .ref (E 101), .ref (E 102), .ref (E 103), .ref (E 104), .int 0, .ref (E 105), .ref (E 106), .ref (E 107), .int 0, .int 0, .int 0, .int 0, .int 0, .int 0, .ref (E 108), .ref (E 109), .long 0])), ((E 91), .inl (cyI, 5, .inl (fun _ => 0))), ((E 92), .inl (cyI, 20, .inl (fun _ => 0)))]) [85, 91, 92] rfl
  have hKc := hK.sub (tys' := [(cyI, .int), (cyB, .byte), (cyJ, .long), (cyZ, .boolean), (cyH, .object RX2), (cyN, .array .long)]) [0, 1, 2, 3, 4, 5] rfl
  have hDc := hD.sub (ws' := [((E 85), .inr (11, [.int 0, .ref (E 86), .ref (E 87), .ref (E 88), .ref (E 89), .ref (E 90), .int 0, .int 0, .int 0, .int 0, .int 0, .long 0, .int 0, .int 0, .int 0, .int (-1), .ref (E 91), .ref (E 92), .ref (E 93), .ref (E 94), .ref (E 95), .ref (E 96), .ref (E 97), .ref (E 98), .ref (E 99), .ref (E 100), .int 0, .ref (E 101), .ref (E 102), .ref (E 103), .ref (E 104), .int 0, .ref (E 105), .ref (E 106), .ref (E 107), .int 0, .int 0, .int 0, .int 0, .int 0, .int 0, .ref (E 108), .ref (E 109), .long 0])), ((E 91), .inl (cyI, 5, .inl (fun _ => 0))), ((E 92), .inl (cyI, 20, .inl (fun _ => 0)))]) [85, 91, 92] (by decide) rfl
  have hFc := va_free (wc := [((E 85), .inr (11, [.int 0, .ref (E 86), .ref (E 87), .ref (E 88), .ref (E 89), .ref (E 90), .int 0, .int 0, .int 0, .int 0, .int 0, .long 0, .int 0, .int 0, .int 0, .int (-1), .ref (E 91), .ref (E 92), .ref (E 93), .ref (E 94), .ref (E 95), .ref (E 96), .ref (E 97), .ref (E 98), .ref (E 99), .ref (E 100), .int 0, .ref (E 101), .ref (E 102), .ref (E 103), .ref (E 104), .int 0, .ref (E 105), .ref (E 106), .ref (E 107), .int 0, .int 0, .int 0, .int 0, .int 0, .int 0, .ref (E 108), .ref (E 109), .long 0])), ((E 91), .inl (cyI, 5, .inl (fun _ => 0))), ((E 92), .inl (cyI, 20, .inl (fun _ => 0)))]) hD hS hA [85, 91, 92] rfl
  refine va_calli (va_runV (As := [.int (xs 1)]) (rest := [.int (-2)]) ⟨hx, hb, hml, hown, hts⟩ (m_ask l dC dI cyI cyB cyJ cyZ cyH cyN H.size (E 85) (E 86) (E 87) (E 88) (E 89) (E 90) (E 91) (E 92) (E 93) (E 94) (E 95) (E 96) (E 97) (E 98) (E 99) (E 100) (E 101) (E 102) (E 103) (E 104) (E 105) (E 106) (E 107) (E 108) (E 109) (xs 1)) (cwV 1 hts (gdV wd_8_72 wd_8_73 wd_8_74 wd_1_11 wd_8_75) rfl rfl rfl (by decide +kernel) ⟨Nat.le_of_ble_eq_true rfl, Nat.le_of_ble_eq_true rfl⟩) ⟨fun a U g mk q => by obtain ⟨q0, q1, qP, qK, qD⟩ := q; exact ⟨q0, q1, qP, va_K.moved (u := U) (U := U.calling g mk a) (Vm.Alike.refl U.vm) qK, qD⟩, va_recv hKc hPc (ci := 11) (q0 := 0) rfl rfl, fun U hU hW => ⟨rfl, by rw [hU], by rw [hU]; exact hPc, va_K.moved hW.alike hKc, hDc.weaken (fun _ _ _ _ => trivial)⟩⟩ rfl rfl hl.1 rfl (lv_room (Nat.le_of_ble_eq_true rfl)) dL_law_1122 ⟨Nat.le_of_ble_eq_true rfl, Nat.le_of_ble_eq_true rfl⟩) hS (fun q _ h => hFc q h) hFc (fun r_2 u t H1 locs ht hvm hw hB hz1 hk1 hS => ?_)
  generalize H1 = H at hS ⊢
  subst hw
  refine lv_icmp_eq (tgt := 1931) hx hb dL_law_1125 (by decide) (fun _ => ?_) (fun c_3 => absurd c_3 (by decide))
  have hS9 : va_S (fun q : Nat => s.heap.size ≤ q) s.heap H locs := by rw [← hAe]; exact hS
  exact law_end C0 hS9 (lv_sub hl [3, 0] rfl) (Nat.le_of_ble_eq_true rfl) (Nat.le_of_ble_eq_true rfl)

set_option maxHeartbeats 4000000 in
set_option maxRecDepth 100000 in
theorem law_c36 {p : Program} {l : Launch} {e : Env} {s : State} {m : MethodId} {below : List Frame} {meth : Method} {c : Code} {b : Nat} {xs : Nat → Int32} (C0 : lw_At p s m meth c b 6 xs) (dC : Nat → ClassId) (dI : Nat → Nat → Nat) (cyI cyB cyJ cyZ cyH cyN : ClassId) (E : Nat → Nat) (iF nF : Nat → Option Nat) (wF : Nat → Int32) (g0 : nF 0 = some (E 57)) (g1 : nF 1 = some (E 58)) (g2 : nF 2 = some (E 59)) (g3 : nF 3 = some (E 60)) (g4 : iF 0 = some (E 24)) (g5 : iF 1 = some (E 34)) (g6 : iF 2 = some (E 44)) (g7 : ∀ j : Nat, j < 4 → wF j = -1) {H : Heap} {locs : List Loc} {ls : Array Slot} (hK : va_K (dC, dI) vwCl [(cyI, .int), (cyB, .byte), (cyJ, .long), (cyZ, .boolean), (cyH, .object RX2), (cyN, .array .long)] s) (hP : va_P (dC, dI) vwCl (wAll cyI cyB cyJ cyZ cyH cyN E iF nF wF) H) {A : Nat → Prop} (hAe : A = fun q => s.heap.size ≤ q) (hD : va_D A (wAll cyI cyB cyJ cyZ cyH cyN E iF nF wF)) (hS : va_S A s.heap H locs) (hl : lv_has ls 4 [(3, .int 0), (2, .ref (E 85)), (1, .ref (E 0)), (0, .ref b)]) : W p l e room_1 s m #[Value.ref b] below meth c H locs 110 15598 (lw_Z below #[Value.ref b] s) (F0 m 1130 ls []) := by
  obtain ⟨hx, hb, hr, hml, hown, hts0, hX, hbl, hlocks, hgv⟩ := id C0
  have hts : ∀ w ∈ uU, w.before #[Value.ref b] s = true := fun w h => hts0 w (uU_in h)
  have hbA : ¬ A b := by rw [hAe]; exact Nat.not_le.mpr hbl
  have hA : ∀ q : Nat, s.heap.size ≤ q → A q := fun q h => by rw [hAe]; exact h
  refine lv_aload_n hx hb dL_law_1130 rfl (lv_at hl 2 rfl) ?_
  refine lv_aload_n hx hb dL_law_1131 rfl (lv_at hl 3 rfl) ?_
  refine lv_iload_n hx hb dL_law_1132 rfl (lv_at hl 0 rfl) ?_
  refine lv_iconst (v := 1) hx hb dL_law_1133 (by decide) ?_
  refine lv_iadd hx hb dL_law_1134 ?_
  refine cv_topi (b := 1) (by decide) ?_
  refine va_sld hx hb hX hbl hbA hS (vp_in_iff.mpr (by decide)) dL_law_1135 ?_
  refine cv_topi (b := xs 1) rfl ?_
  have hPc := hP.sub (ws' := [((E 0), .inr (10, [.ref (E 1), .ref (E 3), .ref (E 13), .ref (E 23), .ref (E 54), .ref (E 55), .ref (E 64), .ref (E 69), .ref (E 71), .ref (E 75), .ref (E 78), .ref (E 80), .ref (E 83), .ref (E 84), .null])), ((E 3), .inr (2, [.int 0, .int 0, .int 0, .int 0, .int 0, .int 0, .ref (E 4), .ref (E 5), .ref (E 6), .ref (E 7), .ref (E 8), .ref (E 9), .ref (E 10), .ref (E 11), .ref (E 12)]))]) [0, 3] rfl
  have hKc := hK.sub (tys' := [(cyI, .int), (cyB, .byte), (cyJ, .long), (cyZ, .boolean), (cyH, .object RX2), (cyN, .array .long)]) [0, 1, 2, 3, 4, 5] rfl
  refine vp_callSi (va_Run.run (va_runV (As := [.int (xs 1)]) (rest := []) ⟨hx, hb, hml, hown, hts⟩ (c_leaves l dC dI cyI cyB cyJ cyZ cyH cyN (E 0) (E 1) (E 3) (E 13) (E 23) (E 54) (E 55) (E 64) (E 69) (E 71) (E 75) (E 78) (E 80) (E 83) (E 84) (E 4) (E 5) (E 6) (E 7) (E 8) (E 9) (E 10) (E 11) (E 12) (xs 1)) (cwV 1 hts (gdV wd_4_219 wd_4_220 wd_4_221 wd_1_1 wd_4_222) rfl rfl rfl (by decide +kernel) ⟨Nat.le_of_ble_eq_true rfl, Nat.le_of_ble_eq_true rfl⟩) ⟨fun a U g mk q => by obtain ⟨q0, qP, qK⟩ := q; exact ⟨q0, qP, va_K.moved (u := U) (U := U.calling g mk a) (Vm.Alike.refl U.vm) qK⟩, va_recv hKc hPc (ci := 10) (q0 := 0) rfl rfl, fun U hU hW => ⟨rfl, by rw [hU]; exact hPc, va_K.moved hW.alike hKc⟩⟩ rfl rfl hl.1 rfl (lv_room (Nat.le_of_ble_eq_true rfl)) dL_law_1136 ⟨Nat.le_of_ble_eq_true rfl, Nat.le_of_ble_eq_true rfl⟩)) (fun r_1 hw => ?_)
  subst hw
  refine lv_aload_n hx hb dL_law_1139 rfl (lv_at hl 1 rfl) ?_
  refine lv_aload_n hx hb dL_law_1140 rfl (lv_at hl 3 rfl) ?_
  refine lv_iload_n hx hb dL_law_1141 rfl (lv_at hl 0 rfl) ?_
  refine lv_iconst (v := 1) hx hb dL_law_1142 (by decide) ?_
  refine lv_iadd hx hb dL_law_1143 ?_
  refine cv_topi (b := 1) (by decide) ?_
  refine va_sld hx hb hX hbl hbA hS (vp_in_iff.mpr (by decide)) dL_law_1144 ?_
  refine cv_topi (b := xs 1) rfl ?_
  have hPc := hP.sub (ws' := [((E 85), .inr (11, [.int 0, .ref (E 86), .ref (E 87), .ref (E 88), .ref (E 89), .ref (E 90), .int 0, .int 0, .int 0, .int 0, .int 0, .long 0, .int 0, .int 0, .int 0, .int (-1), .ref (E 91), .ref (E 92), .ref (E 93), .ref (E 94), .ref (E 95), .ref (E 96), .ref (E 97), .ref (E 98), .ref (E 99), .ref (E 100), .int 0, .ref (E 101), .ref (E 102), .ref (E 103), .ref (E 104), .int 0, .ref (E 105), .ref (E 106), .ref (E 107), .int 0, .int 0, .int 0, .int 0, .int 0, .int 0, .ref (E 108), .ref (E 109), .long 0])), ((E 91), .inl (cyI, 5, .inl (fun _ => 0))), ((E 92), .inl (cyI, 20, .inl (fun _ => 0)))]) [85, 91, 92] rfl
  have hKc := hK.sub (tys' := [(cyI, .int), (cyB, .byte), (cyJ, .long), (cyZ, .boolean), (cyH, .object RX2), (cyN, .array .long)]) [0, 1, 2, 3, 4, 5] rfl
  have hDc := hD.sub (ws' := [((E 85), .inr (11, [.int 0, .ref (E 86), .ref (E 87), .ref (E 88), .ref (E 89), .ref (E 90), .int 0, .int 0, .int 0, .int 0, .int 0, .long 0, .int 0, .int 0, .int 0, .int (-1), .ref (E 91), .ref (E 92), .ref (E 93), .ref (E 94), .ref (E 95), .ref (E 96), .ref (E 97), .ref (E 98), .ref (E 99), .ref (E 100), .int 0, .ref (E 101), .ref (E 102), .ref (E 103), .ref (E 104), .int 0, .ref (E 105), .ref (E 106), .ref (E 107), .int 0, .int 0, .int 0, .int 0, .int 0, .int 0, .ref (E 108), .ref (E 109), .long 0])), ((E 91), .inl (cyI, 5, .inl (fun _ => 0))), ((E 92), .inl (cyI, 20, .inl (fun _ => 0)))]) [85, 91, 92] (by decide) rfl
  have hFc := va_free (wc := [((E 85), .inr (11, [.int 0, .ref (E 86), .ref (E 87), .ref (E 88), .ref (E 89), .ref (E 90), .int 0, .int 0, .int 0, .int 0, .int 0, .long 0, .int 0, .int 0, .int 0, .int (-1), .ref (E 91), .ref (E 92), .ref (E 93), .ref (E 94), .ref (E 95), .ref (E 96), .ref (E 97), .ref (E 98), .ref (E 99), .ref (E 100), .int 0, .ref (E 101), .ref (E 102), .ref (E 103), .ref (E 104), .int 0, .ref (E 105), .ref (E 106), .ref (E 107), .int 0, .int 0, .int 0, .int 0, .int 0, .int 0, .ref (E 108), .ref (E 109), .long 0])), ((E 91), .inl (cyI, 5, .inl (fun _ => 0))), ((E 92), .inl (cyI, 20, .inl (fun _ => 0)))]) hD hS hA [85, 91, 92] rfl
  refine va_calli (va_runV (As := [.int (xs 1)]) (rest := [.int (-2)]) ⟨hx, hb, hml, hown, hts⟩ (m_leaves l dC dI cyI cyB cyJ cyZ cyH cyN H.size (E 85) (E 86) (E 87) (E 88) (E 89) (E 90) (E 91) (E 92) (E 93) (E 94) (E 95) (E 96) (E 97) (E 98) (E 99) (E 100) (E 101) (E 102) (E 103) (E 104) (E 105) (E 106) (E 107) (E 108) (E 109) (xs 1)) (cwV 1 hts (gdV wd_8_80 wd_8_81 wd_8_82 wd_1_11 wd_8_83) rfl rfl rfl (by decide +kernel) ⟨Nat.le_of_ble_eq_true rfl, Nat.le_of_ble_eq_true rfl⟩) ⟨fun a U g mk q => by obtain ⟨q0, q1, qP, qK, qD⟩ := q; exact ⟨q0, q1, qP, va_K.moved (u := U) (U := U.calling g mk a) (Vm.Alike.refl U.vm) qK, qD⟩, va_recv hKc hPc (ci := 11) (q0 := 0) rfl rfl, fun U hU hW => ⟨rfl, by rw [hU], by rw [hU]; exact hPc, va_K.moved hW.alike hKc, hDc.weaken (fun _ _ _ _ => trivial)⟩⟩ rfl rfl hl.1 rfl (lv_room (Nat.le_of_ble_eq_true rfl)) dL_law_1145 ⟨Nat.le_of_ble_eq_true rfl, Nat.le_of_ble_eq_true rfl⟩) hS (fun q _ h => hFc q h) hFc (fun r_2 u t H1 locs ht hvm hw hB hz1 hk1 hS => ?_)
  generalize H1 = H at hS ⊢
  subst hw
  refine lv_icmp_eq (tgt := 1931) hx hb dL_law_1148 (by decide) (fun _ => ?_) (fun c_3 => absurd c_3 (by decide))
  have hS9 : va_S (fun q : Nat => s.heap.size ≤ q) s.heap H locs := by rw [← hAe]; exact hS
  exact law_end C0 hS9 (lv_sub hl [3, 0] rfl) (Nat.le_of_ble_eq_true rfl) (Nat.le_of_ble_eq_true rfl)

set_option maxHeartbeats 4000000 in
set_option maxRecDepth 100000 in
theorem law_c37 {p : Program} {l : Launch} {e : Env} {s : State} {m : MethodId} {below : List Frame} {meth : Method} {c : Code} {b : Nat} {xs : Nat → Int32} (C0 : lw_At p s m meth c b 6 xs) (dC : Nat → ClassId) (dI : Nat → Nat → Nat) (cyI cyB cyJ cyZ cyH cyN : ClassId) (E : Nat → Nat) (iF nF : Nat → Option Nat) (wF : Nat → Int32) (g0 : nF 0 = some (E 57)) (g1 : nF 1 = some (E 58)) (g2 : nF 2 = some (E 59)) (g3 : nF 3 = some (E 60)) (g4 : iF 0 = some (E 24)) (g5 : iF 1 = some (E 34)) (g6 : iF 2 = some (E 44)) (g7 : ∀ j : Nat, j < 4 → wF j = -1) {H : Heap} {locs : List Loc} {ls : Array Slot} (hK : va_K (dC, dI) vwCl [(cyI, .int), (cyB, .byte), (cyJ, .long), (cyZ, .boolean), (cyH, .object RX2), (cyN, .array .long)] s) (hP : va_P (dC, dI) vwCl (wAll cyI cyB cyJ cyZ cyH cyN E iF nF wF) H) {A : Nat → Prop} (hAe : A = fun q => s.heap.size ≤ q) (hD : va_D A (wAll cyI cyB cyJ cyZ cyH cyN E iF nF wF)) (hS : va_S A s.heap H locs) (hl : lv_has ls 4 [(3, .int 0), (2, .ref (E 85)), (1, .ref (E 0)), (0, .ref b)]) : W p l e room_1 s m #[Value.ref b] below meth c H locs 110 15598 (lw_Z below #[Value.ref b] s) (F0 m 1153 ls []) := by
  obtain ⟨hx, hb, hr, hml, hown, hts0, hX, hbl, hlocks, hgv⟩ := id C0
  have hts : ∀ w ∈ uU, w.before #[Value.ref b] s = true := fun w h => hts0 w (uU_in h)
  have hbA : ¬ A b := by rw [hAe]; exact Nat.not_le.mpr hbl
  have hA : ∀ q : Nat, s.heap.size ≤ q → A q := fun q h => by rw [hAe]; exact h
  refine lv_aload_n hx hb dL_law_1153 rfl (lv_at hl 2 rfl) ?_
  refine lv_aload_n hx hb dL_law_1154 rfl (lv_at hl 3 rfl) ?_
  refine lv_iload_n hx hb dL_law_1155 rfl (lv_at hl 0 rfl) ?_
  refine lv_iconst (v := 1) hx hb dL_law_1156 (by decide) ?_
  refine lv_iadd hx hb dL_law_1157 ?_
  refine cv_topi (b := 1) (by decide) ?_
  refine va_sld hx hb hX hbl hbA hS (vp_in_iff.mpr (by decide)) dL_law_1158 ?_
  refine cv_topi (b := xs 1) rfl ?_
  have hPc := hP.sub (ws' := [((E 0), .inr (10, [.ref (E 1), .ref (E 3), .ref (E 13), .ref (E 23), .ref (E 54), .ref (E 55), .ref (E 64), .ref (E 69), .ref (E 71), .ref (E 75), .ref (E 78), .ref (E 80), .ref (E 83), .ref (E 84), .null])), ((E 3), .inr (2, [.int 0, .int 0, .int 0, .int 0, .int 0, .int 0, .ref (E 4), .ref (E 5), .ref (E 6), .ref (E 7), .ref (E 8), .ref (E 9), .ref (E 10), .ref (E 11), .ref (E 12)]))]) [0, 3] rfl
  have hKc := hK.sub (tys' := [(cyI, .int), (cyB, .byte), (cyJ, .long), (cyZ, .boolean), (cyH, .object RX2), (cyN, .array .long)]) [0, 1, 2, 3, 4, 5] rfl
  refine vp_callSi (va_Run.run (va_runV (As := [.int (xs 1)]) (rest := []) ⟨hx, hb, hml, hown, hts⟩ (c_changed l dC dI cyI cyB cyJ cyZ cyH cyN (E 0) (E 1) (E 3) (E 13) (E 23) (E 54) (E 55) (E 64) (E 69) (E 71) (E 75) (E 78) (E 80) (E 83) (E 84) (E 4) (E 5) (E 6) (E 7) (E 8) (E 9) (E 10) (E 11) (E 12) (xs 1)) (cwV 1 hts (gdV wd_4_228 wd_4_229 wd_4_230 wd_1_1 wd_4_231) rfl rfl rfl (by decide +kernel) ⟨Nat.le_of_ble_eq_true rfl, Nat.le_of_ble_eq_true rfl⟩) ⟨fun a U g mk q => by obtain ⟨q0, qP, qK⟩ := q; exact ⟨q0, qP, va_K.moved (u := U) (U := U.calling g mk a) (Vm.Alike.refl U.vm) qK⟩, va_recv hKc hPc (ci := 10) (q0 := 0) rfl rfl, fun U hU hW => ⟨rfl, by rw [hU]; exact hPc, va_K.moved hW.alike hKc⟩⟩ rfl rfl hl.1 rfl (lv_room (Nat.le_of_ble_eq_true rfl)) dL_law_1159 ⟨Nat.le_of_ble_eq_true rfl, Nat.le_of_ble_eq_true rfl⟩)) (fun r_1 hw => ?_)
  subst hw
  refine lv_aload_n hx hb dL_law_1162 rfl (lv_at hl 1 rfl) ?_
  refine lv_aload_n hx hb dL_law_1163 rfl (lv_at hl 3 rfl) ?_
  refine lv_iload_n hx hb dL_law_1164 rfl (lv_at hl 0 rfl) ?_
  refine lv_iconst (v := 1) hx hb dL_law_1165 (by decide) ?_
  refine lv_iadd hx hb dL_law_1166 ?_
  refine cv_topi (b := 1) (by decide) ?_
  refine va_sld hx hb hX hbl hbA hS (vp_in_iff.mpr (by decide)) dL_law_1167 ?_
  refine cv_topi (b := xs 1) rfl ?_
  have hPc := hP.sub (ws' := [((E 85), .inr (11, [.int 0, .ref (E 86), .ref (E 87), .ref (E 88), .ref (E 89), .ref (E 90), .int 0, .int 0, .int 0, .int 0, .int 0, .long 0, .int 0, .int 0, .int 0, .int (-1), .ref (E 91), .ref (E 92), .ref (E 93), .ref (E 94), .ref (E 95), .ref (E 96), .ref (E 97), .ref (E 98), .ref (E 99), .ref (E 100), .int 0, .ref (E 101), .ref (E 102), .ref (E 103), .ref (E 104), .int 0, .ref (E 105), .ref (E 106), .ref (E 107), .int 0, .int 0, .int 0, .int 0, .int 0, .int 0, .ref (E 108), .ref (E 109), .long 0])), ((E 91), .inl (cyI, 5, .inl (fun _ => 0))), ((E 92), .inl (cyI, 20, .inl (fun _ => 0)))]) [85, 91, 92] rfl
  have hKc := hK.sub (tys' := [(cyI, .int), (cyB, .byte), (cyJ, .long), (cyZ, .boolean), (cyH, .object RX2), (cyN, .array .long)]) [0, 1, 2, 3, 4, 5] rfl
  have hDc := hD.sub (ws' := [((E 85), .inr (11, [.int 0, .ref (E 86), .ref (E 87), .ref (E 88), .ref (E 89), .ref (E 90), .int 0, .int 0, .int 0, .int 0, .int 0, .long 0, .int 0, .int 0, .int 0, .int (-1), .ref (E 91), .ref (E 92), .ref (E 93), .ref (E 94), .ref (E 95), .ref (E 96), .ref (E 97), .ref (E 98), .ref (E 99), .ref (E 100), .int 0, .ref (E 101), .ref (E 102), .ref (E 103), .ref (E 104), .int 0, .ref (E 105), .ref (E 106), .ref (E 107), .int 0, .int 0, .int 0, .int 0, .int 0, .int 0, .ref (E 108), .ref (E 109), .long 0])), ((E 91), .inl (cyI, 5, .inl (fun _ => 0))), ((E 92), .inl (cyI, 20, .inl (fun _ => 0)))]) [85, 91, 92] (by decide) rfl
  have hFc := va_free (wc := [((E 85), .inr (11, [.int 0, .ref (E 86), .ref (E 87), .ref (E 88), .ref (E 89), .ref (E 90), .int 0, .int 0, .int 0, .int 0, .int 0, .long 0, .int 0, .int 0, .int 0, .int (-1), .ref (E 91), .ref (E 92), .ref (E 93), .ref (E 94), .ref (E 95), .ref (E 96), .ref (E 97), .ref (E 98), .ref (E 99), .ref (E 100), .int 0, .ref (E 101), .ref (E 102), .ref (E 103), .ref (E 104), .int 0, .ref (E 105), .ref (E 106), .ref (E 107), .int 0, .int 0, .int 0, .int 0, .int 0, .int 0, .ref (E 108), .ref (E 109), .long 0])), ((E 91), .inl (cyI, 5, .inl (fun _ => 0))), ((E 92), .inl (cyI, 20, .inl (fun _ => 0)))]) hD hS hA [85, 91, 92] rfl
  refine va_calli (va_runV (As := [.int (xs 1)]) (rest := [.int (-2)]) ⟨hx, hb, hml, hown, hts⟩ (m_changed l dC dI cyI cyB cyJ cyZ cyH cyN H.size (E 85) (E 86) (E 87) (E 88) (E 89) (E 90) (E 91) (E 92) (E 93) (E 94) (E 95) (E 96) (E 97) (E 98) (E 99) (E 100) (E 101) (E 102) (E 103) (E 104) (E 105) (E 106) (E 107) (E 108) (E 109) (xs 1)) (cwV 1 hts (gdV wd_8_84 wd_8_85 wd_8_86 wd_1_11 wd_8_87) rfl rfl rfl (by decide +kernel) ⟨Nat.le_of_ble_eq_true rfl, Nat.le_of_ble_eq_true rfl⟩) ⟨fun a U g mk q => by obtain ⟨q0, q1, qP, qK, qD⟩ := q; exact ⟨q0, q1, qP, va_K.moved (u := U) (U := U.calling g mk a) (Vm.Alike.refl U.vm) qK, qD⟩, va_recv hKc hPc (ci := 11) (q0 := 0) rfl rfl, fun U hU hW => ⟨rfl, by rw [hU], by rw [hU]; exact hPc, va_K.moved hW.alike hKc, hDc.weaken (fun _ _ _ _ => trivial)⟩⟩ rfl rfl hl.1 rfl (lv_room (Nat.le_of_ble_eq_true rfl)) dL_law_1168 ⟨Nat.le_of_ble_eq_true rfl, Nat.le_of_ble_eq_true rfl⟩) hS (fun q _ h => hFc q h) hFc (fun r_2 u t H1 locs ht hvm hw hB hz1 hk1 hS => ?_)
  generalize H1 = H at hS ⊢
  subst hw
  refine lv_icmp_eq (tgt := 1931) hx hb dL_law_1171 (by decide) (fun _ => ?_) (fun c_3 => absurd c_3 (by decide))
  have hS9 : va_S (fun q : Nat => s.heap.size ≤ q) s.heap H locs := by rw [← hAe]; exact hS
  exact law_end C0 hS9 (lv_sub hl [3, 0] rfl) (Nat.le_of_ble_eq_true rfl) (Nat.le_of_ble_eq_true rfl)

set_option maxHeartbeats 4000000 in
set_option maxRecDepth 100000 in
theorem law_c38 {p : Program} {l : Launch} {e : Env} {s : State} {m : MethodId} {below : List Frame} {meth : Method} {c : Code} {b : Nat} {xs : Nat → Int32} (C0 : lw_At p s m meth c b 6 xs) (dC : Nat → ClassId) (dI : Nat → Nat → Nat) (cyI cyB cyJ cyZ cyH cyN : ClassId) (E : Nat → Nat) (iF nF : Nat → Option Nat) (wF : Nat → Int32) (g0 : nF 0 = some (E 57)) (g1 : nF 1 = some (E 58)) (g2 : nF 2 = some (E 59)) (g3 : nF 3 = some (E 60)) (g4 : iF 0 = some (E 24)) (g5 : iF 1 = some (E 34)) (g6 : iF 2 = some (E 44)) (g7 : ∀ j : Nat, j < 4 → wF j = -1) {H : Heap} {locs : List Loc} {ls : Array Slot} (hK : va_K (dC, dI) vwCl [(cyI, .int), (cyB, .byte), (cyJ, .long), (cyZ, .boolean), (cyH, .object RX2), (cyN, .array .long)] s) (hP : va_P (dC, dI) vwCl (wAll cyI cyB cyJ cyZ cyH cyN E iF nF wF) H) {A : Nat → Prop} (hAe : A = fun q => s.heap.size ≤ q) (hD : va_D A (wAll cyI cyB cyJ cyZ cyH cyN E iF nF wF)) (hS : va_S A s.heap H locs) (hl : lv_has ls 4 [(3, .int 0), (2, .ref (E 85)), (1, .ref (E 0)), (0, .ref b)]) : W p l e room_1 s m #[Value.ref b] below meth c H locs 110 15598 (lw_Z below #[Value.ref b] s) (F0 m 1176 ls []) := by
  obtain ⟨hx, hb, hr, hml, hown, hts0, hX, hbl, hlocks, hgv⟩ := id C0
  have hts : ∀ w ∈ uU, w.before #[Value.ref b] s = true := fun w h => hts0 w (uU_in h)
  have hbA : ¬ A b := by rw [hAe]; exact Nat.not_le.mpr hbl
  have hA : ∀ q : Nat, s.heap.size ≤ q → A q := fun q h => by rw [hAe]; exact h
  refine lv_aload_n hx hb dL_law_1176 rfl (lv_at hl 2 rfl) ?_
  refine lv_aload_n hx hb dL_law_1177 rfl (lv_at hl 3 rfl) ?_
  refine lv_iload_n hx hb dL_law_1178 rfl (lv_at hl 0 rfl) ?_
  refine lv_iconst (v := 1) hx hb dL_law_1179 (by decide) ?_
  refine lv_iadd hx hb dL_law_1180 ?_
  refine cv_topi (b := 1) (by decide) ?_
  refine va_sld hx hb hX hbl hbA hS (vp_in_iff.mpr (by decide)) dL_law_1181 ?_
  refine cv_topi (b := xs 1) rfl ?_
  have hPc := hP.sub (ws' := [((E 0), .inr (10, [.ref (E 1), .ref (E 3), .ref (E 13), .ref (E 23), .ref (E 54), .ref (E 55), .ref (E 64), .ref (E 69), .ref (E 71), .ref (E 75), .ref (E 78), .ref (E 80), .ref (E 83), .ref (E 84), .null])), ((E 3), .inr (2, [.int 0, .int 0, .int 0, .int 0, .int 0, .int 0, .ref (E 4), .ref (E 5), .ref (E 6), .ref (E 7), .ref (E 8), .ref (E 9), .ref (E 10), .ref (E 11), .ref (E 12)]))]) [0, 3] rfl
  have hKc := hK.sub (tys' := [(cyI, .int), (cyB, .byte), (cyJ, .long), (cyZ, .boolean), (cyH, .object RX2), (cyN, .array .long)]) [0, 1, 2, 3, 4, 5] rfl
  refine vp_callSi (va_Run.run (va_runV (As := [.int (xs 1)]) (rest := []) ⟨hx, hb, hml, hown, hts⟩ (c_same l dC dI cyI cyB cyJ cyZ cyH cyN (E 0) (E 1) (E 3) (E 13) (E 23) (E 54) (E 55) (E 64) (E 69) (E 71) (E 75) (E 78) (E 80) (E 83) (E 84) (E 4) (E 5) (E 6) (E 7) (E 8) (E 9) (E 10) (E 11) (E 12) (xs 1)) (cwV 1 hts (gdV wd_4_232 wd_4_233 wd_4_234 wd_1_1 wd_4_235) rfl rfl rfl (by decide +kernel) ⟨Nat.le_of_ble_eq_true rfl, Nat.le_of_ble_eq_true rfl⟩) ⟨fun a U g mk q => by obtain ⟨q0, qP, qK⟩ := q; exact ⟨q0, qP, va_K.moved (u := U) (U := U.calling g mk a) (Vm.Alike.refl U.vm) qK⟩, va_recv hKc hPc (ci := 10) (q0 := 0) rfl rfl, fun U hU hW => ⟨rfl, by rw [hU]; exact hPc, va_K.moved hW.alike hKc⟩⟩ rfl rfl hl.1 rfl (lv_room (Nat.le_of_ble_eq_true rfl)) dL_law_1182 ⟨Nat.le_of_ble_eq_true rfl, Nat.le_of_ble_eq_true rfl⟩)) (fun r_1 hw => ?_)
  subst hw
  refine lv_aload_n hx hb dL_law_1185 rfl (lv_at hl 1 rfl) ?_
  refine lv_aload_n hx hb dL_law_1186 rfl (lv_at hl 3 rfl) ?_
  refine lv_iload_n hx hb dL_law_1187 rfl (lv_at hl 0 rfl) ?_
  refine lv_iconst (v := 1) hx hb dL_law_1188 (by decide) ?_
  refine lv_iadd hx hb dL_law_1189 ?_
  refine cv_topi (b := 1) (by decide) ?_
  refine va_sld hx hb hX hbl hbA hS (vp_in_iff.mpr (by decide)) dL_law_1190 ?_
  refine cv_topi (b := xs 1) rfl ?_
  have hPc := hP.sub (ws' := [((E 85), .inr (11, [.int 0, .ref (E 86), .ref (E 87), .ref (E 88), .ref (E 89), .ref (E 90), .int 0, .int 0, .int 0, .int 0, .int 0, .long 0, .int 0, .int 0, .int 0, .int (-1), .ref (E 91), .ref (E 92), .ref (E 93), .ref (E 94), .ref (E 95), .ref (E 96), .ref (E 97), .ref (E 98), .ref (E 99), .ref (E 100), .int 0, .ref (E 101), .ref (E 102), .ref (E 103), .ref (E 104), .int 0, .ref (E 105), .ref (E 106), .ref (E 107), .int 0, .int 0, .int 0, .int 0, .int 0, .int 0, .ref (E 108), .ref (E 109), .long 0])), ((E 91), .inl (cyI, 5, .inl (fun _ => 0))), ((E 92), .inl (cyI, 20, .inl (fun _ => 0)))]) [85, 91, 92] rfl
  have hKc := hK.sub (tys' := [(cyI, .int), (cyB, .byte), (cyJ, .long), (cyZ, .boolean), (cyH, .object RX2), (cyN, .array .long)]) [0, 1, 2, 3, 4, 5] rfl
  have hDc := hD.sub (ws' := [((E 85), .inr (11, [.int 0, .ref (E 86), .ref (E 87), .ref (E 88), .ref (E 89), .ref (E 90), .int 0, .int 0, .int 0, .int 0, .int 0, .long 0, .int 0, .int 0, .int 0, .int (-1), .ref (E 91), .ref (E 92), .ref (E 93), .ref (E 94), .ref (E 95), .ref (E 96), .ref (E 97), .ref (E 98), .ref (E 99), .ref (E 100), .int 0, .ref (E 101), .ref (E 102), .ref (E 103), .ref (E 104), .int 0, .ref (E 105), .ref (E 106), .ref (E 107), .int 0, .int 0, .int 0, .int 0, .int 0, .int 0, .ref (E 108), .ref (E 109), .long 0])), ((E 91), .inl (cyI, 5, .inl (fun _ => 0))), ((E 92), .inl (cyI, 20, .inl (fun _ => 0)))]) [85, 91, 92] (by decide) rfl
  have hFc := va_free (wc := [((E 85), .inr (11, [.int 0, .ref (E 86), .ref (E 87), .ref (E 88), .ref (E 89), .ref (E 90), .int 0, .int 0, .int 0, .int 0, .int 0, .long 0, .int 0, .int 0, .int 0, .int (-1), .ref (E 91), .ref (E 92), .ref (E 93), .ref (E 94), .ref (E 95), .ref (E 96), .ref (E 97), .ref (E 98), .ref (E 99), .ref (E 100), .int 0, .ref (E 101), .ref (E 102), .ref (E 103), .ref (E 104), .int 0, .ref (E 105), .ref (E 106), .ref (E 107), .int 0, .int 0, .int 0, .int 0, .int 0, .int 0, .ref (E 108), .ref (E 109), .long 0])), ((E 91), .inl (cyI, 5, .inl (fun _ => 0))), ((E 92), .inl (cyI, 20, .inl (fun _ => 0)))]) hD hS hA [85, 91, 92] rfl
  refine va_calli (va_runV (As := [.int (xs 1)]) (rest := [.int (-2)]) ⟨hx, hb, hml, hown, hts⟩ (m_same l dC dI cyI cyB cyJ cyZ cyH cyN H.size (E 85) (E 86) (E 87) (E 88) (E 89) (E 90) (E 91) (E 92) (E 93) (E 94) (E 95) (E 96) (E 97) (E 98) (E 99) (E 100) (E 101) (E 102) (E 103) (E 104) (E 105) (E 106) (E 107) (E 108) (E 109) (xs 1)) (cwV 1 hts (gdV wd_8_92 wd_8_93 wd_8_94 wd_1_11 wd_8_95) rfl rfl rfl (by decide +kernel) ⟨Nat.le_of_ble_eq_true rfl, Nat.le_of_ble_eq_true rfl⟩) ⟨fun a U g mk q => by obtain ⟨q0, q1, qP, qK, qD⟩ := q; exact ⟨q0, q1, qP, va_K.moved (u := U) (U := U.calling g mk a) (Vm.Alike.refl U.vm) qK, qD⟩, va_recv hKc hPc (ci := 11) (q0 := 0) rfl rfl, fun U hU hW => ⟨rfl, by rw [hU], by rw [hU]; exact hPc, va_K.moved hW.alike hKc, hDc.weaken (fun _ _ _ _ => trivial)⟩⟩ rfl rfl hl.1 rfl (lv_room (Nat.le_of_ble_eq_true rfl)) dL_law_1191 ⟨Nat.le_of_ble_eq_true rfl, Nat.le_of_ble_eq_true rfl⟩) hS (fun q _ h => hFc q h) hFc (fun r_2 u t H1 locs ht hvm hw hB hz1 hk1 hS => ?_)
  generalize H1 = H at hS ⊢
  subst hw
  refine lv_icmp_eq (tgt := 1931) hx hb dL_law_1194 (by decide) (fun _ => ?_) (fun c_3 => absurd c_3 (by decide))
  have hS9 : va_S (fun q : Nat => s.heap.size ≤ q) s.heap H locs := by rw [← hAe]; exact hS
  exact law_end C0 hS9 (lv_sub hl [3, 0] rfl) (Nat.le_of_ble_eq_true rfl) (Nat.le_of_ble_eq_true rfl)

set_option maxHeartbeats 4000000 in
set_option maxRecDepth 100000 in
theorem law_c39 {p : Program} {l : Launch} {e : Env} {s : State} {m : MethodId} {below : List Frame} {meth : Method} {c : Code} {b : Nat} {xs : Nat → Int32} (C0 : lw_At p s m meth c b 6 xs) (dC : Nat → ClassId) (dI : Nat → Nat → Nat) (cyI cyB cyJ cyZ cyH cyN : ClassId) (E : Nat → Nat) (iF nF : Nat → Option Nat) (wF : Nat → Int32) (g0 : nF 0 = some (E 57)) (g1 : nF 1 = some (E 58)) (g2 : nF 2 = some (E 59)) (g3 : nF 3 = some (E 60)) (g4 : iF 0 = some (E 24)) (g5 : iF 1 = some (E 34)) (g6 : iF 2 = some (E 44)) (g7 : ∀ j : Nat, j < 4 → wF j = -1) {H : Heap} {locs : List Loc} {ls : Array Slot} (hK : va_K (dC, dI) vwCl [(cyI, .int), (cyB, .byte), (cyJ, .long), (cyZ, .boolean), (cyH, .object RX2), (cyN, .array .long)] s) (hP : va_P (dC, dI) vwCl (wAll cyI cyB cyJ cyZ cyH cyN E iF nF wF) H) {A : Nat → Prop} (hAe : A = fun q => s.heap.size ≤ q) (hD : va_D A (wAll cyI cyB cyJ cyZ cyH cyN E iF nF wF)) (hS : va_S A s.heap H locs) (hl : lv_has ls 4 [(3, .int 0), (2, .ref (E 85)), (1, .ref (E 0)), (0, .ref b)]) : W p l e room_1 s m #[Value.ref b] below meth c H locs 110 15598 (lw_Z below #[Value.ref b] s) (F0 m 1199 ls []) := by
  obtain ⟨hx, hb, hr, hml, hown, hts0, hX, hbl, hlocks, hgv⟩ := id C0
  have hts : ∀ w ∈ uU, w.before #[Value.ref b] s = true := fun w h => hts0 w (uU_in h)
  have hbA : ¬ A b := by rw [hAe]; exact Nat.not_le.mpr hbl
  have hA : ∀ q : Nat, s.heap.size ≤ q → A q := fun q h => by rw [hAe]; exact h
  refine lv_aload_n hx hb dL_law_1199 rfl (lv_at hl 2 rfl) ?_
  refine lv_aload_n hx hb dL_law_1200 rfl (lv_at hl 3 rfl) ?_
  refine lv_iload_n hx hb dL_law_1201 rfl (lv_at hl 0 rfl) ?_
  refine lv_iconst (v := 1) hx hb dL_law_1202 (by decide) ?_
  refine lv_iadd hx hb dL_law_1203 ?_
  refine cv_topi (b := 1) (by decide) ?_
  refine va_sld hx hb hX hbl hbA hS (vp_in_iff.mpr (by decide)) dL_law_1204 ?_
  refine cv_topi (b := xs 1) rfl ?_
  have hPc := hP.sub (ws' := [((E 0), .inr (10, [.ref (E 1), .ref (E 3), .ref (E 13), .ref (E 23), .ref (E 54), .ref (E 55), .ref (E 64), .ref (E 69), .ref (E 71), .ref (E 75), .ref (E 78), .ref (E 80), .ref (E 83), .ref (E 84), .null])), ((E 3), .inr (2, [.int 0, .int 0, .int 0, .int 0, .int 0, .int 0, .ref (E 4), .ref (E 5), .ref (E 6), .ref (E 7), .ref (E 8), .ref (E 9), .ref (E 10), .ref (E 11), .ref (E 12)]))]) [0, 3] rfl
  have hKc := hK.sub (tys' := [(cyI, .int), (cyB, .byte), (cyJ, .long), (cyZ, .boolean), (cyH, .object RX2), (cyN, .array .long)]) [0, 1, 2, 3, 4, 5] rfl
  refine vp_callSi (va_Run.run (va_runV (As := [.int (xs 1)]) (rest := []) ⟨hx, hb, hml, hown, hts⟩ (c_skipped l dC dI cyI cyB cyJ cyZ cyH cyN (E 0) (E 1) (E 3) (E 13) (E 23) (E 54) (E 55) (E 64) (E 69) (E 71) (E 75) (E 78) (E 80) (E 83) (E 84) (E 4) (E 5) (E 6) (E 7) (E 8) (E 9) (E 10) (E 11) (E 12) (xs 1)) (cwV 1 hts (gdV wd_4_236 wd_4_237 wd_4_238 wd_1_1 wd_4_239) rfl rfl rfl (by decide +kernel) ⟨Nat.le_of_ble_eq_true rfl, Nat.le_of_ble_eq_true rfl⟩) ⟨fun a U g mk q => by obtain ⟨q0, qP, qK⟩ := q; exact ⟨q0, qP, va_K.moved (u := U) (U := U.calling g mk a) (Vm.Alike.refl U.vm) qK⟩, va_recv hKc hPc (ci := 10) (q0 := 0) rfl rfl, fun U hU hW => ⟨rfl, by rw [hU]; exact hPc, va_K.moved hW.alike hKc⟩⟩ rfl rfl hl.1 rfl (lv_room (Nat.le_of_ble_eq_true rfl)) dL_law_1205 ⟨Nat.le_of_ble_eq_true rfl, Nat.le_of_ble_eq_true rfl⟩)) (fun r_1 hw => ?_)
  subst hw
  refine lv_aload_n hx hb dL_law_1208 rfl (lv_at hl 1 rfl) ?_
  refine lv_aload_n hx hb dL_law_1209 rfl (lv_at hl 3 rfl) ?_
  refine lv_iload_n hx hb dL_law_1210 rfl (lv_at hl 0 rfl) ?_
  refine lv_iconst (v := 1) hx hb dL_law_1211 (by decide) ?_
  refine lv_iadd hx hb dL_law_1212 ?_
  refine cv_topi (b := 1) (by decide) ?_
  refine va_sld hx hb hX hbl hbA hS (vp_in_iff.mpr (by decide)) dL_law_1213 ?_
  refine cv_topi (b := xs 1) rfl ?_
  have hPc := hP.sub (ws' := [((E 85), .inr (11, [.int 0, .ref (E 86), .ref (E 87), .ref (E 88), .ref (E 89), .ref (E 90), .int 0, .int 0, .int 0, .int 0, .int 0, .long 0, .int 0, .int 0, .int 0, .int (-1), .ref (E 91), .ref (E 92), .ref (E 93), .ref (E 94), .ref (E 95), .ref (E 96), .ref (E 97), .ref (E 98), .ref (E 99), .ref (E 100), .int 0, .ref (E 101), .ref (E 102), .ref (E 103), .ref (E 104), .int 0, .ref (E 105), .ref (E 106), .ref (E 107), .int 0, .int 0, .int 0, .int 0, .int 0, .int 0, .ref (E 108), .ref (E 109), .long 0])), ((E 91), .inl (cyI, 5, .inl (fun _ => 0))), ((E 92), .inl (cyI, 20, .inl (fun _ => 0)))]) [85, 91, 92] rfl
  have hKc := hK.sub (tys' := [(cyI, .int), (cyB, .byte), (cyJ, .long), (cyZ, .boolean), (cyH, .object RX2), (cyN, .array .long)]) [0, 1, 2, 3, 4, 5] rfl
  have hDc := hD.sub (ws' := [((E 85), .inr (11, [.int 0, .ref (E 86), .ref (E 87), .ref (E 88), .ref (E 89), .ref (E 90), .int 0, .int 0, .int 0, .int 0, .int 0, .long 0, .int 0, .int 0, .int 0, .int (-1), .ref (E 91), .ref (E 92), .ref (E 93), .ref (E 94), .ref (E 95), .ref (E 96), .ref (E 97), .ref (E 98), .ref (E 99), .ref (E 100), .int 0, .ref (E 101), .ref (E 102), .ref (E 103), .ref (E 104), .int 0, .ref (E 105), .ref (E 106), .ref (E 107), .int 0, .int 0, .int 0, .int 0, .int 0, .int 0, .ref (E 108), .ref (E 109), .long 0])), ((E 91), .inl (cyI, 5, .inl (fun _ => 0))), ((E 92), .inl (cyI, 20, .inl (fun _ => 0)))]) [85, 91, 92] (by decide) rfl
  have hFc := va_free (wc := [((E 85), .inr (11, [.int 0, .ref (E 86), .ref (E 87), .ref (E 88), .ref (E 89), .ref (E 90), .int 0, .int 0, .int 0, .int 0, .int 0, .long 0, .int 0, .int 0, .int 0, .int (-1), .ref (E 91), .ref (E 92), .ref (E 93), .ref (E 94), .ref (E 95), .ref (E 96), .ref (E 97), .ref (E 98), .ref (E 99), .ref (E 100), .int 0, .ref (E 101), .ref (E 102), .ref (E 103), .ref (E 104), .int 0, .ref (E 105), .ref (E 106), .ref (E 107), .int 0, .int 0, .int 0, .int 0, .int 0, .int 0, .ref (E 108), .ref (E 109), .long 0])), ((E 91), .inl (cyI, 5, .inl (fun _ => 0))), ((E 92), .inl (cyI, 20, .inl (fun _ => 0)))]) hD hS hA [85, 91, 92] rfl
  refine va_calli (va_runV (As := [.int (xs 1)]) (rest := [.int (-2)]) ⟨hx, hb, hml, hown, hts⟩ (m_skipped l dC dI cyI cyB cyJ cyZ cyH cyN H.size (E 85) (E 86) (E 87) (E 88) (E 89) (E 90) (E 91) (E 92) (E 93) (E 94) (E 95) (E 96) (E 97) (E 98) (E 99) (E 100) (E 101) (E 102) (E 103) (E 104) (E 105) (E 106) (E 107) (E 108) (E 109) (xs 1)) (cwV 1 hts (gdV wd_8_96 wd_8_97 wd_8_98 wd_1_11 wd_8_99) rfl rfl rfl (by decide +kernel) ⟨Nat.le_of_ble_eq_true rfl, Nat.le_of_ble_eq_true rfl⟩) ⟨fun a U g mk q => by obtain ⟨q0, q1, qP, qK, qD⟩ := q; exact ⟨q0, q1, qP, va_K.moved (u := U) (U := U.calling g mk a) (Vm.Alike.refl U.vm) qK, qD⟩, va_recv hKc hPc (ci := 11) (q0 := 0) rfl rfl, fun U hU hW => ⟨rfl, by rw [hU], by rw [hU]; exact hPc, va_K.moved hW.alike hKc, hDc.weaken (fun _ _ _ _ => trivial)⟩⟩ rfl rfl hl.1 rfl (lv_room (Nat.le_of_ble_eq_true rfl)) dL_law_1214 ⟨Nat.le_of_ble_eq_true rfl, Nat.le_of_ble_eq_true rfl⟩) hS (fun q _ h => hFc q h) hFc (fun r_2 u t H1 locs ht hvm hw hB hz1 hk1 hS => ?_)
  generalize H1 = H at hS ⊢
  subst hw
  refine lv_icmp_eq (tgt := 1931) hx hb dL_law_1217 (by decide) (fun _ => ?_) (fun c_3 => absurd c_3 (by decide))
  have hS9 : va_S (fun q : Nat => s.heap.size ≤ q) s.heap H locs := by rw [← hAe]; exact hS
  exact law_end C0 hS9 (lv_sub hl [3, 0] rfl) (Nat.le_of_ble_eq_true rfl) (Nat.le_of_ble_eq_true rfl)

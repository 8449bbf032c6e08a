set_option maxHeartbeats 4000000 in
set_option maxRecDepth 100000 in
theorem law_c48 {p : Program} {l : Launch} {e : Env} {s : State} {m : MethodId} {below : List Frame} {meth : Method} {c : Code} {b : Nat} {xs : Nat → Int32} (C0 : lw_At p s m meth c b 6 xs) (dC : Nat → ClassId) (dI : Nat → Nat → Nat) (cyI cyB cyJ cyZ cyH cyN : ClassId) (E : Nat → Nat) (iF nF : Nat → Option Nat) (wF : Nat → Int32) (g0 : nF 0 = some (E 57)) (g1 : nF 1 = some (E 58)) (g2 : nF 2 = some (E 59)) (g3 : nF 3 = some (E 60)) (g4 : iF 0 = some (E 24)) (g5 : iF 1 = some (E 34)) (g6 : iF 2 = some (E 44)) (g7 : ∀ j : Nat, j < 4 → wF j = -1) {H : Heap} {locs : List Loc} {ls : Array Slot} (hK : va_K (dC, dI) vwCl [(cyI, .int), (cyB, .byte), (cyJ, .long), (cyZ, .boolean), (cyH, .object RX2), (cyN, .array .long)] s) (hP : va_P (dC, dI) vwCl (wAll cyI cyB cyJ cyZ cyH cyN E iF nF wF) H) {A : Nat → Prop} (hAe : A = fun q => s.heap.size ≤ q) (hD : va_D A (wAll cyI cyB cyJ cyZ cyH cyN E iF nF wF)) (hS : va_S A s.heap H locs) (hl : lv_has ls 4 [(3, .int 0), (2, .ref (E 85)), (1, .ref (E 0)), (0, .ref b)]) : W p l e room_1 s m #[Value.ref b] below meth c H locs 110 15598 (lw_Z below #[Value.ref b] s) (F0 m 1346 ls []) := by
  obtain ⟨hx, hb, hr, hml, hown, hts0, hX, hbl, hlocks, hgv⟩ := id C0
  have hts : ∀ w ∈ uU, w.before #[Value.ref b] s = true := fun w h => hts0 w (uU_in h)
  have hbA : ¬ A b := by rw [hAe]; exact Nat.not_le.mpr hbl
  have hA : ∀ q : Nat, s.heap.size ≤ q → A q := fun q h => by rw [hAe]; exact h
  refine lv_aload_n hx hb dL_law_1346 rfl (lv_at hl 2 rfl) ?_
  refine lv_aload_n hx hb dL_law_1347 rfl (lv_at hl 3 rfl) ?_
  refine lv_iload_n hx hb dL_law_1348 rfl (lv_at hl 0 rfl) ?_
  refine lv_iconst (v := 1) hx hb dL_law_1349 (by decide) ?_
  refine lv_iadd hx hb dL_law_1350 ?_
  refine cv_topi (b := 1) (by decide) ?_
  refine va_sld hx hb hX hbl hbA hS (vp_in_iff.mpr (by decide)) dL_law_1351 ?_
  refine cv_topi (b := xs 1) rfl ?_
  have hPc := hP.sub (ws' := [((E 0), .inr (10, [.ref (E 1), .ref (E 3), .ref (E 13), .ref (E 23), .ref (E 54), .ref (E 55), .ref (E 64), .ref (E 69), .ref (E 71), .ref (E 75), .ref (E 78), .ref (E 80), .ref (E 83), .ref (E 84), .null])), ((E 3), .inr (2, [.int 0, .int 0, .int 0, .int 0, .int 0, .int 0, .ref (E 4), .ref (E 5), .ref (E 6), .ref (E 7), .ref (E 8), .ref (E 9), .ref (E 10), .ref (E 11), .ref (E 12)]))]) [0, 3] rfl
  have hKc := hK.sub (tys' := [(cyI, .int), (cyB, .byte), (cyJ, .long), (cyZ, .boolean), (cyH, .object RX2), (cyN, .array .long)]) [0, 1, 2, 3, 4, 5] rfl
  refine vp_callSi (va_Run.run (va_runV (As := [.int (xs 1)]) (rest := []) ⟨hx, hb, hml, hown, hts⟩ (c_wins l dC dI cyI cyB cyJ cyZ cyH cyN (E 0) (E 1) (E 3) (E 13) (E 23) (E 54) (E 55) (E 64) (E 69) (E 71) (E 75) (E 78) (E 80) (E 83) (E 84) (E 4) (E 5) (E 6) (E 7) (E 8) (E 9) (E 10) (E 11) (E 12) (xs 1)) (cwV 1 hts (gdV wd_5_99 wd_5_100 wd_5_101 wd_1_1 wd_5_102) rfl rfl rfl (by decide +kernel) ⟨Nat.le_of_ble_eq_true rfl, Nat.le_of_ble_eq_true rfl⟩) ⟨fun a U g mk q => by obtain ⟨q0, qP, qK⟩ := q; exact ⟨q0, qP, va_K.moved (u := U) (U := U.calling g mk a) (Vm.Alike.refl U.vm) qK⟩, va_recv hKc hPc (ci := 10) (q0 := 0) rfl rfl, fun U hU hW => ⟨rfl, by rw [hU]; exact hPc, va_K.moved hW.alike hKc⟩⟩ rfl rfl hl.1 rfl (lv_room (Nat.le_of_ble_eq_true rfl)) dL_law_1352 ⟨Nat.le_of_ble_eq_true rfl, Nat.le_of_ble_eq_true rfl⟩)) (fun r_1 hw => ?_)
  subst hw
  refine lv_aload_n hx hb dL_law_1355 rfl (lv_at hl 1 rfl) ?_
  refine lv_aload_n hx hb dL_law_1356 rfl (lv_at hl 3 rfl) ?_
  refine lv_iload_n hx hb dL_law_1357 rfl (lv_at hl 0 rfl) ?_
  refine lv_iconst (v := 1) hx hb dL_law_1358 (by decide) ?_
  refine lv_iadd hx hb dL_law_1359 ?_
  refine cv_topi (b := 1) (by decide) ?_
  refine va_sld hx hb hX hbl hbA hS (vp_in_iff.mpr (by decide)) dL_law_1360 ?_
  refine cv_topi (b := xs 1) rfl ?_
  have hPc := hP.sub (ws' := [((E 85), .inr (11, [.int 0, .ref (E 86), .ref (E 87), .ref (E 88), .ref (E 89), .ref (E 90), .int 0, .int 0, .int 0, .int 0, .int 0, .long 0, .int 0, .int 0, .int 0, .int (-1), .ref (E 91), .ref (E 92), .ref (E 93), .ref (E 94), .ref (E 95), .ref (E 96), .ref (E 97), .ref (E 98), .ref (E 99), .ref (E 100), .int 0, .ref (E 101), .ref (E 102), .ref (E 103), .ref (E 104), .int 0, .ref (E 105), .ref (E 106), .ref (E 107), .int 0, .int 0, .int 0, .int 0, .int 0, .int 0, .ref (E 108), .ref (E 109), .long 0])), ((E 91), .inl (cyI, 5, .inl (fun _ => 0))), ((E 92), .inl (cyI, 20, .inl (fun _ => 0)))]) [85, 91, 92] rfl
  have hKc := hK.sub (tys' := [(cyI, .int), (cyB, .byte), (cyJ, .long), (cyZ, .boolean), (cyH, .object RX2), (cyN, .array .long)]) [0, 1, 2, 3, 4, 5] rfl
  have hDc := hD.sub (ws' := [((E 85), .inr (11, [.int 0, .ref (E 86), .ref (E 87), .ref (E 88), .ref (E 89), .ref (E 90), .int 0, .int 0, .int 0, .int 0, .int 0, .long 0, .int 0, .int 0, .int 0, .int (-1), .ref (E 91), .ref (E 92), .ref (E 93), .ref (E 94), .ref (E 95), .ref (E 96), .ref (E 97), .ref (E 98), .ref (E 99), .ref (E 100), .int 0, .ref (E 101), .ref (E 102), .ref (E 103), .ref (E 104), .int 0, .ref (E 105), .ref (E 106), .ref (E 107), .int 0, .int 0, .int 0, .int 0, .int 0, .int 0, .ref (E 108), .ref (E 109), .long 0])), ((E 91), .inl (cyI, 5, .inl (fun _ => 0))), ((E 92), .inl (cyI, 20, .inl (fun _ => 0)))]) [85, 91, 92] (by decide) rfl
  have hFc := va_free (wc := [((E 85), .inr (11, [.int 0, .ref (E 86), .ref (E 87), .ref (E 88), .ref (E 89), .ref (E 90), .int 0, .int 0, .int 0, .int 0, .int 0, .long 0, .int 0, .int 0, .int 0, .int (-1), .ref (E 91), .ref (E 92), .ref (E 93), .ref (E 94), .ref (E 95), .ref (E 96), .ref (E 97), .ref (E 98), .ref (E 99), .ref (E 100), .int 0, .ref (E 101), .ref (E 102), .ref (E 103), .ref (E 104), .int 0, .ref (E 105), .ref (E 106), .ref (E 107), .int 0, .int 0, .int 0, .int 0, .int 0, .int 0, .ref (E 108), .ref (E 109), .long 0])), ((E 91), .inl (cyI, 5, .inl (fun _ => 0))), ((E 92), .inl (cyI, 20, .inl (fun _ => 0)))]) hD hS hA [85, 91, 92] rfl
  refine va_calli (va_runV (As := [.int (xs 1)]) (rest := [.int (-2)]) ⟨hx, hb, hml, hown, hts⟩ (m_wins l dC dI cyI cyB cyJ cyZ cyH cyN H.size (E 85) (E 86) (E 87) (E 88) (E 89) (E 90) (E 91) (E 92) (E 93) (E 94) (E 95) (E 96) (E 97) (E 98) (E 99) (E 100) (E 101) (E 102) (E 103) (E 104) (E 105) (E 106) (E 107) (E 108) (E 109) (xs 1)) (cwV 1 hts (gdV wd_8_144 wd_8_145 wd_8_146 wd_1_11 wd_8_147) rfl rfl rfl (by decide +kernel) ⟨Nat.le_of_ble_eq_true rfl, Nat.le_of_ble_eq_true rfl⟩) ⟨fun a U g mk q => by obtain ⟨q0, q1, qP, qK, qD⟩ := q; exact ⟨q0, q1, qP, va_K.moved (u := U) (U := U.calling g mk a) (Vm.Alike.refl U.vm) qK, qD⟩, va_recv hKc hPc (ci := 11) (q0 := 0) rfl rfl, fun U hU hW => ⟨rfl, by rw [hU], by rw [hU]; exact hPc, va_K.moved hW.alike hKc, hDc.weaken (fun _ _ _ _ => trivial)⟩⟩ rfl rfl hl.1 rfl (lv_room (Nat.le_of_ble_eq_true rfl)) dL_law_1361 ⟨Nat.le_of_ble_eq_true rfl, Nat.le_of_ble_eq_true rfl⟩) hS (fun q _ h => hFc q h) hFc (fun r_2 u t H1 locs ht hvm hw hB hz1 hk1 hS => ?_)
  generalize H1 = H at hS ⊢
  subst hw
  refine lv_icmp_eq (tgt := 1931) hx hb dL_law_1364 (by decide) (fun _ => ?_) (fun c_3 => absurd c_3 (by decide))
  have hS9 : va_S (fun q : Nat => s.heap.size ≤ q) s.heap H locs := by rw [← hAe]; exact hS
  exact law_end C0 hS9 (lv_sub hl [3, 0] rfl) (Nat.le_of_ble_eq_true rfl) (Nat.le_of_ble_eq_true rfl)

set_option maxHeartbeats 4000000 in
set_option maxRecDepth 100000 in
theorem law_c49 {p : Program} {l : Launch} {e : Env} {s : State} {m : MethodId} {below : List Frame} {meth : Method} {c : Code} {b : Nat} {xs : Nat → Int32} (C0 : lw_At p s m meth c b 6 xs) (dC : Nat → ClassId) (dI : Nat → Nat → Nat) (cyI cyB cyJ cyZ cyH cyN : ClassId) (E : Nat → Nat) (iF nF : Nat → Option Nat) (wF : Nat → Int32) (g0 : nF 0 = some (E 57)) (g1 : nF 1 = some (E 58)) (g2 : nF 2 = some (E 59)) (g3 : nF 3 = some (E 60)) (g4 : iF 0 = some (E 24)) (g5 : iF 1 = some (E 34)) (g6 : iF 2 = some (E 44)) (g7 : ∀ j : Nat, j < 4 → wF j = -1) {H : Heap} {locs : List Loc} {ls : Array Slot} (hK : va_K (dC, dI) vwCl [(cyI, .int), (cyB, .byte), (cyJ, .long), (cyZ, .boolean), (cyH, .object RX2), (cyN, .array .long)] s) (hP : va_P (dC, dI) vwCl (wAll cyI cyB cyJ cyZ cyH cyN E iF nF wF) H) {A : Nat → Prop} (hAe : A = fun q => s.heap.size ≤ q) (hD : va_D A (wAll cyI cyB cyJ cyZ cyH cyN E iF nF wF)) (hS : va_S A s.heap H locs) (hl : lv_has ls 4 [(3, .int 0), (2, .ref (E 85)), (1, .ref (E 0)), (0, .ref b)]) : W p l e room_1 s m #[Value.ref b] below meth c H locs 110 15598 (lw_Z below #[Value.ref b] s) (F0 m 1369 ls []) := by
  obtain ⟨hx, hb, hr, hml, hown, hts0, hX, hbl, hlocks, hgv⟩ := id C0
  have hts : ∀ w ∈ uU, w.before #[Value.ref b] s = true := fun w h => hts0 w (uU_in h)
  have hbA : ¬ A b := by rw [hAe]; exact Nat.not_le.mpr hbl
  have hA : ∀ q : Nat, s.heap.size ≤ q → A q := fun q h => by rw [hAe]; exact h
  refine lv_aload_n hx hb dL_law_1369 rfl (lv_at hl 2 rfl) ?_
  refine lv_aload_n hx hb dL_law_1370 rfl (lv_at hl 3 rfl) ?_
  refine lv_iload_n hx hb dL_law_1371 rfl (lv_at hl 0 rfl) ?_
  refine lv_iconst (v := 1) hx hb dL_law_1372 (by decide) ?_
  refine lv_iadd hx hb dL_law_1373 ?_
  refine cv_topi (b := 1) (by decide) ?_
  refine va_sld hx hb hX hbl hbA hS (vp_in_iff.mpr (by decide)) dL_law_1374 ?_
  refine cv_topi (b := xs 1) rfl ?_
  have hPc := hP.sub (ws' := [((E 0), .inr (10, [.ref (E 1), .ref (E 3), .ref (E 13), .ref (E 23), .ref (E 54), .ref (E 55), .ref (E 64), .ref (E 69), .ref (E 71), .ref (E 75), .ref (E 78), .ref (E 80), .ref (E 83), .ref (E 84), .null])), ((E 3), .inr (2, [.int 0, .int 0, .int 0, .int 0, .int 0, .int 0, .ref (E 4), .ref (E 5), .ref (E 6), .ref (E 7), .ref (E 8), .ref (E 9), .ref (E 10), .ref (E 11), .ref (E 12)]))]) [0, 3] rfl
  have hKc := hK.sub (tys' := [(cyI, .int), (cyB, .byte), (cyJ, .long), (cyZ, .boolean), (cyH, .object RX2), (cyN, .array .long)]) [0, 1, 2, 3, 4, 5] rfl
  refine vp_callSi (va_Run.run (va_runV (As := [.int (xs 1)]) (rest := []) ⟨hx, hb, hml, hown, hts⟩ (c_takes l dC dI cyI cyB cyJ cyZ cyH cyN (E 0) (E 1) (E 3) (E 13) (E 23) (E 54) (E 55) (E 64) (E 69) (E 71) (E 75) (E 78) (E 80) (E 83) (E 84) (E 4) (E 5) (E 6) (E 7) (E 8) (E 9) (E 10) (E 11) (E 12) (xs 1)) (cwV 1 hts (gdV wd_5_121 wd_5_122 wd_5_123 wd_1_1 wd_5_124) rfl rfl rfl (by decide +kernel) ⟨Nat.le_of_ble_eq_true rfl, Nat.le_of_ble_eq_true rfl⟩) ⟨fun a U g mk q => by obtain ⟨q0, qP, qK⟩ := q; exact ⟨q0, qP, va_K.moved (u := U) (U := U.calling g mk a) (Vm.Alike.refl U.vm) qK⟩, va_recv hKc hPc (ci := 10) (q0 := 0) rfl rfl, fun U hU hW => ⟨rfl, by rw [hU]; exact hPc, va_K.moved hW.alike hKc⟩⟩ rfl rfl hl.1 rfl (lv_room (Nat.le_of_ble_eq_true rfl)) dL_law_1375 ⟨Nat.le_of_ble_eq_true rfl, Nat.le_of_ble_eq_true rfl⟩)) (fun r_1 hw => ?_)
  subst hw
  refine lv_aload_n hx hb dL_law_1378 rfl (lv_at hl 1 rfl) ?_
  refine lv_aload_n hx hb dL_law_1379 rfl (lv_at hl 3 rfl) ?_
  refine lv_iload_n hx hb dL_law_1380 rfl (lv_at hl 0 rfl) ?_
  refine lv_iconst (v := 1) hx hb dL_law_1381 (by decide) ?_
  refine lv_iadd hx hb dL_law_1382 ?_
  refine cv_topi (b := 1) (by decide) ?_
  refine va_sld hx hb hX hbl hbA hS (vp_in_iff.mpr (by decide)) dL_law_1383 ?_
  refine cv_topi (b := xs 1) rfl ?_
  have hPc := hP.sub (ws' := [((E 85), .inr (11, [.int 0, .ref (E 86), .ref (E 87), .ref (E 88), .ref (E 89), .ref (E 90), .int 0, .int 0, .int 0, .int 0, .int 0, .long 0, .int 0, .int 0, .int 0, .int (-1), .ref (E 91), .ref (E 92), .ref (E 93), .ref (E 94), .ref (E 95), .ref (E 96), .ref (E 97), .ref (E 98), .ref (E 99), .ref (E 100), .int 0, .ref (E 101), .ref (E 102), .ref (E 103), .ref (E 104), .int 0, .ref (E 105), .ref (E 106), .ref (E 107), .int 0, .int 0, .int 0, .int 0, .int 0, .int 0, .ref (E 108), .ref (E 109), .long 0])), ((E 91), .inl (cyI, 5, .inl (fun _ => 0))), ((E 92), .inl (cyI, 20, .inl (fun _ => 0)))]) [85, 91, 92] rfl
  have hKc := hK.sub (tys' := [(cyI, .int), (cyB, .byte), (cyJ, .long), (cyZ, .boolean), (cyH, .object RX2), (cyN, .array .long)]) [0, 1, 2, 3, 4, 5] rfl
  have hDc := hD.sub (ws' := [((E 85), .inr (11, [.int 0, .ref (E 86), .ref (E 87), .ref (E 88), .ref (E 89), .ref (E 90), .int 0, .int 0, .int 0, .int 0, .int 0, .long 0, .int 0, .int 0, .int 0, .int (-1), .ref (E 91), .ref (E 92), .ref (E 93), .ref (E 94), .ref (E 95), .ref (E 96), .ref (E 97), .ref (E 98), .ref (E 99), .ref (E 100), .int 0, .ref (E 101), .ref (E 102), .ref (E 103), .ref (E 104), .int 0, .ref (E 105), .ref (E 106), .ref (E 107), .int 0, .int 0, .int 0, .int 0, .int 0, .int 0, .ref (E 108), .ref (E 109), .long 0])), ((E 91), .inl (cyI, 5, .inl (fun _ => 0))), ((E 92), .inl (cyI, 20, .inl (fun _ => 0)))]) [85, 91, 92] (by decide) rfl
  have hFc := va_free (wc := [((E 85), .inr (11, [.int 0, .ref (E 86), .ref (E 87), .ref (E 88), .ref (E 89), .ref (E 90), .int 0, .int 0, .int 0, .int 0, .int 0, .long 0, .int 0, .int 0, .int 0, .int (-1), .ref (E 91), .ref (E 92), .ref (E 93), .ref (E 94), .ref (E 95), .ref (E 96), .ref (E 97), .ref (E 98), .ref (E 99), .ref (E 100), .int 0, .ref (E 101), .ref (E 102), .ref (E 103), .ref (E 104), .int 0, .ref (E 105), .ref (E 106), .ref (E 107), .int 0, .int 0, .int 0, .int 0, .int 0, .int 0, .ref (E 108), .ref (E 109), .long 0])), ((E 91), .inl (cyI, 5, .inl (fun _ => 0))), ((E 92), .inl (cyI, 20, .inl (fun _ => 0)))]) hD hS hA [85, 91, 92] rfl
  refine va_calli (va_runV (As := [.int (xs 1)]) (rest := [.int (-2)]) ⟨hx, hb, hml, hown, hts⟩ (m_takes l dC dI cyI cyB cyJ cyZ cyH cyN H.size (E 85) (E 86) (E 87) (E 88) (E 89) (E 90) (E 91) (E 92) (E 93) (E 94) (E 95) (E 96) (E 97) (E 98) (E 99) (E 100) (E 101) (E 102) (E 103) (E 104) (E 105) (E 106) (E 107) (E 108) (E 109) (xs 1)) (cwV 1 hts (gdV wd_8_152 wd_8_153 wd_8_154 wd_1_11 wd_8_155) rfl rfl rfl (by decide +kernel) ⟨Nat.le_of_ble_eq_true rfl, Nat.le_of_ble_eq_true rfl⟩) ⟨fun a U g mk q => by obtain ⟨q0, q1, qP, qK, qD⟩ := q; exact ⟨q0, q1, qP, va_K.moved (u := U) (U := U.calling g mk a) (Vm.Alike.refl U.vm) qK, qD⟩, va_recv hKc hPc (ci := 11) (q0 := 0) rfl rfl, fun U hU hW => ⟨rfl, by rw [hU], by rw [hU]; exact hPc, va_K.moved hW.alike hKc, hDc.weaken (fun _ _ _ _ => trivial)⟩⟩ rfl rfl hl.1 rfl (lv_room (Nat.le_of_ble_eq_true rfl)) dL_law_1384 ⟨Nat.le_of_ble_eq_true rfl, Nat.le_of_ble_eq_true rfl⟩) hS (fun q _ h => hFc q h) hFc (fun r_2 u t H1 locs ht hvm hw hB hz1 hk1 hS => ?_)
  generalize H1 = H at hS ⊢
  subst hw
  refine lv_icmp_eq (tgt := 1931) hx hb dL_law_1387 (by decide) (fun _ => ?_) (fun c_3 => absurd c_3 (by decide))
  have hS9 : va_S (fun q : Nat => s.heap.size ≤ q) s.heap H locs := by rw [← hAe]; exact hS
  exact law_end C0 hS9 (lv_sub hl [3, 0] rfl) (Nat.le_of_ble_eq_true rfl) (Nat.le_of_ble_eq_true rfl)

set_option maxHeartbeats 4000000 in
set_option maxRecDepth 100000 in
theorem law_c50 {p : Program} {l : Launch} {e : Env} {s : State} {m : MethodId} {below : List Frame} {meth : Method} {c : Code} {b : Nat} {xs : Nat → Int32} (C0 : lw_At p s m meth c b 6 xs) (dC : Nat → ClassId) (dI : Nat → Nat → Nat) (cyI cyB cyJ cyZ cyH cyN : ClassId) (E : Nat → Nat) (iF nF : Nat → Option Nat) (wF : Nat → Int32) (g0 : nF 0 = some (E 57)) (g1 : nF 1 = some (E 58)) (g2 : nF 2 = some (E 59)) (g3 : nF 3 = some (E 60)) (g4 : iF 0 = some (E 24)) (g5 : iF 1 = some (E 34)) (g6 : iF 2 = some (E 44)) (g7 : ∀ j : Nat, j < 4 → wF j = -1) {H : Heap} {locs : List Loc} {ls : Array Slot} (hK : va_K (dC, dI) vwCl [(cyI, .int), (cyB, .byte), (cyJ, .long), (cyZ, .boolean), (cyH, .object RX2), (cyN, .array .long)] s) (hP : va_P (dC, dI) vwCl (wAll cyI cyB cyJ cyZ cyH cyN E iF nF wF) H) {A : Nat → Prop} (hAe : A = fun q => s.heap.size ≤ q) (hD : va_D A (wAll cyI cyB cyJ cyZ cyH cyN E iF nF wF)) (hS : va_S A s.heap H locs) (hl : lv_has ls 4 [(3, .int 0), (2, .ref (E 85)), (1, .ref (E 0)), (0, .ref b)]) : W p l e room_1 s m #[Value.ref b] below meth c H locs 110 15598 (lw_Z below #[Value.ref b] s) (F0 m 1392 ls []) := by
  obtain ⟨hx, hb, hr, hml, hown, hts0, hX, hbl, hlocks, hgv⟩ := id C0
  have hts : ∀ w ∈ uU, w.before #[Value.ref b] s = true := fun w h => hts0 w (uU_in h)
  have hbA : ¬ A b := by rw [hAe]; exact Nat.not_le.mpr hbl
  have hA : ∀ q : Nat, s.heap.size ≤ q → A q := fun q h => by rw [hAe]; exact h
  refine lv_aload_n hx hb dL_law_1392 rfl (lv_at hl 2 rfl) ?_
  refine lv_aload_n hx hb dL_law_1393 rfl (lv_at hl 3 rfl) ?_
  refine lv_iload_n hx hb dL_law_1394 rfl (lv_at hl 0 rfl) ?_
  refine lv_iconst (v := 1) hx hb dL_law_1395 (by decide) ?_
  refine lv_iadd hx hb dL_law_1396 ?_
  refine cv_topi (b := 1) (by decide) ?_
  refine va_sld hx hb hX hbl hbA hS (vp_in_iff.mpr (by decide)) dL_law_1397 ?_
  refine cv_topi (b := xs 1) rfl ?_
  refine lv_aload_n hx hb dL_law_1398 rfl (lv_at hl 3 rfl) ?_
  refine lv_iload_n hx hb dL_law_1399 rfl (lv_at hl 0 rfl) ?_
  refine lv_iconst (v := 2) hx hb dL_law_1400 (by decide) ?_
  refine lv_iadd hx hb dL_law_1401 ?_
  refine cv_topi (b := 2) (by decide) ?_
  refine va_sld hx hb hX hbl hbA hS (vp_in_iff.mpr (by decide)) dL_law_1402 ?_
  refine cv_topi (b := xs 2) rfl ?_
  refine lv_aload_n hx hb dL_law_1403 rfl (lv_at hl 3 rfl) ?_
  refine lv_iload_n hx hb dL_law_1404 rfl (lv_at hl 0 rfl) ?_
  refine lv_iconst (v := 3) hx hb dL_law_1405 (by decide) ?_
  refine lv_iadd hx hb dL_law_1406 ?_
  refine cv_topi (b := 3) (by decide) ?_
  refine va_sld hx hb hX hbl hbA hS (vp_in_iff.mpr (by decide)) dL_law_1407 ?_
  refine cv_topi (b := xs 3) rfl ?_
  have hPc := hP.sub (ws' := [((E 0), .inr (10, [.ref (E 1), .ref (E 3), .ref (E 13), .ref (E 23), .ref (E 54), .ref (E 55), .ref (E 64), .ref (E 69), .ref (E 71), .ref (E 75), .ref (E 78), .ref (E 80), .ref (E 83), .ref (E 84), .null])), ((E 3), .inr (2, [.int 0, .int 0, .int 0, .int 0, .int 0, .int 0, .ref (E 4), .ref (E 5), .ref (E 6), .ref (E 7), .ref (E 8), .ref (E 9), .ref (E 10), .ref (E 11), .ref (E 12)]))]) [0, 3] rfl
  have hKc := hK.sub (tys' := [(cyI, .int), (cyB, .byte), (cyJ, .long), (cyZ, .boolean), (cyH, .object RX2), (cyN, .array .long)]) [0, 1, 2, 3, 4, 5] rfl
  refine vp_callSl (va_Run.run (va_runV (As := [.int (xs 1), .int (xs 2), .int (xs 3)]) (rest := []) ⟨hx, hb, hml, hown, hts⟩ (c_chance l dC dI cyI cyB cyJ cyZ cyH cyN (E 0) (E 1) (E 3) (E 13) (E 23) (E 54) (E 55) (E 64) (E 69) (E 71) (E 75) (E 78) (E 80) (E 83) (E 84) (E 4) (E 5) (E 6) (E 7) (E 8) (E 9) (E 10) (E 11) (E 12) (xs 1) (xs 2) (xs 3)) (cwV 3 hts (gdV wd_5_129 wd_5_130 wd_5_131 wd_1_1 wd_5_132) rfl rfl rfl (by decide +kernel) ⟨Nat.le_of_ble_eq_true rfl, Nat.le_of_ble_eq_true rfl⟩) ⟨fun a U g mk q => by obtain ⟨q0, qP, qK⟩ := q; exact ⟨q0, qP, va_K.moved (u := U) (U := U.calling g mk a) (Vm.Alike.refl U.vm) qK⟩, va_recv hKc hPc (ci := 10) (q0 := 0) rfl rfl, fun U hU hW => ⟨rfl, by rw [hU]; exact hPc, va_K.moved hW.alike hKc⟩⟩ rfl rfl hl.1 rfl (lv_room (Nat.le_of_ble_eq_true rfl)) dL_law_1408 ⟨Nat.le_of_ble_eq_true rfl, Nat.le_of_ble_eq_true rfl⟩)) (fun r_1 hw => ?_)
  subst hw
  refine lv_aload_n hx hb dL_law_1411 rfl (lv_at hl 1 rfl) ?_
  refine lv_aload_n hx hb dL_law_1412 rfl (lv_at hl 3 rfl) ?_
  refine lv_iload_n hx hb dL_law_1413 rfl (lv_at hl 0 rfl) ?_
  refine lv_iconst (v := 1) hx hb dL_law_1414 (by decide) ?_
  refine lv_iadd hx hb dL_law_1415 ?_
  refine cv_topi (b := 1) (by decide) ?_
  refine va_sld hx hb hX hbl hbA hS (vp_in_iff.mpr (by decide)) dL_law_1416 ?_
  refine cv_topi (b := xs 1) rfl ?_
  refine lv_aload_n hx hb dL_law_1417 rfl (lv_at hl 3 rfl) ?_
  refine lv_iload_n hx hb dL_law_1418 rfl (lv_at hl 0 rfl) ?_
  refine lv_iconst (v := 2) hx hb dL_law_1419 (by decide) ?_
  refine lv_iadd hx hb dL_law_1420 ?_
  refine cv_topi (b := 2) (by decide) ?_
  refine va_sld hx hb hX hbl hbA hS (vp_in_iff.mpr (by decide)) dL_law_1421 ?_
  refine cv_topi (b := xs 2) rfl ?_
  refine lv_aload_n hx hb dL_law_1422 rfl (lv_at hl 3 rfl) ?_
  refine lv_iload_n hx hb dL_law_1423 rfl (lv_at hl 0 rfl) ?_
  refine lv_iconst (v := 3) hx hb dL_law_1424 (by decide) ?_
  refine lv_iadd hx hb dL_law_1425 ?_
  refine cv_topi (b := 3) (by decide) ?_
  refine va_sld hx hb hX hbl hbA hS (vp_in_iff.mpr (by decide)) dL_law_1426 ?_
  refine cv_topi (b := xs 3) rfl ?_
  have hPc := hP.sub (ws' := [((E 85), .inr (11, [.int 0, .ref (E 86), .ref (E 87), .ref (E 88), .ref (E 89), .ref (E 90), .int 0, .int 0, .int 0, .int 0, .int 0, .long 0, .int 0, .int 0, .int 0, .int (-1), .ref (E 91), .ref (E 92), .ref (E 93), .ref (E 94), .ref (E 95), .ref (E 96), .ref (E 97), .ref (E 98), .ref (E 99), .ref (E 100), .int 0, .ref (E 101), .ref (E 102), .ref (E 103), .ref (E 104), .int 0, .ref (E 105), .ref (E 106), .ref (E 107), .int 0, .int 0, .int 0, .int 0, .int 0, .int 0, .ref (E 108), .ref (E 109), .long 0])), ((E 91), .inl (cyI, 5, .inl (fun _ => 0))), ((E 92), .inl (cyI, 20, .inl (fun _ => 0)))]) [85, 91, 92] rfl
  have hKc := hK.sub (tys' := [(cyI, .int), (cyB, .byte), (cyJ, .long), (cyZ, .boolean), (cyH, .object RX2), (cyN, .array .long)]) [0, 1, 2, 3, 4, 5] rfl
  have hDc := hD.sub (ws' := [((E 85), .inr (11, [.int 0, .ref (E 86), .ref (E 87), .ref (E 88), .ref (E 89), .ref (E 90), .int 0, .int 0, .int 0, .int 0, .int 0, .long 0, .int 0, .int 0, .int 0, .int (-1), .ref (E 91), .ref (E 92), .ref (E 93), .ref (E 94), .ref (E 95), .ref (E 96), .ref (E 97), .ref (E 98), .ref (E 99), .ref (E 100), .int 0, .ref (E 101), .ref (E 102), .ref (E 103), .ref (E 104), .int 0, .ref (E 105), .ref (E 106), .ref (E 107), .int 0, .int 0, .int 0, .int 0, .int 0, .int 0, .ref (E 108), .ref (E 109), .long 0])), ((E 91), .inl (cyI, 5, .inl (fun _ => 0))), ((E 92), .inl (cyI, 20, .inl (fun _ => 0)))]) [85, 91, 92] (by decide) rfl
  have hFc := va_free (wc := [((E 85), .inr (11, [.int 0, .ref (E 86), .ref (E 87), .ref (E 88), .ref (E 89), .ref (E 90), .int 0, .int 0, .int 0, .int 0, .int 0, .long 0, .int 0, .int 0, .int 0, .int (-1), .ref (E 91), .ref (E 92), .ref (E 93), .ref (E 94), .ref (E 95), .ref (E 96), .ref (E 97), .ref (E 98), .ref (E 99), .ref (E 100), .int 0, .ref (E 101), .ref (E 102), .ref (E 103), .ref (E 104), .int 0, .ref (E 105), .ref (E 106), .ref (E 107), .int 0, .int 0, .int 0, .int 0, .int 0, .int 0, .ref (E 108), .ref (E 109), .long 0])), ((E 91), .inl (cyI, 5, .inl (fun _ => 0))), ((E 92), .inl (cyI, 20, .inl (fun _ => 0)))]) hD hS hA [85, 91, 92] rfl
  refine va_calll (va_runV (As := [.int (xs 1), .int (xs 2), .int (xs 3)]) (rest := [.long (-2)]) ⟨hx, hb, hml, hown, hts⟩ (m_chance l dC dI cyI cyB cyJ cyZ cyH cyN H.size (E 85) (E 86) (E 87) (E 88) (E 89) (E 90) (E 91) (E 92) (E 93) (E 94) (E 95) (E 96) (E 97) (E 98) (E 99) (E 100) (E 101) (E 102) (E 103) (E 104) (E 105) (E 106) (E 107) (E 108) (E 109) (xs 1) (xs 2) (xs 3)) (cwV 3 hts (gdV wd_8_156 wd_8_157 wd_8_158 wd_1_11 wd_8_159) rfl rfl rfl (by decide +kernel) ⟨Nat.le_of_ble_eq_true rfl, Nat.le_of_ble_eq_true rfl⟩) ⟨fun a U g mk q => by obtain ⟨q0, q1, qP, qK, qD⟩ := q; exact ⟨q0, q1, qP, va_K.moved (u := U) (U := U.calling g mk a) (Vm.Alike.refl U.vm) qK, qD⟩, va_recv hKc hPc (ci := 11) (q0 := 0) rfl rfl, fun U hU hW => ⟨rfl, by rw [hU], by rw [hU]; exact hPc, va_K.moved hW.alike hKc, hDc.weaken (fun _ _ _ _ => trivial)⟩⟩ rfl rfl hl.1 rfl (lv_room (Nat.le_of_ble_eq_true rfl)) dL_law_1427 ⟨Nat.le_of_ble_eq_true rfl, Nat.le_of_ble_eq_true rfl⟩) hS (fun q _ h => hFc q h) hFc (fun r_2 u t H1 locs ht hvm hw hB hz1 hk1 hS => ?_)
  generalize H1 = H at hS ⊢
  subst hw
  refine W.lcmp hx hb dL_law_1430 ?_
  refine lv_if_eq (tgt := 1931) hx hb dL_law_1431 (by decide) (fun _ => ?_) (fun c_3 => absurd c_3 (by decide))
  have hS9 : va_S (fun q : Nat => s.heap.size ≤ q) s.heap H locs := by rw [← hAe]; exact hS
  exact law_end C0 hS9 (lv_sub hl [3, 0] rfl) (Nat.le_of_ble_eq_true rfl) (Nat.le_of_ble_eq_true rfl)

set_option maxHeartbeats 4000000 in
set_option maxRecDepth 100000 in
theorem law_c51 {p : Program} {l : Launch} {e : Env} {s : State} {m : MethodId} {below : List Frame} {meth : Method} {c : Code} {b : Nat} {xs : Nat → Int32} (C0 : lw_At p s m meth c b 6 xs) (dC : Nat → ClassId) (dI : Nat → Nat → Nat) (cyI cyB cyJ cyZ cyH cyN : ClassId) (E : Nat → Nat) (iF nF : Nat → Option Nat) (wF : Nat → Int32) (g0 : nF 0 = some (E 57)) (g1 : nF 1 = some (E 58)) (g2 : nF 2 = some (E 59)) (g3 : nF 3 = some (E 60)) (g4 : iF 0 = some (E 24)) (g5 : iF 1 = some (E 34)) (g6 : iF 2 = some (E 44)) (g7 : ∀ j : Nat, j < 4 → wF j = -1) {H : Heap} {locs : List Loc} {ls : Array Slot} (hK : va_K (dC, dI) vwCl [(cyI, .int), (cyB, .byte), (cyJ, .long), (cyZ, .boolean), (cyH, .object RX2), (cyN, .array .long)] s) (hP : va_P (dC, dI) vwCl (wAll cyI cyB cyJ cyZ cyH cyN E iF nF wF) H) {A : Nat → Prop} (hAe : A = fun q => s.heap.size ≤ q) (hD : va_D A (wAll cyI cyB cyJ cyZ cyH cyN E iF nF wF)) (hS : va_S A s.heap H locs) (hl : lv_has ls 4 [(3, .int 0), (2, .ref (E 85)), (1, .ref (E 0)), (0, .ref b)]) : W p l e room_1 s m #[Value.ref b] below meth c H locs 110 15598 (lw_Z below #[Value.ref b] s) (F0 m 1436 ls []) := by
  obtain ⟨hx, hb, hr, hml, hown, hts0, hX, hbl, hlocks, hgv⟩ := id C0
  have hts : ∀ w ∈ uU, w.before #[Value.ref b] s = true := fun w h => hts0 w (uU_in h)
  have hbA : ¬ A b := by rw [hAe]; exact Nat.not_le.mpr hbl
  have hA : ∀ q : Nat, s.heap.size ≤ q → A q := fun q h => by rw [hAe]; exact h
  refine lv_aload_n hx hb dL_law_1436 rfl (lv_at hl 2 rfl) ?_
  refine lv_aload_n hx hb dL_law_1437 rfl (lv_at hl 3 rfl) ?_
  refine lv_iload_n hx hb dL_law_1438 rfl (lv_at hl 0 rfl) ?_
  refine lv_iconst (v := 1) hx hb dL_law_1439 (by decide) ?_
  refine lv_iadd hx hb dL_law_1440 ?_
  refine cv_topi (b := 1) (by decide) ?_
  refine va_sld hx hb hX hbl hbA hS (vp_in_iff.mpr (by decide)) dL_law_1441 ?_
  refine cv_topi (b := xs 1) rfl ?_
  have hPc := hP.sub (ws' := [((E 0), .inr (10, [.ref (E 1), .ref (E 3), .ref (E 13), .ref (E 23), .ref (E 54), .ref (E 55), .ref (E 64), .ref (E 69), .ref (E 71), .ref (E 75), .ref (E 78), .ref (E 80), .ref (E 83), .ref (E 84), .null])), ((E 3), .inr (2, [.int 0, .int 0, .int 0, .int 0, .int 0, .int 0, .ref (E 4), .ref (E 5), .ref (E 6), .ref (E 7), .ref (E 8), .ref (E 9), .ref (E 10), .ref (E 11), .ref (E 12)]))]) [0, 3] rfl
  have hKc := hK.sub (tys' := [(cyI, .int), (cyB, .byte), (cyJ, .long), (cyZ, .boolean), (cyH, .object RX2), (cyN, .array .long)]) [0, 1, 2, 3, 4, 5] rfl
  refine vp_callSi (va_Run.run (va_runV (As := [.int (xs 1)]) (rest := []) ⟨hx, hb, hml, hown, hts⟩ (c_likely l dC dI cyI cyB cyJ cyZ cyH cyN (E 0) (E 1) (E 3) (E 13) (E 23) (E 54) (E 55) (E 64) (E 69) (E 71) (E 75) (E 78) (E 80) (E 83) (E 84) (E 4) (E 5) (E 6) (E 7) (E 8) (E 9) (E 10) (E 11) (E 12) (xs 1)) (cwV 1 hts (gdV wd_5_151 wd_5_152 wd_5_153 wd_1_1 wd_5_154) rfl rfl rfl (by decide +kernel) ⟨Nat.le_of_ble_eq_true rfl, Nat.le_of_ble_eq_true rfl⟩) ⟨fun a U g mk q => by obtain ⟨q0, qP, qK⟩ := q; exact ⟨q0, qP, va_K.moved (u := U) (U := U.calling g mk a) (Vm.Alike.refl U.vm) qK⟩, va_recv hKc hPc (ci := 10) (q0 := 0) rfl rfl, fun U hU hW => ⟨rfl, by rw [hU]; exact hPc, va_K.moved hW.alike hKc⟩⟩ rfl rfl hl.1 rfl (lv_room (Nat.le_of_ble_eq_true rfl)) dL_law_1442 ⟨Nat.le_of_ble_eq_true rfl, Nat.le_of_ble_eq_true rfl⟩)) (fun r_1 hw => ?_)
  subst hw
  refine lv_aload_n hx hb dL_law_1445 rfl (lv_at hl 1 rfl) ?_
  refine lv_aload_n hx hb dL_law_1446 rfl (lv_at hl 3 rfl) ?_
  refine lv_iload_n hx hb dL_law_1447 rfl (lv_at hl 0 rfl) ?_
  refine lv_iconst (v := 1) hx hb dL_law_1448 (by decide) ?_
  refine lv_iadd hx hb dL_law_1449 ?_
  refine cv_topi (b := 1) (by decide) ?_
  refine va_sld hx hb hX hbl hbA hS (vp_in_iff.mpr (by decide)) dL_law_1450 ?_
  refine cv_topi (b := xs 1) rfl ?_
  have hPc := hP.sub (ws' := [((E 85), .inr (11, [.int 0, .ref (E 86), .ref (E 87), .ref (E 88), .ref (E 89), .ref (E 90), .int 0, .int 0, .int 0, .int 0, .int 0, .long 0, .int 0, .int 0, .int 0, .int (-1), .ref (E 91), .ref (E 92), .ref (E 93), .ref (E 94), .ref (E 95), .ref (E 96), .ref (E 97), .ref (E 98), .ref (E 99), .ref (E 100), .int 0, .ref (E 101), .ref (E 102), .ref (E 103), .ref (E 104), .int 0, .ref (E 105), .ref (E 106), .ref (E 107), .int 0, .int 0, .int 0, .int 0, .int 0, .int 0, .ref (E 108), .ref (E 109), .long 0])), ((E 91), .inl (cyI, 5, .inl (fun _ => 0))), ((E 92), .inl (cyI, 20, .inl (fun _ => 0)))]) [85, 91, 92] rfl
  have hKc := hK.sub (tys' := [(cyI, .int), (cyB, .byte), (cyJ, .long), (cyZ, .boolean), (cyH, .object RX2), (cyN, .array .long)]) [0, 1, 2, 3, 4, 5] rfl
  have hDc := hD.sub (ws' := [((E 85), .inr (11, [.int 0, .ref (E 86), .ref (E 87), .ref (E 88), .ref (E 89), .ref (E 90), .int 0, .int 0, .int 0, .int 0, .int 0, .long 0, .int 0, .int 0, .int 0, .int (-1), .ref (E 91), .ref (E 92), .ref (E 93), .ref (E 94), .ref (E 95), .ref (E 96), .ref (E 97), .ref (E 98), .ref (E 99), .ref (E 100), .int 0, .ref (E 101), .ref (E 102), .ref (E 103), .ref (E 104), .int 0, .ref (E 105), .ref (E 106), .ref (E 107), .int 0, .int 0, .int 0, .int 0, .int 0, .int 0, .ref (E 108), .ref (E 109), .long 0])), ((E 91), .inl (cyI, 5, .inl (fun _ => 0))), ((E 92), .inl (cyI, 20, .inl (fun _ => 0)))]) [85, 91, 92] (by decide) rfl
  have hFc := va_free (wc := [((E 85), .inr (11, [.int 0, .ref (E 86), .ref (E 87), .ref (E 88), .ref (E 89), .ref (E 90), .int 0, .int 0, .int 0, .int 0, .int 0, .long 0, .int 0, .int 0, .int 0, .int (-1), .ref (E 91), .ref (E 92), .ref (E 93), .ref (E 94), .ref (E 95), .ref (E 96), .ref (E 97), .ref (E 98), .ref (E 99), .ref (E 100), .int 0, .ref (E 101), .ref (E 102), .ref (E 103), .ref (E 104), .int 0, .ref (E 105), .ref (E 106), .ref (E 107), .int 0, .int 0, .int 0, .int 0, .int 0, .int 0, .ref (E 108), .ref (E 109), .long 0])), ((E 91), .inl (cyI, 5, .inl (fun _ => 0))), ((E 92), .inl (cyI, 20, .inl (fun _ => 0)))]) hD hS hA [85, 91, 92] rfl
  refine va_calli (va_runV (As := [.int (xs 1)]) (rest := [.int (-2)]) ⟨hx, hb, hml, hown, hts⟩ (m_likely l dC dI cyI cyB cyJ cyZ cyH cyN H.size (E 85) (E 86) (E 87) (E 88) (E 89) (E 90) (E 91) (E 92) (E 93) (E 94) (E 95) (E 96) (E 97) (E 98) (E 99) (E 100) (E 101) (E 102) (E 103) (E 104) (E 105) (E 106) (E 107) (E 108) (E 109) (xs 1)) (cwV 1 hts (gdV wd_8_176 wd_8_177 wd_8_178 wd_1_11 wd_8_179) rfl rfl rfl (by decide +kernel) ⟨Nat.le_of_ble_eq_true rfl, Nat.le_of_ble_eq_true rfl⟩) ⟨fun a U g mk q => by obtain ⟨q0, q1, qP, qK, qD⟩ := q; exact ⟨q0, q1, qP, va_K.moved (u := U) (U := U.calling g mk a) (Vm.Alike.refl U.vm) qK, qD⟩, va_recv hKc hPc (ci := 11) (q0 := 0) rfl rfl, fun U hU hW => ⟨rfl, by rw [hU], by rw [hU]; exact hPc, va_K.moved hW.alike hKc, hDc.weaken (fun _ _ _ _ => trivial)⟩⟩ rfl rfl hl.1 rfl (lv_room (Nat.le_of_ble_eq_true rfl)) dL_law_1451 ⟨Nat.le_of_ble_eq_true rfl, Nat.le_of_ble_eq_true rfl⟩) hS (fun q _ h => hFc q h) hFc (fun r_2 u t H1 locs ht hvm hw hB hz1 hk1 hS => ?_)
  generalize H1 = H at hS ⊢
  subst hw
  refine lv_icmp_eq (tgt := 1931) hx hb dL_law_1454 (by decide) (fun _ => ?_) (fun c_3 => absurd c_3 (by decide))
  have hS9 : va_S (fun q : Nat => s.heap.size ≤ q) s.heap H locs := by rw [← hAe]; exact hS
  exact law_end C0 hS9 (lv_sub hl [3, 0] rfl) (Nat.le_of_ble_eq_true rfl) (Nat.le_of_ble_eq_true rfl)

set_option maxHeartbeats 4000000 in
set_option maxRecDepth 100000 in
theorem law_c52 {p : Program} {l : Launch} {e : Env} {s : State} {m : MethodId} {below : List Frame} {meth : Method} {c : Code} {b : Nat} {xs : Nat → Int32} (C0 : lw_At p s m meth c b 6 xs) (dC : Nat → ClassId) (dI : Nat → Nat → Nat) (cyI cyB cyJ cyZ cyH cyN : ClassId) (E : Nat → Nat) (iF nF : Nat → Option Nat) (wF : Nat → Int32) (g0 : nF 0 = some (E 57)) (g1 : nF 1 = some (E 58)) (g2 : nF 2 = some (E 59)) (g3 : nF 3 = some (E 60)) (g4 : iF 0 = some (E 24)) (g5 : iF 1 = some (E 34)) (g6 : iF 2 = some (E 44)) (g7 : ∀ j : Nat, j < 4 → wF j = -1) {H : Heap} {locs : List Loc} {ls : Array Slot} (hK : va_K (dC, dI) vwCl [(cyI, .int), (cyB, .byte), (cyJ, .long), (cyZ, .boolean), (cyH, .object RX2), (cyN, .array .long)] s) (hP : va_P (dC, dI) vwCl (wAll cyI cyB cyJ cyZ cyH cyN E iF nF wF) H) {A : Nat → Prop} (hAe : A = fun q => s.heap.size ≤ q) (hD : va_D A (wAll cyI cyB cyJ cyZ cyH cyN E iF nF wF)) (hS : va_S A s.heap H locs) (hl : lv_has ls 4 [(3, .int 0), (2, .ref (E 85)), (1, .ref (E 0)), (0, .ref b)]) : W p l e room_1 s m #[Value.ref b] below meth c H locs 110 15598 (lw_Z below #[Value.ref b] s) (F0 m 1459 ls []) := by
  obtain ⟨hx, hb, hr, hml, hown, hts0, hX, hbl, hlocks, hgv⟩ := id C0
  have hts : ∀ w ∈ uU, w.before #[Value.ref b] s = true := fun w h => hts0 w (uU_in h)
  have hbA : ¬ A b := by rw [hAe]; exact Nat.not_le.mpr hbl
  have hA : ∀ q : Nat, s.heap.size ≤ q → A q := fun q h => by rw [hAe]; exact h
  refine lv_aload_n hx hb dL_law_1459 rfl (lv_at hl 2 rfl) ?_
  refine lv_aload_n hx hb dL_law_1460 rfl (lv_at hl 3 rfl) ?_
  refine lv_iload_n hx hb dL_law_1461 rfl (lv_at hl 0 rfl) ?_
  refine lv_iconst (v := 1) hx hb dL_law_1462 (by decide) ?_
  refine lv_iadd hx hb dL_law_1463 ?_
  refine cv_topi (b := 1) (by decide) ?_
  refine va_sld hx hb hX hbl hbA hS (vp_in_iff.mpr (by decide)) dL_law_1464 ?_
  refine cv_topi (b := xs 1) rfl ?_
  refine lv_aload_n hx hb dL_law_1465 rfl (lv_at hl 3 rfl) ?_
  refine lv_iload_n hx hb dL_law_1466 rfl (lv_at hl 0 rfl) ?_
  refine lv_iconst (v := 2) hx hb dL_law_1467 (by decide) ?_
  refine lv_iadd hx hb dL_law_1468 ?_
  refine cv_topi (b := 2) (by decide) ?_
  refine va_sld hx hb hX hbl hbA hS (vp_in_iff.mpr (by decide)) dL_law_1469 ?_
  refine cv_topi (b := xs 2) rfl ?_
  have hPc := hP.sub (ws' := [((E 0), .inr (10, [.ref (E 1), .ref (E 3), .ref (E 13), .ref (E 23), .ref (E 54), .ref (E 55), .ref (E 64), .ref (E 69), .ref (E 71), .ref (E 75), .ref (E 78), .ref (E 80), .ref (E 83), .ref (E 84), .null])), ((E 3), .inr (2, [.int 0, .int 0, .int 0, .int 0, .int 0, .int 0, .ref (E 4), .ref (E 5), .ref (E 6), .ref (E 7), .ref (E 8), .ref (E 9), .ref (E 10), .ref (E 11), .ref (E 12)]))]) [0, 3] rfl
  have hKc := hK.sub (tys' := [(cyI, .int), (cyB, .byte), (cyJ, .long), (cyZ, .boolean), (cyH, .object RX2), (cyN, .array .long)]) [0, 1, 2, 3, 4, 5] rfl
  refine vp_callSi (va_Run.run (va_runV (As := [.int (xs 1), .int (xs 2)]) (rest := []) ⟨hx, hb, hml, hown, hts⟩ (c_swap l dC dI cyI cyB cyJ cyZ cyH cyN (E 0) (E 1) (E 3) (E 13) (E 23) (E 54) (E 55) (E 64) (E 69) (E 71) (E 75) (E 78) (E 80) (E 83) (E 84) (E 4) (E 5) (E 6) (E 7) (E 8) (E 9) (E 10) (E 11) (E 12) (xs 1) (xs 2)) (cwV 2 hts (gdV wd_5_155 wd_5_156 wd_5_157 wd_1_1 wd_5_158) rfl rfl rfl (by decide +kernel) ⟨Nat.le_of_ble_eq_true rfl, Nat.le_of_ble_eq_true rfl⟩) ⟨fun a U g mk q => by obtain ⟨q0, qP, qK⟩ := q; exact ⟨q0, qP, va_K.moved (u := U) (U := U.calling g mk a) (Vm.Alike.refl U.vm) qK⟩, va_recv hKc hPc (ci := 10) (q0 := 0) rfl rfl, fun U hU hW => ⟨rfl, by rw [hU]; exact hPc, va_K.moved hW.alike hKc⟩⟩ rfl rfl hl.1 rfl (lv_room (Nat.le_of_ble_eq_true rfl)) dL_law_1470 ⟨Nat.le_of_ble_eq_true rfl, Nat.le_of_ble_eq_true rfl⟩)) (fun r_1 hw => ?_)
  subst hw
  refine lv_aload_n hx hb dL_law_1473 rfl (lv_at hl 1 rfl) ?_
  refine lv_aload_n hx hb dL_law_1474 rfl (lv_at hl 3 rfl) ?_
  refine lv_iload_n hx hb dL_law_1475 rfl (lv_at hl 0 rfl) ?_
  refine lv_iconst (v := 1) hx hb dL_law_1476 (by decide) ?_
  refine lv_iadd hx hb dL_law_1477 ?_
  refine cv_topi (b := 1) (by decide) ?_
  refine va_sld hx hb hX hbl hbA hS (vp_in_iff.mpr (by decide)) dL_law_1478 ?_
  refine cv_topi (b := xs 1) rfl ?_
  refine lv_aload_n hx hb dL_law_1479 rfl (lv_at hl 3 rfl) ?_
  refine lv_iload_n hx hb dL_law_1480 rfl (lv_at hl 0 rfl) ?_
  refine lv_iconst (v := 2) hx hb dL_law_1481 (by decide) ?_
  refine lv_iadd hx hb dL_law_1482 ?_
  refine cv_topi (b := 2) (by decide) ?_
  refine va_sld hx hb hX hbl hbA hS (vp_in_iff.mpr (by decide)) dL_law_1483 ?_
  refine cv_topi (b := xs 2) rfl ?_
  have hPc := hP.sub (ws' := [((E 85), .inr (11, [.int 0, .ref (E 86), .ref (E 87), .ref (E 88), .ref (E 89), .ref (E 90), .int 0, .int 0, .int 0, .int 0, .int 0, .long 0, .int 0, .int 0, .int 0, .int (-1), .ref (E 91), .ref (E 92), .ref (E 93), .ref (E 94), .ref (E 95), .ref (E 96), .ref (E 97), .ref (E 98), .ref (E 99), .ref (E 100), .int 0, .ref (E 101), .ref (E 102), .ref (E 103), .ref (E 104), .int 0, .ref (E 105), .ref (E 106), .ref (E 107), .int 0, .int 0, .int 0, .int 0, .int 0, .int 0, .ref (E 108), .ref (E 109), .long 0])), ((E 91), .inl (cyI, 5, .inl (fun _ => 0))), ((E 92), .inl (cyI, 20, .inl (fun _ => 0)))]) [85, 91, 92] rfl
  have hKc := hK.sub (tys' := [(cyI, .int), (cyB, .byte), (cyJ, .long), (cyZ, .boolean), (cyH, .object RX2), (cyN, .array .long)]) [0, 1, 2, 3, 4, 5] rfl
  have hDc := hD.sub (ws' := [((E 85), .inr (11, [.int 0, .ref (E 86), .ref (E 87), .ref (E 88), .ref (E 89), .ref (E 90), .int 0, .int 0, .int 0, .int 0, .int 0, .long 0, .int 0, .int 0, .int 0, .int (-1), .ref (E 91), .ref (E 92), .ref (E 93), .ref (E 94), .ref (E 95), .ref (E 96), .ref (E 97), .ref (E 98), .ref (E 99), .ref (E 100), .int 0, .ref (E 101), .ref (E 102), .ref (E 103), .ref (E 104), .int 0, .ref (E 105), .ref (E 106), .ref (E 107), .int 0, .int 0, .int 0, .int 0, .int 0, .int 0, .ref (E 108), .ref (E 109), .long 0])), ((E 91), .inl (cyI, 5, .inl (fun _ => 0))), ((E 92), .inl (cyI, 20, .inl (fun _ => 0)))]) [85, 91, 92] (by decide) rfl
  have hFc := va_free (wc := [((E 85), .inr (11, [.int 0, .ref (E 86), .ref (E 87), .ref (E 88), .ref (E 89), .ref (E 90), .int 0, .int 0, .int 0, .int 0, .int 0, .long 0, .int 0, .int 0, .int 0, .int (-1), .ref (E 91), .ref (E 92), .ref (E 93), .ref (E 94), .ref (E 95), .ref (E 96), .ref (E 97), .ref (E 98), .ref (E 99), .ref (E 100), .int 0, .ref (E 101), .ref (E 102), .ref (E 103), .ref (E 104), .int 0, .ref (E 105), .ref (E 106), .ref (E 107), .int 0, .int 0, .int 0, .int 0, .int 0, .int 0, .ref (E 108), .ref (E 109), .long 0])), ((E 91), .inl (cyI, 5, .inl (fun _ => 0))), ((E 92), .inl (cyI, 20, .inl (fun _ => 0)))]) hD hS hA [85, 91, 92] rfl
  refine va_calli (va_runV (As := [.int (xs 1), .int (xs 2)]) (rest := [.int (-2)]) ⟨hx, hb, hml, hown, hts⟩ (m_swap l dC dI cyI cyB cyJ cyZ cyH cyN H.size (E 85) (E 86) (E 87) (E 88) (E 89) (E 90) (E 91) (E 92) (E 93) (E 94) (E 95) (E 96) (E 97) (E 98) (E 99) (E 100) (E 101) (E 102) (E 103) (E 104) (E 105) (E 106) (E 107) (E 108) (E 109) (xs 1) (xs 2)) (cwV 2 hts (gdV wd_8_180 wd_8_181 wd_8_182 wd_1_11 wd_8_183) rfl rfl rfl (by decide +kernel) ⟨Nat.le_of_ble_eq_true rfl, Nat.le_of_ble_eq_true rfl⟩) ⟨fun a U g mk q => by obtain ⟨q0, q1, qP, qK, qD⟩ := q; exact ⟨q0, q1, qP, va_K.moved (u := U) (U := U.calling g mk a) (Vm.Alike.refl U.vm) qK, qD⟩, va_recv hKc hPc (ci := 11) (q0 := 0) rfl rfl, fun U hU hW => ⟨rfl, by rw [hU], by rw [hU]; exact hPc, va_K.moved hW.alike hKc, hDc.weaken (fun _ _ _ _ => trivial)⟩⟩ rfl rfl hl.1 rfl (lv_room (Nat.le_of_ble_eq_true rfl)) dL_law_1484 ⟨Nat.le_of_ble_eq_true rfl, Nat.le_of_ble_eq_true rfl⟩) hS (fun q _ h => hFc q h) hFc (fun r_2 u t H1 locs ht hvm hw hB hz1 hk1 hS => ?_)
  generalize H1 = H at hS ⊢
  subst hw
  refine lv_icmp_eq (tgt := 1931) hx hb dL_law_1487 (by decide) (fun _ => ?_) (fun c_3 => absurd c_3 (by decide))
  have hS9 : va_S (fun q : Nat => s.heap.size ≤ q) s.heap H locs := by rw [← hAe]; exact hS
  exact law_end C0 hS9 (lv_sub hl [3, 0] rfl) (Nat.le_of_ble_eq_true rfl) (Nat.le_of_ble_eq_true rfl)

set_option maxHeartbeats 4000000 in
set_option maxRecDepth 100000 in
theorem law_c53 {p : Program} {l : Launch} {e : Env} {s : State} {m : MethodId} {below : List Frame} {meth : Method} {c : Code} {b : Nat} {xs : Nat → Int32} (C0 : lw_At p s m meth c b 6 xs) (dC : Nat → ClassId) (dI : Nat → Nat → Nat) (cyI cyB cyJ cyZ cyH cyN : ClassId) (E : Nat → Nat) (iF nF : Nat → Option Nat) (wF : Nat → Int32) (g0 : nF 0 = some (E 57)) (g1 : nF 1 = some (E 58)) (g2 : nF 2 = some (E 59)) (g3 : nF 3 = some (E 60)) (g4 : iF 0 = some (E 24)) (g5 : iF 1 = some (E 34)) (g6 : iF 2 = some (E 44)) (g7 : ∀ j : Nat, j < 4 → wF j = -1) {H : Heap} {locs : List Loc} {ls : Array Slot} (hK : va_K (dC, dI) vwCl [(cyI, .int), (cyB, .byte), (cyJ, .long), (cyZ, .boolean), (cyH, .object RX2), (cyN, .array .long)] s) (hP : va_P (dC, dI) vwCl (wAll cyI cyB cyJ cyZ cyH cyN E iF nF wF) H) {A : Nat → Prop} (hAe : A = fun q => s.heap.size ≤ q) (hD : va_D A (wAll cyI cyB cyJ cyZ cyH cyN E iF nF wF)) (hS : va_S A s.heap H locs) (hl : lv_has ls 4 [(3, .int 0), (2, .ref (E 85)), (1, .ref (E 0)), (0, .ref b)]) : W p l e room_1 s m #[Value.ref b] below meth c H locs 110 15598 (lw_Z below #[Value.ref b] s) (F0 m 1492 ls []) := by
  obtain ⟨hx, hb, hr, hml, hown, hts0, hX, hbl, hlocks, hgv⟩ := id C0
  have hts : ∀ w ∈ uU, w.before #[Value.ref b] s = true := fun w h => hts0 w (uU_in h)
  have hbA : ¬ A b := by rw [hAe]; exact Nat.not_le.mpr hbl
  have hA : ∀ q : Nat, s.heap.size ≤ q → A q := fun q h => by rw [hAe]; exact h
  refine lv_aload_n hx hb dL_law_1492 rfl (lv_at hl 2 rfl) ?_
  have hPc := hP.sub (ws' := [((E 0), .inr (10, [.ref (E 1), .ref (E 3), .ref (E 13), .ref (E 23), .ref (E 54), .ref (E 55), .ref (E 64), .ref (E 69), .ref (E 71), .ref (E 75), .ref (E 78), .ref (E 80), .ref (E 83), .ref (E 84), .null])), ((E 3), .inr (2, [.int 0, .int 0, .int 0, .int 0, .int 0, .int 0, .ref (E 4), .ref (E 5), .ref (E 6), .ref (E 7), .ref (E 8), .ref (E 9), .ref (E 10), .ref (E 11), .ref (E 12)]))]) [0, 3] rfl
  have hKc := hK.sub (tys' := [(cyI, .int), (cyB, .byte), (cyJ, .long), (cyZ, .boolean), (cyH, .object RX2), (cyN, .array .long)]) [0, 1, 2, 3, 4, 5] rfl
  refine vp_callSi (va_Run.run (va_runV (As := []) (rest := []) ⟨hx, hb, hml, hown, hts⟩ (c_night l dC dI cyI cyB cyJ cyZ cyH cyN (E 0) (E 1) (E 3) (E 13) (E 23) (E 54) (E 55) (E 64) (E 69) (E 71) (E 75) (E 78) (E 80) (E 83) (E 84) (E 4) (E 5) (E 6) (E 7) (E 8) (E 9) (E 10) (E 11) (E 12)) (cwV 0 hts (gdV wd_5_168 wd_5_169 wd_5_170 wd_1_1 wd_5_171) rfl rfl rfl (by decide +kernel) ⟨Nat.le_of_ble_eq_true rfl, Nat.le_of_ble_eq_true rfl⟩) ⟨fun a U g mk q => by obtain ⟨q0, qP, qK⟩ := q; exact ⟨q0, qP, va_K.moved (u := U) (U := U.calling g mk a) (Vm.Alike.refl U.vm) qK⟩, va_recv hKc hPc (ci := 10) (q0 := 0) rfl rfl, fun U hU hW => ⟨rfl, by rw [hU]; exact hPc, va_K.moved hW.alike hKc⟩⟩ rfl rfl hl.1 rfl (lv_room (Nat.le_of_ble_eq_true rfl)) dL_law_1493 ⟨Nat.le_of_ble_eq_true rfl, Nat.le_of_ble_eq_true rfl⟩)) (fun r_1 hw => ?_)
  subst hw
  refine lv_aload_n hx hb dL_law_1496 rfl (lv_at hl 1 rfl) ?_
  have hPc := hP.sub (ws' := [((E 85), .inr (11, [.int 0, .ref (E 86), .ref (E 87), .ref (E 88), .ref (E 89), .ref (E 90), .int 0, .int 0, .int 0, .int 0, .int 0, .long 0, .int 0, .int 0, .int 0, .int (-1), .ref (E 91), .ref (E 92), .ref (E 93), .ref (E 94), .ref (E 95), .ref (E 96), .ref (E 97), .ref (E 98), .ref (E 99), .ref (E 100), .int 0, .ref (E 101), .ref (E 102), .ref (E 103), .ref (E 104), .int 0, .ref (E 105), .ref (E 106), .ref (E 107), .int 0, .int 0, .int 0, .int 0, .int 0, .int 0, .ref (E 108), .ref (E 109), .long 0])), ((E 91), .inl (cyI, 5, .inl (fun _ => 0))), ((E 92), .inl (cyI, 20, .inl (fun _ => 0)))]) [85, 91, 92] rfl
  have hKc := hK.sub (tys' := [(cyI, .int), (cyB, .byte), (cyJ, .long), (cyZ, .boolean), (cyH, .object RX2), (cyN, .array .long)]) [0, 1, 2, 3, 4, 5] rfl
  have hDc := hD.sub (ws' := [((E 85), .inr (11, [.int 0, .ref (E 86), .ref (E 87), .ref (E 88), .ref (E 89), .ref (E 90), .int 0, .int 0, .int 0, .int 0, .int 0, .long 0, .int 0, .int 0, .int 0, .int (-1), .ref (E 91), .ref (E 92), .ref (E 93), .ref (E 94), .ref (E 95), .ref (E 96), .ref (E 97), .ref (E 98), .ref (E 99), .ref (E 100), .int 0, .ref (E 101), .ref (E 102), .ref (E 103), .ref (E 104), .int 0, .ref (E 105), .ref (E 106), .ref (E 107), .int 0, .int 0, .int 0, .int 0, .int 0, .int 0, .ref (E 108), .ref (E 109), .long 0])), ((E 91), .inl (cyI, 5, .inl (fun _ => 0))), ((E 92), .inl (cyI, 20, .inl (fun _ => 0)))]) [85, 91, 92] (by decide) rfl
  have hFc := va_free (wc := [((E 85), .inr (11, [.int 0, .ref (E 86), .ref (E 87), .ref (E 88), .ref (E 89), .ref (E 90), .int 0, .int 0, .int 0, .int 0, .int 0, .long 0, .int 0, .int 0, .int 0, .int (-1), .ref (E 91), .ref (E 92), .ref (E 93), .ref (E 94), .ref (E 95), .ref (E 96), .ref (E 97), .ref (E 98), .ref (E 99), .ref (E 100), .int 0, .ref (E 101), .ref (E 102), .ref (E 103), .ref (E 104), .int 0, .ref (E 105), .ref (E 106), .ref (E 107), .int 0, .int 0, .int 0, .int 0, .int 0, .int 0, .ref (E 108), .ref (E 109), .long 0])), ((E 91), .inl (cyI, 5, .inl (fun _ => 0))), ((E 92), .inl (cyI, 20, .inl (fun _ => 0)))]) hD hS hA [85, 91, 92] rfl
  refine va_calli (va_runV (As := []) (rest := [.int (-2)]) ⟨hx, hb, hml, hown, hts⟩ (m_night l dC dI cyI cyB cyJ cyZ cyH cyN H.size (E 85) (E 86) (E 87) (E 88) (E 89) (E 90) (E 91) (E 92) (E 93) (E 94) (E 95) (E 96) (E 97) (E 98) (E 99) (E 100) (E 101) (E 102) (E 103) (E 104) (E 105) (E 106) (E 107) (E 108) (E 109)) (cwV 0 hts (gdV wd_8_192 wd_8_193 wd_8_194 wd_1_11 wd_8_195) rfl rfl rfl (by decide +kernel) ⟨Nat.le_of_ble_eq_true rfl, Nat.le_of_ble_eq_true rfl⟩) ⟨fun a U g mk q => by obtain ⟨q0, q1, qP, qK, qD⟩ := q; exact ⟨q0, q1, qP, va_K.moved (u := U) (U := U.calling g mk a) (Vm.Alike.refl U.vm) qK, qD⟩, va_recv hKc hPc (ci := 11) (q0 := 0) rfl rfl, fun U hU hW => ⟨rfl, by rw [hU], by rw [hU]; exact hPc, va_K.moved hW.alike hKc, hDc.weaken (fun _ _ _ _ => trivial)⟩⟩ rfl rfl hl.1 rfl (lv_room (Nat.le_of_ble_eq_true rfl)) dL_law_1497 ⟨Nat.le_of_ble_eq_true rfl, Nat.le_of_ble_eq_true rfl⟩) hS (fun q _ h => hFc q h) hFc (fun r_2 u t H1 locs ht hvm hw hB hz1 hk1 hS => ?_)
  generalize H1 = H at hS ⊢
  subst hw
  refine lv_icmp_eq (tgt := 1931) hx hb dL_law_1500 (by decide) (fun _ => ?_) (fun c_3 => absurd c_3 (by decide))
  have hS9 : va_S (fun q : Nat => s.heap.size ≤ q) s.heap H locs := by rw [← hAe]; exact hS
  exact law_end C0 hS9 (lv_sub hl [3, 0] rfl) (Nat.le_of_ble_eq_true rfl) (Nat.le_of_ble_eq_true rfl)

set_option maxHeartbeats 4000000 in
set_option maxRecDepth 100000 in
theorem law_c54 {p : Program} {l : Launch} {e : Env} {s : State} {m : MethodId} {below : List Frame} {meth : Method} {c : Code} {b : Nat} {xs : Nat → Int32} (C0 : lw_At p s m meth c b 6 xs) (dC : Nat → ClassId) (dI : Nat → Nat → Nat) (cyI cyB cyJ cyZ cyH cyN : ClassId) (E : Nat → Nat) (iF nF : Nat → Option Nat) (wF : Nat → Int32) (g0 : nF 0 = some (E 57)) (g1 : nF 1 = some (E 58)) (g2 : nF 2 = some (E 59)) (g3 : nF 3 = some (E 60)) (g4 : iF 0 = some (E 24)) (g5 : iF 1 = some (E 34)) (g6 : iF 2 = some (E 44)) (g7 : ∀ j : Nat, j < 4 → wF j = -1) {H : Heap} {locs : List Loc} {ls : Array Slot} (hK : va_K (dC, dI) vwCl [(cyI, .int), (cyB, .byte), (cyJ, .long), (cyZ, .boolean), (cyH, .object RX2), (cyN, .array .long)] s) (hP : va_P (dC, dI) vwCl (wAll cyI cyB cyJ cyZ cyH cyN E iF nF wF) H) {A : Nat → Prop} (hAe : A = fun q => s.heap.size ≤ q) (hD : va_D A (wAll cyI cyB cyJ cyZ cyH cyN E iF nF wF)) (hS : va_S A s.heap H locs) (hl : lv_has ls 4 [(3, .int 0), (2, .ref (E 85)), (1, .ref (E 0)), (0, .ref b)]) : W p l e room_1 s m #[Value.ref b] below meth c H locs 110 15598 (lw_Z below #[Value.ref b] s) (F0 m 1505 ls []) := by
  obtain ⟨hx, hb, hr, hml, hown, hts0, hX, hbl, hlocks, hgv⟩ := id C0
  have hts : ∀ w ∈ uU, w.before #[Value.ref b] s = true := fun w h => hts0 w (uU_in h)
  have hbA : ¬ A b := by rw [hAe]; exact Nat.not_le.mpr hbl
  have hA : ∀ q : Nat, s.heap.size ≤ q → A q := fun q h => by rw [hAe]; exact h
  refine lv_aload_n hx hb dL_law_1505 rfl (lv_at hl 2 rfl) ?_
  have hPc := hP.sub (ws' := [((E 0), .inr (10, [.ref (E 1), .ref (E 3), .ref (E 13), .ref (E 23), .ref (E 54), .ref (E 55), .ref (E 64), .ref (E 69), .ref (E 71), .ref (E 75), .ref (E 78), .ref (E 80), .ref (E 83), .ref (E 84), .null])), ((E 3), .inr (2, [.int 0, .int 0, .int 0, .int 0, .int 0, .int 0, .ref (E 4), .ref (E 5), .ref (E 6), .ref (E 7), .ref (E 8), .ref (E 9), .ref (E 10), .ref (E 11), .ref (E 12)]))]) [0, 3] rfl
  have hKc := hK.sub (tys' := [(cyI, .int), (cyB, .byte), (cyJ, .long), (cyZ, .boolean), (cyH, .object RX2), (cyN, .array .long)]) [0, 1, 2, 3, 4, 5] rfl
  refine vp_callSi (va_Run.run (va_runV (As := []) (rest := []) ⟨hx, hb, hml, hown, hts⟩ (c_undo l dC dI cyI cyB cyJ cyZ cyH cyN (E 0) (E 1) (E 3) (E 13) (E 23) (E 54) (E 55) (E 64) (E 69) (E 71) (E 75) (E 78) (E 80) (E 83) (E 84) (E 4) (E 5) (E 6) (E 7) (E 8) (E 9) (E 10) (E 11) (E 12)) (cwV 0 hts (gdV wd_5_178 wd_5_179 wd_5_180 wd_1_1 wd_5_181) rfl rfl rfl (by decide +kernel) ⟨Nat.le_of_ble_eq_true rfl, Nat.le_of_ble_eq_true rfl⟩) ⟨fun a U g mk q => by obtain ⟨q0, qP, qK⟩ := q; exact ⟨q0, qP, va_K.moved (u := U) (U := U.calling g mk a) (Vm.Alike.refl U.vm) qK⟩, va_recv hKc hPc (ci := 10) (q0 := 0) rfl rfl, fun U hU hW => ⟨rfl, by rw [hU]; exact hPc, va_K.moved hW.alike hKc⟩⟩ rfl rfl hl.1 rfl (lv_room (Nat.le_of_ble_eq_true rfl)) dL_law_1506 ⟨Nat.le_of_ble_eq_true rfl, Nat.le_of_ble_eq_true rfl⟩)) (fun r_1 hw => ?_)
  subst hw
  refine lv_aload_n hx hb dL_law_1509 rfl (lv_at hl 1 rfl) ?_
  have hPc := hP.sub (ws' := [((E 85), .inr (11, [.int 0, .ref (E 86), .ref (E 87), .ref (E 88), .ref (E 89), .ref (E 90), .int 0, .int 0, .int 0, .int 0, .int 0, .long 0, .int 0, .int 0, .int 0, .int (-1), .ref (E 91), .ref (E 92), .ref (E 93), .ref (E 94), .ref (E 95), .ref (E 96), .ref (E 97), .ref (E 98), .ref (E 99), .ref (E 100), .int 0, .ref (E 101), .ref (E 102), .ref (E 103), .ref (E 104), .int 0, .ref (E 105), .ref (E 106), .ref (E 107), .int 0, .int 0, .int 0, .int 0, .int 0, .int 0, .ref (E 108), .ref (E 109), .long 0])), ((E 91), .inl (cyI, 5, .inl (fun _ => 0))), ((E 92), .inl (cyI, 20, .inl (fun _ => 0)))]) [85, 91, 92] rfl
  have hKc := hK.sub (tys' := [(cyI, .int), (cyB, .byte), (cyJ, .long), (cyZ, .boolean), (cyH, .object RX2), (cyN, .array .long)]) [0, 1, 2, 3, 4, 5] rfl
  have hDc := hD.sub (ws' := [((E 85), .inr (11, [.int 0, .ref (E 86), .ref (E 87), .ref (E 88), .ref (E 89), .ref (E 90), .int 0, .int 0, .int 0, .int 0, .int 0, .long 0, .int 0, .int 0, .int 0, .int (-1), .ref (E 91), .ref (E 92), .ref (E 93), .ref (E 94), .ref (E 95), .ref (E 96), .ref (E 97), .ref (E 98), .ref (E 99), .ref (E 100), .int 0, .ref (E 101), .ref (E 102), .ref (E 103), .ref (E 104), .int 0, .ref (E 105), .ref (E 106), .ref (E 107), .int 0, .int 0, .int 0, .int 0, .int 0, .int 0, .ref (E 108), .ref (E 109), .long 0])), ((E 91), .inl (cyI, 5, .inl (fun _ => 0))), ((E 92), .inl (cyI, 20, .inl (fun _ => 0)))]) [85, 91, 92] (by decide) rfl
  have hFc := va_free (wc := [((E 85), .inr (11, [.int 0, .ref (E 86), .ref (E 87), .ref (E 88), .ref (E 89), .ref (E 90), .int 0, .int 0, .int 0, .int 0, .int 0, .long 0, .int 0, .int 0, .int 0, .int (-1), .ref (E 91), .ref (E 92), .ref (E 93), .ref (E 94), .ref (E 95), .ref (E 96), .ref (E 97), .ref (E 98), .ref (E 99), .ref (E 100), .int 0, .ref (E 101), .ref (E 102), .ref (E 103), .ref (E 104), .int 0, .ref (E 105), .ref (E 106), .ref (E 107), .int 0, .int 0, .int 0, .int 0, .int 0, .int 0, .ref (E 108), .ref (E 109), .long 0])), ((E 91), .inl (cyI, 5, .inl (fun _ => 0))), ((E 92), .inl (cyI, 20, .inl (fun _ => 0)))]) hD hS hA [85, 91, 92] rfl
  refine va_calli (va_runV (As := []) (rest := [.int (-2)]) ⟨hx, hb, hml, hown, hts⟩ (m_undo l dC dI cyI cyB cyJ cyZ cyH cyN H.size (E 85) (E 86) (E 87) (E 88) (E 89) (E 90) (E 91) (E 92) (E 93) (E 94) (E 95) (E 96) (E 97) (E 98) (E 99) (E 100) (E 101) (E 102) (E 103) (E 104) (E 105) (E 106) (E 107) (E 108) (E 109)) (cwV 0 hts (gdV wd_8_196 wd_8_197 wd_8_198 wd_1_11 wd_8_199) rfl rfl rfl (by decide +kernel) ⟨Nat.le_of_ble_eq_true rfl, Nat.le_of_ble_eq_true rfl⟩) ⟨fun a U g mk q => by obtain ⟨q0, q1, qP, qK, qD⟩ := q; exact ⟨q0, q1, qP, va_K.moved (u := U) (U := U.calling g mk a) (Vm.Alike.refl U.vm) qK, qD⟩, va_recv hKc hPc (ci := 11) (q0 := 0) rfl rfl, fun U hU hW => ⟨rfl, by rw [hU], by rw [hU]; exact hPc, va_K.moved hW.alike hKc, hDc.weaken (fun _ _ _ _ => trivial)⟩⟩ rfl rfl hl.1 rfl (lv_room (Nat.le_of_ble_eq_true rfl)) dL_law_1510 ⟨Nat.le_of_ble_eq_true rfl, Nat.le_of_ble_eq_true rfl⟩) hS (fun q _ h => hFc q h) hFc (fun r_2 u t H1 locs ht hvm hw hB hz1 hk1 hS => ?_)
  generalize H1 = H at hS ⊢
  subst hw
  refine lv_icmp_eq (tgt := 1931) hx hb dL_law_1513 (by decide) (fun _ => ?_) (fun c_3 => absurd c_3 (by decide))
  have hS9 : va_S (fun q : Nat => s.heap.size ≤ q) s.heap H locs := by rw [← hAe]; exact hS
  exact law_end C0 hS9 (lv_sub hl [3, 0] rfl) (Nat.le_of_ble_eq_true rfl) (Nat.le_of_ble_eq_true rfl)

set_option maxHeartbeats 4000000 in
set_option maxRecDepth 100000 in
theorem law_c55 {p : Program} {l : Launch} {e : Env} {s : State} {m : MethodId} {below : List Frame} {meth : Method} {c : Code} {b : Nat} {xs : Nat → Int32} (C0 : lw_At p s m meth c b 6 xs) (dC : Nat → ClassId) (dI : Nat → Nat → Nat) (cyI cyB cyJ cyZ cyH cyN : ClassId) (E : Nat → Nat) (iF nF : Nat → Option Nat) (wF : Nat → Int32) (g0 : nF 0 = some (E 57)) (g1 : nF 1 = some (E 58)) (g2 : nF 2 = some (E 59)) (g3 : nF 3 = some (E 60)) (g4 : iF 0 = some (E 24)) (g5 : iF 1 = some (E 34)) (g6 : iF 2 = some (E 44)) (g7 : ∀ j : Nat, j < 4 → wF j = -1) {H : Heap} {locs : List Loc} {ls : Array Slot} (hK : va_K (dC, dI) vwCl [(cyI, .int), (cyB, .byte), (cyJ, .long), (cyZ, .boolean), (cyH, .object RX2), (cyN, .array .long)] s) (hP : va_P (dC, dI) vwCl (wAll cyI cyB cyJ cyZ cyH cyN E iF nF wF) H) {A : Nat → Prop} (hAe : A = fun q => s.heap.size ≤ q) (hD : va_D A (wAll cyI cyB cyJ cyZ cyH cyN E iF nF wF)) (hS : va_S A s.heap H locs) (hl : lv_has ls 4 [(3, .int 0), (2, .ref (E 85)), (1, .ref (E 0)), (0, .ref b)]) : W p l e room_1 s m #[Value.ref b] below meth c H locs 110 15598 (lw_Z below #[Value.ref b] s) (F0 m 1518 ls []) := by
  obtain ⟨hx, hb, hr, hml, hown, hts0, hX, hbl, hlocks, hgv⟩ := id C0
  have hts : ∀ w ∈ uU, w.before #[Value.ref b] s = true := fun w h => hts0 w (uU_in h)
  have hbA : ¬ A b := by rw [hAe]; exact Nat.not_le.mpr hbl
  have hA : ∀ q : Nat, s.heap.size ≤ q → A q := fun q h => by rw [hAe]; exact h
  refine lv_aload_n hx hb dL_law_1518 rfl (lv_at hl 2 rfl) ?_
  have hPc := hP.sub (ws' := [((E 0), .inr (10, [.ref (E 1), .ref (E 3), .ref (E 13), .ref (E 23), .ref (E 54), .ref (E 55), .ref (E 64), .ref (E 69), .ref (E 71), .ref (E 75), .ref (E 78), .ref (E 80), .ref (E 83), .ref (E 84), .null])), ((E 3), .inr (2, [.int 0, .int 0, .int 0, .int 0, .int 0, .int 0, .ref (E 4), .ref (E 5), .ref (E 6), .ref (E 7), .ref (E 8), .ref (E 9), .ref (E 10), .ref (E 11), .ref (E 12)]))]) [0, 3] rfl
  have hKc := hK.sub (tys' := [(cyI, .int), (cyB, .byte), (cyJ, .long), (cyZ, .boolean), (cyH, .object RX2), (cyN, .array .long)]) [0, 1, 2, 3, 4, 5] rfl
  refine vp_callSi (va_Run.run (va_runV (As := []) (rest := []) ⟨hx, hb, hml, hown, hts⟩ (c_anew l dC dI cyI cyB cyJ cyZ cyH cyN (E 0) (E 1) (E 3) (E 13) (E 23) (E 54) (E 55) (E 64) (E 69) (E 71) (E 75) (E 78) (E 80) (E 83) (E 84) (E 4) (E 5) (E 6) (E 7) (E 8) (E 9) (E 10) (E 11) (E 12)) (cwV 0 hts (gdV wd_5_190 wd_5_191 wd_5_192 wd_1_1 wd_5_193) rfl rfl rfl (by decide +kernel) ⟨Nat.le_of_ble_eq_true rfl, Nat.le_of_ble_eq_true rfl⟩) ⟨fun a U g mk q => by obtain ⟨q0, qP, qK⟩ := q; exact ⟨q0, qP, va_K.moved (u := U) (U := U.calling g mk a) (Vm.Alike.refl U.vm) qK⟩, va_recv hKc hPc (ci := 10) (q0 := 0) rfl rfl, fun U hU hW => ⟨rfl, by rw [hU]; exact hPc, va_K.moved hW.alike hKc⟩⟩ rfl rfl hl.1 rfl (lv_room (Nat.le_of_ble_eq_true rfl)) dL_law_1519 ⟨Nat.le_of_ble_eq_true rfl, Nat.le_of_ble_eq_true rfl⟩)) (fun r_1 hw => ?_)
  subst hw
  refine lv_aload_n hx hb dL_law_1522 rfl (lv_at hl 1 rfl) ?_
  have hPc := hP.sub (ws' := [((E 85), .inr (11, [.int 0, .ref (E 86), .ref (E 87), .ref (E 88), .ref (E 89), .ref (E 90), .int 0, .int 0, .int 0, .int 0, .int 0, .long 0, .int 0, .int 0, .int 0, .int (-1), .ref (E 91), .ref (E 92), .ref (E 93), .ref (E 94), .ref (E 95), .ref (E 96), .ref (E 97), .ref (E 98), .ref (E 99), .ref (E 100), .int 0, .ref (E 101), .ref (E 102), .ref (E 103), .ref (E 104), .int 0, .ref (E 105), .ref (E 106), .ref (E 107), .int 0, .int 0, .int 0, .int 0, .int 0, .int 0, .ref (E 108), .ref (E 109), .long 0])), ((E 91), .inl (cyI, 5, .inl (fun _ => 0))), ((E 92), .inl (cyI, 20, .inl (fun _ => 0)))]) [85, 91, 92] rfl
  have hKc := hK.sub (tys' := [(cyI, .int), (cyB, .byte), (cyJ, .long), (cyZ, .boolean), (cyH, .object RX2), (cyN, .array .long)]) [0, 1, 2, 3, 4, 5] rfl
  have hDc := hD.sub (ws' := [((E 85), .inr (11, [.int 0, .ref (E 86), .ref (E 87), .ref (E 88), .ref (E 89), .ref (E 90), .int 0, .int 0, .int 0, .int 0, .int 0, .long 0, .int 0, .int 0, .int 0, .int (-1), .ref (E 91), .ref (E 92), .ref (E 93), .ref (E 94), .ref (E 95), .ref (E 96), .ref (E 97), .ref (E 98), .ref (E 99), .ref (E 100), .int 0, .ref (E 101), .ref (E 102), .ref (E 103), .ref (E 104), .int 0, .ref (E 105), .ref (E 106), .ref (E 107), .int 0, .int 0, .int 0, .int 0, .int 0, .int 0, .ref (E 108), .ref (E 109), .long 0])), ((E 91), .inl (cyI, 5, .inl (fun _ => 0))), ((E 92), .inl (cyI, 20, .inl (fun _ => 0)))]) [85, 91, 92] (by decide) rfl
  have hFc := va_free (wc := [((E 85), .inr (11, [.int 0, .ref (E 86), .ref (E 87), .ref (E 88), .ref (E 89), .ref (E 90), .int 0, .int 0, .int 0, .int 0, .int 0, .long 0, .int 0, .int 0, .int 0, .int (-1), .ref (E 91), .ref (E 92), .ref (E 93), .ref (E 94), .ref (E 95), .ref (E 96), .ref (E 97), .ref (E 98), .ref (E 99), .ref (E 100), .int 0, .ref (E 101), .ref (E 102), .ref (E 103), .ref (E 104), .int 0, .ref (E 105), .ref (E 106), .ref (E 107), .int 0, .int 0, .int 0, .int 0, .int 0, .int 0, .ref (E 108), .ref (E 109), .long 0])), ((E 91), .inl (cyI, 5, .inl (fun _ => 0))), ((E 92), .inl (cyI, 20, .inl (fun _ => 0)))]) hD hS hA [85, 91, 92] rfl
  refine va_calli (va_runV (As := []) (rest := [.int (-2)]) ⟨hx, hb, hml, hown, hts⟩ (m_anew l dC dI cyI cyB cyJ cyZ cyH cyN H.size (E 85) (E 86) (E 87) (E 88) (E 89) (E 90) (E 91) (E 92) (E 93) (E 94) (E 95) (E 96) (E 97) (E 98) (E 99) (E 100) (E 101) (E 102) (E 103) (E 104) (E 105) (E 106) (E 107) (E 108) (E 109)) (cwV 0 hts (gdV wd_8_200 wd_8_201 wd_8_202 wd_1_11 wd_8_203) rfl rfl rfl (by decide +kernel) ⟨Nat.le_of_ble_eq_true rfl, Nat.le_of_ble_eq_true rfl⟩) ⟨fun a U g mk q => by obtain ⟨q0, q1, qP, qK, qD⟩ := q; exact ⟨q0, q1, qP, va_K.moved (u := U) (U := U.calling g mk a) (Vm.Alike.refl U.vm) qK, qD⟩, va_recv hKc hPc (ci := 11) (q0 := 0) rfl rfl, fun U hU hW => ⟨rfl, by rw [hU], by rw [hU]; exact hPc, va_K.moved hW.alike hKc, hDc.weaken (fun _ _ _ _ => trivial)⟩⟩ rfl rfl hl.1 rfl (lv_room (Nat.le_of_ble_eq_true rfl)) dL_law_1523 ⟨Nat.le_of_ble_eq_true rfl, Nat.le_of_ble_eq_true rfl⟩) hS (fun q _ h => hFc q h) hFc (fun r_2 u t H1 locs ht hvm hw hB hz1 hk1 hS => ?_)
  generalize H1 = H at hS ⊢
  subst hw
  refine lv_icmp_eq (tgt := 1931) hx hb dL_law_1526 (by decide) (fun _ => ?_) (fun c_3 => absurd c_3 (by decide))
  have hS9 : va_S (fun q : Nat => s.heap.size ≤ q) s.heap H locs := by rw [← hAe]; exact hS
  exact law_end C0 hS9 (lv_sub hl [3, 0] rfl) (Nat.le_of_ble_eq_true rfl) (Nat.le_of_ble_eq_true rfl)

set_option maxHeartbeats 4000000 in
set_option maxRecDepth 100000 in
theorem law_c8 {p : Program} {l : Launch} {e : Env} {s : State} {m : MethodId} {below : List Frame} {meth : Method} {c : Code} {b : Nat} {xs : Nat → Int32} (C0 : lw_At p s m meth c b 6 xs) (dC : Nat → ClassId) (dI : Nat → Nat → Nat) (cyI cyB cyJ cyZ cyH cyN : ClassId) (E : Nat → Nat) (iF nF : Nat → Option Nat) (wF : Nat → Int32) (g0 : nF 0 = some (E 57)) (g1 : nF 1 = some (E 58)) (g2 : nF 2 = some (E 59)) (g3 : nF 3 = some (E 60)) (g4 : iF 0 = some (E 24)) (g5 : iF 1 = some (E 34)) (g6 : iF 2 = some (E 44)) (g7 : ∀ j : Nat, j < 4 → wF j = -1) {H : Heap} {locs : List Loc} {ls : Array Slot} (hK : va_K (dC, dI) vwCl [(cyI, .int), (cyB, .byte), (cyJ, .long), (cyZ, .boolean), (cyH, .object RX2), (cyN, .array .long)] s) (hP : va_P (dC, dI) vwCl (wAll cyI cyB cyJ cyZ cyH cyN E iF nF wF) H) {A : Nat → Prop} (hAe : A = fun q => s.heap.size ≤ q) (hD : va_D A (wAll cyI cyB cyJ cyZ cyH cyN E iF nF wF)) (hS : va_S A s.heap H locs) (hl : lv_has ls 4 [(3, .int 0), (2, .ref (E 85)), (1, .ref (E 0)), (0, .ref b)]) : W p l e room_1 s m #[Value.ref b] below meth c H locs 110 15598 (lw_Z below #[Value.ref b] s) (F0 m 546 ls []) := by
  obtain ⟨hx, hb, hr, hml, hown, hts0, hX, hbl, hlocks, hgv⟩ := id C0
  have hts : ∀ w ∈ uU, w.before #[Value.ref b] s = true := fun w h => hts0 w (uU_in h)
  have hbA : ¬ A b := by rw [hAe]; exact Nat.not_le.mpr hbl
  have hA : ∀ q : Nat, s.heap.size ≤ q → A q := fun q h => by rw [hAe]; exact h
  refine lv_aload_n hx hb dL_law_546 rfl (lv_at hl 2 rfl) ?_
  refine lv_aload_n hx hb dL_law_547 rfl (lv_at hl 3 rfl) ?_
  refine lv_iload_n hx hb dL_law_548 rfl (lv_at hl 0 rfl) ?_
  refine lv_iconst (v := 1) hx hb dL_law_549 (by decide) ?_
  refine lv_iadd hx hb dL_law_550 ?_
  refine cv_topi (b := 1) (by decide) ?_
  refine va_sld hx hb hX hbl hbA hS (vp_in_iff.mpr (by decide)) dL_law_551 ?_
  refine cv_topi (b := xs 1) rfl ?_
  have hPc := hP.sub (ws' := [((E 0), .inr (10, [.ref (E 1), .ref (E 3), .ref (E 13), .ref (E 23), .ref (E 54), .ref (E 55), .ref (E 64), .ref (E 69), .ref (E 71), .ref (E 75), .ref (E 78), .ref (E 80), .ref (E 83), .ref (E 84), .null])), ((E 3), .inr (2, [.int 0, .int 0, .int 0, .int 0, .int 0, .int 0, .ref (E 4), .ref (E 5), .ref (E 6), .ref (E 7), .ref (E 8), .ref (E 9), .ref (E 10), .ref (E 11), .ref (E 12)]))]) [0, 3] rfl
  have hKc := hK.sub (tys' := [(cyI, .int), (cyB, .byte), (cyJ, .long), (cyZ, .boolean), (cyH, .object RX2), (cyN, .array .long)]) [0, 1, 2, 3, 4, 5] rfl
  refine vp_callSi (va_Run.run (va_runV (As := [.int (xs 1)]) (rest := []) ⟨hx, hb, hml, hown, hts⟩ (c_where l dC dI cyI cyB cyJ cyZ cyH cyN (E 0) (E 1) (E 3) (E 13) (E 23) (E 54) (E 55) (E 64) (E 69) (E 71) (E 75) (E 78) (E 80) (E 83) (E 84) (E 4) (E 5) (E 6) (E 7) (E 8) (E 9) (E 10) (E 11) (E 12) (xs 1)) (cwV 1 hts (gdV wd_3_72 wd_3_73 wd_3_74 wd_1_1 wd_3_75) rfl rfl rfl (by decide +kernel) ⟨Nat.le_of_ble_eq_true rfl, Nat.le_of_ble_eq_true rfl⟩) ⟨fun a U g mk q => by obtain ⟨q0, qP, qK⟩ := q; exact ⟨q0, qP, va_K.moved (u := U) (U := U.calling g mk a) (Vm.Alike.refl U.vm) qK⟩, va_recv hKc hPc (ci := 10) (q0 := 0) rfl rfl, fun U hU hW => ⟨rfl, by rw [hU]; exact hPc, va_K.moved hW.alike hKc⟩⟩ rfl rfl hl.1 rfl (lv_room (Nat.le_of_ble_eq_true rfl)) dL_law_552 ⟨Nat.le_of_ble_eq_true rfl, Nat.le_of_ble_eq_true rfl⟩)) (fun r_1 hw => ?_)
  subst hw
  refine lv_aload_n hx hb dL_law_555 rfl (lv_at hl 1 rfl) ?_
  refine lv_aload_n hx hb dL_law_556 rfl (lv_at hl 3 rfl) ?_
  refine lv_iload_n hx hb dL_law_557 rfl (lv_at hl 0 rfl) ?_
  refine lv_iconst (v := 1) hx hb dL_law_558 (by decide) ?_
  refine lv_iadd hx hb dL_law_559 ?_
  refine cv_topi (b := 1) (by decide) ?_
  refine va_sld hx hb hX hbl hbA hS (vp_in_iff.mpr (by decide)) dL_law_560 ?_
  refine cv_topi (b := xs 1) rfl ?_
  have hPc := hP.sub (ws' := [((E 85), .inr (11, [.int 0, .ref (E 86), .ref (E 87), .ref (E 88), .ref (E 89), .ref (E 90), .int 0, .int 0, .int 0, .int 0, .int 0, .long 0, .int 0, .int 0, .int 0, .int (-1), .ref (E 91), .ref (E 92), .ref (E 93), .ref (E 94), .ref (E 95), .ref (E 96), .ref (E 97), .ref (E 98), .ref (E 99), .ref (E 100), .int 0, .ref (E 101), .ref (E 102), .ref (E 103), .ref (E 104), .int 0, .ref (E 105), .ref (E 106), .ref (E 107), .int 0, .int 0, .int 0, .int 0, .int 0, .int 0, .ref (E 108), .ref (E 109), .long 0])), ((E 91), .inl (cyI, 5, .inl (fun _ => 0))), ((E 92), .inl (cyI, 20, .inl (fun _ => 0)))]) [85, 91, 92] rfl
  have hKc := hK.sub (tys' := [(cyI, .int), (cyB, .byte), (cyJ, .long), (cyZ, .boolean), (cyH, .object RX2), (cyN, .array .long)]) [0, 1, 2, 3, 4, 5] rfl
  have hDc := hD.sub (ws' := [((E 85), .inr (11, [.int 0, .ref (E 86), .ref (E 87), .ref (E 88), .ref (E 89), .ref (E 90), .int 0, .int 0, .int 0, .int 0, .int 0, .long 0, .int 0, .int 0, .int 0, .int (-1), .ref (E 91), .ref (E 92), .ref (E 93), .ref (E 94), .ref (E 95), .ref (E 96), .ref (E 97), .ref (E 98), .ref (E 99), .ref (E 100), .int 0, .ref (E 101), .ref (E 102), .ref (E 103), .ref (E 104), .int 0, .ref (E 105), .ref (E 106), .ref (E 107), .int 0, .int 0, .int 0, .int 0, .int 0, .int 0, .ref (E 108), .ref (E 109), .long 0])), ((E 91), .inl (cyI, 5, .inl (fun _ => 0))), ((E 92), .inl (cyI, 20, .inl (fun _ => 0)))]) [85, 91, 92] (by decide) rfl
  have hFc := va_free (wc := [((E 85), .inr (11, [.int 0, .ref (E 86), .ref (E 87), .ref (E 88), .ref (E 89), .ref (E 90), .int 0, .int 0, .int 0, .int 0, .int 0, .long 0, .int 0, .int 0, .int 0, .int (-1), .ref (E 91), .ref (E 92), .ref (E 93), .ref (E 94), .ref (E 95), .ref (E 96), .ref (E 97), .ref (E 98), .ref (E 99), .ref (E 100), .int 0, .ref (E 101), .ref (E 102), .ref (E 103), .ref (E 104), .int 0, .ref (E 105), .ref (E 106), .ref (E 107), .int 0, .int 0, .int 0, .int 0, .int 0, .int 0, .ref (E 108), .ref (E 109), .long 0])), ((E 91), .inl (cyI, 5, .inl (fun _ => 0))), ((E 92), .inl (cyI, 20, .inl (fun _ => 0)))]) hD hS hA [85, 91, 92] rfl
  refine va_calli (va_runV (As := [.int (xs 1)]) (rest := [.int (-2)]) ⟨hx, hb, hml, hown, hts⟩ (m_where l dC dI cyI cyB cyJ cyZ cyH cyN H.size (E 85) (E 86) (E 87) (E 88) (E 89) (E 90) (E 91) (E 92) (E 93) (E 94) (E 95) (E 96) (E 97) (E 98) (E 99) (E 100) (E 101) (E 102) (E 103) (E 104) (E 105) (E 106) (E 107) (E 108) (E 109) (xs 1)) (cwV 1 hts (gdV wd_7_116 wd_7_117 wd_7_118 wd_1_11 wd_7_119) rfl rfl rfl (by decide +kernel) ⟨Nat.le_of_ble_eq_true rfl, Nat.le_of_ble_eq_true rfl⟩) ⟨fun a U g mk q => by obtain ⟨q0, q1, qP, qK, qD⟩ := q; exact ⟨q0, q1, qP, va_K.moved (u := U) (U := U.calling g mk a) (Vm.Alike.refl U.vm) qK, qD⟩, va_recv hKc hPc (ci := 11) (q0 := 0) rfl rfl, fun U hU hW => ⟨rfl, by rw [hU], by rw [hU]; exact hPc, va_K.moved hW.alike hKc, hDc.weaken (fun _ _ _ _ => trivial)⟩⟩ rfl rfl hl.1 rfl (lv_room (Nat.le_of_ble_eq_true rfl)) dL_law_561 ⟨Nat.le_of_ble_eq_true rfl, Nat.le_of_ble_eq_true rfl⟩) hS (fun q _ h => hFc q h) hFc (fun r_2 u t H1 locs ht hvm hw hB hz1 hk1 hS => ?_)
  generalize H1 = H at hS ⊢
  subst hw
  refine lv_icmp_eq (tgt := 1931) hx hb dL_law_564 (by decide) (fun _ => ?_) (fun c_3 => absurd c_3 (by decide))
  have hS9 : va_S (fun q : Nat => s.heap.size ≤ q) s.heap H locs := by rw [← hAe]; exact hS
  exact law_end C0 hS9 (lv_sub hl [3, 0] rfl) (Nat.le_of_ble_eq_true rfl) (Nat.le_of_ble_eq_true rfl)

set_option maxHeartbeats 4000000 in
set_option maxRecDepth 100000 in
theorem law_c9 {p : Program} {l : Launch} {e : Env} {s : State} {m : MethodId} {below : List Frame} {meth : Method} {c : Code} {b : Nat} {xs : Nat → Int32} (C0 : lw_At p s m meth c b 6 xs) (dC : Nat → ClassId) (dI : Nat → Nat → Nat) (cyI cyB cyJ cyZ cyH cyN : ClassId) (E : Nat → Nat) (iF nF : Nat → Option Nat) (wF : Nat → Int32) (g0 : nF 0 = some (E 57)) (g1 : nF 1 = some (E 58)) (g2 : nF 2 = some (E 59)) (g3 : nF 3 = some (E 60)) (g4 : iF 0 = some (E 24)) (g5 : iF 1 = some (E 34)) (g6 : iF 2 = some (E 44)) (g7 : ∀ j : Nat, j < 4 → wF j = -1) {H : Heap} {locs : List Loc} {ls : Array Slot} (hK : va_K (dC, dI) vwCl [(cyI, .int), (cyB, .byte), (cyJ, .long), (cyZ, .boolean), (cyH, .object RX2), (cyN, .array .long)] s) (hP : va_P (dC, dI) vwCl (wAll cyI cyB cyJ cyZ cyH cyN E iF nF wF) H) {A : Nat → Prop} (hAe : A = fun q => s.heap.size ≤ q) (hD : va_D A (wAll cyI cyB cyJ cyZ cyH cyN E iF nF wF)) (hS : va_S A s.heap H locs) (hl : lv_has ls 4 [(3, .int 0), (2, .ref (E 85)), (1, .ref (E 0)), (0, .ref b)]) : W p l e room_1 s m #[Value.ref b] below meth c H locs 110 15598 (lw_Z below #[Value.ref b] s) (F0 m 569 ls []) := by
  obtain ⟨hx, hb, hr, hml, hown, hts0, hX, hbl, hlocks, hgv⟩ := id C0
  have hts : ∀ w ∈ uU, w.before #[Value.ref b] s = true := fun w h => hts0 w (uU_in h)
  have hbA : ¬ A b := by rw [hAe]; exact Nat.not_le.mpr hbl
  have hA : ∀ q : Nat, s.heap.size ≤ q → A q := fun q h => by rw [hAe]; exact h
  refine lv_aload_n hx hb dL_law_569 rfl (lv_at hl 2 rfl) ?_
  refine lv_aload_n hx hb dL_law_570 rfl (lv_at hl 3 rfl) ?_
  refine lv_iload_n hx hb dL_law_571 rfl (lv_at hl 0 rfl) ?_
  refine lv_iconst (v := 1) hx hb dL_law_572 (by decide) ?_
  refine lv_iadd hx hb dL_law_573 ?_
  refine cv_topi (b := 1) (by decide) ?_
  refine va_sld hx hb hX hbl hbA hS (vp_in_iff.mpr (by decide)) dL_law_574 ?_
  refine cv_topi (b := xs 1) rfl ?_
  refine lv_aload_n hx hb dL_law_575 rfl (lv_at hl 3 rfl) ?_
  refine lv_iload_n hx hb dL_law_576 rfl (lv_at hl 0 rfl) ?_
  refine lv_iconst (v := 2) hx hb dL_law_577 (by decide) ?_
  refine lv_iadd hx hb dL_law_578 ?_
  refine cv_topi (b := 2) (by decide) ?_
  refine va_sld hx hb hX hbl hbA hS (vp_in_iff.mpr (by decide)) dL_law_579 ?_
  refine cv_topi (b := xs 2) rfl ?_
  have hPc := hP.sub (ws' := [((E 0), .inr (10, [.ref (E 1), .ref (E 3), .ref (E 13), .ref (E 23), .ref (E 54), .ref (E 55), .ref (E 64), .ref (E 69), .ref (E 71), .ref (E 75), .ref (E 78), .ref (E 80), .ref (E 83), .ref (E 84), .null])), ((E 3), .inr (2, [.int 0, .int 0, .int 0, .int 0, .int 0, .int 0, .ref (E 4), .ref (E 5), .ref (E 6), .ref (E 7), .ref (E 8), .ref (E 9), .ref (E 10), .ref (E 11), .ref (E 12)]))]) [0, 3] rfl
  have hKc := hK.sub (tys' := [(cyI, .int), (cyB, .byte), (cyJ, .long), (cyZ, .boolean), (cyH, .object RX2), (cyN, .array .long)]) [0, 1, 2, 3, 4, 5] rfl
  refine vp_callSi (va_Run.run (va_runV (As := [.int (xs 1), .int (xs 2)]) (rest := []) ⟨hx, hb, hml, hown, hts⟩ (c_later l dC dI cyI cyB cyJ cyZ cyH cyN (E 0) (E 1) (E 3) (E 13) (E 23) (E 54) (E 55) (E 64) (E 69) (E 71) (E 75) (E 78) (E 80) (E 83) (E 84) (E 4) (E 5) (E 6) (E 7) (E 8) (E 9) (E 10) (E 11) (E 12) (xs 1) (xs 2)) (cwV 2 hts (gdV wd_3_83 wd_3_84 wd_3_85 wd_1_1 wd_3_86) rfl rfl rfl (by decide +kernel) ⟨Nat.le_of_ble_eq_true rfl, Nat.le_of_ble_eq_true rfl⟩) ⟨fun a U g mk q => by obtain ⟨q0, qP, qK⟩ := q; exact ⟨q0, qP, va_K.moved (u := U) (U := U.calling g mk a) (Vm.Alike.refl U.vm) qK⟩, va_recv hKc hPc (ci := 10) (q0 := 0) rfl rfl, fun U hU hW => ⟨rfl, by rw [hU]; exact hPc, va_K.moved hW.alike hKc⟩⟩ rfl rfl hl.1 rfl (lv_room (Nat.le_of_ble_eq_true rfl)) dL_law_580 ⟨Nat.le_of_ble_eq_true rfl, Nat.le_of_ble_eq_true rfl⟩)) (fun r_1 hw => ?_)
  subst hw
  refine lv_aload_n hx hb dL_law_583 rfl (lv_at hl 1 rfl) ?_
  refine lv_aload_n hx hb dL_law_584 rfl (lv_at hl 3 rfl) ?_
  refine lv_iload_n hx hb dL_law_585 rfl (lv_at hl 0 rfl) ?_
  refine lv_iconst (v := 1) hx hb dL_law_586 (by decide) ?_
  refine lv_iadd hx hb dL_law_587 ?_
  refine cv_topi (b := 1) (by decide) ?_
  refine va_sld hx hb hX hbl hbA hS (vp_in_iff.mpr (by decide)) dL_law_588 ?_
  refine cv_topi (b := xs 1) rfl ?_
  refine lv_aload_n hx hb dL_law_589 rfl (lv_at hl 3 rfl) ?_
  refine lv_iload_n hx hb dL_law_590 rfl (lv_at hl 0 rfl) ?_
  refine lv_iconst (v := 2) hx hb dL_law_591 (by decide) ?_
  refine lv_iadd hx hb dL_law_592 ?_
  refine cv_topi (b := 2) (by decide) ?_
  refine va_sld hx hb hX hbl hbA hS (vp_in_iff.mpr (by decide)) dL_law_593 ?_
  refine cv_topi (b := xs 2) rfl ?_
  have hPc := hP.sub (ws' := [((E 85), .inr (11, [.int 0, .ref (E 86), .ref (E 87), .ref (E 88), .ref (E 89), .ref (E 90), .int 0, .int 0, .int 0, .int 0, .int 0, .long 0, .int 0, .int 0, .int 0, .int (-1), .ref (E 91), .ref (E 92), .ref (E 93), .ref (E 94), .ref (E 95), .ref (E 96), .ref (E 97), .ref (E 98), .ref (E 99), .ref (E 100), .int 0, .ref (E 101), .ref (E 102), .ref (E 103), .ref (E 104), .int 0, .ref (E 105), .ref (E 106), .ref (E 107), .int 0, .int 0, .int 0, .int 0, .int 0, .int 0, .ref (E 108), .ref (E 109), .long 0])), ((E 91), .inl (cyI, 5, .inl (fun _ => 0))), ((E 92), .inl (cyI, 20, .inl (fun _ => 0)))]) [85, 91, 92] rfl
  have hKc := hK.sub (tys' := [(cyI, .int), (cyB, .byte), (cyJ, .long), (cyZ, .boolean), (cyH, .object RX2), (cyN, .array .long)]) [0, 1, 2, 3, 4, 5] rfl
  have hDc := hD.sub (ws' := [((E 85), .inr (11, [.int 0, .ref (E 86), .ref (E 87), .ref (E 88), .ref (E 89), .ref (E 90), .int 0, .int 0, .int 0, .int 0, .int 0, .long 0, .int 0, .int 0, .int 0, .int (-1), .ref (E 91), .ref (E 92), .ref (E 93), .ref (E 94), .ref (E 95), .ref (E 96), .ref (E 97), .ref (E 98), .ref (E 99), .ref (E 100), .int 0, .ref (E 101), .ref (E 102), .ref (E 103), .ref (E 104), .int 0, .ref (E 105), .ref (E 106), .ref (E 107), .int 0, .int 0, .int 0, .int 0, .int 0, .int 0, .ref (E 108), .ref (E 109), .long 0])), ((E 91), .inl (cyI, 5, .inl (fun _ => 0))), ((E 92), .inl (cyI, 20, .inl (fun _ => 0)))]) [85, 91, 92] (by decide) rfl
  have hFc := va_free (wc := [((E 85), .inr (11, [.int 0, .ref (E 86), .ref (E 87), .ref (E 88), .ref (E 89), .ref (E 90), .int 0, .int 0, .int 0, .int 0, .int 0, .long 0, .int 0, .int 0, .int 0, .int (-1), .ref (E 91), .ref (E 92), .ref (E 93), .ref (E 94), .ref (E 95), .ref (E 96), .ref (E 97), .ref (E 98), .ref (E 99), .ref (E 100), .int 0, .ref (E 101), .ref (E 102), .ref (E 103), .ref (E 104), .int 0, .ref (E 105), .ref (E 106), .ref (E 107), .int 0, .int 0, .int 0, .int 0, .int 0, .int 0, .ref (E 108), .ref (E 109), .long 0])), ((E 91), .inl (cyI, 5, .inl (fun _ => 0))), ((E 92), .inl (cyI, 20, .inl (fun _ => 0)))]) hD hS hA [85, 91, 92] rfl
  refine va_calli (va_runV (As := [.int (xs 1), .int (xs 2)]) (rest := [.int (-2)]) ⟨hx, hb, hml, hown, hts⟩ (m_later l dC dI cyI cyB cyJ cyZ cyH cyN H.size (E 85) (E 86) (E 87) (E 88) (E 89) (E 90) (E 91) (E 92) (E 93) (E 94) (E 95) (E 96) (E 97) (E 98) (E 99) (E 100) (E 101) (E 102) (E 103) (E 104) (E 105) (E 106) (E 107) (E 108) (E 109) (xs 1) (xs 2)) (cwV 2 hts (gdV wd_7_124 wd_7_125 wd_7_126 wd_1_11 wd_7_127) rfl rfl rfl (by decide +kernel) ⟨Nat.le_of_ble_eq_true rfl, Nat.le_of_ble_eq_true rfl⟩) ⟨fun a U g mk q => by obtain ⟨q0, q1, qP, qK, qD⟩ := q; exact ⟨q0, q1, qP, va_K.moved (u := U) (U := U.calling g mk a) (Vm.Alike.refl U.vm) qK, qD⟩, va_recv hKc hPc (ci := 11) (q0 := 0) rfl rfl, fun U hU hW => ⟨rfl, by rw [hU], by rw [hU]; exact hPc, va_K.moved hW.alike hKc, hDc.weaken (fun _ _ _ _ => trivial)⟩⟩ rfl rfl hl.1 rfl (lv_room (Nat.le_of_ble_eq_true rfl)) dL_law_594 ⟨Nat.le_of_ble_eq_true rfl, Nat.le_of_ble_eq_true rfl⟩) hS (fun q _ h => hFc q h) hFc (fun r_2 u t H1 locs ht hvm hw hB hz1 hk1 hS => ?_)
  generalize H1 = H at hS ⊢
  subst hw
  refine lv_icmp_eq (tgt := 1931) hx hb dL_law_597 (by decide) (fun _ => ?_) (fun c_3 => absurd c_3 (by decide))
  have hS9 : va_S (fun q : Nat => s.heap.size ≤ q) s.heap H locs := by rw [← hAe]; exact hS
  exact law_end C0 hS9 (lv_sub hl [3, 0] rfl) (Nat.le_of_ble_eq_true rfl) (Nat.le_of_ble_eq_true rfl)

set_option maxHeartbeats 4000000 in
set_option maxRecDepth 100000 in
theorem law_c10 {p : Program} {l : Launch} {e : Env} {s : State} {m : MethodId} {below : List Frame} {meth : Method} {c : Code} {b : Nat} {xs : Nat → Int32} (C0 : lw_At p s m meth c b 6 xs) (dC : Nat → ClassId) (dI : Nat → Nat → Nat) (cyI cyB cyJ cyZ cyH cyN : ClassId) (E : Nat → Nat) (iF nF : Nat → Option Nat) (wF : Nat → Int32) (g0 : nF 0 = some (E 57)) (g1 : nF 1 = some (E 58)) (g2 : nF 2 = some (E 59)) (g3 : nF 3 = some (E 60)) (g4 : iF 0 = some (E 24)) (g5 : iF 1 = some (E 34)) (g6 : iF 2 = some (E 44)) (g7 : ∀ j : Nat, j < 4 → wF j = -1) {H : Heap} {locs : List Loc} {ls : Array Slot} (hK : va_K (dC, dI) vwCl [(cyI, .int), (cyB, .byte), (cyJ, .long), (cyZ, .boolean), (cyH, .object RX2), (cyN, .array .long)] s) (hP : va_P (dC, dI) vwCl (wAll cyI cyB cyJ cyZ cyH cyN E iF nF wF) H) {A : Nat → Prop} (hAe : A = fun q => s.heap.size ≤ q) (hD : va_D A (wAll cyI cyB cyJ cyZ cyH cyN E iF nF wF)) (hS : va_S A s.heap H locs) (hl : lv_has ls 4 [(3, .int 0), (2, .ref (E 85)), (1, .ref (E 0)), (0, .ref b)]) : W p l e room_1 s m #[Value.ref b] below meth c H locs 110 15598 (lw_Z below #[Value.ref b] s) (F0 m 602 ls []) := by
  obtain ⟨hx, hb, hr, hml, hown, hts0, hX, hbl, hlocks, hgv⟩ := id C0
  have hts : ∀ w ∈ uU, w.before #[Value.ref b] s = true := fun w h => hts0 w (uU_in h)
  have hbA : ¬ A b := by rw [hAe]; exact Nat.not_le.mpr hbl
  have hA : ∀ q : Nat, s.heap.size ≤ q → A q := fun q h => by rw [hAe]; exact h
  refine lv_aload_n hx hb dL_law_602 rfl (lv_at hl 2 rfl) ?_
  refine lv_aload_n hx hb dL_law_603 rfl (lv_at hl 3 rfl) ?_
  refine lv_iload_n hx hb dL_law_604 rfl (lv_at hl 0 rfl) ?_
  refine lv_iconst (v := 1) hx hb dL_law_605 (by decide) ?_
  refine lv_iadd hx hb dL_law_606 ?_
  refine cv_topi (b := 1) (by decide) ?_
  refine va_sld hx hb hX hbl hbA hS (vp_in_iff.mpr (by decide)) dL_law_607 ?_
  refine cv_topi (b := xs 1) rfl ?_
  have hPc := hP.sub (ws' := [((E 0), .inr (10, [.ref (E 1), .ref (E 3), .ref (E 13), .ref (E 23), .ref (E 54), .ref (E 55), .ref (E 64), .ref (E 69), .ref (E 71), .ref (E 75), .ref (E 78), .ref (E 80), .ref (E 83), .ref (E 84), .null])), ((E 3), .inr (2, [.int 0, .int 0, .int 0, .int 0, .int 0, .int 0, .ref (E 4), .ref (E 5), .ref (E 6), .ref (E 7), .ref (E 8), .ref (E 9), .ref (E 10), .ref (E 11), .ref (E 12)]))]) [0, 3] rfl
  have hKc := hK.sub (tys' := [(cyI, .int), (cyB, .byte), (cyJ, .long), (cyZ, .boolean), (cyH, .object RX2), (cyN, .array .long)]) [0, 1, 2, 3, 4, 5] rfl
  refine vp_callSi (va_Run.run (va_runV (As := [.int (xs 1)]) (rest := []) ⟨hx, hb, hml, hown, hts⟩ (c_right l dC dI cyI cyB cyJ cyZ cyH cyN (E 0) (E 1) (E 3) (E 13) (E 23) (E 54) (E 55) (E 64) (E 69) (E 71) (E 75) (E 78) (E 80) (E 83) (E 84) (E 4) (E 5) (E 6) (E 7) (E 8) (E 9) (E 10) (E 11) (E 12) (xs 1)) (cwV 1 hts (gdV wd_3_126 wd_3_127 wd_3_128 wd_1_1 wd_3_129) rfl rfl rfl (by decide +kernel) ⟨Nat.le_of_ble_eq_true rfl, Nat.le_of_ble_eq_true rfl⟩) ⟨fun a U g mk q => by obtain ⟨q0, qP, qK⟩ := q; exact ⟨q0, qP, va_K.moved (u := U) (U := U.calling g mk a) (Vm.Alike.refl U.vm) qK⟩, va_recv hKc hPc (ci := 10) (q0 := 0) rfl rfl, fun U hU hW => ⟨rfl, by rw [hU]; exact hPc, va_K.moved hW.alike hKc⟩⟩ rfl rfl hl.1 rfl (lv_room (Nat.le_of_ble_eq_true rfl)) dL_law_608 ⟨Nat.le_of_ble_eq_true rfl, Nat.le_of_ble_eq_true rfl⟩)) (fun r_1 hw => ?_)
  subst hw
  refine lv_aload_n hx hb dL_law_611 rfl (lv_at hl 1 rfl) ?_
  refine lv_aload_n hx hb dL_law_612 rfl (lv_at hl 3 rfl) ?_
  refine lv_iload_n hx hb dL_law_613 rfl (lv_at hl 0 rfl) ?_
  refine lv_iconst (v := 1) hx hb dL_law_614 (by decide) ?_
  refine lv_iadd hx hb dL_law_615 ?_
  refine cv_topi (b := 1) (by decide) ?_
  refine va_sld hx hb hX hbl hbA hS (vp_in_iff.mpr (by decide)) dL_law_616 ?_
  refine cv_topi (b := xs 1) rfl ?_
  have hPc := hP.sub (ws' := [((E 85), .inr (11, [.int 0, .ref (E 86), .ref (E 87), .ref (E 88), .ref (E 89), .ref (E 90), .int 0, .int 0, .int 0, .int 0, .int 0, .long 0, .int 0, .int 0, .int 0, .int (-1), .ref (E 91), .ref (E 92), .ref (E 93), .ref (E 94), .ref (E 95), .ref (E 96), .ref (E 97), .ref (E 98), .ref (E 99), .ref (E 100), .int 0, .ref (E 101), .ref (E 102), .ref (E 103), .ref (E 104), .int 0, .ref (E 105), .ref (E 106), .ref (E 107), .int 0, .int 0, .int 0, .int 0, .int 0, .int 0, .ref (E 108), .ref (E 109), .long 0])), ((E 91), .inl (cyI, 5, .inl (fun _ => 0))), ((E 92), .inl (cyI, 20, .inl (fun _ => 0)))]) [85, 91, 92] rfl
  have hKc := hK.sub (tys' := [(cyI, .int), (cyB, .byte), (cyJ, .long), (cyZ, .boolean), (cyH, .object RX2), (cyN, .array .long)]) [0, 1, 2, 3, 4, 5] rfl
  have hDc := hD.sub (ws' := [((E 85), .inr (11, [.int 0, .ref (E 86), .ref (E 87), .ref (E 88), .ref (E 89), .ref (E 90), .int 0, .int 0, .int 0, .int 0, .int 0, .long 0, .int 0, .int 0, .int 0, .int (-1), .ref (E 91), .ref (E 92), .ref (E 93), .ref (E 94), .ref (E 95), .ref (E 96), .ref (E 97), .ref (E 98), .ref (E 99), .ref (E 100), .int 0, .ref (E 101), .ref (E 102), .ref (E 103), .ref (E 104), .int 0, .ref (E 105), .ref (E 106), .ref (E 107), .int 0, .int 0, .int 0, .int 0, .int 0, .int 0, .ref (E 108), .ref (E 109), .long 0])), ((E 91), .inl (cyI, 5, .inl (fun _ => 0))), ((E 92), .inl (cyI, 20, .inl (fun _ => 0)))]) [85, 91, 92] (by decide) rfl
  have hFc := va_free (wc := [((E 85), .inr (11, [.int 0, .ref (E 86), .ref (E 87), .ref (E 88), .ref (E 89), .ref (E 90), .int 0, .int 0, .int 0, .int 0, .int 0, .long 0, .int 0, .int 0, .int 0, .int (-1), .ref (E 91), .ref (E 92), .ref (E 93), .ref (E 94), .ref (E 95), .ref (E 96), .ref (E 97), .ref (E 98), .ref (E 99), .ref (E 100), .int 0, .ref (E 101), .ref (E 102), .ref (E 103), .ref (E 104), .int 0, .ref (E 105), .ref (E 106), .ref (E 107), .int 0, .int 0, .int 0, .int 0, .int 0, .int 0, .ref (E 108), .ref (E 109), .long 0])), ((E 91), .inl (cyI, 5, .inl (fun _ => 0))), ((E 92), .inl (cyI, 20, .inl (fun _ => 0)))]) hD hS hA [85, 91, 92] rfl
  refine va_calli (va_runV (As := [.int (xs 1)]) (rest := [.int (-2)]) ⟨hx, hb, hml, hown, hts⟩ (m_right l dC dI cyI cyB cyJ cyZ cyH cyN H.size (E 85) (E 86) (E 87) (E 88) (E 89) (E 90) (E 91) (E 92) (E 93) (E 94) (E 95) (E 96) (E 97) (E 98) (E 99) (E 100) (E 101) (E 102) (E 103) (E 104) (E 105) (E 106) (E 107) (E 108) (E 109) (xs 1)) (cwV 1 hts (gdV wd_7_136 wd_7_137 wd_7_138 wd_1_11 wd_7_139) rfl rfl rfl (by decide +kernel) ⟨Nat.le_of_ble_eq_true rfl, Nat.le_of_ble_eq_true rfl⟩) ⟨fun a U g mk q => by obtain ⟨q0, q1, qP, qK, qD⟩ := q; exact ⟨q0, q1, qP, va_K.moved (u := U) (U := U.calling g mk a) (Vm.Alike.refl U.vm) qK, qD⟩, va_recv hKc hPc (ci := 11) (q0 := 0) rfl rfl, fun U hU hW => ⟨rfl, by rw [hU], by rw [hU]; exact hPc, va_K.moved hW.alike hKc, hDc.weaken (fun _ _ _ _ => trivial)⟩⟩ rfl rfl hl.1 rfl (lv_room (Nat.le_of_ble_eq_true rfl)) dL_law_617 ⟨Nat.le_of_ble_eq_true rfl, Nat.le_of_ble_eq_true rfl⟩) hS (fun q _ h => hFc q h) hFc (fun r_2 u t H1 locs ht hvm hw hB hz1 hk1 hS => ?_)
  generalize H1 = H at hS ⊢
  subst hw
  refine lv_icmp_eq (tgt := 1931) hx hb dL_law_620 (by decide) (fun _ => ?_) (fun c_3 => absurd c_3 (by decide))
  have hS9 : va_S (fun q : Nat => s.heap.size ≤ q) s.heap H locs := by rw [← hAe]; exact hS
  exact law_end C0 hS9 (lv_sub hl [3, 0] rfl) (Nat.le_of_ble_eq_true rfl) (Nat.le_of_ble_eq_true rfl)

set_option maxHeartbeats 4000000 in
set_option maxRecDepth 100000 in
theorem law_c11 {p : Program} {l : Launch} {e : Env} {s : State} {m : MethodId} {below : List Frame} {meth : Method} {c : Code} {b : Nat} {xs : Nat → Int32} (C0 : lw_At p s m meth c b 6 xs) (dC : Nat → ClassId) (dI : Nat → Nat → Nat) (cyI cyB cyJ cyZ cyH cyN : ClassId) (E : Nat → Nat) (iF nF : Nat → Option Nat) (wF : Nat → Int32) (g0 : nF 0 = some (E 57)) (g1 : nF 1 = some (E 58)) (g2 : nF 2 = some (E 59)) (g3 : nF 3 = some (E 60)) (g4 : iF 0 = some (E 24)) (g5 : iF 1 = some (E 34)) (g6 : iF 2 = some (E 44)) (g7 : ∀ j : Nat, j < 4 → wF j = -1) {H : Heap} {locs : List Loc} {ls : Array Slot} (hK : va_K (dC, dI) vwCl [(cyI, .int), (cyB, .byte), (cyJ, .long), (cyZ, .boolean), (cyH, .object RX2), (cyN, .array .long)] s) (hP : va_P (dC, dI) vwCl (wAll cyI cyB cyJ cyZ cyH cyN E iF nF wF) H) {A : Nat → Prop} (hAe : A = fun q => s.heap.size ≤ q) (hD : va_D A (wAll cyI cyB cyJ cyZ cyH cyN E iF nF wF)) (hS : va_S A s.heap H locs) (hl : lv_has ls 4 [(3, .int 0), (2, .ref (E 85)), (1, .ref (E 0)), (0, .ref b)]) : W p l e room_1 s m #[Value.ref b] below meth c H locs 110 15598 (lw_Z below #[Value.ref b] s) (F0 m 625 ls []) := by
  obtain ⟨hx, hb, hr, hml, hown, hts0, hX, hbl, hlocks, hgv⟩ := id C0
  have hts : ∀ w ∈ uU, w.before #[Value.ref b] s = true := fun w h => hts0 w (uU_in h)
  have hbA : ¬ A b := by rw [hAe]; exact Nat.not_le.mpr hbl
  have hA : ∀ q : Nat, s.heap.size ≤ q → A q := fun q h => by rw [hAe]; exact h
  refine lv_aload_n hx hb dL_law_625 rfl (lv_at hl 2 rfl) ?_
  have hPc := hP.sub (ws' := [((E 0), .inr (10, [.ref (E 1), .ref (E 3), .ref (E 13), .ref (E 23), .ref (E 54), .ref (E 55), .ref (E 64), .ref (E 69), .ref (E 71), .ref (E 75), .ref (E 78), .ref (E 80), .ref (E 83), .ref (E 84), .null])), ((E 3), .inr (2, [.int 0, .int 0, .int 0, .int 0, .int 0, .int 0, .ref (E 4), .ref (E 5), .ref (E 6), .ref (E 7), .ref (E 8), .ref (E 9), .ref (E 10), .ref (E 11), .ref (E 12)]))]) [0, 3] rfl
  have hKc := hK.sub (tys' := [(cyI, .int), (cyB, .byte), (cyJ, .long), (cyZ, .boolean), (cyH, .object RX2), (cyN, .array .long)]) [0, 1, 2, 3, 4, 5] rfl
  refine vp_callSi (va_Run.run (va_runV (As := []) (rest := []) ⟨hx, hb, hml, hown, hts⟩ (c_rights l dC dI cyI cyB cyJ cyZ cyH cyN (E 0) (E 1) (E 3) (E 13) (E 23) (E 54) (E 55) (E 64) (E 69) (E 71) (E 75) (E 78) (E 80) (E 83) (E 84) (E 4) (E 5) (E 6) (E 7) (E 8) (E 9) (E 10) (E 11) (E 12)) (cwV 0 hts (gdV wd_3_146 wd_3_147 wd_3_148 wd_1_1 wd_3_149) rfl rfl rfl (by decide +kernel) ⟨Nat.le_of_ble_eq_true rfl, Nat.le_of_ble_eq_true rfl⟩) ⟨fun a U g mk q => by obtain ⟨q0, qP, qK⟩ := q; exact ⟨q0, qP, va_K.moved (u := U) (U := U.calling g mk a) (Vm.Alike.refl U.vm) qK⟩, va_recv hKc hPc (ci := 10) (q0 := 0) rfl rfl, fun U hU hW => ⟨rfl, by rw [hU]; exact hPc, va_K.moved hW.alike hKc⟩⟩ rfl rfl hl.1 rfl (lv_room (Nat.le_of_ble_eq_true rfl)) dL_law_626 ⟨Nat.le_of_ble_eq_true rfl, Nat.le_of_ble_eq_true rfl⟩)) (fun r_1 hw => ?_)
  subst hw
  refine lv_aload_n hx hb dL_law_629 rfl (lv_at hl 1 rfl) ?_
  have hPc := hP.sub (ws' := [((E 85), .inr (11, [.int 0, .ref (E 86), .ref (E 87), .ref (E 88), .ref (E 89), .ref (E 90), .int 0, .int 0, .int 0, .int 0, .int 0, .long 0, .int 0, .int 0, .int 0, .int (-1), .ref (E 91), .ref (E 92), .ref (E 93), .ref (E 94), .ref (E 95), .ref (E 96), .ref (E 97), .ref (E 98), .ref (E 99), .ref (E 100), .int 0, .ref (E 101), .ref (E 102), .ref (E 103), .ref (E 104), .int 0, .ref (E 105), .ref (E 106), .ref (E 107), .int 0, .int 0, .int 0, .int 0, .int 0, .int 0, .ref (E 108), .ref (E 109), .long 0])), ((E 91), .inl (cyI, 5, .inl (fun _ => 0))), ((E 92), .inl (cyI, 20, .inl (fun _ => 0)))]) [85, 91, 92] rfl
  have hKc := hK.sub (tys' := [(cyI, .int), (cyB, .byte), (cyJ, .long), (cyZ, .boolean), (cyH, .object RX2), (cyN, .array .long)]) [0, 1, 2, 3, 4, 5] rfl
  have hDc := hD.sub (ws' := [((E 85), .inr (11, [.int 0, .ref (E 86), .ref (E 87), .ref (E 88), .ref (E 89), .ref (E 90), .int 0, .int 0, .int 0, .int 0, .int 0, .long 0, .int 0, .int 0, .int 0, .int (-1), .ref (E 91), .ref (E 92), .ref (E 93), .ref (E 94), .ref (E 95), .ref (E 96), .ref (E 97), .ref (E 98), .ref (E 99), .ref (E 100), .int 0, .ref (E 101), .ref (E 102), .ref (E 103), .ref (E 104), .int 0, .ref (E 105), .ref (E 106), .ref (E 107), .int 0, .int 0, .int 0, .int 0, .int 0, .int 0, .ref (E 108), .ref (E 109), .long 0])), ((E 91), .inl (cyI, 5, .inl (fun _ => 0))), ((E 92), .inl (cyI, 20, .inl (fun _ => 0)))]) [85, 91, 92] (by decide) rfl
  have hFc := va_free (wc := [((E 85), .inr (11, [.int 0, .ref (E 86), .ref (E 87), .ref (E 88), .ref (E 89), .ref (E 90), .int 0, .int 0, .int 0, .int 0, .int 0, .long 0, .int 0, .int 0, .int 0, .int (-1), .ref (E 91), .ref (E 92), .ref (E 93), .ref (E 94), .ref (E 95), .ref (E 96), .ref (E 97), .ref (E 98), .ref (E 99), .ref (E 100), .int 0, .ref (E 101), .ref (E 102), .ref (E 103), .ref (E 104), .int 0, .ref (E 105), .ref (E 106), .ref (E 107), .int 0, .int 0, .int 0, .int 0, .int 0, .int 0, .ref (E 108), .ref (E 109), .long 0])), ((E 91), .inl (cyI, 5, .inl (fun _ => 0))), ((E 92), .inl (cyI, 20, .inl (fun _ => 0)))]) hD hS hA [85, 91, 92] rfl
  refine va_calli (va_runV (As := []) (rest := [.int (-2)]) ⟨hx, hb, hml, hown, hts⟩ (m_rights l dC dI cyI cyB cyJ cyZ cyH cyN H.size (E 85) (E 86) (E 87) (E 88) (E 89) (E 90) (E 91) (E 92) (E 93) (E 94) (E 95) (E 96) (E 97) (E 98) (E 99) (E 100) (E 101) (E 102) (E 103) (E 104) (E 105) (E 106) (E 107) (E 108) (E 109)) (cwV 0 hts (gdV wd_7_151 wd_7_152 wd_7_153 wd_1_11 wd_7_154) rfl rfl rfl (by decide +kernel) ⟨Nat.le_of_ble_eq_true rfl, Nat.le_of_ble_eq_true rfl⟩) ⟨fun a U g mk q => by obtain ⟨q0, q1, qP, qK, qD⟩ := q; exact ⟨q0, q1, qP, va_K.moved (u := U) (U := U.calling g mk a) (Vm.Alike.refl U.vm) qK, qD⟩, va_recv hKc hPc (ci := 11) (q0 := 0) rfl rfl, fun U hU hW => ⟨rfl, by rw [hU], by rw [hU]; exact hPc, va_K.moved hW.alike hKc, hDc.weaken (fun _ _ _ _ => trivial)⟩⟩ rfl rfl hl.1 rfl (lv_room (Nat.le_of_ble_eq_true rfl)) dL_law_630 ⟨Nat.le_of_ble_eq_true rfl, Nat.le_of_ble_eq_true rfl⟩) hS (fun q _ h => hFc q h) hFc (fun r_2 u t H1 locs ht hvm hw hB hz1 hk1 hS => ?_)
  generalize H1 = H at hS ⊢
  subst hw
  refine lv_icmp_eq (tgt := 1931) hx hb dL_law_633 (by decide) (fun _ => ?_) (fun c_3 => absurd c_3 (by decide))
  have hS9 : va_S (fun q : Nat => s.heap.size ≤ q) s.heap H locs := by rw [← hAe]; exact hS
  exact law_end C0 hS9 (lv_sub hl [3, 0] rfl) (Nat.le_of_ble_eq_true rfl) (Nat.le_of_ble_eq_true rfl)

set_option maxHeartbeats 4000000 in
set_option maxRecDepth 100000 in
theorem law_c12 {p : Program} {l : Launch} {e : Env} {s : State} {m : MethodId} {below : List Frame} {meth : Method} {c : Code} {b : Nat} {xs : Nat → Int32} (C0 : lw_At p s m meth c b 6 xs) (dC : Nat → ClassId) (dI : Nat → Nat → Nat) (cyI cyB cyJ cyZ cyH cyN : ClassId) (E : Nat → Nat) (iF nF : Nat → Option Nat) (wF : Nat → Int32) (g0 : nF 0 = some (E 57)) (g1 : nF 1 = some (E 58)) (g2 : nF 2 = some (E 59)) (g3 : nF 3 = some (E 60)) (g4 : iF 0 = some (E 24)) (g5 : iF 1 = some (E 34)) (g6 : iF 2 = some (E 44)) (g7 : ∀ j : Nat, j < 4 → wF j = -1) {H : Heap} {locs : List Loc} {ls : Array Slot} (hK : va_K (dC, dI) vwCl [(cyI, .int), (cyB, .byte), (cyJ, .long), (cyZ, .boolean), (cyH, .object RX2), (cyN, .array .long)] s) (hP : va_P (dC, dI) vwCl (wAll cyI cyB cyJ cyZ cyH cyN E iF nF wF) H) {A : Nat → Prop} (hAe : A = fun q => s.heap.size ≤ q) (hD : va_D A (wAll cyI cyB cyJ cyZ cyH cyN E iF nF wF)) (hS : va_S A s.heap H locs) (hl : lv_has ls 4 [(3, .int 0), (2, .ref (E 85)), (1, .ref (E 0)), (0, .ref b)]) : W p l e room_1 s m #[Value.ref b] below meth c H locs 110 15598 (lw_Z below #[Value.ref b] s) (F0 m 638 ls []) := by
  obtain ⟨hx, hb, hr, hml, hown, hts0, hX, hbl, hlocks, hgv⟩ := id C0
  have hts : ∀ w ∈ uU, w.before #[Value.ref b] s = true := fun w h => hts0 w (uU_in h)
  have hbA : ¬ A b := by rw [hAe]; exact Nat.not_le.mpr hbl
  have hA : ∀ q : Nat, s.heap.size ≤ q → A q := fun q h => by rw [hAe]; exact h
  refine lv_aload_n hx hb dL_law_638 rfl (lv_at hl 2 rfl) ?_
  have hPc := hP.sub (ws' := [((E 0), .inr (10, [.ref (E 1), .ref (E 3), .ref (E 13), .ref (E 23), .ref (E 54), .ref (E 55), .ref (E 64), .ref (E 69), .ref (E 71), .ref (E 75), .ref (E 78), .ref (E 80), .ref (E 83), .ref (E 84), .null])), ((E 3), .inr (2, [.int 0, .int 0, .int 0, .int 0, .int 0, .int 0, .ref (E 4), .ref (E 5), .ref (E 6), .ref (E 7), .ref (E 8), .ref (E 9), .ref (E 10), .ref (E 11), .ref (E 12)]))]) [0, 3] rfl
  have hKc := hK.sub (tys' := [(cyI, .int), (cyB, .byte), (cyJ, .long), (cyZ, .boolean), (cyH, .object RX2), (cyN, .array .long)]) [0, 1, 2, 3, 4, 5] rfl
  refine vp_callSi (va_Run.run (va_runV (As := []) (rest := []) ⟨hx, hb, hml, hown, hts⟩ (c_whole l dC dI cyI cyB cyJ cyZ cyH cyN (E 0) (E 1) (E 3) (E 13) (E 23) (E 54) (E 55) (E 64) (E 69) (E 71) (E 75) (E 78) (E 80) (E 83) (E 84) (E 4) (E 5) (E 6) (E 7) (E 8) (E 9) (E 10) (E 11) (E 12)) (cwV 0 hts (gdV wd_3_151 wd_3_152 wd_3_153 wd_1_1 wd_3_154) rfl rfl rfl (by decide +kernel) ⟨Nat.le_of_ble_eq_true rfl, Nat.le_of_ble_eq_true rfl⟩) ⟨fun a U g mk q => by obtain ⟨q0, qP, qK⟩ := q; exact ⟨q0, qP, va_K.moved (u := U) (U := U.calling g mk a) (Vm.Alike.refl U.vm) qK⟩, va_recv hKc hPc (ci := 10) (q0 := 0) rfl rfl, fun U hU hW => ⟨rfl, by rw [hU]; exact hPc, va_K.moved hW.alike hKc⟩⟩ rfl rfl hl.1 rfl (lv_room (Nat.le_of_ble_eq_true rfl)) dL_law_639 ⟨Nat.le_of_ble_eq_true rfl, Nat.le_of_ble_eq_true rfl⟩)) (fun r_1 hw => ?_)
  subst hw
  refine lv_aload_n hx hb dL_law_642 rfl (lv_at hl 1 rfl) ?_
  have hPc := hP.sub (ws' := [((E 85), .inr (11, [.int 0, .ref (E 86), .ref (E 87), .ref (E 88), .ref (E 89), .ref (E 90), .int 0, .int 0, .int 0, .int 0, .int 0, .long 0, .int 0, .int 0, .int 0, .int (-1), .ref (E 91), .ref (E 92), .ref (E 93), .ref (E 94), .ref (E 95), .ref (E 96), .ref (E 97), .ref (E 98), .ref (E 99), .ref (E 100), .int 0, .ref (E 101), .ref (E 102), .ref (E 103), .ref (E 104), .int 0, .ref (E 105), .ref (E 106), .ref (E 107), .int 0, .int 0, .int 0, .int 0, .int 0, .int 0, .ref (E 108), .ref (E 109), .long 0])), ((E 91), .inl (cyI, 5, .inl (fun _ => 0))), ((E 92), .inl (cyI, 20, .inl (fun _ => 0)))]) [85, 91, 92] rfl
  have hKc := hK.sub (tys' := [(cyI, .int), (cyB, .byte), (cyJ, .long), (cyZ, .boolean), (cyH, .object RX2), (cyN, .array .long)]) [0, 1, 2, 3, 4, 5] rfl
  have hDc := hD.sub (ws' := [((E 85), .inr (11, [.int 0, .ref (E 86), .ref (E 87), .ref (E 88), .ref (E 89), .ref (E 90), .int 0, .int 0, .int 0, .int 0, .int 0, .long 0, .int 0, .int 0, .int 0, .int (-1), .ref (E 91), .ref (E 92), .ref (E 93), .ref (E 94), .ref (E 95), .ref (E 96), .ref (E 97), .ref (E 98), .ref (E 99), .ref (E 100), .int 0, .ref (E 101), .ref (E 102), .ref (E 103), .ref (E 104), .int 0, .ref (E 105), .ref (E 106), .ref (E 107), .int 0, .int 0, .int 0, .int 0, .int 0, .int 0, .ref (E 108), .ref (E 109), .long 0])), ((E 91), .inl (cyI, 5, .inl (fun _ => 0))), ((E 92), .inl (cyI, 20, .inl (fun _ => 0)))]) [85, 91, 92] (by decide) rfl
  have hFc := va_free (wc := [((E 85), .inr (11, [.int 0, .ref (E 86), .ref (E 87), .ref (E 88), .ref (E 89), .ref (E 90), .int 0, .int 0, .int 0, .int 0, .int 0, .long 0, .int 0, .int 0, .int 0, .int (-1), .ref (E 91), .ref (E 92), .ref (E 93), .ref (E 94), .ref (E 95), .ref (E 96), .ref (E 97), .ref (E 98), .ref (E 99), .ref (E 100), .int 0, .ref (E 101), .ref (E 102), .ref (E 103), .ref (E 104), .int 0, .ref (E 105), .ref (E 106), .ref (E 107), .int 0, .int 0, .int 0, .int 0, .int 0, .int 0, .ref (E 108), .ref (E 109), .long 0])), ((E 91), .inl (cyI, 5, .inl (fun _ => 0))), ((E 92), .inl (cyI, 20, .inl (fun _ => 0)))]) hD hS hA [85, 91, 92] rfl
  refine va_calli (va_runV (As := []) (rest := [.int (-2)]) ⟨hx, hb, hml, hown, hts⟩ (m_whole l dC dI cyI cyB cyJ cyZ cyH cyN H.size (E 85) (E 86) (E 87) (E 88) (E 89) (E 90) (E 91) (E 92) (E 93) (E 94) (E 95) (E 96) (E 97) (E 98) (E 99) (E 100) (E 101) (E 102) (E 103) (E 104) (E 105) (E 106) (E 107) (E 108) (E 109)) (cwV 0 hts (gdV wd_7_155 wd_7_156 wd_7_157 wd_1_11 wd_7_158) rfl rfl rfl (by decide +kernel) ⟨Nat.le_of_ble_eq_true rfl, Nat.le_of_ble_eq_true rfl⟩) ⟨fun a U g mk q => by obtain ⟨q0, q1, qP, qK, qD⟩ := q; exact ⟨q0, q1, qP, va_K.moved (u := U) (U := U.calling g mk a) (Vm.Alike.refl U.vm) qK, qD⟩, va_recv hKc hPc (ci := 11) (q0 := 0) rfl rfl, fun U hU hW => ⟨rfl, by rw [hU], by rw [hU]; exact hPc, va_K.moved hW.alike hKc, hDc.weaken (fun _ _ _ _ => trivial)⟩⟩ rfl rfl hl.1 rfl (lv_room (Nat.le_of_ble_eq_true rfl)) dL_law_643 ⟨Nat.le_of_ble_eq_true rfl, Nat.le_of_ble_eq_true rfl⟩) hS (fun q _ h => hFc q h) hFc (fun r_2 u t H1 locs ht hvm hw hB hz1 hk1 hS => ?_)
  generalize H1 = H at hS ⊢
  subst hw
  refine lv_icmp_eq (tgt := 1931) hx hb dL_law_646 (by decide) (fun _ => ?_) (fun c_3 => absurd c_3 (by decide))
  have hS9 : va_S (fun q : Nat => s.heap.size ≤ q) s.heap H locs := by rw [← hAe]; exact hS
  exact law_end C0 hS9 (lv_sub hl [3, 0] rfl) (Nat.le_of_ble_eq_true rfl) (Nat.le_of_ble_eq_true rfl)

set_option maxHeartbeats 4000000 in
set_option maxRecDepth 100000 in
theorem law_c13 {p : Program} {l : Launch} {e : Env} {s : State} {m : MethodId} {below : List Frame} {meth : Method} {c : Code} {b : Nat} {xs : Nat → Int32} (C0 : lw_At p s m meth c b 6 xs) (dC : Nat → ClassId) (dI : Nat → Nat → Nat) (cyI cyB cyJ cyZ cyH cyN : ClassId) (E : Nat → Nat) (iF nF : Nat → Option Nat) (wF : Nat → Int32) (g0 : nF 0 = some (E 57)) (g1 : nF 1 = some (E 58)) (g2 : nF 2 = some (E 59)) (g3 : nF 3 = some (E 60)) (g4 : iF 0 = some (E 24)) (g5 : iF 1 = some (E 34)) (g6 : iF 2 = some (E 44)) (g7 : ∀ j : Nat, j < 4 → wF j = -1) {H : Heap} {locs : List Loc} {ls : Array Slot} (hK : va_K (dC, dI) vwCl [(cyI, .int), (cyB, .byte), (cyJ, .long), (cyZ, .boolean), (cyH, .object RX2), (cyN, .array .long)] s) (hP : va_P (dC, dI) vwCl (wAll cyI cyB cyJ cyZ cyH cyN E iF nF wF) H) {A : Nat → Prop} (hAe : A = fun q => s.heap.size ≤ q) (hD : va_D A (wAll cyI cyB cyJ cyZ cyH cyN E iF nF wF)) (hS : va_S A s.heap H locs) (hl : lv_has ls 4 [(3, .int 0), (2, .ref (E 85)), (1, .ref (E 0)), (0, .ref b)]) : W p l e room_1 s m #[Value.ref b] below meth c H locs 110 15598 (lw_Z below #[Value.ref b] s) (F0 m 651 ls []) := by
  obtain ⟨hx, hb, hr, hml, hown, hts0, hX, hbl, hlocks, hgv⟩ := id C0
  have hts : ∀ w ∈ uU, w.before #[Value.ref b] s = true := fun w h => hts0 w (uU_in h)
  have hbA : ¬ A b := by rw [hAe]; exact Nat.not_le.mpr hbl
  have hA : ∀ q : Nat, s.heap.size ≤ q → A q := fun q h => by rw [hAe]; exact h
  refine lv_aload_n hx hb dL_law_651 rfl (lv_at hl 2 rfl) ?_
  have hPc := hP.sub (ws' := [((E 0), .inr (10, [.ref (E 1), .ref (E 3), .ref (E 13), .ref (E 23), .ref (E 54), .ref (E 55), .ref (E 64), .ref (E 69), .ref (E 71), .ref (E 75), .ref (E 78), .ref (E 80), .ref (E 83), .ref (E 84), .null])), ((E 3), .inr (2, [.int 0, .int 0, .int 0, .int 0, .int 0, .int 0, .ref (E 4), .ref (E 5), .ref (E 6), .ref (E 7), .ref (E 8), .ref (E 9), .ref (E 10), .ref (E 11), .ref (E 12)]))]) [0, 3] rfl
  have hKc := hK.sub (tys' := [(cyI, .int), (cyB, .byte), (cyJ, .long), (cyZ, .boolean), (cyH, .object RX2), (cyN, .array .long)]) [0, 1, 2, 3, 4, 5] rfl
  refine vp_callSi (va_Run.run (va_runV (As := []) (rest := []) ⟨hx, hb, hml, hown, hts⟩ (c_round l dC dI cyI cyB cyJ cyZ cyH cyN (E 0) (E 1) (E 3) (E 13) (E 23) (E 54) (E 55) (E 64) (E 69) (E 71) (E 75) (E 78) (E 80) (E 83) (E 84) (E 4) (E 5) (E 6) (E 7) (E 8) (E 9) (E 10) (E 11) (E 12)) (cwV 0 hts (gdV wd_3_163 wd_3_164 wd_3_165 wd_1_1 wd_3_166) rfl rfl rfl (by decide +kernel) ⟨Nat.le_of_ble_eq_true rfl, Nat.le_of_ble_eq_true rfl⟩) ⟨fun a U g mk q => by obtain ⟨q0, qP, qK⟩ := q; exact ⟨q0, qP, va_K.moved (u := U) (U := U.calling g mk a) (Vm.Alike.refl U.vm) qK⟩, va_recv hKc hPc (ci := 10) (q0 := 0) rfl rfl, fun U hU hW => ⟨rfl, by rw [hU]; exact hPc, va_K.moved hW.alike hKc⟩⟩ rfl rfl hl.1 rfl (lv_room (Nat.le_of_ble_eq_true rfl)) dL_law_652 ⟨Nat.le_of_ble_eq_true rfl, Nat.le_of_ble_eq_true rfl⟩)) (fun r_1 hw => ?_)
  subst hw
  refine lv_aload_n hx hb dL_law_655 rfl (lv_at hl 1 rfl) ?_
  have hPc := hP.sub (ws' := [((E 85), .inr (11, [.int 0, .ref (E 86), .ref (E 87), .ref (E 88), .ref (E 89), .ref (E 90), .int 0, .int 0, .int 0, .int 0, .int 0, .long 0, .int 0, .int 0, .int 0, .int (-1), .ref (E 91), .ref (E 92), .ref (E 93), .ref (E 94), .ref (E 95), .ref (E 96), .ref (E 97), .ref (E 98), .ref (E 99), .ref (E 100), .int 0, .ref (E 101), .ref (E 102), .ref (E 103), .ref (E 104), .int 0, .ref (E 105), .ref (E 106), .ref (E 107), .int 0, .int 0, .int 0, .int 0, .int 0, .int 0, .ref (E 108), .ref (E 109), .long 0])), ((E 91), .inl (cyI, 5, .inl (fun _ => 0))), ((E 92), .inl (cyI, 20, .inl (fun _ => 0)))]) [85, 91, 92] rfl
  have hKc := hK.sub (tys' := [(cyI, .int), (cyB, .byte), (cyJ, .long), (cyZ, .boolean), (cyH, .object RX2), (cyN, .array .long)]) [0, 1, 2, 3, 4, 5] rfl
  have hDc := hD.sub (ws' := [((E 85), .inr (11, [.int 0, .ref (E 86), .ref (E 87), .ref (E 88), .ref (E 89), .ref (E 90), .int 0, .int 0, .int 0, .int 0, .int 0, .long 0, .int 0, .int 0, .int 0, .int (-1), .ref (E 91), .ref (E 92), .ref (E 93), .ref (E 94), .ref (E 95), .ref (E 96), .ref (E 97), .ref (E 98), .ref (E 99), .ref (E 100), .int 0, .ref (E 101), .ref (E 102), .ref (E 103), .ref (E 104), .int 0, .ref (E 105), .ref (E 106), .ref (E 107), .int 0, .int 0, .int 0, .int 0, .int 0, .int 0, .ref (E 108), .ref (E 109), .long 0])), ((E 91), .inl (cyI, 5, .inl (fun _ => 0))), ((E 92), .inl (cyI, 20, .inl (fun _ => 0)))]) [85, 91, 92] (by decide) rfl
  have hFc := va_free (wc := [((E 85), .inr (11, [.int 0, .ref (E 86), .ref (E 87), .ref (E 88), .ref (E 89), .ref (E 90), .int 0, .int 0, .int 0, .int 0, .int 0, .long 0, .int 0, .int 0, .int 0, .int (-1), .ref (E 91), .ref (E 92), .ref (E 93), .ref (E 94), .ref (E 95), .ref (E 96), .ref (E 97), .ref (E 98), .ref (E 99), .ref (E 100), .int 0, .ref (E 101), .ref (E 102), .ref (E 103), .ref (E 104), .int 0, .ref (E 105), .ref (E 106), .ref (E 107), .int 0, .int 0, .int 0, .int 0, .int 0, .int 0, .ref (E 108), .ref (E 109), .long 0])), ((E 91), .inl (cyI, 5, .inl (fun _ => 0))), ((E 92), .inl (cyI, 20, .inl (fun _ => 0)))]) hD hS hA [85, 91, 92] rfl
  refine va_calli (va_runV (As := []) (rest := [.int (-2)]) ⟨hx, hb, hml, hown, hts⟩ (m_round l dC dI cyI cyB cyJ cyZ cyH cyN H.size (E 85) (E 86) (E 87) (E 88) (E 89) (E 90) (E 91) (E 92) (E 93) (E 94) (E 95) (E 96) (E 97) (E 98) (E 99) (E 100) (E 101) (E 102) (E 103) (E 104) (E 105) (E 106) (E 107) (E 108) (E 109)) (cwV 0 hts (gdV wd_7_159 wd_7_160 wd_7_161 wd_1_11 wd_7_162) rfl rfl rfl (by decide +kernel) ⟨Nat.le_of_ble_eq_true rfl, Nat.le_of_ble_eq_true rfl⟩) ⟨fun a U g mk q => by obtain ⟨q0, q1, qP, qK, qD⟩ := q; exact ⟨q0, q1, qP, va_K.moved (u := U) (U := U.calling g mk a) (Vm.Alike.refl U.vm) qK, qD⟩, va_recv hKc hPc (ci := 11) (q0 := 0) rfl rfl, fun U hU hW => ⟨rfl, by rw [hU], by rw [hU]; exact hPc, va_K.moved hW.alike hKc, hDc.weaken (fun _ _ _ _ => trivial)⟩⟩ rfl rfl hl.1 rfl (lv_room (Nat.le_of_ble_eq_true rfl)) dL_law_656 ⟨Nat.le_of_ble_eq_true rfl, Nat.le_of_ble_eq_true rfl⟩) hS (fun q _ h => hFc q h) hFc (fun r_2 u t H1 locs ht hvm hw hB hz1 hk1 hS => ?_)
  generalize H1 = H at hS ⊢
  subst hw
  refine lv_icmp_eq (tgt := 1931) hx hb dL_law_659 (by decide) (fun _ => ?_) (fun c_3 => absurd c_3 (by decide))
  have hS9 : va_S (fun q : Nat => s.heap.size ≤ q) s.heap H locs := by rw [← hAe]; exact hS
  exact law_end C0 hS9 (lv_sub hl [3, 0] rfl) (Nat.le_of_ble_eq_true rfl) (Nat.le_of_ble_eq_true rfl)

set_option maxHeartbeats 4000000 in
set_option maxRecDepth 100000 in
theorem law_c14 {p : Program} {l : Launch} {e : Env} {s : State} {m : MethodId} {below : List Frame} {meth : Method} {c : Code} {b : Nat} {xs : Nat → Int32} (C0 : lw_At p s m meth c b 6 xs) (dC : Nat → ClassId) (dI : Nat → Nat → Nat) (cyI cyB cyJ cyZ cyH cyN : ClassId) (E : Nat → Nat) (iF nF : Nat → Option Nat) (wF : Nat → Int32) (g0 : nF 0 = some (E 57)) (g1 : nF 1 = some (E 58)) (g2 : nF 2 = some (E 59)) (g3 : nF 3 = some (E 60)) (g4 : iF 0 = some (E 24)) (g5 : iF 1 = some (E 34)) (g6 : iF 2 = some (E 44)) (g7 : ∀ j : Nat, j < 4 → wF j = -1) {H : Heap} {locs : List Loc} {ls : Array Slot} (hK : va_K (dC, dI) vwCl [(cyI, .int), (cyB, .byte), (cyJ, .long), (cyZ, .boolean), (cyH, .object RX2), (cyN, .array .long)] s) (hP : va_P (dC, dI) vwCl (wAll cyI cyB cyJ cyZ cyH cyN E iF nF wF) H) {A : Nat → Prop} (hAe : A = fun q => s.heap.size ≤ q) (hD : va_D A (wAll cyI cyB cyJ cyZ cyH cyN E iF nF wF)) (hS : va_S A s.heap H locs) (hl : lv_has ls 4 [(3, .int 0), (2, .ref (E 85)), (1, .ref (E 0)), (0, .ref b)]) : W p l e room_1 s m #[Value.ref b] below meth c H locs 110 15598 (lw_Z below #[Value.ref b] s) (F0 m 664 ls []) := by
  obtain ⟨hx, hb, hr, hml, hown, hts0, hX, hbl, hlocks, hgv⟩ := id C0
  have hts : ∀ w ∈ uU, w.before #[Value.ref b] s = true := fun w h => hts0 w (uU_in h)
  have hbA : ¬ A b := by rw [hAe]; exact Nat.not_le.mpr hbl
  have hA : ∀ q : Nat, s.heap.size ≤ q → A q := fun q h => by rw [hAe]; exact h
  refine lv_aload_n hx hb dL_law_664 rfl (lv_at hl 2 rfl) ?_
  refine lv_aload_n hx hb dL_law_665 rfl (lv_at hl 3 rfl) ?_
  refine lv_iload_n hx hb dL_law_666 rfl (lv_at hl 0 rfl) ?_
  refine lv_iconst (v := 1) hx hb dL_law_667 (by decide) ?_
  refine lv_iadd hx hb dL_law_668 ?_
  refine cv_topi (b := 1) (by decide) ?_
  refine va_sld hx hb hX hbl hbA hS (vp_in_iff.mpr (by decide)) dL_law_669 ?_
  refine cv_topi (b := xs 1) rfl ?_
  refine lv_aload_n hx hb dL_law_670 rfl (lv_at hl 3 rfl) ?_
  refine lv_iload_n hx hb dL_law_671 rfl (lv_at hl 0 rfl) ?_
  refine lv_iconst (v := 2) hx hb dL_law_672 (by decide) ?_
  refine lv_iadd hx hb dL_law_673 ?_
  refine cv_topi (b := 2) (by decide) ?_
  refine va_sld hx hb hX hbl hbA hS (vp_in_iff.mpr (by decide)) dL_law_674 ?_
  refine cv_topi (b := xs 2) rfl ?_
  have hPc := hP.sub (ws' := [((E 0), .inr (10, [.ref (E 1), .ref (E 3), .ref (E 13), .ref (E 23), .ref (E 54), .ref (E 55), .ref (E 64), .ref (E 69), .ref (E 71), .ref (E 75), .ref (E 78), .ref (E 80), .ref (E 83), .ref (E 84), .null])), ((E 3), .inr (2, [.int 0, .int 0, .int 0, .int 0, .int 0, .int 0, .ref (E 4), .ref (E 5), .ref (E 6), .ref (E 7), .ref (E 8), .ref (E 9), .ref (E 10), .ref (E 11), .ref (E 12)]))]) [0, 3] rfl
  have hKc := hK.sub (tys' := [(cyI, .int), (cyB, .byte), (cyJ, .long), (cyZ, .boolean), (cyH, .object RX2), (cyN, .array .long)]) [0, 1, 2, 3, 4, 5] rfl
  refine vp_callSi (va_Run.run (va_runV (As := [.int (xs 1), .int (xs 2)]) (rest := []) ⟨hx, hb, hml, hown, hts⟩ (c_comes l dC dI cyI cyB cyJ cyZ cyH cyN (E 0) (E 1) (E 3) (E 13) (E 23) (E 54) (E 55) (E 64) (E 69) (E 71) (E 75) (E 78) (E 80) (E 83) (E 84) (E 4) (E 5) (E 6) (E 7) (E 8) (E 9) (E 10) (E 11) (E 12) (xs 1) (xs 2)) (cwV 2 hts (gdV wd_3_167 wd_3_168 wd_3_169 wd_1_1 wd_3_170) rfl rfl rfl (by decide +kernel) ⟨Nat.le_of_ble_eq_true rfl, Nat.le_of_ble_eq_true rfl⟩) ⟨fun a U g mk q => by obtain ⟨q0, qP, qK⟩ := q; exact ⟨q0, qP, va_K.moved (u := U) (U := U.calling g mk a) (Vm.Alike.refl U.vm) qK⟩, va_recv hKc hPc (ci := 10) (q0 := 0) rfl rfl, fun U hU hW => ⟨rfl, by rw [hU]; exact hPc, va_K.moved hW.alike hKc⟩⟩ rfl rfl hl.1 rfl (lv_room (Nat.le_of_ble_eq_true rfl)) dL_law_675 ⟨Nat.le_of_ble_eq_true rfl, Nat.le_of_ble_eq_true rfl⟩)) (fun r_1 hw => ?_)
  subst hw
  refine lv_aload_n hx hb dL_law_678 rfl (lv_at hl 1 rfl) ?_
  refine lv_aload_n hx hb dL_law_679 rfl (lv_at hl 3 rfl) ?_
  refine lv_iload_n hx hb dL_law_680 rfl (lv_at hl 0 rfl) ?_
  refine lv_iconst (v := 1) hx hb dL_law_681 (by decide) ?_
  refine lv_iadd hx hb dL_law_682 ?_
  refine cv_topi (b := 1) (by decide) ?_
  refine va_sld hx hb hX hbl hbA hS (vp_in_iff.mpr (by decide)) dL_law_683 ?_
  refine cv_topi (b := xs 1) rfl ?_
  refine lv_aload_n hx hb dL_law_684 rfl (lv_at hl 3 rfl) ?_
  refine lv_iload_n hx hb dL_law_685 rfl (lv_at hl 0 rfl) ?_
  refine lv_iconst (v := 2) hx hb dL_law_686 (by decide) ?_
  refine lv_iadd hx hb dL_law_687 ?_
  refine cv_topi (b := 2) (by decide) ?_
  refine va_sld hx hb hX hbl hbA hS (vp_in_iff.mpr (by decide)) dL_law_688 ?_
  refine cv_topi (b := xs 2) rfl ?_
  have hPc := hP.sub (ws' := [((E 85), .inr (11, [.int 0, .ref (E 86), .ref (E 87), .ref (E 88), .ref (E 89), .ref (E 90), .int 0, .int 0, .int 0, .int 0, .int 0, .long 0, .int 0, .int 0, .int 0, .int (-1), .ref (E 91), .ref (E 92), .ref (E 93), .ref (E 94), .ref (E 95), .ref (E 96), .ref (E 97), .ref (E 98), .ref (E 99), .ref (E 100), .int 0, .ref (E 101), .ref (E 102), .ref (E 103), .ref (E 104), .int 0, .ref (E 105), .ref (E 106), .ref (E 107), .int 0, .int 0, .int 0, .int 0, .int 0, .int 0, .ref (E 108), .ref (E 109), .long 0])), ((E 91), .inl (cyI, 5, .inl (fun _ => 0))), ((E 92), .inl (cyI, 20, .inl (fun _ => 0)))]) [85, 91, 92] rfl
  have hKc := hK.sub (tys' := [(cyI, .int), (cyB, .byte), (cyJ, .long), (cyZ, .boolean), (cyH, .object RX2), (cyN, .array .long)]) [0, 1, 2, 3, 4, 5] rfl
  have hDc := hD.sub (ws' := [((E 85), .inr (11, [.int 0, .ref (E 86), .ref (E 87), .ref (E 88), .ref (E 89), .ref (E 90), .int 0, .int 0, .int 0, .int 0, .int 0, .long 0, .int 0, .int 0, .int 0, .int (-1), .ref (E 91), .ref (E 92), .ref (E 93), .ref (E 94), .ref (E 95), .ref (E 96), .ref (E 97), .ref (E 98), .ref (E 99), .ref (E 100), .int 0, .ref (E 101), .ref (E 102), .ref (E 103), .ref (E 104), .int 0, .ref (E 105), .ref (E 106), .ref (E 107), .int 0, .int 0, .int 0, .int 0, .int 0, .int 0, .ref (E 108), .ref (E 109), .long 0])), ((E 91), .inl (cyI, 5, .inl (fun _ => 0))), ((E 92), .inl (cyI, 20, .inl (fun _ => 0)))]) [85, 91, 92] (by decide) rfl
  have hFc := va_free (wc := [((E 85), .inr (11, [.int 0, .ref (E 86), .ref (E 87), .ref (E 88), .ref (E 89), .ref (E 90), .int 0, .int 0, .int 0, .int 0, .int 0, .long 0, .int 0, .int 0, .int 0, .int (-1), .ref (E 91), .ref (E 92), .ref (E 93), .ref (E 94), .ref (E 95), .ref (E 96), .ref (E 97), .ref (E 98), .ref (E 99), .ref (E 100), .int 0, .ref (E 101), .ref (E 102), .ref (E 103), .ref (E 104), .int 0, .ref (E 105), .ref (E 106), .ref (E 107), .int 0, .int 0, .int 0, .int 0, .int 0, .int 0, .ref (E 108), .ref (E 109), .long 0])), ((E 91), .inl (cyI, 5, .inl (fun _ => 0))), ((E 92), .inl (cyI, 20, .inl (fun _ => 0)))]) hD hS hA [85, 91, 92] rfl
  refine va_calli (va_runV (As := [.int (xs 1), .int (xs 2)]) (rest := [.int (-2)]) ⟨hx, hb, hml, hown, hts⟩ (m_comes l dC dI cyI cyB cyJ cyZ cyH cyN H.size (E 85) (E 86) (E 87) (E 88) (E 89) (E 90) (E 91) (E 92) (E 93) (E 94) (E 95) (E 96) (E 97) (E 98) (E 99) (E 100) (E 101) (E 102) (E 103) (E 104) (E 105) (E 106) (E 107) (E 108) (E 109) (xs 1) (xs 2)) (cwV 2 hts (gdV wd_7_163 wd_7_164 wd_7_165 wd_1_11 wd_7_166) rfl rfl rfl (by decide +kernel) ⟨Nat.le_of_ble_eq_true rfl, Nat.le_of_ble_eq_true rfl⟩) ⟨fun a U g mk q => by obtain ⟨q0, q1, qP, qK, qD⟩ := q; exact ⟨q0, q1, qP, va_K.moved (u := U) (U := U.calling g mk a) (Vm.Alike.refl U.vm) qK, qD⟩, va_recv hKc hPc (ci := 11) (q0 := 0) rfl rfl, fun U hU hW => ⟨rfl, by rw [hU], by rw [hU]; exact hPc, va_K.moved hW.alike hKc, hDc.weaken (fun _ _ _ _ => trivial)⟩⟩ rfl rfl hl.1 rfl (lv_room (Nat.le_of_ble_eq_true rfl)) dL_law_689 ⟨Nat.le_of_ble_eq_true rfl, Nat.le_of_ble_eq_true rfl⟩) hS (fun q _ h => hFc q h) hFc (fun r_2 u t H1 locs ht hvm hw hB hz1 hk1 hS => ?_)
  generalize H1 = H at hS ⊢
  subst hw
  refine lv_icmp_eq (tgt := 1931) hx hb dL_law_692 (by decide) (fun _ => ?_) (fun c_3 => absurd c_3 (by decide))
  have hS9 : va_S (fun q : Nat => s.heap.size ≤ q) s.heap H locs := by rw [← hAe]; exact hS
  exact law_end C0 hS9 (lv_sub hl [3, 0] rfl) (Nat.le_of_ble_eq_true rfl) (Nat.le_of_ble_eq_true rfl)

set_option maxHeartbeats 4000000 in
set_option maxRecDepth 100000 in
theorem law_c15 {p : Program} {l : Launch} {e : Env} {s : State} {m : MethodId} {below : List Frame} {meth : Method} {c : Code} {b : Nat} {xs : Nat → Int32} (C0 : lw_At p s m meth c b 6 xs) (dC : Nat → ClassId) (dI : Nat → Nat → Nat) (cyI cyB cyJ cyZ cyH cyN : ClassId) (E : Nat → Nat) (iF nF : Nat → Option Nat) (wF : Nat → Int32) (g0 : nF 0 = some (E 57)) (g1 : nF 1 = some (E 58)) (g2 : nF 2 = some (E 59)) (g3 : nF 3 = some (E 60)) (g4 : iF 0 = some (E 24)) (g5 : iF 1 = some (E 34)) (g6 : iF 2 = some (E 44)) (g7 : ∀ j : Nat, j < 4 → wF j = -1) {H : Heap} {locs : List Loc} {ls : Array Slot} (hK : va_K (dC, dI) vwCl [(cyI, .int), (cyB, .byte), (cyJ, .long), (cyZ, .boolean), (cyH, .object RX2), (cyN, .array .long)] s) (hP : va_P (dC, dI) vwCl (wAll cyI cyB cyJ cyZ cyH cyN E iF nF wF) H) {A : Nat → Prop} (hAe : A = fun q => s.heap.size ≤ q) (hD : va_D A (wAll cyI cyB cyJ cyZ cyH cyN E iF nF wF)) (hS : va_S A s.heap H locs) (hl : lv_has ls 4 [(3, .int 0), (2, .ref (E 85)), (1, .ref (E 0)), (0, .ref b)]) : W p l e room_1 s m #[Value.ref b] below meth c H locs 110 15598 (lw_Z below #[Value.ref b] s) (F0 m 697 ls []) := by
  obtain ⟨hx, hb, hr, hml, hown, hts0, hX, hbl, hlocks, hgv⟩ := id C0
  have hts : ∀ w ∈ uU, w.before #[Value.ref b] s = true := fun w h => hts0 w (uU_in h)
  have hbA : ¬ A b := by rw [hAe]; exact Nat.not_le.mpr hbl
  have hA : ∀ q : Nat, s.heap.size ≤ q → A q := fun q h => by rw [hAe]; exact h
  refine lv_aload_n hx hb dL_law_697 rfl (lv_at hl 2 rfl) ?_
  refine lv_aload_n hx hb dL_law_698 rfl (lv_at hl 3 rfl) ?_
  refine lv_iload_n hx hb dL_law_699 rfl (lv_at hl 0 rfl) ?_
  refine lv_iconst (v := 1) hx hb dL_law_700 (by decide) ?_
  refine lv_iadd hx hb dL_law_701 ?_
  refine cv_topi (b := 1) (by decide) ?_
  refine va_sld hx hb hX hbl hbA hS (vp_in_iff.mpr (by decide)) dL_law_702 ?_
  refine cv_topi (b := xs 1) rfl ?_
  refine lv_aload_n hx hb dL_law_703 rfl (lv_at hl 3 rfl) ?_
  refine lv_iload_n hx hb dL_law_704 rfl (lv_at hl 0 rfl) ?_
  refine lv_iconst (v := 2) hx hb dL_law_705 (by decide) ?_
  refine lv_iadd hx hb dL_law_706 ?_
  refine cv_topi (b := 2) (by decide) ?_
  refine va_sld hx hb hX hbl hbA hS (vp_in_iff.mpr (by decide)) dL_law_707 ?_
  refine cv_topi (b := xs 2) rfl ?_
  have hPc := hP.sub (ws' := [((E 0), .inr (10, [.ref (E 1), .ref (E 3), .ref (E 13), .ref (E 23), .ref (E 54), .ref (E 55), .ref (E 64), .ref (E 69), .ref (E 71), .ref (E 75), .ref (E 78), .ref (E 80), .ref (E 83), .ref (E 84), .null])), ((E 3), .inr (2, [.int 0, .int 0, .int 0, .int 0, .int 0, .int 0, .ref (E 4), .ref (E 5), .ref (E 6), .ref (E 7), .ref (E 8), .ref (E 9), .ref (E 10), .ref (E 11), .ref (E 12)]))]) [0, 3] rfl
  have hKc := hK.sub (tys' := [(cyI, .int), (cyB, .byte), (cyJ, .long), (cyZ, .boolean), (cyH, .object RX2), (cyN, .array .long)]) [0, 1, 2, 3, 4, 5] rfl
  refine vp_callSi (va_Run.run (va_runV (As := [.int (xs 1), .int (xs 2)]) (rest := []) ⟨hx, hb, hml, hown, hts⟩ (c_meet l dC dI cyI cyB cyJ cyZ cyH cyN (E 0) (E 1) (E 3) (E 13) (E 23) (E 54) (E 55) (E 64) (E 69) (E 71) (E 75) (E 78) (E 80) (E 83) (E 84) (E 4) (E 5) (E 6) (E 7) (E 8) (E 9) (E 10) (E 11) (E 12) (xs 1) (xs 2)) (cwV 2 hts (gdV wd_3_171 wd_3_172 wd_3_173 wd_1_1 wd_3_174) rfl rfl rfl (by decide +kernel) ⟨Nat.le_of_ble_eq_true rfl, Nat.le_of_ble_eq_true rfl⟩) ⟨fun a U g mk q => by obtain ⟨q0, qP, qK⟩ := q; exact ⟨q0, qP, va_K.moved (u := U) (U := U.calling g mk a) (Vm.Alike.refl U.vm) qK⟩, va_recv hKc hPc (ci := 10) (q0 := 0) rfl rfl, fun U hU hW => ⟨rfl, by rw [hU]; exact hPc, va_K.moved hW.alike hKc⟩⟩ rfl rfl hl.1 rfl (lv_room (Nat.le_of_ble_eq_true rfl)) dL_law_708 ⟨Nat.le_of_ble_eq_true rfl, Nat.le_of_ble_eq_true rfl⟩)) (fun r_1 hw => ?_)
  subst hw
  refine lv_aload_n hx hb dL_law_711 rfl (lv_at hl 1 rfl) ?_
  refine lv_aload_n hx hb dL_law_712 rfl (lv_at hl 3 rfl) ?_
  refine lv_iload_n hx hb dL_law_713 rfl (lv_at hl 0 rfl) ?_
  refine lv_iconst (v := 1) hx hb dL_law_714 (by decide) ?_
  refine lv_iadd hx hb dL_law_715 ?_
  refine cv_topi (b := 1) (by decide) ?_
  refine va_sld hx hb hX hbl hbA hS (vp_in_iff.mpr (by decide)) dL_law_716 ?_
  refine cv_topi (b := xs 1) rfl ?_
  refine lv_aload_n hx hb dL_law_717 rfl (lv_at hl 3 rfl) ?_
  refine lv_iload_n hx hb dL_law_718 rfl (lv_at hl 0 rfl) ?_
  refine lv_iconst (v := 2) hx hb dL_law_719 (by decide) ?_
  refine lv_iadd hx hb dL_law_720 ?_
  refine cv_topi (b := 2) (by decide) ?_
  refine va_sld hx hb hX hbl hbA hS (vp_in_iff.mpr (by decide)) dL_law_721 ?_
  refine cv_topi (b := xs 2) rfl ?_
  have hPc := hP.sub (ws' := [((E 85), .inr (11, [.int 0, .ref (E 86), .ref (E 87), .ref (E 88), .ref (E 89), .ref (E 90), .int 0, .int 0, .int 0, .int 0, .int 0, .long 0, .int 0, .int 0, .int 0, .int (-1), .ref (E 91), .ref (E 92), .ref (E 93), .ref (E 94), .ref (E 95), .ref (E 96), .ref (E 97), .ref (E 98), .ref (E 99), .ref (E 100), .int 0, .ref (E 101), .ref (E 102), .ref (E 103), .ref (E 104), .int 0, .ref (E 105), .ref (E 106), .ref (E 107), .int 0, .int 0, .int 0, .int 0, .int 0, .int 0, .ref (E 108), .ref (E 109), .long 0])), ((E 91), .inl (cyI, 5, .inl (fun _ => 0))), ((E 92), .inl (cyI, 20, .inl (fun _ => 0)))]) [85, 91, 92] rfl
  have hKc := hK.sub (tys' := [(cyI, .int), (cyB, .byte), (cyJ, .long), (cyZ, .boolean), (cyH, .object RX2), (cyN, .array .long)]) [0, 1, 2, 3, 4, 5] rfl
  have hDc := hD.sub (ws' := [((E 85), .inr (11, [.int 0, .ref (E 86), .ref (E 87), .ref (E 88), .ref (E 89), .ref (E 90), .int 0, .int 0, .int 0, .int 0, .int 0, .long 0, .int 0, .int 0, .int 0, .int (-1), .ref (E 91), .ref (E 92), .ref (E 93), .ref (E 94), .ref (E 95), .ref (E 96), .ref (E 97), .ref (E 98), .ref (E 99), .ref (E 100), .int 0, .ref (E 101), .ref (E 102), .ref (E 103), .ref (E 104), .int 0, .ref (E 105), .ref (E 106), .ref (E 107), .int 0, .int 0, .int 0, .int 0, .int 0, .int 0, .ref (E 108), .ref (E 109), .long 0])), ((E 91), .inl (cyI, 5, .inl (fun _ => 0))), ((E 92), .inl (cyI, 20, .inl (fun _ => 0)))]) [85, 91, 92] (by decide) rfl
  have hFc := va_free (wc := [((E 85), .inr (11, [.int 0, .ref (E 86), .ref (E 87), .ref (E 88), .ref (E 89), .ref (E 90), .int 0, .int 0, .int 0, .int 0, .int 0, .long 0, .int 0, .int 0, .int 0, .int (-1), .ref (E 91), .ref (E 92), .ref (E 93), .ref (E 94), .ref (E 95), .ref (E 96), .ref (E 97), .ref (E 98), .ref (E 99), .ref (E 100), .int 0, .ref (E 101), .ref (E 102), .ref (E 103), .ref (E 104), .int 0, .ref (E 105), .ref (E 106), .ref (E 107), .int 0, .int 0, .int 0, .int 0, .int 0, .int 0, .ref (E 108), .ref (E 109), .long 0])), ((E 91), .inl (cyI, 5, .inl (fun _ => 0))), ((E 92), .inl (cyI, 20, .inl (fun _ => 0)))]) hD hS hA [85, 91, 92] rfl
  refine va_calli (va_runV (As := [.int (xs 1), .int (xs 2)]) (rest := [.int (-2)]) ⟨hx, hb, hml, hown, hts⟩ (m_meet l dC dI cyI cyB cyJ cyZ cyH cyN H.size (E 85) (E 86) (E 87) (E 88) (E 89) (E 90) (E 91) (E 92) (E 93) (E 94) (E 95) (E 96) (E 97) (E 98) (E 99) (E 100) (E 101) (E 102) (E 103) (E 104) (E 105) (E 106) (E 107) (E 108) (E 109) (xs 1) (xs 2)) (cwV 2 hts (gdV wd_7_167 wd_7_168 wd_7_169 wd_1_11 wd_7_170) rfl rfl rfl (by decide +kernel) ⟨Nat.le_of_ble_eq_true rfl, Nat.le_of_ble_eq_true rfl⟩) ⟨fun a U g mk q => by obtain ⟨q0, q1, qP, qK, qD⟩ := q; exact ⟨q0, q1, qP, va_K.moved (u := U) (U := U.calling g mk a) (Vm.Alike.refl U.vm) qK, qD⟩, va_recv hKc hPc (ci := 11) (q0 := 0) rfl rfl, fun U hU hW => ⟨rfl, by rw [hU], by rw [hU]; exact hPc, va_K.moved hW.alike hKc, hDc.weaken (fun _ _ _ _ => trivial)⟩⟩ rfl rfl hl.1 rfl (lv_room (Nat.le_of_ble_eq_true rfl)) dL_law_722 ⟨Nat.le_of_ble_eq_true rfl, Nat.le_of_ble_eq_true rfl⟩) hS (fun q _ h => hFc q h) hFc (fun r_2 u t H1 locs ht hvm hw hB hz1 hk1 hS => ?_)
  generalize H1 = H at hS ⊢
  subst hw
  refine lv_icmp_eq (tgt := 1931) hx hb dL_law_725 (by decide) (fun _ => ?_) (fun c_3 => absurd c_3 (by decide))
  have hS9 : va_S (fun q : Nat => s.heap.size ≤ q) s.heap H locs := by rw [← hAe]; exact hS
  exact law_end C0 hS9 (lv_sub hl [3, 0] rfl) (Nat.le_of_ble_eq_true rfl) (Nat.le_of_ble_eq_true rfl)

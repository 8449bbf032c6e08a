set_option maxHeartbeats 4000000 in
set_option maxRecDepth 100000 in
theorem law_c24 {p : Program} {l : Launch} {e : Env} {s : State} {m : MethodId} {below : List Frame} {meth : Method} {c : Code} {b : Nat} {xs : Nat → Int32} (C0 : lw_At p s m meth c b 6 xs) (dC : Nat → ClassId) (dI : Nat → Nat → Nat) (cyI cyB cyJ cyZ cyH cyN : ClassId) (E : Nat → Nat) (iF nF : Nat → Option Nat) (wF : Nat → Int32) (g0 : nF 0 = some (E 57)) (g1 : nF 1 = some (E 58)) (g2 : nF 2 = some (E 59)) (g3 : nF 3 = some (E 60)) (g4 : iF 0 = some (E 24)) (g5 : iF 1 = some (E 34)) (g6 : iF 2 = some (E 44)) (g7 : ∀ j : Nat, j < 4 → wF j = -1) {H : Heap} {locs : List Loc} {ls : Array Slot} (hK : va_K (dC, dI) vwCl [(cyI, .int), (cyB, .byte), (cyJ, .long), (cyZ, .boolean), (cyH, .object RX2), (cyN, .array .long)] s) (hP : va_P (dC, dI) vwCl (wAll cyI cyB cyJ cyZ cyH cyN E iF nF wF) H) {A : Nat → Prop} (hAe : A = fun q => s.heap.size ≤ q) (hD : va_D A (wAll cyI cyB cyJ cyZ cyH cyN E iF nF wF)) (hS : va_S A s.heap H locs) (hl : lv_has ls 4 [(3, .int 0), (2, .ref (E 85)), (1, .ref (E 0)), (0, .ref b)]) : W p l e room_1 s m #[Value.ref b] below meth c H locs 110 15598 (lw_Z below #[Value.ref b] s) (F0 m 864 ls []) := by
  obtain ⟨hx, hb, hr, hml, hown, hts0, hX, hbl, hlocks, hgv⟩ := id C0
  have hts : ∀ w ∈ uU, w.before #[Value.ref b] s = true := fun w h => hts0 w (uU_in h)
  have hbA : ¬ A b := by rw [hAe]; exact Nat.not_le.mpr hbl
  have hA : ∀ q : Nat, s.heap.size ≤ q → A q := fun q h => by rw [hAe]; exact h
  refine lv_aload_n hx hb dL_law_864 rfl (lv_at hl 2 rfl) ?_
  have hPc := hP.sub (ws' := [((E 0), .inr (10, [.ref (E 1), .ref (E 3), .ref (E 13), .ref (E 23), .ref (E 54), .ref (E 55), .ref (E 64), .ref (E 69), .ref (E 71), .ref (E 75), .ref (E 78), .ref (E 80), .ref (E 83), .ref (E 84), .null])), ((E 3), .inr (2, [.int 0, .int 0, .int 0, .int 0, .int 0, .int 0, .ref (E 4), .ref (E 5), .ref (E 6), .ref (E 7), .ref (E 8), .ref (E 9), .ref (E 10), .ref (E 11), .ref (E 12)]))]) [0, 3] rfl
  have hKc := hK.sub (tys' := [(cyI, .int), (cyB, .byte), (cyJ, .long), (cyZ, .boolean), (cyH, .object RX2), (cyN, .array .long)]) [0, 1, 2, 3, 4, 5] rfl
  refine vp_callSi (va_Run.run (va_runV (As := []) (rest := []) ⟨hx, hb, hml, hown, hts⟩ (c_lost l dC dI cyI cyB cyJ cyZ cyH cyN (E 0) (E 1) (E 3) (E 13) (E 23) (E 54) (E 55) (E 64) (E 69) (E 71) (E 75) (E 78) (E 80) (E 83) (E 84) (E 4) (E 5) (E 6) (E 7) (E 8) (E 9) (E 10) (E 11) (E 12)) (cwV 0 hts (gdV wd_4_0 wd_4_1 wd_4_2 wd_1_1 wd_4_3) rfl rfl rfl (by decide +kernel) ⟨Nat.le_of_ble_eq_true rfl, Nat.le_of_ble_eq_true rfl⟩) ⟨fun a U g mk q => by obtain ⟨q0, qP, qK⟩ := q; exact ⟨q0, qP, va_K.moved (u := U) (U := U.calling g mk a) (Vm.Alike.refl U.vm) qK⟩, va_recv hKc hPc (ci := 10) (q0 := 0) rfl rfl, fun U hU hW => ⟨rfl, by rw [hU]; exact hPc, va_K.moved hW.alike hKc⟩⟩ rfl rfl hl.1 rfl (lv_room (Nat.le_of_ble_eq_true rfl)) dL_law_865 ⟨Nat.le_of_ble_eq_true rfl, Nat.le_of_ble_eq_true rfl⟩)) (fun r_1 hw => ?_)
  subst hw
  refine lv_aload_n hx hb dL_law_868 rfl (lv_at hl 1 rfl) ?_
  have hPc := hP.sub (ws' := [((E 85), .inr (11, [.int 0, .ref (E 86), .ref (E 87), .ref (E 88), .ref (E 89), .ref (E 90), .int 0, .int 0, .int 0, .int 0, .int 0, .long 0, .int 0, .int 0, .int 0, .int (-1), .ref (E 91), .ref (E 92), .ref (E 93), .ref (E 94), .ref (E 95), .ref (E 96), .ref (E 97), .ref (E 98), .ref (E 99), .ref (E 100), .int 0, .ref (E 101), .ref (E 102), .ref (E 103), .ref (E 104), .int 0, .ref (E 105), .ref (E 106), .ref (E 107), .int 0, .int 0, .int 0, .int 0, .int 0, .int 0, .ref (E 108), .ref (E 109), .long 0])), ((E 91), .inl (cyI, 5, .inl (fun _ => 0))), ((E 92), .inl (cyI, 20, .inl (fun _ => 0)))]) [85, 91, 92] rfl
  have hKc := hK.sub (tys' := [(cyI, .int), (cyB, .byte), (cyJ, .long), (cyZ, .boolean), (cyH, .object RX2), (cyN, .array .long)]) [0, 1, 2, 3, 4, 5] rfl
  have hDc := hD.sub (ws' := [((E 85), .inr (11, [.int 0, .ref (E 86), .ref (E 87), .ref (E 88), .ref (E 89), .ref (E 90), .int 0, .int 0, .int 0, .int 0, .int 0, .long 0, .int 0, .int 0, .int 0, .int (-1), .ref (E 91), .ref (E 92), .ref (E 93), .ref (E 94), .ref (E 95), .ref (E 96), .ref (E 97), .ref (E 98), .ref (E 99), .ref (E 100), .int 0, .ref (E 101), .ref (E 102), .ref (E 103), .ref (E 104), .int 0, .ref (E 105), .ref (E 106), .ref (E 107), .int 0, .int 0, .int 0, .int 0, .int 0, .int 0, .ref (E 108), .ref (E 109), .long 0])), ((E 91), .inl (cyI, 5, .inl (fun _ => 0))), ((E 92), .inl (cyI, 20, .inl (fun _ => 0)))]) [85, 91, 92] (by decide) rfl
  have hFc := va_free (wc := [((E 85), .inr (11, [.int 0, .ref (E 86), .ref (E 87), .ref (E 88), .ref (E 89), .ref (E 90), .int 0, .int 0, .int 0, .int 0, .int 0, .long 0, .int 0, .int 0, .int 0, .int (-1), .ref (E 91), .ref (E 92), .ref (E 93), .ref (E 94), .ref (E 95), .ref (E 96), .ref (E 97), .ref (E 98), .ref (E 99), .ref (E 100), .int 0, .ref (E 101), .ref (E 102), .ref (E 103), .ref (E 104), .int 0, .ref (E 105), .ref (E 106), .ref (E 107), .int 0, .int 0, .int 0, .int 0, .int 0, .int 0, .ref (E 108), .ref (E 109), .long 0])), ((E 91), .inl (cyI, 5, .inl (fun _ => 0))), ((E 92), .inl (cyI, 20, .inl (fun _ => 0)))]) hD hS hA [85, 91, 92] rfl
  refine va_calli (va_runV (As := []) (rest := [.int (-2)]) ⟨hx, hb, hml, hown, hts⟩ (m_lost l dC dI cyI cyB cyJ cyZ cyH cyN H.size (E 85) (E 86) (E 87) (E 88) (E 89) (E 90) (E 91) (E 92) (E 93) (E 94) (E 95) (E 96) (E 97) (E 98) (E 99) (E 100) (E 101) (E 102) (E 103) (E 104) (E 105) (E 106) (E 107) (E 108) (E 109)) (cwV 0 hts (gdV wd_7_219 wd_7_220 wd_7_221 wd_1_11 wd_7_222) rfl rfl rfl (by decide +kernel) ⟨Nat.le_of_ble_eq_true rfl, Nat.le_of_ble_eq_true rfl⟩) ⟨fun a U g mk q => by obtain ⟨q0, q1, qP, qK, qD⟩ := q; exact ⟨q0, q1, qP, va_K.moved (u := U) (U := U.calling g mk a) (Vm.Alike.refl U.vm) qK, qD⟩, va_recv hKc hPc (ci := 11) (q0 := 0) rfl rfl, fun U hU hW => ⟨rfl, by rw [hU], by rw [hU]; exact hPc, va_K.moved hW.alike hKc, hDc.weaken (fun _ _ _ _ => trivial)⟩⟩ rfl rfl hl.1 rfl (lv_room (Nat.le_of_ble_eq_true rfl)) dL_law_869 ⟨Nat.le_of_ble_eq_true rfl, Nat.le_of_ble_eq_true rfl⟩) hS (fun q _ h => hFc q h) hFc (fun r_2 u t H1 locs ht hvm hw hB hz1 hk1 hS => ?_)
  generalize H1 = H at hS ⊢
  subst hw
  refine lv_icmp_eq (tgt := 1931) hx hb dL_law_872 (by decide) (fun _ => ?_) (fun c_3 => absurd c_3 (by decide))
  have hS9 : va_S (fun q : Nat => s.heap.size ≤ q) s.heap H locs := by rw [← hAe]; exact hS
  exact law_end C0 hS9 (lv_sub hl [3, 0] rfl) (Nat.le_of_ble_eq_true rfl) (Nat.le_of_ble_eq_true rfl)

set_option maxHeartbeats 4000000 in
set_option maxRecDepth 100000 in
theorem law_c25 {p : Program} {l : Launch} {e : Env} {s : State} {m : MethodId} {below : List Frame} {meth : Method} {c : Code} {b : Nat} {xs : Nat → Int32} (C0 : lw_At p s m meth c b 6 xs) (dC : Nat → ClassId) (dI : Nat → Nat → Nat) (cyI cyB cyJ cyZ cyH cyN : ClassId) (E : Nat → Nat) (iF nF : Nat → Option Nat) (wF : Nat → Int32) (g0 : nF 0 = some (E 57)) (g1 : nF 1 = some (E 58)) (g2 : nF 2 = some (E 59)) (g3 : nF 3 = some (E 60)) (g4 : iF 0 = some (E 24)) (g5 : iF 1 = some (E 34)) (g6 : iF 2 = some (E 44)) (g7 : ∀ j : Nat, j < 4 → wF j = -1) {H : Heap} {locs : List Loc} {ls : Array Slot} (hK : va_K (dC, dI) vwCl [(cyI, .int), (cyB, .byte), (cyJ, .long), (cyZ, .boolean), (cyH, .object RX2), (cyN, .array .long)] s) (hP : va_P (dC, dI) vwCl (wAll cyI cyB cyJ cyZ cyH cyN E iF nF wF) H) {A : Nat → Prop} (hAe : A = fun q => s.heap.size ≤ q) (hD : va_D A (wAll cyI cyB cyJ cyZ cyH cyN E iF nF wF)) (hS : va_S A s.heap H locs) (hl : lv_has ls 4 [(3, .int 0), (2, .ref (E 85)), (1, .ref (E 0)), (0, .ref b)]) : W p l e room_1 s m #[Value.ref b] below meth c H locs 110 15598 (lw_Z below #[Value.ref b] s) (F0 m 877 ls []) := by
  obtain ⟨hx, hb, hr, hml, hown, hts0, hX, hbl, hlocks, hgv⟩ := id C0
  have hts : ∀ w ∈ uU, w.before #[Value.ref b] s = true := fun w h => hts0 w (uU_in h)
  have hbA : ¬ A b := by rw [hAe]; exact Nat.not_le.mpr hbl
  have hA : ∀ q : Nat, s.heap.size ≤ q → A q := fun q h => by rw [hAe]; exact h
  refine lv_aload_n hx hb dL_law_877 rfl (lv_at hl 2 rfl) ?_
  refine lv_aload_n hx hb dL_law_878 rfl (lv_at hl 3 rfl) ?_
  refine lv_iload_n hx hb dL_law_879 rfl (lv_at hl 0 rfl) ?_
  refine lv_iconst (v := 1) hx hb dL_law_880 (by decide) ?_
  refine lv_iadd hx hb dL_law_881 ?_
  refine cv_topi (b := 1) (by decide) ?_
  refine va_sld hx hb hX hbl hbA hS (vp_in_iff.mpr (by decide)) dL_law_882 ?_
  refine cv_topi (b := xs 1) rfl ?_
  have hPc := hP.sub (ws' := [((E 0), .inr (10, [.ref (E 1), .ref (E 3), .ref (E 13), .ref (E 23), .ref (E 54), .ref (E 55), .ref (E 64), .ref (E 69), .ref (E 71), .ref (E 75), .ref (E 78), .ref (E 80), .ref (E 83), .ref (E 84), .null])), ((E 3), .inr (2, [.int 0, .int 0, .int 0, .int 0, .int 0, .int 0, .ref (E 4), .ref (E 5), .ref (E 6), .ref (E 7), .ref (E 8), .ref (E 9), .ref (E 10), .ref (E 11), .ref (E 12)]))]) [0, 3] rfl
  have hKc := hK.sub (tys' := [(cyI, .int), (cyB, .byte), (cyJ, .long), (cyZ, .boolean), (cyH, .object RX2), (cyN, .array .long)]) [0, 1, 2, 3, 4, 5] rfl
  refine vp_callSi (va_Run.run (va_runV (As := [.int (xs 1)]) (rest := []) ⟨hx, hb, hml, hown, hts⟩ (c_beside l dC dI cyI cyB cyJ cyZ cyH cyN (E 0) (E 1) (E 3) (E 13) (E 23) (E 54) (E 55) (E 64) (E 69) (E 71) (E 75) (E 78) (E 80) (E 83) (E 84) (E 4) (E 5) (E 6) (E 7) (E 8) (E 9) (E 10) (E 11) (E 12) (xs 1)) (cwV 1 hts (gdV wd_4_4 wd_4_5 wd_4_6 wd_1_1 wd_4_7) rfl rfl rfl (by decide +kernel) ⟨Nat.le_of_ble_eq_true rfl, Nat.le_of_ble_eq_true rfl⟩) ⟨fun a U g mk q => by obtain ⟨q0, qP, qK⟩ := q; exact ⟨q0, qP, va_K.moved (u := U) (U := U.calling g mk a) (Vm.Alike.refl U.vm) qK⟩, va_recv hKc hPc (ci := 10) (q0 := 0) rfl rfl, fun U hU hW => ⟨rfl, by rw [hU]; exact hPc, va_K.moved hW.alike hKc⟩⟩ rfl rfl hl.1 rfl (lv_room (Nat.le_of_ble_eq_true rfl)) dL_law_883 ⟨Nat.le_of_ble_eq_true rfl, Nat.le_of_ble_eq_true rfl⟩)) (fun r_1 hw => ?_)
  subst hw
  refine lv_aload_n hx hb dL_law_886 rfl (lv_at hl 1 rfl) ?_
  refine lv_aload_n hx hb dL_law_887 rfl (lv_at hl 3 rfl) ?_
  refine lv_iload_n hx hb dL_law_888 rfl (lv_at hl 0 rfl) ?_
  refine lv_iconst (v := 1) hx hb dL_law_889 (by decide) ?_
  refine lv_iadd hx hb dL_law_890 ?_
  refine cv_topi (b := 1) (by decide) ?_
  refine va_sld hx hb hX hbl hbA hS (vp_in_iff.mpr (by decide)) dL_law_891 ?_
  refine cv_topi (b := xs 1) rfl ?_
  have hPc := hP.sub (ws' := [((E 85), .inr (11, [.int 0, .ref (E 86), .ref (E 87), .ref (E 88), .ref (E 89), .ref (E 90), .int 0, .int 0, .int 0, .int 0, .int 0, .long 0, .int 0, .int 0, .int 0, .int (-1), .ref (E 91), .ref (E 92), .ref (E 93), .ref (E 94), .ref (E 95), .ref (E 96), .ref (E 97), .ref (E 98), .ref (E 99), .ref (E 100), .int 0, .ref (E 101), .ref (E 102), .ref (E 103), .ref (E 104), .int 0, .ref (E 105), .ref (E 106), .ref (E 107), .int 0, .int 0, .int 0, .int 0, .int 0, .int 0, .ref (E 108), .ref (E 109), .long 0])), ((E 91), .inl (cyI, 5, .inl (fun _ => 0))), ((E 92), .inl (cyI, 20, .inl (fun _ => 0)))]) [85, 91, 92] rfl
  have hKc := hK.sub (tys' := [(cyI, .int), (cyB, .byte), (cyJ, .long), (cyZ, .boolean), (cyH, .object RX2), (cyN, .array .long)]) [0, 1, 2, 3, 4, 5] rfl
  have hDc := hD.sub (ws' := [((E 85), .inr (11, [.int 0, .ref (E 86), .ref (E 87), .ref (E 88), .ref (E 89), .ref (E 90), .int 0, .int 0, .int 0, .int 0, .int 0, .long 0, .int 0, .int 0, .int 0, .int (-1), .ref (E 91), .ref (E 92), .ref (E 93), .ref (E 94), .ref (E 95), .ref (E 96), .ref (E 97), .ref (E 98), .ref (E 99), .ref (E 100), .int 0, .ref (E 101), .ref (E 102), .ref (E 103), .ref (E 104), .int 0, .ref (E 105), .ref (E 106), .ref (E 107), .int 0, .int 0, .int 0, .int 0, .int 0, .int 0, .ref (E 108), .ref (E 109), .long 0])), ((E 91), .inl (cyI, 5, .inl (fun _ => 0))), ((E 92), .inl (cyI, 20, .inl (fun _ => 0)))]) [85, 91, 92] (by decide) rfl
  have hFc := va_free (wc := [((E 85), .inr (11, [.int 0, .ref (E 86), .ref (E 87), .ref (E 88), .ref (E 89), .ref (E 90), .int 0, .int 0, .int 0, .int 0, .int 0, .long 0, .int 0, .int 0, .int 0, .int (-1), .ref (E 91), .ref (E 92), .ref (E 93), .ref (E 94), .ref (E 95), .ref (E 96), .ref (E 97), .ref (E 98), .ref (E 99), .ref (E 100), .int 0, .ref (E 101), .ref (E 102), .ref (E 103), .ref (E 104), .int 0, .ref (E 105), .ref (E 106), .ref (E 107), .int 0, .int 0, .int 0, .int 0, .int 0, .int 0, .ref (E 108), .ref (E 109), .long 0])), ((E 91), .inl (cyI, 5, .inl (fun _ => 0))), ((E 92), .inl (cyI, 20, .inl (fun _ => 0)))]) hD hS hA [85, 91, 92] rfl
  refine va_calli (va_runV (As := [.int (xs 1)]) (rest := [.int (-2)]) ⟨hx, hb, hml, hown, hts⟩ (m_beside l dC dI cyI cyB cyJ cyZ cyH cyN H.size (E 85) (E 86) (E 87) (E 88) (E 89) (E 90) (E 91) (E 92) (E 93) (E 94) (E 95) (E 96) (E 97) (E 98) (E 99) (E 100) (E 101) (E 102) (E 103) (E 104) (E 105) (E 106) (E 107) (E 108) (E 109) (xs 1)) (cwV 1 hts (gdV wd_7_223 wd_7_224 wd_7_225 wd_1_11 wd_7_226) rfl rfl rfl (by decide +kernel) ⟨Nat.le_of_ble_eq_true rfl, Nat.le_of_ble_eq_true rfl⟩) ⟨fun a U g mk q => by obtain ⟨q0, q1, qP, qK, qD⟩ := q; exact ⟨q0, q1, qP, va_K.moved (u := U) (U := U.calling g mk a) (Vm.Alike.refl U.vm) qK, qD⟩, va_recv hKc hPc (ci := 11) (q0 := 0) rfl rfl, fun U hU hW => ⟨rfl, by rw [hU], by rw [hU]; exact hPc, va_K.moved hW.alike hKc, hDc.weaken (fun _ _ _ _ => trivial)⟩⟩ rfl rfl hl.1 rfl (lv_room (Nat.le_of_ble_eq_true rfl)) dL_law_892 ⟨Nat.le_of_ble_eq_true rfl, Nat.le_of_ble_eq_true rfl⟩) hS (fun q _ h => hFc q h) hFc (fun r_2 u t H1 locs ht hvm hw hB hz1 hk1 hS => ?_)
  generalize H1 = H at hS ⊢
  subst hw
  refine lv_icmp_eq (tgt := 1931) hx hb dL_law_895 (by decide) (fun _ => ?_) (fun c_3 => absurd c_3 (by decide))
  have hS9 : va_S (fun q : Nat => s.heap.size ≤ q) s.heap H locs := by rw [← hAe]; exact hS
  exact law_end C0 hS9 (lv_sub hl [3, 0] rfl) (Nat.le_of_ble_eq_true rfl) (Nat.le_of_ble_eq_true rfl)

set_option maxHeartbeats 4000000 in
set_option maxRecDepth 100000 in
theorem law_c26 {p : Program} {l : Launch} {e : Env} {s : State} {m : MethodId} {below : List Frame} {meth : Method} {c : Code} {b : Nat} {xs : Nat → Int32} (C0 : lw_At p s m meth c b 6 xs) (dC : Nat → ClassId) (dI : Nat → Nat → Nat) (cyI cyB cyJ cyZ cyH cyN : ClassId) (E : Nat → Nat) (iF nF : Nat → Option Nat) (wF : Nat → Int32) (g0 : nF 0 = some (E 57)) (g1 : nF 1 = some (E 58)) (g2 : nF 2 = some (E 59)) (g3 : nF 3 = some (E 60)) (g4 : iF 0 = some (E 24)) (g5 : iF 1 = some (E 34)) (g6 : iF 2 = some (E 44)) (g7 : ∀ j : Nat, j < 4 → wF j = -1) {H : Heap} {locs : List Loc} {ls : Array Slot} (hK : va_K (dC, dI) vwCl [(cyI, .int), (cyB, .byte), (cyJ, .long), (cyZ, .boolean), (cyH, .object RX2), (cyN, .array .long)] s) (hP : va_P (dC, dI) vwCl (wAll cyI cyB cyJ cyZ cyH cyN E iF nF wF) H) {A : Nat → Prop} (hAe : A = fun q => s.heap.size ≤ q) (hD : va_D A (wAll cyI cyB cyJ cyZ cyH cyN E iF nF wF)) (hS : va_S A s.heap H locs) (hl : lv_has ls 4 [(3, .int 0), (2, .ref (E 85)), (1, .ref (E 0)), (0, .ref b)]) : W p l e room_1 s m #[Value.ref b] below meth c H locs 110 15598 (lw_Z below #[Value.ref b] s) (F0 m 900 ls []) := by
  obtain ⟨hx, hb, hr, hml, hown, hts0, hX, hbl, hlocks, hgv⟩ := id C0
  have hts : ∀ w ∈ uU, w.before #[Value.ref b] s = true := fun w h => hts0 w (uU_in h)
  have hbA : ¬ A b := by rw [hAe]; exact Nat.not_le.mpr hbl
  have hA : ∀ q : Nat, s.heap.size ≤ q → A q := fun q h => by rw [hAe]; exact h
  refine lv_aload_n hx hb dL_law_900 rfl (lv_at hl 2 rfl) ?_
  have hPc := hP.sub (ws' := [((E 0), .inr (10, [.ref (E 1), .ref (E 3), .ref (E 13), .ref (E 23), .ref (E 54), .ref (E 55), .ref (E 64), .ref (E 69), .ref (E 71), .ref (E 75), .ref (E 78), .ref (E 80), .ref (E 83), .ref (E 84), .null])), ((E 3), .inr (2, [.int 0, .int 0, .int 0, .int 0, .int 0, .int 0, .ref (E 4), .ref (E 5), .ref (E 6), .ref (E 7), .ref (E 8), .ref (E 9), .ref (E 10), .ref (E 11), .ref (E 12)]))]) [0, 3] rfl
  have hKc := hK.sub (tys' := [(cyI, .int), (cyB, .byte), (cyJ, .long), (cyZ, .boolean), (cyH, .object RX2), (cyN, .array .long)]) [0, 1, 2, 3, 4, 5] rfl
  refine vp_callSi (va_Run.run (va_runV (As := []) (rest := []) ⟨hx, hb, hml, hown, hts⟩ (c_quarrels l dC dI cyI cyB cyJ cyZ cyH cyN (E 0) (E 1) (E 3) (E 13) (E 23) (E 54) (E 55) (E 64) (E 69) (E 71) (E 75) (E 78) (E 80) (E 83) (E 84) (E 4) (E 5) (E 6) (E 7) (E 8) (E 9) (E 10) (E 11) (E 12)) (cwV 0 hts (gdV wd_4_8 wd_4_9 wd_4_10 wd_1_1 wd_4_11) rfl rfl rfl (by decide +kernel) ⟨Nat.le_of_ble_eq_true rfl, Nat.le_of_ble_eq_true rfl⟩) ⟨fun a U g mk q => by obtain ⟨q0, qP, qK⟩ := q; exact ⟨q0, qP, va_K.moved (u := U) (U := U.calling g mk a) (Vm.Alike.refl U.vm) qK⟩, va_recv hKc hPc (ci := 10) (q0 := 0) rfl rfl, fun U hU hW => ⟨rfl, by rw [hU]; exact hPc, va_K.moved hW.alike hKc⟩⟩ rfl rfl hl.1 rfl (lv_room (Nat.le_of_ble_eq_true rfl)) dL_law_901 ⟨Nat.le_of_ble_eq_true rfl, Nat.le_of_ble_eq_true rfl⟩)) (fun r_1 hw => ?_)
  subst hw
  refine lv_aload_n hx hb dL_law_904 rfl (lv_at hl 1 rfl) ?_
  have hPc := hP.sub (ws' := [((E 85), .inr (11, [.int 0, .ref (E 86), .ref (E 87), .ref (E 88), .ref (E 89), .ref (E 90), .int 0, .int 0, .int 0, .int 0, .int 0, .long 0, .int 0, .int 0, .int 0, .int (-1), .ref (E 91), .ref (E 92), .ref (E 93), .ref (E 94), .ref (E 95), .ref (E 96), .ref (E 97), .ref (E 98), .ref (E 99), .ref (E 100), .int 0, .ref (E 101), .ref (E 102), .ref (E 103), .ref (E 104), .int 0, .ref (E 105), .ref (E 106), .ref (E 107), .int 0, .int 0, .int 0, .int 0, .int 0, .int 0, .ref (E 108), .ref (E 109), .long 0])), ((E 91), .inl (cyI, 5, .inl (fun _ => 0))), ((E 92), .inl (cyI, 20, .inl (fun _ => 0)))]) [85, 91, 92] rfl
  have hKc := hK.sub (tys' := [(cyI, .int), (cyB, .byte), (cyJ, .long), (cyZ, .boolean), (cyH, .object RX2), (cyN, .array .long)]) [0, 1, 2, 3, 4, 5] rfl
  have hDc := hD.sub (ws' := [((E 85), .inr (11, [.int 0, .ref (E 86), .ref (E 87), .ref (E 88), .ref (E 89), .ref (E 90), .int 0, .int 0, .int 0, .int 0, .int 0, .long 0, .int 0, .int 0, .int 0, .int (-1), .ref (E 91), .ref (E 92), .ref (E 93), .ref (E 94), .ref (E 95), .ref (E 96), .ref (E 97), .ref (E 98), .ref (E 99), .ref (E 100), .int 0, .ref (E 101), .ref (E 102), .ref (E 103), .ref (E 104), .int 0, .ref (E 105), .ref (E 106), .ref (E 107), .int 0, .int 0, .int 0, .int 0, .int 0, .int 0, .ref (E 108), .ref (E 109), .long 0])), ((E 91), .inl (cyI, 5, .inl (fun _ => 0))), ((E 92), .inl (cyI, 20, .inl (fun _ => 0)))]) [85, 91, 92] (by decide) rfl
  have hFc := va_free (wc := [((E 85), .inr (11, [.int 0, .ref (E 86), .ref (E 87), .ref (E 88), .ref (E 89), .ref (E 90), .int 0, .int 0, .int 0, .int 0, .int 0, .long 0, .int 0, .int 0, .int 0, .int (-1), .ref (E 91), .ref (E 92), .ref (E 93), .ref (E 94), .ref (E 95), .ref (E 96), .ref (E 97), .ref (E 98), .ref (E 99), .ref (E 100), .int 0, .ref (E 101), .ref (E 102), .ref (E 103), .ref (E 104), .int 0, .ref (E 105), .ref (E 106), .ref (E 107), .int 0, .int 0, .int 0, .int 0, .int 0, .int 0, .ref (E 108), .ref (E 109), .long 0])), ((E 91), .inl (cyI, 5, .inl (fun _ => 0))), ((E 92), .inl (cyI, 20, .inl (fun _ => 0)))]) hD hS hA [85, 91, 92] rfl
  refine va_calli (va_runV (As := []) (rest := [.int (-2)]) ⟨hx, hb, hml, hown, hts⟩ (m_quarrels l dC dI cyI cyB cyJ cyZ cyH cyN H.size (E 85) (E 86) (E 87) (E 88) (E 89) (E 90) (E 91) (E 92) (E 93) (E 94) (E 95) (E 96) (E 97) (E 98) (E 99) (E 100) (E 101) (E 102) (E 103) (E 104) (E 105) (E 106) (E 107) (E 108) (E 109)) (cwV 0 hts (gdV wd_7_231 wd_7_232 wd_7_233 wd_1_11 wd_7_234) rfl rfl rfl (by decide +kernel) ⟨Nat.le_of_ble_eq_true rfl, Nat.le_of_ble_eq_true rfl⟩) ⟨fun a U g mk q => by obtain ⟨q0, q1, qP, qK, qD⟩ := q; exact ⟨q0, q1, qP, va_K.moved (u := U) (U := U.calling g mk a) (Vm.Alike.refl U.vm) qK, qD⟩, va_recv hKc hPc (ci := 11) (q0 := 0) rfl rfl, fun U hU hW => ⟨rfl, by rw [hU], by rw [hU]; exact hPc, va_K.moved hW.alike hKc, hDc.weaken (fun _ _ _ _ => trivial)⟩⟩ rfl rfl hl.1 rfl (lv_room (Nat.le_of_ble_eq_true rfl)) dL_law_905 ⟨Nat.le_of_ble_eq_true rfl, Nat.le_of_ble_eq_true rfl⟩) hS (fun q _ h => hFc q h) hFc (fun r_2 u t H1 locs ht hvm hw hB hz1 hk1 hS => ?_)
  generalize H1 = H at hS ⊢
  subst hw
  refine lv_icmp_eq (tgt := 1931) hx hb dL_law_908 (by decide) (fun _ => ?_) (fun c_3 => absurd c_3 (by decide))
  have hS9 : va_S (fun q : Nat => s.heap.size ≤ q) s.heap H locs := by rw [← hAe]; exact hS
  exact law_end C0 hS9 (lv_sub hl [3, 0] rfl) (Nat.le_of_ble_eq_true rfl) (Nat.le_of_ble_eq_true rfl)

set_option maxHeartbeats 4000000 in
set_option maxRecDepth 100000 in
theorem law_c27 {p : Program} {l : Launch} {e : Env} {s : State} {m : MethodId} {below : List Frame} {meth : Method} {c : Code} {b : Nat} {xs : Nat → Int32} (C0 : lw_At p s m meth c b 6 xs) (dC : Nat → ClassId) (dI : Nat → Nat → Nat) (cyI cyB cyJ cyZ cyH cyN : ClassId) (E : Nat → Nat) (iF nF : Nat → Option Nat) (wF : Nat → Int32) (g0 : nF 0 = some (E 57)) (g1 : nF 1 = some (E 58)) (g2 : nF 2 = some (E 59)) (g3 : nF 3 = some (E 60)) (g4 : iF 0 = some (E 24)) (g5 : iF 1 = some (E 34)) (g6 : iF 2 = some (E 44)) (g7 : ∀ j : Nat, j < 4 → wF j = -1) {H : Heap} {locs : List Loc} {ls : Array Slot} (hK : va_K (dC, dI) vwCl [(cyI, .int), (cyB, .byte), (cyJ, .long), (cyZ, .boolean), (cyH, .object RX2), (cyN, .array .long)] s) (hP : va_P (dC, dI) vwCl (wAll cyI cyB cyJ cyZ cyH cyN E iF nF wF) H) {A : Nat → Prop} (hAe : A = fun q => s.heap.size ≤ q) (hD : va_D A (wAll cyI cyB cyJ cyZ cyH cyN E iF nF wF)) (hS : va_S A s.heap H locs) (hl : lv_has ls 4 [(3, .int 0), (2, .ref (E 85)), (1, .ref (E 0)), (0, .ref b)]) : W p l e room_1 s m #[Value.ref b] below meth c H locs 110 15598 (lw_Z below #[Value.ref b] s) (F0 m 913 ls []) := by
  obtain ⟨hx, hb, hr, hml, hown, hts0, hX, hbl, hlocks, hgv⟩ := id C0
  have hts : ∀ w ∈ uU, w.before #[Value.ref b] s = true := fun w h => hts0 w (uU_in h)
  have hbA : ¬ A b := by rw [hAe]; exact Nat.not_le.mpr hbl
  have hA : ∀ q : Nat, s.heap.size ≤ q → A q := fun q h => by rw [hAe]; exact h
  refine lv_aload_n hx hb dL_law_913 rfl (lv_at hl 2 rfl) ?_
  refine lv_aload_n hx hb dL_law_914 rfl (lv_at hl 3 rfl) ?_
  refine lv_iload_n hx hb dL_law_915 rfl (lv_at hl 0 rfl) ?_
  refine lv_iconst (v := 1) hx hb dL_law_916 (by decide) ?_
  refine lv_iadd hx hb dL_law_917 ?_
  refine cv_topi (b := 1) (by decide) ?_
  refine va_sld hx hb hX hbl hbA hS (vp_in_iff.mpr (by decide)) dL_law_918 ?_
  refine cv_topi (b := xs 1) rfl ?_
  have hPc := hP.sub (ws' := [((E 0), .inr (10, [.ref (E 1), .ref (E 3), .ref (E 13), .ref (E 23), .ref (E 54), .ref (E 55), .ref (E 64), .ref (E 69), .ref (E 71), .ref (E 75), .ref (E 78), .ref (E 80), .ref (E 83), .ref (E 84), .null])), ((E 3), .inr (2, [.int 0, .int 0, .int 0, .int 0, .int 0, .int 0, .ref (E 4), .ref (E 5), .ref (E 6), .ref (E 7), .ref (E 8), .ref (E 9), .ref (E 10), .ref (E 11), .ref (E 12)]))]) [0, 3] rfl
  have hKc := hK.sub (tys' := [(cyI, .int), (cyB, .byte), (cyJ, .long), (cyZ, .boolean), (cyH, .object RX2), (cyN, .array .long)]) [0, 1, 2, 3, 4, 5] rfl
  refine vp_callSi (va_Run.run (va_runV (As := [.int (xs 1)]) (rest := []) ⟨hx, hb, hml, hown, hts⟩ (c_finest l dC dI cyI cyB cyJ cyZ cyH cyN (E 0) (E 1) (E 3) (E 13) (E 23) (E 54) (E 55) (E 64) (E 69) (E 71) (E 75) (E 78) (E 80) (E 83) (E 84) (E 4) (E 5) (E 6) (E 7) (E 8) (E 9) (E 10) (E 11) (E 12) (xs 1)) (cwV 1 hts (gdV wd_4_16 wd_4_17 wd_4_18 wd_1_1 wd_4_19) rfl rfl rfl (by decide +kernel) ⟨Nat.le_of_ble_eq_true rfl, Nat.le_of_ble_eq_true rfl⟩) ⟨fun a U g mk q => by obtain ⟨q0, qP, qK⟩ := q; exact ⟨q0, qP, va_K.moved (u := U) (U := U.calling g mk a) (Vm.Alike.refl U.vm) qK⟩, va_recv hKc hPc (ci := 10) (q0 := 0) rfl rfl, fun U hU hW => ⟨rfl, by rw [hU]; exact hPc, va_K.moved hW.alike hKc⟩⟩ rfl rfl hl.1 rfl (lv_room (Nat.le_of_ble_eq_true rfl)) dL_law_919 ⟨Nat.le_of_ble_eq_true rfl, Nat.le_of_ble_eq_true rfl⟩)) (fun r_1 hw => ?_)
  subst hw
  refine lv_aload_n hx hb dL_law_922 rfl (lv_at hl 1 rfl) ?_
  refine lv_aload_n hx hb dL_law_923 rfl (lv_at hl 3 rfl) ?_
  refine lv_iload_n hx hb dL_law_924 rfl (lv_at hl 0 rfl) ?_
  refine lv_iconst (v := 1) hx hb dL_law_925 (by decide) ?_
  refine lv_iadd hx hb dL_law_926 ?_
  refine cv_topi (b := 1) (by decide) ?_
  refine va_sld hx hb hX hbl hbA hS (vp_in_iff.mpr (by decide)) dL_law_927 ?_
  refine cv_topi (b := xs 1) rfl ?_
  have hPc := hP.sub (ws' := [((E 85), .inr (11, [.int 0, .ref (E 86), .ref (E 87), .ref (E 88), .ref (E 89), .ref (E 90), .int 0, .int 0, .int 0, .int 0, .int 0, .long 0, .int 0, .int 0, .int 0, .int (-1), .ref (E 91), .ref (E 92), .ref (E 93), .ref (E 94), .ref (E 95), .ref (E 96), .ref (E 97), .ref (E 98), .ref (E 99), .ref (E 100), .int 0, .ref (E 101), .ref (E 102), .ref (E 103), .ref (E 104), .int 0, .ref (E 105), .ref (E 106), .ref (E 107), .int 0, .int 0, .int 0, .int 0, .int 0, .int 0, .ref (E 108), .ref (E 109), .long 0])), ((E 91), .inl (cyI, 5, .inl (fun _ => 0))), ((E 92), .inl (cyI, 20, .inl (fun _ => 0)))]) [85, 91, 92] rfl
  have hKc := hK.sub (tys' := [(cyI, .int), (cyB, .byte), (cyJ, .long), (cyZ, .boolean), (cyH, .object RX2), (cyN, .array .long)]) [0, 1, 2, 3, 4, 5] rfl
  have hDc := hD.sub (ws' := [((E 85), .inr (11, [.int 0, .ref (E 86), .ref (E 87), .ref (E 88), .ref (E 89), .ref (E 90), .int 0, .int 0, .int 0, .int 0, .int 0, .long 0, .int 0, .int 0, .int 0, .int (-1), .ref (E 91), .ref (E 92), .ref (E 93), .ref (E 94), .ref (E 95), .ref (E 96), .ref (E 97), .ref (E 98), .ref (E 99), .ref (E 100), .int 0, .ref (E 101), .ref (E 102), .ref (E 103), .ref (E 104), .int 0, .ref (E 105), .ref (E 106), .ref (E 107), .int 0, .int 0, .int 0, .int 0, .int 0, .int 0, .ref (E 108), .ref (E 109), .long 0])), ((E 91), .inl (cyI, 5, .inl (fun _ => 0))), ((E 92), .inl (cyI, 20, .inl (fun _ => 0)))]) [85, 91, 92] (by decide) rfl
  have hFc := va_free (wc := [((E 85), .inr (11, [.int 0, .ref (E 86), .ref (E 87), .ref (E 88), .ref (E 89), .ref (E 90), .int 0, .int 0, .int 0, .int 0, .int 0, .long 0, .int 0, .int 0, .int 0, .int (-1), .ref (E 91), .ref (E 92), .ref (E 93), .ref (E 94), .ref (E 95), .ref (E 96), .ref (E 97), .ref (E 98), .ref (E 99), .ref (E 100), .int 0, .ref (E 101), .ref (E 102), .ref (E 103), .ref (E 104), .int 0, .ref (E 105), .ref (E 106), .ref (E 107), .int 0, .int 0, .int 0, .int 0, .int 0, .int 0, .ref (E 108), .ref (E 109), .long 0])), ((E 91), .inl (cyI, 5, .inl (fun _ => 0))), ((E 92), .inl (cyI, 20, .inl (fun _ => 0)))]) hD hS hA [85, 91, 92] rfl
  refine va_calli (va_runV (As := [.int (xs 1)]) (rest := [.int (-2)]) ⟨hx, hb, hml, hown, hts⟩ (m_finest l dC dI cyI cyB cyJ cyZ cyH cyN H.size (E 85) (E 86) (E 87) (E 88) (E 89) (E 90) (E 91) (E 92) (E 93) (E 94) (E 95) (E 96) (E 97) (E 98) (E 99) (E 100) (E 101) (E 102) (E 103) (E 104) (E 105) (E 106) (E 107) (E 108) (E 109) (xs 1)) (cwV 1 hts (gdV wd_7_235 wd_7_236 wd_7_237 wd_1_11 wd_7_238) rfl rfl rfl (by decide +kernel) ⟨Nat.le_of_ble_eq_true rfl, Nat.le_of_ble_eq_true rfl⟩) ⟨fun a U g mk q => by obtain ⟨q0, q1, qP, qK, qD⟩ := q; exact ⟨q0, q1, qP, va_K.moved (u := U) (U := U.calling g mk a) (Vm.Alike.refl U.vm) qK, qD⟩, va_recv hKc hPc (ci := 11) (q0 := 0) rfl rfl, fun U hU hW => ⟨rfl, by rw [hU], by rw [hU]; exact hPc, va_K.moved hW.alike hKc, hDc.weaken (fun _ _ _ _ => trivial)⟩⟩ rfl rfl hl.1 rfl (lv_room (Nat.le_of_ble_eq_true rfl)) dL_law_928 ⟨Nat.le_of_ble_eq_true rfl, Nat.le_of_ble_eq_true rfl⟩) hS (fun q _ h => hFc q h) hFc (fun r_2 u t H1 locs ht hvm hw hB hz1 hk1 hS => ?_)
  generalize H1 = H at hS ⊢
  subst hw
  refine lv_icmp_eq (tgt := 1931) hx hb dL_law_931 (by decide) (fun _ => ?_) (fun c_3 => absurd c_3 (by decide))
  have hS9 : va_S (fun q : Nat => s.heap.size ≤ q) s.heap H locs := by rw [← hAe]; exact hS
  exact law_end C0 hS9 (lv_sub hl [3, 0] rfl) (Nat.le_of_ble_eq_true rfl) (Nat.le_of_ble_eq_true rfl)

set_option maxHeartbeats 4000000 in
set_option maxRecDepth 100000 in
theorem law_c28 {p : Program} {l : Launch} {e : Env} {s : State} {m : MethodId} {below : List Frame} {meth : Method} {c : Code} {b : Nat} {xs : Nat → Int32} (C0 : lw_At p s m meth c b 6 xs) (dC : Nat → ClassId) (dI : Nat → Nat → Nat) (cyI cyB cyJ cyZ cyH cyN : ClassId) (E : Nat → Nat) (iF nF : Nat → Option Nat) (wF : Nat → Int32) (g0 : nF 0 = some (E 57)) (g1 : nF 1 = some (E 58)) (g2 : nF 2 = some (E 59)) (g3 : nF 3 = some (E 60)) (g4 : iF 0 = some (E 24)) (g5 : iF 1 = some (E 34)) (g6 : iF 2 = some (E 44)) (g7 : ∀ j : Nat, j < 4 → wF j = -1) {H : Heap} {locs : List Loc} {ls : Array Slot} (hK : va_K (dC, dI) vwCl [(cyI, .int), (cyB, .byte), (cyJ, .long), (cyZ, .boolean), (cyH, .object RX2), (cyN, .array .long)] s) (hP : va_P (dC, dI) vwCl (wAll cyI cyB cyJ cyZ cyH cyN E iF nF wF) H) {A : Nat → Prop} (hAe : A = fun q => s.heap.size ≤ q) (hD : va_D A (wAll cyI cyB cyJ cyZ cyH cyN E iF nF wF)) (hS : va_S A s.heap H locs) (hl : lv_has ls 4 [(3, .int 0), (2, .ref (E 85)), (1, .ref (E 0)), (0, .ref b)]) : W p l e room_1 s m #[Value.ref b] below meth c H locs 110 15598 (lw_Z below #[Value.ref b] s) (F0 m 936 ls []) := by
  obtain ⟨hx, hb, hr, hml, hown, hts0, hX, hbl, hlocks, hgv⟩ := id C0
  have hts : ∀ w ∈ uU, w.before #[Value.ref b] s = true := fun w h => hts0 w (uU_in h)
  have hbA : ¬ A b := by rw [hAe]; exact Nat.not_le.mpr hbl
  have hA : ∀ q : Nat, s.heap.size ≤ q → A q := fun q h => by rw [hAe]; exact h
  refine lv_aload_n hx hb dL_law_936 rfl (lv_at hl 2 rfl) ?_
  refine lv_aload_n hx hb dL_law_937 rfl (lv_at hl 3 rfl) ?_
  refine lv_iload_n hx hb dL_law_938 rfl (lv_at hl 0 rfl) ?_
  refine lv_iconst (v := 1) hx hb dL_law_939 (by decide) ?_
  refine lv_iadd hx hb dL_law_940 ?_
  refine cv_topi (b := 1) (by decide) ?_
  refine va_sld hx hb hX hbl hbA hS (vp_in_iff.mpr (by decide)) dL_law_941 ?_
  refine cv_topi (b := xs 1) rfl ?_
  refine lv_aload_n hx hb dL_law_942 rfl (lv_at hl 3 rfl) ?_
  refine lv_iload_n hx hb dL_law_943 rfl (lv_at hl 0 rfl) ?_
  refine lv_iconst (v := 2) hx hb dL_law_944 (by decide) ?_
  refine lv_iadd hx hb dL_law_945 ?_
  refine cv_topi (b := 2) (by decide) ?_
  refine va_sld hx hb hX hbl hbA hS (vp_in_iff.mpr (by decide)) dL_law_946 ?_
  refine cv_topi (b := xs 2) rfl ?_
  have hPc := hP.sub (ws' := [((E 0), .inr (10, [.ref (E 1), .ref (E 3), .ref (E 13), .ref (E 23), .ref (E 54), .ref (E 55), .ref (E 64), .ref (E 69), .ref (E 71), .ref (E 75), .ref (E 78), .ref (E 80), .ref (E 83), .ref (E 84), .null])), ((E 3), .inr (2, [.int 0, .int 0, .int 0, .int 0, .int 0, .int 0, .ref (E 4), .ref (E 5), .ref (E 6), .ref (E 7), .ref (E 8), .ref (E 9), .ref (E 10), .ref (E 11), .ref (E 12)]))]) [0, 3] rfl
  have hKc := hK.sub (tys' := [(cyI, .int), (cyB, .byte), (cyJ, .long), (cyZ, .boolean), (cyH, .object RX2), (cyN, .array .long)]) [0, 1, 2, 3, 4, 5] rfl
  refine vp_callSi (va_Run.run (va_runV (As := [.int (xs 1), .int (xs 2)]) (rest := []) ⟨hx, hb, hml, hown, hts⟩ (c_spells l dC dI cyI cyB cyJ cyZ cyH cyN (E 0) (E 1) (E 3) (E 13) (E 23) (E 54) (E 55) (E 64) (E 69) (E 71) (E 75) (E 78) (E 80) (E 83) (E 84) (E 4) (E 5) (E 6) (E 7) (E 8) (E 9) (E 10) (E 11) (E 12) (xs 1) (xs 2)) (cwV 2 hts (gdV wd_4_21 wd_4_22 wd_4_23 wd_1_1 wd_4_24) rfl rfl rfl (by decide +kernel) ⟨Nat.le_of_ble_eq_true rfl, Nat.le_of_ble_eq_true rfl⟩) ⟨fun a U g mk q => by obtain ⟨q0, qP, qK⟩ := q; exact ⟨q0, qP, va_K.moved (u := U) (U := U.calling g mk a) (Vm.Alike.refl U.vm) qK⟩, va_recv hKc hPc (ci := 10) (q0 := 0) rfl rfl, fun U hU hW => ⟨rfl, by rw [hU]; exact hPc, va_K.moved hW.alike hKc⟩⟩ rfl rfl hl.1 rfl (lv_room (Nat.le_of_ble_eq_true rfl)) dL_law_947 ⟨Nat.le_of_ble_eq_true rfl, Nat.le_of_ble_eq_true rfl⟩)) (fun r_1 hw => ?_)
  subst hw
  refine lv_aload_n hx hb dL_law_950 rfl (lv_at hl 1 rfl) ?_
  refine lv_aload_n hx hb dL_law_951 rfl (lv_at hl 3 rfl) ?_
  refine lv_iload_n hx hb dL_law_952 rfl (lv_at hl 0 rfl) ?_
  refine lv_iconst (v := 1) hx hb dL_law_953 (by decide) ?_
  refine lv_iadd hx hb dL_law_954 ?_
  refine cv_topi (b := 1) (by decide) ?_
  refine va_sld hx hb hX hbl hbA hS (vp_in_iff.mpr (by decide)) dL_law_955 ?_
  refine cv_topi (b := xs 1) rfl ?_
  refine lv_aload_n hx hb dL_law_956 rfl (lv_at hl 3 rfl) ?_
  refine lv_iload_n hx hb dL_law_957 rfl (lv_at hl 0 rfl) ?_
  refine lv_iconst (v := 2) hx hb dL_law_958 (by decide) ?_
  refine lv_iadd hx hb dL_law_959 ?_
  refine cv_topi (b := 2) (by decide) ?_
  refine va_sld hx hb hX hbl hbA hS (vp_in_iff.mpr (by decide)) dL_law_960 ?_
  refine cv_topi (b := xs 2) rfl ?_
  have hPc := hP.sub (ws' := [((E 85), .inr (11, [.int 0, .ref (E 86), .ref (E 87), .ref (E 88), .ref (E 89), .ref (E 90), .int 0, .int 0, .int 0, .int 0, .int 0, .long 0, .int 0, .int 0, .int 0, .int (-1), .ref (E 91), .ref (E 92), .ref (E 93), .ref (E 94), .ref (E 95), .ref (E 96), .ref (E 97), .ref (E 98), .ref (E 99), .ref (E 100), .int 0, .ref (E 101), .ref (E 102), .ref (E 103), .ref (E 104), .int 0, .ref (E 105), .ref (E 106), .ref (E 107), .int 0, .int 0, .int 0, .int 0, .int 0, .int 0, .ref (E 108), .ref (E 109), .long 0])), ((E 91), .inl (cyI, 5, .inl (fun _ => 0))), ((E 92), .inl (cyI, 20, .inl (fun _ => 0)))]) [85, 91, 92] rfl
  have hKc := hK.sub (tys' := [(cyI, .int), (cyB, .byte), (cyJ, .long), (cyZ, .boolean), (cyH, .object RX2), (cyN, .array .long)]) [0, 1, 2, 3, 4, 5] rfl
  have hDc := hD.sub (ws' := [((E 85), .inr (11, [.int 0, .ref (E 86), .ref (E 87), .ref (E 88), .ref (E 89), .ref (E 90), .int 0, .int 0, .int 0, .int 0, .int 0, .long 0, .int 0, .int 0, .int 0, .int (-1), .ref (E 91), .ref (E 92), .ref (E 93), .ref (E 94), .ref (E 95), .ref (E 96), .ref (E 97), .ref (E 98), .ref (E 99), .ref (E 100), .int 0, .ref (E 101), .ref (E 102), .ref (E 103), .ref (E 104), .int 0, .ref (E 105), .ref (E 106), .ref (E 107), .int 0, .int 0, .int 0, .int 0, .int 0, .int 0, .ref (E 108), .ref (E 109), .long 0])), ((E 91), .inl (cyI, 5, .inl (fun _ => 0))), ((E 92), .inl (cyI, 20, .inl (fun _ => 0)))]) [85, 91, 92] (by decide) rfl
  have hFc := va_free (wc := [((E 85), .inr (11, [.int 0, .ref (E 86), .ref (E 87), .ref (E 88), .ref (E 89), .ref (E 90), .int 0, .int 0, .int 0, .int 0, .int 0, .long 0, .int 0, .int 0, .int 0, .int (-1), .ref (E 91), .ref (E 92), .ref (E 93), .ref (E 94), .ref (E 95), .ref (E 96), .ref (E 97), .ref (E 98), .ref (E 99), .ref (E 100), .int 0, .ref (E 101), .ref (E 102), .ref (E 103), .ref (E 104), .int 0, .ref (E 105), .ref (E 106), .ref (E 107), .int 0, .int 0, .int 0, .int 0, .int 0, .int 0, .ref (E 108), .ref (E 109), .long 0])), ((E 91), .inl (cyI, 5, .inl (fun _ => 0))), ((E 92), .inl (cyI, 20, .inl (fun _ => 0)))]) hD hS hA [85, 91, 92] rfl
  refine va_calli (va_runV (As := [.int (xs 1), .int (xs 2)]) (rest := [.int (-2)]) ⟨hx, hb, hml, hown, hts⟩ (m_spells l dC dI cyI cyB cyJ cyZ cyH cyN H.size (E 85) (E 86) (E 87) (E 88) (E 89) (E 90) (E 91) (E 92) (E 93) (E 94) (E 95) (E 96) (E 97) (E 98) (E 99) (E 100) (E 101) (E 102) (E 103) (E 104) (E 105) (E 106) (E 107) (E 108) (E 109) (xs 1) (xs 2)) (cwV 2 hts (gdV wd_8_0 wd_8_1 wd_8_2 wd_1_11 wd_8_3) rfl rfl rfl (by decide +kernel) ⟨Nat.le_of_ble_eq_true rfl, Nat.le_of_ble_eq_true rfl⟩) ⟨fun a U g mk q => by obtain ⟨q0, q1, qP, qK, qD⟩ := q; exact ⟨q0, q1, qP, va_K.moved (u := U) (U := U.calling g mk a) (Vm.Alike.refl U.vm) qK, qD⟩, va_recv hKc hPc (ci := 11) (q0 := 0) rfl rfl, fun U hU hW => ⟨rfl, by rw [hU], by rw [hU]; exact hPc, va_K.moved hW.alike hKc, hDc.weaken (fun _ _ _ _ => trivial)⟩⟩ rfl rfl hl.1 rfl (lv_room (Nat.le_of_ble_eq_true rfl)) dL_law_961 ⟨Nat.le_of_ble_eq_true rfl, Nat.le_of_ble_eq_true rfl⟩) hS (fun q _ h => hFc q h) hFc (fun r_2 u t H1 locs ht hvm hw hB hz1 hk1 hS => ?_)
  generalize H1 = H at hS ⊢
  subst hw
  refine lv_icmp_eq (tgt := 1931) hx hb dL_law_964 (by decide) (fun _ => ?_) (fun c_3 => absurd c_3 (by decide))
  have hS9 : va_S (fun q : Nat => s.heap.size ≤ q) s.heap H locs := by rw [← hAe]; exact hS
  exact law_end C0 hS9 (lv_sub hl [3, 0] rfl) (Nat.le_of_ble_eq_true rfl) (Nat.le_of_ble_eq_true rfl)

set_option maxHeartbeats 4000000 in
set_option maxRecDepth 100000 in
theorem law_c29 {p : Program} {l : Launch} {e : Env} {s : State} {m : MethodId} {below : List Frame} {meth : Method} {c : Code} {b : Nat} {xs : Nat → Int32} (C0 : lw_At p s m meth c b 6 xs) (dC : Nat → ClassId) (dI : Nat → Nat → Nat) (cyI cyB cyJ cyZ cyH cyN : ClassId) (E : Nat → Nat) (iF nF : Nat → Option Nat) (wF : Nat → Int32) (g0 : nF 0 = some (E 57)) (g1 : nF 1 = some (E 58)) (g2 : nF 2 = some (E 59)) (g3 : nF 3 = some (E 60)) (g4 : iF 0 = some (E 24)) (g5 : iF 1 = some (E 34)) (g6 : iF 2 = some (E 44)) (g7 : ∀ j : Nat, j < 4 → wF j = -1) {H : Heap} {locs : List Loc} {ls : Array Slot} (hK : va_K (dC, dI) vwCl [(cyI, .int), (cyB, .byte), (cyJ, .long), (cyZ, .boolean), (cyH, .object RX2), (cyN, .array .long)] s) (hP : va_P (dC, dI) vwCl (wAll cyI cyB cyJ cyZ cyH cyN E iF nF wF) H) {A : Nat → Prop} (hAe : A = fun q => s.heap.size ≤ q) (hD : va_D A (wAll cyI cyB cyJ cyZ cyH cyN E iF nF wF)) (hS : va_S A s.heap H locs) (hl : lv_has ls 4 [(3, .int 0), (2, .ref (E 85)), (1, .ref (E 0)), (0, .ref b)]) : W p l e room_1 s m #[Value.ref b] below meth c H locs 110 15598 (lw_Z below #[Value.ref b] s) (F0 m 969 ls []) := by
  obtain ⟨hx, hb, hr, hml, hown, hts0, hX, hbl, hlocks, hgv⟩ := id C0
  have hts : ∀ w ∈ uU, w.before #[Value.ref b] s = true := fun w h => hts0 w (uU_in h)
  have hbA : ¬ A b := by rw [hAe]; exact Nat.not_le.mpr hbl
  have hA : ∀ q : Nat, s.heap.size ≤ q → A q := fun q h => by rw [hAe]; exact h
  refine lv_aload_n hx hb dL_law_969 rfl (lv_at hl 2 rfl) ?_
  refine lv_aload_n hx hb dL_law_970 rfl (lv_at hl 3 rfl) ?_
  refine lv_iload_n hx hb dL_law_971 rfl (lv_at hl 0 rfl) ?_
  refine lv_iconst (v := 1) hx hb dL_law_972 (by decide) ?_
  refine lv_iadd hx hb dL_law_973 ?_
  refine cv_topi (b := 1) (by decide) ?_
  refine va_sld hx hb hX hbl hbA hS (vp_in_iff.mpr (by decide)) dL_law_974 ?_
  refine cv_topi (b := xs 1) rfl ?_
  have hPc := hP.sub (ws' := [((E 0), .inr (10, [.ref (E 1), .ref (E 3), .ref (E 13), .ref (E 23), .ref (E 54), .ref (E 55), .ref (E 64), .ref (E 69), .ref (E 71), .ref (E 75), .ref (E 78), .ref (E 80), .ref (E 83), .ref (E 84), .null])), ((E 3), .inr (2, [.int 0, .int 0, .int 0, .int 0, .int 0, .int 0, .ref (E 4), .ref (E 5), .ref (E 6), .ref (E 7), .ref (E 8), .ref (E 9), .ref (E 10), .ref (E 11), .ref (E 12)]))]) [0, 3] rfl
  have hKc := hK.sub (tys' := [(cyI, .int), (cyB, .byte), (cyJ, .long), (cyZ, .boolean), (cyH, .object RX2), (cyN, .array .long)]) [0, 1, 2, 3, 4, 5] rfl
  refine vp_callSi (va_Run.run (va_runV (As := [.int (xs 1)]) (rest := []) ⟨hx, hb, hml, hown, hts⟩ (c_slide l dC dI cyI cyB cyJ cyZ cyH cyN (E 0) (E 1) (E 3) (E 13) (E 23) (E 54) (E 55) (E 64) (E 69) (E 71) (E 75) (E 78) (E 80) (E 83) (E 84) (E 4) (E 5) (E 6) (E 7) (E 8) (E 9) (E 10) (E 11) (E 12) (xs 1)) (cwV 1 hts (gdV wd_4_25 wd_4_26 wd_4_27 wd_1_1 wd_4_28) rfl rfl rfl (by decide +kernel) ⟨Nat.le_of_ble_eq_true rfl, Nat.le_of_ble_eq_true rfl⟩) ⟨fun a U g mk q => by obtain ⟨q0, qP, qK⟩ := q; exact ⟨q0, qP, va_K.moved (u := U) (U := U.calling g mk a) (Vm.Alike.refl U.vm) qK⟩, va_recv hKc hPc (ci := 10) (q0 := 0) rfl rfl, fun U hU hW => ⟨rfl, by rw [hU]; exact hPc, va_K.moved hW.alike hKc⟩⟩ rfl rfl hl.1 rfl (lv_room (Nat.le_of_ble_eq_true rfl)) dL_law_975 ⟨Nat.le_of_ble_eq_true rfl, Nat.le_of_ble_eq_true rfl⟩)) (fun r_1 hw => ?_)
  subst hw
  refine lv_aload_n hx hb dL_law_978 rfl (lv_at hl 1 rfl) ?_
  refine lv_aload_n hx hb dL_law_979 rfl (lv_at hl 3 rfl) ?_
  refine lv_iload_n hx hb dL_law_980 rfl (lv_at hl 0 rfl) ?_
  refine lv_iconst (v := 1) hx hb dL_law_981 (by decide) ?_
  refine lv_iadd hx hb dL_law_982 ?_
  refine cv_topi (b := 1) (by decide) ?_
  refine va_sld hx hb hX hbl hbA hS (vp_in_iff.mpr (by decide)) dL_law_983 ?_
  refine cv_topi (b := xs 1) rfl ?_
  have hPc := hP.sub (ws' := [((E 85), .inr (11, [.int 0, .ref (E 86), .ref (E 87), .ref (E 88), .ref (E 89), .ref (E 90), .int 0, .int 0, .int 0, .int 0, .int 0, .long 0, .int 0, .int 0, .int 0, .int (-1), .ref (E 91), .ref (E 92), .ref (E 93), .ref (E 94), .ref (E 95), .ref (E 96), .ref (E 97), .ref (E 98), .ref (E 99), .ref (E 100), .int 0, .ref (E 101), .ref (E 102), .ref (E 103), .ref (E 104), .int 0, .ref (E 105), .ref (E 106), .ref (E 107), .int 0, .int 0, .int 0, .int 0, .int 0, .int 0, .ref (E 108), .ref (E 109), .long 0])), ((E 91), .inl (cyI, 5, .inl (fun _ => 0))), ((E 92), .inl (cyI, 20, .inl (fun _ => 0)))]) [85, 91, 92] rfl
  have hKc := hK.sub (tys' := [(cyI, .int), (cyB, .byte), (cyJ, .long), (cyZ, .boolean), (cyH, .object RX2), (cyN, .array .long)]) [0, 1, 2, 3, 4, 5] rfl
  have hDc := hD.sub (ws' := [((E 85), .inr (11, [.int 0, .ref (E 86), .ref (E 87), .ref (E 88), .ref (E 89), .ref (E 90), .int 0, .int 0, .int 0, .int 0, .int 0, .long 0, .int 0, .int 0, .int 0, .int (-1), .ref (E 91), .ref (E 92), .ref (E 93), .ref (E 94), .ref (E 95), .ref (E 96), .ref (E 97), .ref (E 98), .ref (E 99), .ref (E 100), .int 0, .ref (E 101), .ref (E 102), .ref (E 103), .ref (E 104), .int 0, .ref (E 105), .ref (E 106), .ref (E 107), .int 0, .int 0, .int 0, .int 0, .int 0, .int 0, .ref (E 108), .ref (E 109), .long 0])), ((E 91), .inl (cyI, 5, .inl (fun _ => 0))), ((E 92), .inl (cyI, 20, .inl (fun _ => 0)))]) [85, 91, 92] (by decide) rfl
  have hFc := va_free (wc := [((E 85), .inr (11, [.int 0, .ref (E 86), .ref (E 87), .ref (E 88), .ref (E 89), .ref (E 90), .int 0, .int 0, .int 0, .int 0, .int 0, .long 0, .int 0, .int 0, .int 0, .int (-1), .ref (E 91), .ref (E 92), .ref (E 93), .ref (E 94), .ref (E 95), .ref (E 96), .ref (E 97), .ref (E 98), .ref (E 99), .ref (E 100), .int 0, .ref (E 101), .ref (E 102), .ref (E 103), .ref (E 104), .int 0, .ref (E 105), .ref (E 106), .ref (E 107), .int 0, .int 0, .int 0, .int 0, .int 0, .int 0, .ref (E 108), .ref (E 109), .long 0])), ((E 91), .inl (cyI, 5, .inl (fun _ => 0))), ((E 92), .inl (cyI, 20, .inl (fun _ => 0)))]) hD hS hA [85, 91, 92] rfl
  refine va_calli (va_runV (As := [.int (xs 1)]) (rest := [.int (-2)]) ⟨hx, hb, hml, hown, hts⟩ (m_slide l dC dI cyI cyB cyJ cyZ cyH cyN H.size (E 85) (E 86) (E 87) (E 88) (E 89) (E 90) (E 91) (E 92) (E 93) (E 94) (E 95) (E 96) (E 97) (E 98) (E 99) (E 100) (E 101) (E 102) (E 103) (E 104) (E 105) (E 106) (E 107) (E 108) (E 109) (xs 1)) (cwV 1 hts (gdV wd_8_4 wd_8_5 wd_8_6 wd_1_11 wd_8_7) rfl rfl rfl (by decide +kernel) ⟨Nat.le_of_ble_eq_true rfl, Nat.le_of_ble_eq_true rfl⟩) ⟨fun a U g mk q => by obtain ⟨q0, q1, qP, qK, qD⟩ := q; exact ⟨q0, q1, qP, va_K.moved (u := U) (U := U.calling g mk a) (Vm.Alike.refl U.vm) qK, qD⟩, va_recv hKc hPc (ci := 11) (q0 := 0) rfl rfl, fun U hU hW => ⟨rfl, by rw [hU], by rw [hU]; exact hPc, va_K.moved hW.alike hKc, hDc.weaken (fun _ _ _ _ => trivial)⟩⟩ rfl rfl hl.1 rfl (lv_room (Nat.le_of_ble_eq_true rfl)) dL_law_984 ⟨Nat.le_of_ble_eq_true rfl, Nat.le_of_ble_eq_true rfl⟩) hS (fun q _ h => hFc q h) hFc (fun r_2 u t H1 locs ht hvm hw hB hz1 hk1 hS => ?_)
  generalize H1 = H at hS ⊢
  subst hw
  refine lv_icmp_eq (tgt := 1931) hx hb dL_law_987 (by decide) (fun _ => ?_) (fun c_3 => absurd c_3 (by decide))
  have hS9 : va_S (fun q : Nat => s.heap.size ≤ q) s.heap H locs := by rw [← hAe]; exact hS
  exact law_end C0 hS9 (lv_sub hl [3, 0] rfl) (Nat.le_of_ble_eq_true rfl) (Nat.le_of_ble_eq_true rfl)

set_option maxHeartbeats 4000000 in
set_option maxRecDepth 100000 in
theorem law_c30 {p : Program} {l : Launch} {e : Env} {s : State} {m : MethodId} {below : List Frame} {meth : Method} {c : Code} {b : Nat} {xs : Nat → Int32} (C0 : lw_At p s m meth c b 6 xs) (dC : Nat → ClassId) (dI : Nat → Nat → Nat) (cyI cyB cyJ cyZ cyH cyN : ClassId) (E : Nat → Nat) (iF nF : Nat → Option Nat) (wF : Nat → Int32) (g0 : nF 0 = some (E 57)) (g1 : nF 1 = some (E 58)) (g2 : nF 2 = some (E 59)) (g3 : nF 3 = some (E 60)) (g4 : iF 0 = some (E 24)) (g5 : iF 1 = some (E 34)) (g6 : iF 2 = some (E 44)) (g7 : ∀ j : Nat, j < 4 → wF j = -1) {H : Heap} {locs : List Loc} {ls : Array Slot} (hK : va_K (dC, dI) vwCl [(cyI, .int), (cyB, .byte), (cyJ, .long), (cyZ, .boolean), (cyH, .object RX2), (cyN, .array .long)] s) (hP : va_P (dC, dI) vwCl (wAll cyI cyB cyJ cyZ cyH cyN E iF nF wF) H) {A : Nat → Prop} (hAe : A = fun q => s.heap.size ≤ q) (hD : va_D A (wAll cyI cyB cyJ cyZ cyH cyN E iF nF wF)) (hS : va_S A s.heap H locs) (hl : lv_has ls 4 [(3, .int 0), (2, .ref (E 85)), (1, .ref (E 0)), (0, .ref b)]) : W p l e room_1 s m #[Value.ref b] below meth c H locs 110 15598 (lw_Z below #[Value.ref b] s) (F0 m 992 ls []) := by
  obtain ⟨hx, hb, hr, hml, hown, hts0, hX, hbl, hlocks, hgv⟩ := id C0
  have hts : ∀ w ∈ uU, w.before #[Value.ref b] s = true := fun w h => hts0 w (uU_in h)
  have hbA : ¬ A b := by rw [hAe]; exact Nat.not_le.mpr hbl
  have hA : ∀ q : Nat, s.heap.size ≤ q → A q := fun q h => by rw [hAe]; exact h
  refine lv_aload_n hx hb dL_law_992 rfl (lv_at hl 2 rfl) ?_
  refine lv_aload_n hx hb dL_law_993 rfl (lv_at hl 3 rfl) ?_
  refine lv_iload_n hx hb dL_law_994 rfl (lv_at hl 0 rfl) ?_
  refine lv_iconst (v := 1) hx hb dL_law_995 (by decide) ?_
  refine lv_iadd hx hb dL_law_996 ?_
  refine cv_topi (b := 1) (by decide) ?_
  refine va_sld hx hb hX hbl hbA hS (vp_in_iff.mpr (by decide)) dL_law_997 ?_
  refine cv_topi (b := xs 1) rfl ?_
  refine lv_aload_n hx hb dL_law_998 rfl (lv_at hl 3 rfl) ?_
  refine lv_iload_n hx hb dL_law_999 rfl (lv_at hl 0 rfl) ?_
  refine lv_iconst (v := 2) hx hb dL_law_1000 (by decide) ?_
  refine lv_iadd hx hb dL_law_1001 ?_
  refine cv_topi (b := 2) (by decide) ?_
  refine va_sld hx hb hX hbl hbA hS (vp_in_iff.mpr (by decide)) dL_law_1002 ?_
  refine cv_topi (b := xs 2) rfl ?_
  have hPc := hP.sub (ws' := [((E 0), .inr (10, [.ref (E 1), .ref (E 3), .ref (E 13), .ref (E 23), .ref (E 54), .ref (E 55), .ref (E 64), .ref (E 69), .ref (E 71), .ref (E 75), .ref (E 78), .ref (E 80), .ref (E 83), .ref (E 84), .null])), ((E 3), .inr (2, [.int 0, .int 0, .int 0, .int 0, .int 0, .int 0, .ref (E 4), .ref (E 5), .ref (E 6), .ref (E 7), .ref (E 8), .ref (E 9), .ref (E 10), .ref (E 11), .ref (E 12)]))]) [0, 3] rfl
  have hKc := hK.sub (tys' := [(cyI, .int), (cyB, .byte), (cyJ, .long), (cyZ, .boolean), (cyH, .object RX2), (cyN, .array .long)]) [0, 1, 2, 3, 4, 5] rfl
  refine vp_callSi (va_Run.run (va_runV (As := [.int (xs 1), .int (xs 2)]) (rest := []) ⟨hx, hb, hml, hown, hts⟩ (c_slides l dC dI cyI cyB cyJ cyZ cyH cyN (E 0) (E 1) (E 3) (E 13) (E 23) (E 54) (E 55) (E 64) (E 69) (E 71) (E 75) (E 78) (E 80) (E 83) (E 84) (E 4) (E 5) (E 6) (E 7) (E 8) (E 9) (E 10) (E 11) (E 12) (xs 1) (xs 2)) (cwV 2 hts (gdV wd_4_137 wd_4_138 wd_4_139 wd_1_1 wd_4_140) rfl rfl rfl (by decide +kernel) ⟨Nat.le_of_ble_eq_true rfl, Nat.le_of_ble_eq_true rfl⟩) ⟨fun a U g mk q => by obtain ⟨q0, qP, qK⟩ := q; exact ⟨q0, qP, va_K.moved (u := U) (U := U.calling g mk a) (Vm.Alike.refl U.vm) qK⟩, va_recv hKc hPc (ci := 10) (q0 := 0) rfl rfl, fun U hU hW => ⟨rfl, by rw [hU]; exact hPc, va_K.moved hW.alike hKc⟩⟩ rfl rfl hl.1 rfl (lv_room (Nat.le_of_ble_eq_true rfl)) dL_law_1003 ⟨Nat.le_of_ble_eq_true rfl, Nat.le_of_ble_eq_true rfl⟩)) (fun r_1 hw => ?_)
  subst hw
  refine lv_aload_n hx hb dL_law_1006 rfl (lv_at hl 1 rfl) ?_
  refine lv_aload_n hx hb dL_law_1007 rfl (lv_at hl 3 rfl) ?_
  refine lv_iload_n hx hb dL_law_1008 rfl (lv_at hl 0 rfl) ?_
  refine lv_iconst (v := 1) hx hb dL_law_1009 (by decide) ?_
  refine lv_iadd hx hb dL_law_1010 ?_
  refine cv_topi (b := 1) (by decide) ?_
  refine va_sld hx hb hX hbl hbA hS (vp_in_iff.mpr (by decide)) dL_law_1011 ?_
  refine cv_topi (b := xs 1) rfl ?_
  refine lv_aload_n hx hb dL_law_1012 rfl (lv_at hl 3 rfl) ?_
  refine lv_iload_n hx hb dL_law_1013 rfl (lv_at hl 0 rfl) ?_
  refine lv_iconst (v := 2) hx hb dL_law_1014 (by decide) ?_
  refine lv_iadd hx hb dL_law_1015 ?_
  refine cv_topi (b := 2) (by decide) ?_
  refine va_sld hx hb hX hbl hbA hS (vp_in_iff.mpr (by decide)) dL_law_1016 ?_
  refine cv_topi (b := xs 2) rfl ?_
  have hPc := hP.sub (ws' := [((E 85), .inr (11, [.int 0, .ref (E 86), .ref (E 87), .ref (E 88), .ref (E 89), .ref (E 90), .int 0, .int 0, .int 0, .int 0, .int 0, .long 0, .int 0, .int 0, .int 0, .int (-1), .ref (E 91), .ref (E 92), .ref (E 93), .ref (E 94), .ref (E 95), .ref (E 96), .ref (E 97), .ref (E 98), .ref (E 99), .ref (E 100), .int 0, .ref (E 101), .ref (E 102), .ref (E 103), .ref (E 104), .int 0, .ref (E 105), .ref (E 106), .ref (E 107), .int 0, .int 0, .int 0, .int 0, .int 0, .int 0, .ref (E 108), .ref (E 109), .long 0])), ((E 91), .inl (cyI, 5, .inl (fun _ => 0))), ((E 92), .inl (cyI, 20, .inl (fun _ => 0)))]) [85, 91, 92] rfl
  have hKc := hK.sub (tys' := [(cyI, .int), (cyB, .byte), (cyJ, .long), (cyZ, .boolean), (cyH, .object RX2), (cyN, .array .long)]) [0, 1, 2, 3, 4, 5] rfl
  have hDc := hD.sub (ws' := [((E 85), .inr (11, [.int 0, .ref (E 86), .ref (E 87), .ref (E 88), .ref (E 89), .ref (E 90), .int 0, .int 0, .int 0, .int 0, .int 0, .long 0, .int 0, .int 0, .int 0, .int (-1), .ref (E 91), .ref (E 92), .ref (E 93), .ref (E 94), .ref (E 95), .ref (E 96), .ref (E 97), .ref (E 98), .ref (E 99), .ref (E 100), .int 0, .ref (E 101), .ref (E 102), .ref (E 103), .ref (E 104), .int 0, .ref (E 105), .ref (E 106), .ref (E 107), .int 0, .int 0, .int 0, .int 0, .int 0, .int 0, .ref (E 108), .ref (E 109), .long 0])), ((E 91), .inl (cyI, 5, .inl (fun _ => 0))), ((E 92), .inl (cyI, 20, .inl (fun _ => 0)))]) [85, 91, 92] (by decide) rfl
  have hFc := va_free (wc := [((E 85), .inr (11, [.int 0, .ref (E 86), .ref (E 87), .ref (E 88), .ref (E 89), .ref (E 90), .int 0, .int 0, .int 0, .int 0, .int 0, .long 0, .int 0, .int 0, .int 0, .int (-1), .ref (E 91), .ref (E 92), .ref (E 93), .ref (E 94), .ref (E 95), .ref (E 96), .ref (E 97), .ref (E 98), .ref (E 99), .ref (E 100), .int 0, .ref (E 101), .ref (E 102), .ref (E 103), .ref (E 104), .int 0, .ref (E 105), .ref (E 106), .ref (E 107), .int 0, .int 0, .int 0, .int 0, .int 0, .int 0, .ref (E 108), .ref (E 109), .long 0])), ((E 91), .inl (cyI, 5, .inl (fun _ => 0))), ((E 92), .inl (cyI, 20, .inl (fun _ => 0)))]) hD hS hA [85, 91, 92] rfl
  refine va_calli (va_runV (As := [.int (xs 1), .int (xs 2)]) (rest := [.int (-2)]) ⟨hx, hb, hml, hown, hts⟩ (m_slides l dC dI cyI cyB cyJ cyZ cyH cyN H.size (E 85) (E 86) (E 87) (E 88) (E 89) (E 90) (E 91) (E 92) (E 93) (E 94) (E 95) (E 96) (E 97) (E 98) (E 99) (E 100) (E 101) (E 102) (E 103) (E 104) (E 105) (E 106) (E 107) (E 108) (E 109) (xs 1) (xs 2)) (cwV 2 hts (gdV wd_8_39 wd_8_40 wd_8_41 wd_1_11 wd_8_42) rfl rfl rfl (by decide +kernel) ⟨Nat.le_of_ble_eq_true rfl, Nat.le_of_ble_eq_true rfl⟩) ⟨fun a U g mk q => by obtain ⟨q0, q1, qP, qK, qD⟩ := q; exact ⟨q0, q1, qP, va_K.moved (u := U) (U := U.calling g mk a) (Vm.Alike.refl U.vm) qK, qD⟩, va_recv hKc hPc (ci := 11) (q0 := 0) rfl rfl, fun U hU hW => ⟨rfl, by rw [hU], by rw [hU]; exact hPc, va_K.moved hW.alike hKc, hDc.weaken (fun _ _ _ _ => trivial)⟩⟩ rfl rfl hl.1 rfl (lv_room (Nat.le_of_ble_eq_true rfl)) dL_law_1017 ⟨Nat.le_of_ble_eq_true rfl, Nat.le_of_ble_eq_true rfl⟩) hS (fun q _ h => hFc q h) hFc (fun r_2 u t H1 locs ht hvm hw hB hz1 hk1 hS => ?_)
  generalize H1 = H at hS ⊢
  subst hw
  refine lv_icmp_eq (tgt := 1931) hx hb dL_law_1020 (by decide) (fun _ => ?_) (fun c_3 => absurd c_3 (by decide))
  have hS9 : va_S (fun q : Nat => s.heap.size ≤ q) s.heap H locs := by rw [← hAe]; exact hS
  exact law_end C0 hS9 (lv_sub hl [3, 0] rfl) (Nat.le_of_ble_eq_true rfl) (Nat.le_of_ble_eq_true rfl)

set_option maxHeartbeats 4000000 in
set_option maxRecDepth 100000 in
theorem law_c31 {p : Program} {l : Launch} {e : Env} {s : State} {m : MethodId} {below : List Frame} {meth : Method} {c : Code} {b : Nat} {xs : Nat → Int32} (C0 : lw_At p s m meth c b 6 xs) (dC : Nat → ClassId) (dI : Nat → Nat → Nat) (cyI cyB cyJ cyZ cyH cyN : ClassId) (E : Nat → Nat) (iF nF : Nat → Option Nat) (wF : Nat → Int32) (g0 : nF 0 = some (E 57)) (g1 : nF 1 = some (E 58)) (g2 : nF 2 = some (E 59)) (g3 : nF 3 = some (E 60)) (g4 : iF 0 = some (E 24)) (g5 : iF 1 = some (E 34)) (g6 : iF 2 = some (E 44)) (g7 : ∀ j : Nat, j < 4 → wF j = -1) {H : Heap} {locs : List Loc} {ls : Array Slot} (hK : va_K (dC, dI) vwCl [(cyI, .int), (cyB, .byte), (cyJ, .long), (cyZ, .boolean), (cyH, .object RX2), (cyN, .array .long)] s) (hP : va_P (dC, dI) vwCl (wAll cyI cyB cyJ cyZ cyH cyN E iF nF wF) H) {A : Nat → Prop} (hAe : A = fun q => s.heap.size ≤ q) (hD : va_D A (wAll cyI cyB cyJ cyZ cyH cyN E iF nF wF)) (hS : va_S A s.heap H locs) (hl : lv_has ls 4 [(3, .int 0), (2, .ref (E 85)), (1, .ref (E 0)), (0, .ref b)]) : W p l e room_1 s m #[Value.ref b] below meth c H locs 110 15598 (lw_Z below #[Value.ref b] s) (F0 m 1025 ls []) := by
  obtain ⟨hx, hb, hr, hml, hown, hts0, hX, hbl, hlocks, hgv⟩ := id C0
  have hts : ∀ w ∈ uU, w.before #[Value.ref b] s = true := fun w h => hts0 w (uU_in h)
  have hbA : ¬ A b := by rw [hAe]; exact Nat.not_le.mpr hbl
  have hA : ∀ q : Nat, s.heap.size ≤ q → A q := fun q h => by rw [hAe]; exact h
  refine lv_aload_n hx hb dL_law_1025 rfl (lv_at hl 2 rfl) ?_
  have hPc := hP.sub (ws' := [((E 0), .inr (10, [.ref (E 1), .ref (E 3), .ref (E 13), .ref (E 23), .ref (E 54), .ref (E 55), .ref (E 64), .ref (E 69), .ref (E 71), .ref (E 75), .ref (E 78), .ref (E 80), .ref (E 83), .ref (E 84), .null])), ((E 3), .inr (2, [.int 0, .int 0, .int 0, .int 0, .int 0, .int 0, .ref (E 4), .ref (E 5), .ref (E 6), .ref (E 7), .ref (E 8), .ref (E 9), .ref (E 10), .ref (E 11), .ref (E 12)]))]) [0, 3] rfl
  have hKc := hK.sub (tys' := [(cyI, .int), (cyB, .byte), (cyJ, .long), (cyZ, .boolean), (cyH, .object RX2), (cyN, .array .long)]) [0, 1, 2, 3, 4, 5] rfl
  refine vp_callSi (va_Run.run (va_runV (As := []) (rest := []) ⟨hx, hb, hml, hown, hts⟩ (c_reach l dC dI cyI cyB cyJ cyZ cyH cyN (E 0) (E 1) (E 3) (E 13) (E 23) (E 54) (E 55) (E 64) (E 69) (E 71) (E 75) (E 78) (E 80) (E 83) (E 84) (E 4) (E 5) (E 6) (E 7) (E 8) (E 9) (E 10) (E 11) (E 12)) (cwV 0 hts (gdV wd_4_153 wd_4_154 wd_4_155 wd_1_1 wd_4_156) rfl rfl rfl (by decide +kernel) ⟨Nat.le_of_ble_eq_true rfl, Nat.le_of_ble_eq_true rfl⟩) ⟨fun a U g mk q => by obtain ⟨q0, qP, qK⟩ := q; exact ⟨q0, qP, va_K.moved (u := U) (U := U.calling g mk a) (Vm.Alike.refl U.vm) qK⟩, va_recv hKc hPc (ci := 10) (q0 := 0) rfl rfl, fun U hU hW => ⟨rfl, by rw [hU]; exact hPc, va_K.moved hW.alike hKc⟩⟩ rfl rfl hl.1 rfl (lv_room (Nat.le_of_ble_eq_true rfl)) dL_law_1026 ⟨Nat.le_of_ble_eq_true rfl, Nat.le_of_ble_eq_true rfl⟩)) (fun r_1 hw => ?_)
  subst hw
  refine lv_aload_n hx hb dL_law_1029 rfl (lv_at hl 1 rfl) ?_
  have hPc := hP.sub (ws' := [((E 85), .inr (11, [.int 0, .ref (E 86), .ref (E 87), .ref (E 88), .ref (E 89), .ref (E 90), .int 0, .int 0, .int 0, .int 0, .int 0, .long 0, .int 0, .int 0, .int 0, .int (-1), .ref (E 91), .ref (E 92), .ref (E 93), .ref (E 94), .ref (E 95), .ref (E 96), .ref (E 97), .ref (E 98), .ref (E 99), .ref (E 100), .int 0, .ref (E 101), .ref (E 102), .ref (E 103), .ref (E 104), .int 0, .ref (E 105), .ref (E 106), .ref (E 107), .int 0, .int 0, .int 0, .int 0, .int 0, .int 0, .ref (E 108), .ref (E 109), .long 0])), ((E 91), .inl (cyI, 5, .inl (fun _ => 0))), ((E 92), .inl (cyI, 20, .inl (fun _ => 0)))]) [85, 91, 92] rfl
  have hKc := hK.sub (tys' := [(cyI, .int), (cyB, .byte), (cyJ, .long), (cyZ, .boolean), (cyH, .object RX2), (cyN, .array .long)]) [0, 1, 2, 3, 4, 5] rfl
  have hDc := hD.sub (ws' := [((E 85), .inr (11, [.int 0, .ref (E 86), .ref (E 87), .ref (E 88), .ref (E 89), .ref (E 90), .int 0, .int 0, .int 0, .int 0, .int 0, .long 0, .int 0, .int 0, .int 0, .int (-1), .ref (E 91), .ref (E 92), .ref (E 93), .ref (E 94), .ref (E 95), .ref (E 96), .ref (E 97), .ref (E 98), .ref (E 99), .ref (E 100), .int 0, .ref (E 101), .ref (E 102), .ref (E 103), .ref (E 104), .int 0, .ref (E 105), .ref (E 106), .ref (E 107), .int 0, .int 0, .int 0, .int 0, .int 0, .int 0, .ref (E 108), .ref (E 109), .long 0])), ((E 91), .inl (cyI, 5, .inl (fun _ => 0))), ((E 92), .inl (cyI, 20, .inl (fun _ => 0)))]) [85, 91, 92] (by decide) rfl
  have hFc := va_free (wc := [((E 85), .inr (11, [.int 0, .ref (E 86), .ref (E 87), .ref (E 88), .ref (E 89), .ref (E 90), .int 0, .int 0, .int 0, .int 0, .int 0, .long 0, .int 0, .int 0, .int 0, .int (-1), .ref (E 91), .ref (E 92), .ref (E 93), .ref (E 94), .ref (E 95), .ref (E 96), .ref (E 97), .ref (E 98), .ref (E 99), .ref (E 100), .int 0, .ref (E 101), .ref (E 102), .ref (E 103), .ref (E 104), .int 0, .ref (E 105), .ref (E 106), .ref (E 107), .int 0, .int 0, .int 0, .int 0, .int 0, .int 0, .ref (E 108), .ref (E 109), .long 0])), ((E 91), .inl (cyI, 5, .inl (fun _ => 0))), ((E 92), .inl (cyI, 20, .inl (fun _ => 0)))]) hD hS hA [85, 91, 92] rfl
  refine va_calli (va_runV (As := []) (rest := [.int (-2)]) ⟨hx, hb, hml, hown, hts⟩ (m_reach l dC dI cyI cyB cyJ cyZ cyH cyN H.size (E 85) (E 86) (E 87) (E 88) (E 89) (E 90) (E 91) (E 92) (E 93) (E 94) (E 95) (E 96) (E 97) (E 98) (E 99) (E 100) (E 101) (E 102) (E 103) (E 104) (E 105) (E 106) (E 107) (E 108) (E 109)) (cwV 0 hts (gdV wd_8_43 wd_8_44 wd_8_45 wd_1_11 wd_8_46) rfl rfl rfl (by decide +kernel) ⟨Nat.le_of_ble_eq_true rfl, Nat.le_of_ble_eq_true rfl⟩) ⟨fun a U g mk q => by obtain ⟨q0, q1, qP, qK, qD⟩ := q; exact ⟨q0, q1, qP, va_K.moved (u := U) (U := U.calling g mk a) (Vm.Alike.refl U.vm) qK, qD⟩, va_recv hKc hPc (ci := 11) (q0 := 0) rfl rfl, fun U hU hW => ⟨rfl, by rw [hU], by rw [hU]; exact hPc, va_K.moved hW.alike hKc, hDc.weaken (fun _ _ _ _ => trivial)⟩⟩ rfl rfl hl.1 rfl (lv_room (Nat.le_of_ble_eq_true rfl)) dL_law_1030 ⟨Nat.le_of_ble_eq_true rfl, Nat.le_of_ble_eq_true rfl⟩) hS (fun q _ h => hFc q h) hFc (fun r_2 u t H1 locs ht hvm hw hB hz1 hk1 hS => ?_)
  generalize H1 = H at hS ⊢
  subst hw
  refine lv_icmp_eq (tgt := 1931) hx hb dL_law_1033 (by decide) (fun _ => ?_) (fun c_3 => absurd c_3 (by decide))
  have hS9 : va_S (fun q : Nat => s.heap.size ≤ q) s.heap H locs := by rw [← hAe]; exact hS
  exact law_end C0 hS9 (lv_sub hl [3, 0] rfl) (Nat.le_of_ble_eq_true rfl) (Nat.le_of_ble_eq_true rfl)

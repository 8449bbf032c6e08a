set_option maxHeartbeats 8000000 in
set_option maxRecDepth 100000 in
theorem law_head {p : Program} {l : Launch} {e : Env} {s : State} {m : MethodId} {below : List Frame} {meth : Method} {c : Code} {b L : Nat} {xs : Nat → Int32} (hL : L ≤ 6) (C0 : lw_At p s m meth c b L xs) (dC : Nat → ClassId) (dI : Nat → Nat → Nat) (cyI cyB cyJ cyZ cyH cyN : ClassId) (E : Nat → Nat) (iF nF : Nat → Option Nat) (wF : Nat → Int32) (g0 : nF 0 = some (E 57)) (g1 : nF 1 = some (E 58)) (g2 : nF 2 = some (E 59)) (g3 : nF 3 = some (E 60)) (g4 : iF 0 = some (E 24)) (g5 : iF 1 = some (E 34)) (g6 : iF 2 = some (E 44)) (g7 : ∀ j : Nat, j < 4 → wF j = -1) {H : Heap} {locs : List Loc} {ls : Array Slot} (hK : va_K (dC, dI) vwCl [(cyI, .int), (cyB, .byte), (cyJ, .long), (cyZ, .boolean), (cyH, .object RX2), (cyN, .array .long)] s) (hP : va_P (dC, dI) vwCl (wAll cyI cyB cyJ cyZ cyH cyN E iF nF wF) H) {A : Nat → Prop} (hAe : A = fun q => s.heap.size ≤ q) (hD : va_D A (wAll cyI cyB cyJ cyZ cyH cyN E iF nF wF)) (hS : va_S A s.heap H locs) (hl : lv_has ls 4 [(3, .int 0), (2, .ref (E 85)), (1, .ref (E 0)), (0, .ref b)]) : W p l e room_1 s m #[Value.ref b] below meth c H locs 110 15598 (lw_Z below #[Value.ref b] s) (F0 m 18 ls []) := by
  rcases (show L = 0 ∨ L = 1 ∨ L = 2 ∨ L = 3 ∨ L = 4 ∨ L = 5 ∨ L = 6 by omega) with rfl | rfl | rfl | rfl | rfl | rfl | rfl
  · obtain ⟨hx, hb, hr, hml, hown, hts0, hX, hbl, hlocks, hgv⟩ := id C0
    have hts : ∀ w ∈ uU, w.before #[Value.ref b] s = true := fun w h => hts0 w (uU_in h)
    have hbA : ¬ A b := by rw [hAe]; exact Nat.not_le.mpr hbl
    have hS9 : va_S (fun q : Nat => s.heap.size ≤ q) s.heap H locs := by rw [← hAe]; exact hS
    refine lv_iload_n hx hb dL_law_18 rfl (lv_at hl 0 rfl) ?_
    refine lv_aload_n hx hb dL_law_19 rfl (lv_at hl 3 rfl) ?_
    refine va_slen hx hb hX hbl hbA hS dL_law_20 ?_
    refine cv_topi (b := 0) rfl ?_
    refine lv_bipush (v := 6) hx hb dL_law_21 (by decide) ?_
    refine lv_isub hx hb dL_law_23 ?_
    refine cv_topi (b := (-6)) (by decide) ?_
    refine lv_icmp_gt (tgt := 1937) hx hb dL_law_24 (by decide) (fun _ => ?_) (fun c_1 => absurd c_1 (by decide))
    refine lv_iconst (v := 1) hx hb dL_law_1937 (by decide) ?_
    refine va_forget (fun q hq => hS9.2.2 q hq) ?_
    refine W.widen (k := 600000) (n := 7302250) (Nat.le_of_ble_eq_true rfl) (Nat.le_of_ble_eq_true rfl) ?_
    exact lw_ret hx hb hr hlocks dL_law_1938
  · obtain ⟨hx, hb, hr, hml, hown, hts0, hX, hbl, hlocks, hgv⟩ := id C0
    have hts : ∀ w ∈ uU, w.before #[Value.ref b] s = true := fun w h => hts0 w (uU_in h)
    have hbA : ¬ A b := by rw [hAe]; exact Nat.not_le.mpr hbl
    have hS9 : va_S (fun q : Nat => s.heap.size ≤ q) s.heap H locs := by rw [← hAe]; exact hS
    refine lv_iload_n hx hb dL_law_18 rfl (lv_at hl 0 rfl) ?_
    refine lv_aload_n hx hb dL_law_19 rfl (lv_at hl 3 rfl) ?_
    refine va_slen hx hb hX hbl hbA hS dL_law_20 ?_
    refine cv_topi (b := 1) rfl ?_
    refine lv_bipush (v := 6) hx hb dL_law_21 (by decide) ?_
    refine lv_isub hx hb dL_law_23 ?_
    refine cv_topi (b := (-5)) (by decide) ?_
    refine lv_icmp_gt (tgt := 1937) hx hb dL_law_24 (by decide) (fun _ => ?_) (fun c_2 => absurd c_2 (by decide))
    refine lv_iconst (v := 1) hx hb dL_law_1937 (by decide) ?_
    refine va_forget (fun q hq => hS9.2.2 q hq) ?_
    refine W.widen (k := 600000) (n := 7302250) (Nat.le_of_ble_eq_true rfl) (Nat.le_of_ble_eq_true rfl) ?_
    exact lw_ret hx hb hr hlocks dL_law_1938
  · obtain ⟨hx, hb, hr, hml, hown, hts0, hX, hbl, hlocks, hgv⟩ := id C0
    have hts : ∀ w ∈ uU, w.before #[Value.ref b] s = true := fun w h => hts0 w (uU_in h)
    have hbA : ¬ A b := by rw [hAe]; exact Nat.not_le.mpr hbl
    have hS9 : va_S (fun q : Nat => s.heap.size ≤ q) s.heap H locs := by rw [← hAe]; exact hS
    refine lv_iload_n hx hb dL_law_18 rfl (lv_at hl 0 rfl) ?_
    refine lv_aload_n hx hb dL_law_19 rfl (lv_at hl 3 rfl) ?_
    refine va_slen hx hb hX hbl hbA hS dL_law_20 ?_
    refine cv_topi (b := 2) rfl ?_
    refine lv_bipush (v := 6) hx hb dL_law_21 (by decide) ?_
    refine lv_isub hx hb dL_law_23 ?_
    refine cv_topi (b := (-4)) (by decide) ?_
    refine lv_icmp_gt (tgt := 1937) hx hb dL_law_24 (by decide) (fun _ => ?_) (fun c_3 => absurd c_3 (by decide))
    refine lv_iconst (v := 1) hx hb dL_law_1937 (by decide) ?_
    refine va_forget (fun q hq => hS9.2.2 q hq) ?_
    refine W.widen (k := 600000) (n := 7302250) (Nat.le_of_ble_eq_true rfl) (Nat.le_of_ble_eq_true rfl) ?_
    exact lw_ret hx hb hr hlocks dL_law_1938
  · obtain ⟨hx, hb, hr, hml, hown, hts0, hX, hbl, hlocks, hgv⟩ := id C0
    have hts : ∀ w ∈ uU, w.before #[Value.ref b] s = true := fun w h => hts0 w (uU_in h)
    have hbA : ¬ A b := by rw [hAe]; exact Nat.not_le.mpr hbl
    have hS9 : va_S (fun q : Nat => s.heap.size ≤ q) s.heap H locs := by rw [← hAe]; exact hS
    refine lv_iload_n hx hb dL_law_18 rfl (lv_at hl 0 rfl) ?_
    refine lv_aload_n hx hb dL_law_19 rfl (lv_at hl 3 rfl) ?_
    refine va_slen hx hb hX hbl hbA hS dL_law_20 ?_
    refine cv_topi (b := 3) rfl ?_
    refine lv_bipush (v := 6) hx hb dL_law_21 (by decide) ?_
    refine lv_isub hx hb dL_law_23 ?_
    refine cv_topi (b := (-3)) (by decide) ?_
    refine lv_icmp_gt (tgt := 1937) hx hb dL_law_24 (by decide) (fun _ => ?_) (fun c_4 => absurd c_4 (by decide))
    refine lv_iconst (v := 1) hx hb dL_law_1937 (by decide) ?_
    refine va_forget (fun q hq => hS9.2.2 q hq) ?_
    refine W.widen (k := 600000) (n := 7302250) (Nat.le_of_ble_eq_true rfl) (Nat.le_of_ble_eq_true rfl) ?_
    exact lw_ret hx hb hr hlocks dL_law_1938
  · obtain ⟨hx, hb, hr, hml, hown, hts0, hX, hbl, hlocks, hgv⟩ := id C0
    have hts : ∀ w ∈ uU, w.before #[Value.ref b] s = true := fun w h => hts0 w (uU_in h)
    have hbA : ¬ A b := by rw [hAe]; exact Nat.not_le.mpr hbl
    have hS9 : va_S (fun q : Nat => s.heap.size ≤ q) s.heap H locs := by rw [← hAe]; exact hS
    refine lv_iload_n hx hb dL_law_18 rfl (lv_at hl 0 rfl) ?_
    refine lv_aload_n hx hb dL_law_19 rfl (lv_at hl 3 rfl) ?_
    refine va_slen hx hb hX hbl hbA hS dL_law_20 ?_
    refine cv_topi (b := 4) rfl ?_
    refine lv_bipush (v := 6) hx hb dL_law_21 (by decide) ?_
    refine lv_isub hx hb dL_law_23 ?_
    refine cv_topi (b := (-2)) (by decide) ?_
    refine lv_icmp_gt (tgt := 1937) hx hb dL_law_24 (by decide) (fun _ => ?_) (fun c_5 => absurd c_5 (by decide))
    refine lv_iconst (v := 1) hx hb dL_law_1937 (by decide) ?_
    refine va_forget (fun q hq => hS9.2.2 q hq) ?_
    refine W.widen (k := 600000) (n := 7302250) (Nat.le_of_ble_eq_true rfl) (Nat.le_of_ble_eq_true rfl) ?_
    exact lw_ret hx hb hr hlocks dL_law_1938
  · obtain ⟨hx, hb, hr, hml, hown, hts0, hX, hbl, hlocks, hgv⟩ := id C0
    have hts : ∀ w ∈ uU, w.before #[Value.ref b] s = true := fun w h => hts0 w (uU_in h)
    have hbA : ¬ A b := by rw [hAe]; exact Nat.not_le.mpr hbl
    have hS9 : va_S (fun q : Nat => s.heap.size ≤ q) s.heap H locs := by rw [← hAe]; exact hS
    refine lv_iload_n hx hb dL_law_18 rfl (lv_at hl 0 rfl) ?_
    refine lv_aload_n hx hb dL_law_19 rfl (lv_at hl 3 rfl) ?_
    refine va_slen hx hb hX hbl hbA hS dL_law_20 ?_
    refine cv_topi (b := 5) rfl ?_
    refine lv_bipush (v := 6) hx hb dL_law_21 (by decide) ?_
    refine lv_isub hx hb dL_law_23 ?_
    refine cv_topi (b := (-1)) (by decide) ?_
    refine lv_icmp_gt (tgt := 1937) hx hb dL_law_24 (by decide) (fun _ => ?_) (fun c_6 => absurd c_6 (by decide))
    refine lv_iconst (v := 1) hx hb dL_law_1937 (by decide) ?_
    refine va_forget (fun q hq => hS9.2.2 q hq) ?_
    refine W.widen (k := 600000) (n := 7302250) (Nat.le_of_ble_eq_true rfl) (Nat.le_of_ble_eq_true rfl) ?_
    exact lw_ret hx hb hr hlocks dL_law_1938
  · obtain ⟨hx, hb, hr, hml, hown, hts0, hX, hbl, hlocks, hgv⟩ := id C0
    have hts : ∀ w ∈ uU, w.before #[Value.ref b] s = true := fun w h => hts0 w (uU_in h)
    have hbA : ¬ A b := by rw [hAe]; exact Nat.not_le.mpr hbl
    have hS9 : va_S (fun q : Nat => s.heap.size ≤ q) s.heap H locs := by rw [← hAe]; exact hS
    refine lv_iload_n hx hb dL_law_18 rfl (lv_at hl 0 rfl) ?_
    refine lv_aload_n hx hb dL_law_19 rfl (lv_at hl 3 rfl) ?_
    refine va_slen hx hb hX hbl hbA hS dL_law_20 ?_
    refine cv_topi (b := 6) rfl ?_
    refine lv_bipush (v := 6) hx hb dL_law_21 (by decide) ?_
    refine lv_isub hx hb dL_law_23 ?_
    refine cv_topi (b := 0) (by decide) ?_
    refine lv_icmp_gt (tgt := 1937) hx hb dL_law_24 (by decide) (fun c_7 => absurd c_7 (by decide)) (fun _ => ?_)
    refine lv_aload_n hx hb dL_law_27 rfl (lv_at hl 3 rfl) ?_
    refine lv_iload_n hx hb dL_law_28 rfl (lv_at hl 0 rfl) ?_
    refine va_sld hx hb hX hbl hbA hS (vp_in_iff.mpr (by decide)) dL_law_29 ?_
    refine cv_topi (b := xs 0) rfl ?_
    refine lv_bipush (v := 127) hx hb dL_law_30 (by decide) ?_
    refine lv_iand hx hb dL_law_32 ?_
    refine lv_topi (fun x_8 ex_8 => ?_)
    by_cases c_0 : (x_8.toInt < 0 ∨ 65 < x_8.toInt)
    · refine lv_tableOut (tgt := 1931) hx hb dL_law_33 c_0 (by decide) ?_
      exact law_end C0 hS9 (lv_sub hl [3, 0] rfl) (Nat.le_of_ble_eq_true rfl) (Nat.le_of_ble_eq_true rfl)
    obtain ⟨c_a, c_b⟩ : 0 ≤ x_8.toInt ∧ x_8.toInt ≤ 65 := by omega
    obtain ⟨j, hj⟩ : ∃ j : Nat, x_8.toInt = (j : Int) := ⟨x_8.toInt.toNat, by omega⟩
    have hj65 : j < 66 := by omega
    have hn1 : ¬ x_8.toInt < 0 := by omega
    have hn2 : ¬ 65 < x_8.toInt := by omega
    rw [hj] at hn1 hn2
    clear c_0 c_a c_b
    match j, hj, hj65 with
    | 0, hj, _ =>
      refine lv_tableIn (off := 279) (tgt := 312) hx hb dL_law_33 (by rw [hj]; decide) (by rw [hj]; decide) (by rw [hj]; rfl) (by decide) ?_
      exact law_c0 C0 dC dI cyI cyB cyJ cyZ cyH cyN E iF nF wF g0 g1 g2 g3 g4 g5 g6 g7 hK hP hAe hD hS hl
    | 1, hj, _ =>
      refine lv_tableIn (off := 342) (tgt := 375) hx hb dL_law_33 (by rw [hj]; decide) (by rw [hj]; decide) (by rw [hj]; rfl) (by decide) ?_
      exact law_c1 C0 dC dI cyI cyB cyJ cyZ cyH cyN E iF nF wF g0 g1 g2 g3 g4 g5 g6 g7 hK hP hAe hD hS hl
    | 2, hj, _ =>
      refine lv_tableIn (off := 365) (tgt := 398) hx hb dL_law_33 (by rw [hj]; decide) (by rw [hj]; decide) (by rw [hj]; rfl) (by decide) ?_
      exact law_c2 C0 dC dI cyI cyB cyJ cyZ cyH cyN E iF nF wF g0 g1 g2 g3 g4 g5 g6 g7 hK hP hAe hD hS hl
    | 3, hj, _ =>
      refine lv_tableIn (off := 378) (tgt := 411) hx hb dL_law_33 (by rw [hj]; decide) (by rw [hj]; decide) (by rw [hj]; rfl) (by decide) ?_
      exact law_c3 C0 dC dI cyI cyB cyJ cyZ cyH cyN E iF nF wF g0 g1 g2 g3 g4 g5 g6 g7 hK hP hAe hD hS hl
    | 4, hj, _ =>
      refine lv_tableIn (off := 401) (tgt := 434) hx hb dL_law_33 (by rw [hj]; decide) (by rw [hj]; decide) (by rw [hj]; rfl) (by decide) ?_
      exact law_c4 C0 dC dI cyI cyB cyJ cyZ cyH cyN E iF nF wF g0 g1 g2 g3 g4 g5 g6 g7 hK hP hAe hD hS hl
    | 5, hj, _ =>
      refine lv_tableIn (off := 434) (tgt := 467) hx hb dL_law_33 (by rw [hj]; decide) (by rw [hj]; decide) (by rw [hj]; rfl) (by decide) ?_
      exact law_c5 C0 dC dI cyI cyB cyJ cyZ cyH cyN E iF nF wF g0 g1 g2 g3 g4 g5 g6 g7 hK hP hAe hD hS hl
    | 6, hj, _ =>
      refine lv_tableIn (off := 467) (tgt := 500) hx hb dL_law_33 (by rw [hj]; decide) (by rw [hj]; decide) (by rw [hj]; rfl) (by decide) ?_
      exact law_c6 C0 dC dI cyI cyB cyJ cyZ cyH cyN E iF nF wF g0 g1 g2 g3 g4 g5 g6 g7 hK hP hAe hD hS hl
    | 7, hj, _ =>
      refine lv_tableIn (off := 490) (tgt := 523) hx hb dL_law_33 (by rw [hj]; decide) (by rw [hj]; decide) (by rw [hj]; rfl) (by decide) ?_
      exact law_c7 C0 dC dI cyI cyB cyJ cyZ cyH cyN E iF nF wF g0 g1 g2 g3 g4 g5 g6 g7 hK hP hAe hD hS hl
    | 8, hj, _ =>
      refine lv_tableIn (off := 513) (tgt := 546) hx hb dL_law_33 (by rw [hj]; decide) (by rw [hj]; decide) (by rw [hj]; rfl) (by decide) ?_
      exact law_c8 C0 dC dI cyI cyB cyJ cyZ cyH cyN E iF nF wF g0 g1 g2 g3 g4 g5 g6 g7 hK hP hAe hD hS hl
    | 9, hj, _ =>
      refine lv_tableIn (off := 536) (tgt := 569) hx hb dL_law_33 (by rw [hj]; decide) (by rw [hj]; decide) (by rw [hj]; rfl) (by decide) ?_
      exact law_c9 C0 dC dI cyI cyB cyJ cyZ cyH cyN E iF nF wF g0 g1 g2 g3 g4 g5 g6 g7 hK hP hAe hD hS hl
    | 10, hj, _ =>
      refine lv_tableIn (off := 569) (tgt := 602) hx hb dL_law_33 (by rw [hj]; decide) (by rw [hj]; decide) (by rw [hj]; rfl) (by decide) ?_
      exact law_c10 C0 dC dI cyI cyB cyJ cyZ cyH cyN E iF nF wF g0 g1 g2 g3 g4 g5 g6 g7 hK hP hAe hD hS hl
    | 11, hj, _ =>
      refine lv_tableIn (off := 592) (tgt := 625) hx hb dL_law_33 (by rw [hj]; decide) (by rw [hj]; decide) (by rw [hj]; rfl) (by decide) ?_
      exact law_c11 C0 dC dI cyI cyB cyJ cyZ cyH cyN E iF nF wF g0 g1 g2 g3 g4 g5 g6 g7 hK hP hAe hD hS hl
    | 12, hj, _ =>
      refine lv_tableIn (off := 605) (tgt := 638) hx hb dL_law_33 (by rw [hj]; decide) (by rw [hj]; decide) (by rw [hj]; rfl) (by decide) ?_
      exact law_c12 C0 dC dI cyI cyB cyJ cyZ cyH cyN E iF nF wF g0 g1 g2 g3 g4 g5 g6 g7 hK hP hAe hD hS hl
    | 13, hj, _ =>
      refine lv_tableIn (off := 618) (tgt := 651) hx hb dL_law_33 (by rw [hj]; decide) (by rw [hj]; decide) (by rw [hj]; rfl) (by decide) ?_
      exact law_c13 C0 dC dI cyI cyB cyJ cyZ cyH cyN E iF nF wF g0 g1 g2 g3 g4 g5 g6 g7 hK hP hAe hD hS hl
    | 14, hj, _ =>
      refine lv_tableIn (off := 631) (tgt := 664) hx hb dL_law_33 (by rw [hj]; decide) (by rw [hj]; decide) (by rw [hj]; rfl) (by decide) ?_
      exact law_c14 C0 dC dI cyI cyB cyJ cyZ cyH cyN E iF nF wF g0 g1 g2 g3 g4 g5 g6 g7 hK hP hAe hD hS hl
    | 15, hj, _ =>
      refine lv_tableIn (off := 664) (tgt := 697) hx hb dL_law_33 (by rw [hj]; decide) (by rw [hj]; decide) (by rw [hj]; rfl) (by decide) ?_
      exact law_c15 C0 dC dI cyI cyB cyJ cyZ cyH cyN E iF nF wF g0 g1 g2 g3 g4 g5 g6 g7 hK hP hAe hD hS hl
    | 16, hj, _ =>
      refine lv_tableIn (off := 697) (tgt := 730) hx hb dL_law_33 (by rw [hj]; decide) (by rw [hj]; decide) (by rw [hj]; rfl) (by decide) ?_
      exact law_c16 C0 dC dI cyI cyB cyJ cyZ cyH cyN E iF nF wF g0 g1 g2 g3 g4 g5 g6 g7 hK hP hAe hD hS hl
    | 17, hj, _ =>
      refine lv_tableIn (off := 720) (tgt := 753) hx hb dL_law_33 (by rw [hj]; decide) (by rw [hj]; decide) (by rw [hj]; rfl) (by decide) ?_
      exact law_c17 C0 dC dI cyI cyB cyJ cyZ cyH cyN E iF nF wF g0 g1 g2 g3 g4 g5 g6 g7 hK hP hAe hD hS hl
    | 18, hj, _ =>
      refine lv_tableIn (off := 733) (tgt := 766) hx hb dL_law_33 (by rw [hj]; decide) (by rw [hj]; decide) (by rw [hj]; rfl) (by decide) ?_
      exact law_c18 C0 dC dI cyI cyB cyJ cyZ cyH cyN E iF nF wF g0 g1 g2 g3 g4 g5 g6 g7 hK hP hAe hD hS hl
    | 19, hj, _ =>
      refine lv_tableIn (off := 746) (tgt := 779) hx hb dL_law_33 (by rw [hj]; decide) (by rw [hj]; decide) (by rw [hj]; rfl) (by decide) ?_
      exact law_c19 C0 dC dI cyI cyB cyJ cyZ cyH cyN E iF nF wF g0 g1 g2 g3 g4 g5 g6 g7 hK hP hAe hD hS hl
    | 20, hj, _ =>
      refine lv_tableIn (off := 759) (tgt := 792) hx hb dL_law_33 (by rw [hj]; decide) (by rw [hj]; decide) (by rw [hj]; rfl) (by decide) ?_
      exact law_c20 C0 dC dI cyI cyB cyJ cyZ cyH cyN E iF nF wF g0 g1 g2 g3 g4 g5 g6 g7 hK hP hAe hD hS hl
    | 21, hj, _ =>
      refine lv_tableIn (off := 772) (tgt := 805) hx hb dL_law_33 (by rw [hj]; decide) (by rw [hj]; decide) (by rw [hj]; rfl) (by decide) ?_
      exact law_c21 C0 dC dI cyI cyB cyJ cyZ cyH cyN E iF nF wF g0 g1 g2 g3 g4 g5 g6 g7 hK hP hAe hD hS hl
    | 22, hj, _ =>
      refine lv_tableIn (off := 785) (tgt := 818) hx hb dL_law_33 (by rw [hj]; decide) (by rw [hj]; decide) (by rw [hj]; rfl) (by decide) ?_
      exact law_c22 C0 dC dI cyI cyB cyJ cyZ cyH cyN E iF nF wF g0 g1 g2 g3 g4 g5 g6 g7 hK hP hAe hD hS hl
    | 23, hj, _ =>
      refine lv_tableIn (off := 808) (tgt := 841) hx hb dL_law_33 (by rw [hj]; decide) (by rw [hj]; decide) (by rw [hj]; rfl) (by decide) ?_
      exact law_c23 C0 dC dI cyI cyB cyJ cyZ cyH cyN E iF nF wF g0 g1 g2 g3 g4 g5 g6 g7 hK hP hAe hD hS hl
    | 24, hj, _ =>
      refine lv_tableIn (off := 831) (tgt := 864) hx hb dL_law_33 (by rw [hj]; decide) (by rw [hj]; decide) (by rw [hj]; rfl) (by decide) ?_
      exact law_c24 C0 dC dI cyI cyB cyJ cyZ cyH cyN E iF nF wF g0 g1 g2 g3 g4 g5 g6 g7 hK hP hAe hD hS hl
    | 25, hj, _ =>
      refine lv_tableIn (off := 844) (tgt := 877) hx hb dL_law_33 (by rw [hj]; decide) (by rw [hj]; decide) (by rw [hj]; rfl) (by decide) ?_
      exact law_c25 C0 dC dI cyI cyB cyJ cyZ cyH cyN E iF nF wF g0 g1 g2 g3 g4 g5 g6 g7 hK hP hAe hD hS hl
    | 26, hj, _ =>
      refine lv_tableIn (off := 867) (tgt := 900) hx hb dL_law_33 (by rw [hj]; decide) (by rw [hj]; decide) (by rw [hj]; rfl) (by decide) ?_
      exact law_c26 C0 dC dI cyI cyB cyJ cyZ cyH cyN E iF nF wF g0 g1 g2 g3 g4 g5 g6 g7 hK hP hAe hD hS hl
    | 27, hj, _ =>
      refine lv_tableIn (off := 880) (tgt := 913) hx hb dL_law_33 (by rw [hj]; decide) (by rw [hj]; decide) (by rw [hj]; rfl) (by decide) ?_
      exact law_c27 C0 dC dI cyI cyB cyJ cyZ cyH cyN E iF nF wF g0 g1 g2 g3 g4 g5 g6 g7 hK hP hAe hD hS hl
    | 28, hj, _ =>
      refine lv_tableIn (off := 903) (tgt := 936) hx hb dL_law_33 (by rw [hj]; decide) (by rw [hj]; decide) (by rw [hj]; rfl) (by decide) ?_
      exact law_c28 C0 dC dI cyI cyB cyJ cyZ cyH cyN E iF nF wF g0 g1 g2 g3 g4 g5 g6 g7 hK hP hAe hD hS hl
    | 29, hj, _ =>
      refine lv_tableIn (off := 936) (tgt := 969) hx hb dL_law_33 (by rw [hj]; decide) (by rw [hj]; decide) (by rw [hj]; rfl) (by decide) ?_
      exact law_c29 C0 dC dI cyI cyB cyJ cyZ cyH cyN E iF nF wF g0 g1 g2 g3 g4 g5 g6 g7 hK hP hAe hD hS hl
    | 30, hj, _ =>
      refine lv_tableIn (off := 959) (tgt := 992) hx hb dL_law_33 (by rw [hj]; decide) (by rw [hj]; decide) (by rw [hj]; rfl) (by decide) ?_
      exact law_c30 C0 dC dI cyI cyB cyJ cyZ cyH cyN E iF nF wF g0 g1 g2 g3 g4 g5 g6 g7 hK hP hAe hD hS hl
    | 31, hj, _ =>
      refine lv_tableIn (off := 992) (tgt := 1025) hx hb dL_law_33 (by rw [hj]; decide) (by rw [hj]; decide) (by rw [hj]; rfl) (by decide) ?_
      exact law_c31 C0 dC dI cyI cyB cyJ cyZ cyH cyN E iF nF wF g0 g1 g2 g3 g4 g5 g6 g7 hK hP hAe hD hS hl
    | 32, hj, _ =>
      refine lv_tableIn (off := 1005) (tgt := 1038) hx hb dL_law_33 (by rw [hj]; decide) (by rw [hj]; decide) (by rw [hj]; rfl) (by decide) ?_
      exact law_c32 C0 dC dI cyI cyB cyJ cyZ cyH cyN E iF nF wF g0 g1 g2 g3 g4 g5 g6 g7 hK hP hAe hD hS hl
    | 33, hj, _ =>
      refine lv_tableIn (off := 1018) (tgt := 1051) hx hb dL_law_33 (by rw [hj]; decide) (by rw [hj]; decide) (by rw [hj]; rfl) (by decide) ?_
      exact law_c33 C0 dC dI cyI cyB cyJ cyZ cyH cyN E iF nF wF g0 g1 g2 g3 g4 g5 g6 g7 hK hP hAe hD hS hl
    | 34, hj, _ =>
      refine lv_tableIn (off := 1041) (tgt := 1074) hx hb dL_law_33 (by rw [hj]; decide) (by rw [hj]; decide) (by rw [hj]; rfl) (by decide) ?_
      exact law_c34 C0 dC dI cyI cyB cyJ cyZ cyH cyN E iF nF wF g0 g1 g2 g3 g4 g5 g6 g7 hK hP hAe hD hS hl
    | 35, hj, _ =>
      refine lv_tableIn (off := 1074) (tgt := 1107) hx hb dL_law_33 (by rw [hj]; decide) (by rw [hj]; decide) (by rw [hj]; rfl) (by decide) ?_
      exact law_c35 C0 dC dI cyI cyB cyJ cyZ cyH cyN E iF nF wF g0 g1 g2 g3 g4 g5 g6 g7 hK hP hAe hD hS hl
    | 36, hj, _ =>
      refine lv_tableIn (off := 1097) (tgt := 1130) hx hb dL_law_33 (by rw [hj]; decide) (by rw [hj]; decide) (by rw [hj]; rfl) (by decide) ?_
      exact law_c36 C0 dC dI cyI cyB cyJ cyZ cyH cyN E iF nF wF g0 g1 g2 g3 g4 g5 g6 g7 hK hP hAe hD hS hl
    | 37, hj, _ =>
      refine lv_tableIn (off := 1120) (tgt := 1153) hx hb dL_law_33 (by rw [hj]; decide) (by rw [hj]; decide) (by rw [hj]; rfl) (by decide) ?_
      exact law_c37 C0 dC dI cyI cyB cyJ cyZ cyH cyN E iF nF wF g0 g1 g2 g3 g4 g5 g6 g7 hK hP hAe hD hS hl
    | 38, hj, _ =>
      refine lv_tableIn (off := 1143) (tgt := 1176) hx hb dL_law_33 (by rw [hj]; decide) (by rw [hj]; decide) (by rw [hj]; rfl) (by decide) ?_
      exact law_c38 C0 dC dI cyI cyB cyJ cyZ cyH cyN E iF nF wF g0 g1 g2 g3 g4 g5 g6 g7 hK hP hAe hD hS hl
    | 39, hj, _ =>
      refine lv_tableIn (off := 1166) (tgt := 1199) hx hb dL_law_33 (by rw [hj]; decide) (by rw [hj]; decide) (by rw [hj]; rfl) (by decide) ?_
      exact law_c39 C0 dC dI cyI cyB cyJ cyZ cyH cyN E iF nF wF g0 g1 g2 g3 g4 g5 g6 g7 hK hP hAe hD hS hl
    | 40, hj, _ =>
      refine lv_tableIn (off := 1189) (tgt := 1222) hx hb dL_law_33 (by rw [hj]; decide) (by rw [hj]; decide) (by rw [hj]; rfl) (by decide) ?_
      exact law_c40 C0 dC dI cyI cyB cyJ cyZ cyH cyN E iF nF wF g0 g1 g2 g3 g4 g5 g6 g7 hK hP hAe hD hS hl
    | 41, hj, _ =>
      refine lv_tableIn (off := 1202) (tgt := 1235) hx hb dL_law_33 (by rw [hj]; decide) (by rw [hj]; decide) (by rw [hj]; rfl) (by decide) ?_
      exact law_c41 C0 dC dI cyI cyB cyJ cyZ cyH cyN E iF nF wF g0 g1 g2 g3 g4 g5 g6 g7 hK hP hAe hD hS hl
    | 42, hj, _ =>
      refine lv_tableIn (off := 1225) (tgt := 1258) hx hb dL_law_33 (by rw [hj]; decide) (by rw [hj]; decide) (by rw [hj]; rfl) (by decide) ?_
      exact law_c42 C0 dC dI cyI cyB cyJ cyZ cyH cyN E iF nF wF g0 g1 g2 g3 g4 g5 g6 g7 hK hP hAe hD hS hl
    | 43, hj, _ =>
      refine lv_tableIn (off := 1238) (tgt := 1271) hx hb dL_law_33 (by rw [hj]; decide) (by rw [hj]; decide) (by rw [hj]; rfl) (by decide) ?_
      exact law_c43 C0 dC dI cyI cyB cyJ cyZ cyH cyN E iF nF wF g0 g1 g2 g3 g4 g5 g6 g7 hK hP hAe hD hS hl
    | 44, hj, _ =>
      refine lv_tableIn (off := 1251) (tgt := 1284) hx hb dL_law_33 (by rw [hj]; decide) (by rw [hj]; decide) (by rw [hj]; rfl) (by decide) ?_
      exact law_c44 C0 dC dI cyI cyB cyJ cyZ cyH cyN E iF nF wF g0 g1 g2 g3 g4 g5 g6 g7 hK hP hAe hD hS hl
    | 45, hj, _ =>
      refine lv_tableIn (off := 1274) (tgt := 1307) hx hb dL_law_33 (by rw [hj]; decide) (by rw [hj]; decide) (by rw [hj]; rfl) (by decide) ?_
      exact law_c45 C0 dC dI cyI cyB cyJ cyZ cyH cyN E iF nF wF g0 g1 g2 g3 g4 g5 g6 g7 hK hP hAe hD hS hl
    | 46, hj, _ =>
      refine lv_tableIn (off := 1287) (tgt := 1320) hx hb dL_law_33 (by rw [hj]; decide) (by rw [hj]; decide) (by rw [hj]; rfl) (by decide) ?_
      exact law_c46 C0 dC dI cyI cyB cyJ cyZ cyH cyN E iF nF wF g0 g1 g2 g3 g4 g5 g6 g7 hK hP hAe hD hS hl
    | 47, hj, _ =>
      refine lv_tableIn (off := 1300) (tgt := 1333) hx hb dL_law_33 (by rw [hj]; decide) (by rw [hj]; decide) (by rw [hj]; rfl) (by decide) ?_
      exact law_c47 C0 dC dI cyI cyB cyJ cyZ cyH cyN E iF nF wF g0 g1 g2 g3 g4 g5 g6 g7 hK hP hAe hD hS hl
    | 48, hj, _ =>
      refine lv_tableIn (off := 1313) (tgt := 1346) hx hb dL_law_33 (by rw [hj]; decide) (by rw [hj]; decide) (by rw [hj]; rfl) (by decide) ?_
      exact law_c48 C0 dC dI cyI cyB cyJ cyZ cyH cyN E iF nF wF g0 g1 g2 g3 g4 g5 g6 g7 hK hP hAe hD hS hl
    | 49, hj, _ =>
      refine lv_tableIn (off := 1336) (tgt := 1369) hx hb dL_law_33 (by rw [hj]; decide) (by rw [hj]; decide) (by rw [hj]; rfl) (by decide) ?_
      exact law_c49 C0 dC dI cyI cyB cyJ cyZ cyH cyN E iF nF wF g0 g1 g2 g3 g4 g5 g6 g7 hK hP hAe hD hS hl
    | 50, hj, _ =>
      refine lv_tableIn (off := 1359) (tgt := 1392) hx hb dL_law_33 (by rw [hj]; decide) (by rw [hj]; decide) (by rw [hj]; rfl) (by decide) ?_
      exact law_c50 C0 dC dI cyI cyB cyJ cyZ cyH cyN E iF nF wF g0 g1 g2 g3 g4 g5 g6 g7 hK hP hAe hD hS hl
    | 51, hj, _ =>
      refine lv_tableIn (off := 1403) (tgt := 1436) hx hb dL_law_33 (by rw [hj]; decide) (by rw [hj]; decide) (by rw [hj]; rfl) (by decide) ?_
      exact law_c51 C0 dC dI cyI cyB cyJ cyZ cyH cyN E iF nF wF g0 g1 g2 g3 g4 g5 g6 g7 hK hP hAe hD hS hl
    | 52, hj, _ =>
      refine lv_tableIn (off := 1426) (tgt := 1459) hx hb dL_law_33 (by rw [hj]; decide) (by rw [hj]; decide) (by rw [hj]; rfl) (by decide) ?_
      exact law_c52 C0 dC dI cyI cyB cyJ cyZ cyH cyN E iF nF wF g0 g1 g2 g3 g4 g5 g6 g7 hK hP hAe hD hS hl
    | 53, hj, _ =>
      refine lv_tableIn (off := 1459) (tgt := 1492) hx hb dL_law_33 (by rw [hj]; decide) (by rw [hj]; decide) (by rw [hj]; rfl) (by decide) ?_
      exact law_c53 C0 dC dI cyI cyB cyJ cyZ cyH cyN E iF nF wF g0 g1 g2 g3 g4 g5 g6 g7 hK hP hAe hD hS hl
    | 54, hj, _ =>
      refine lv_tableIn (off := 1472) (tgt := 1505) hx hb dL_law_33 (by rw [hj]; decide) (by rw [hj]; decide) (by rw [hj]; rfl) (by decide) ?_
      exact law_c54 C0 dC dI cyI cyB cyJ cyZ cyH cyN E iF nF wF g0 g1 g2 g3 g4 g5 g6 g7 hK hP hAe hD hS hl
    | 55, hj, _ =>
      refine lv_tableIn (off := 1485) (tgt := 1518) hx hb dL_law_33 (by rw [hj]; decide) (by rw [hj]; decide) (by rw [hj]; rfl) (by decide) ?_
      exact law_c55 C0 dC dI cyI cyB cyJ cyZ cyH cyN E iF nF wF g0 g1 g2 g3 g4 g5 g6 g7 hK hP hAe hD hS hl
    | 56, hj, _ =>
      refine lv_tableIn (off := 1498) (tgt := 1531) hx hb dL_law_33 (by rw [hj]; decide) (by rw [hj]; decide) (by rw [hj]; rfl) (by decide) ?_
      exact law_c56 C0 dC dI cyI cyB cyJ cyZ cyH cyN E iF nF wF g0 g1 g2 g3 g4 g5 g6 g7 hK hP hAe hD hS hl
    | 57, hj, _ =>
      refine lv_tableIn (off := 1511) (tgt := 1544) hx hb dL_law_33 (by rw [hj]; decide) (by rw [hj]; decide) (by rw [hj]; rfl) (by decide) ?_
      exact law_c57 C0 dC dI cyI cyB cyJ cyZ cyH cyN E iF nF wF g0 g1 g2 g3 g4 g5 g6 g7 hK hP hAe hD hS hl
    | 58, hj, _ =>
      refine lv_tableIn (off := 1554) (tgt := 1587) hx hb dL_law_33 (by rw [hj]; decide) (by rw [hj]; decide) (by rw [hj]; rfl) (by decide) ?_
      exact law_c58 C0 dC dI cyI cyB cyJ cyZ cyH cyN E iF nF wF g0 g1 g2 g3 g4 g5 g6 g7 hK hP hAe hD hS hl
    | 59, hj, _ =>
      refine lv_tableIn (off := 1607) (tgt := 1640) hx hb dL_law_33 (by rw [hj]; decide) (by rw [hj]; decide) (by rw [hj]; rfl) (by decide) ?_
      exact law_c59 C0 dC dI cyI cyB cyJ cyZ cyH cyN E iF nF wF g0 g1 g2 g3 g4 g5 g6 g7 hK hP hAe hD hS hl
    | 60, hj, _ =>
      refine lv_tableIn (off := 1650) (tgt := 1683) hx hb dL_law_33 (by rw [hj]; decide) (by rw [hj]; decide) (by rw [hj]; rfl) (by decide) ?_
      exact law_c60 C0 dC dI cyI cyB cyJ cyZ cyH cyN E iF nF wF g0 g1 g2 g3 g4 g5 g6 g7 hK hP hAe hD hS hl
    | 61, hj, _ =>
      refine lv_tableIn (off := 1673) (tgt := 1706) hx hb dL_law_33 (by rw [hj]; decide) (by rw [hj]; decide) (by rw [hj]; rfl) (by decide) ?_
      exact law_c61 C0 dC dI cyI cyB cyJ cyZ cyH cyN E iF nF wF g0 g1 g2 g3 g4 g5 g6 g7 hK hP hAe hD hS hl
    | 62, hj, _ =>
      refine lv_tableIn (off := 1696) (tgt := 1729) hx hb dL_law_33 (by rw [hj]; decide) (by rw [hj]; decide) (by rw [hj]; rfl) (by decide) ?_
      exact law_c62 C0 dC dI cyI cyB cyJ cyZ cyH cyN E iF nF wF g0 g1 g2 g3 g4 g5 g6 g7 hK hP hAe hD hS hl
    | 63, hj, _ =>
      refine lv_tableIn (off := 1719) (tgt := 1752) hx hb dL_law_33 (by rw [hj]; decide) (by rw [hj]; decide) (by rw [hj]; rfl) (by decide) ?_
      exact law_c63 C0 dC dI cyI cyB cyJ cyZ cyH cyN E iF nF wF g0 g1 g2 g3 g4 g5 g6 g7 hK hP hAe hD hS hl
    | 64, hj, _ =>
      refine lv_tableIn (off := 1762) (tgt := 1795) hx hb dL_law_33 (by rw [hj]; decide) (by rw [hj]; decide) (by rw [hj]; rfl) (by decide) ?_
      exact law_c64 C0 dC dI cyI cyB cyJ cyZ cyH cyN E iF nF wF g0 g1 g2 g3 g4 g5 g6 g7 hK hP hAe hD hS hl
    | 65, hj, _ =>
      refine lv_tableIn (off := 1835) (tgt := 1868) hx hb dL_law_33 (by rw [hj]; decide) (by rw [hj]; decide) (by rw [hj]; rfl) (by decide) ?_
      exact law_c65 C0 dC dI cyI cyB cyJ cyZ cyH cyN E iF nF wF g0 g1 g2 g3 g4 g5 g6 g7 hK hP hAe hD hS hl
    | j + 66, _, h => exact absurd h (by omega)

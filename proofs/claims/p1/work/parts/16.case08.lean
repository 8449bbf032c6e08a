set_option maxHeartbeats 4000000 in
set_option maxRecDepth 100000 in
theorem law_c64 {p : Program} {l : Launch} {e : Env} {s : State} {m : MethodId} {below : List Frame} {meth : Method} {c : Code} {b : Nat} {xs : Nat → Int32} (C0 : lw_At p s m meth c b 6 xs) (dC : Nat → ClassId) (dI : Nat → Nat → Nat) (cyI cyB cyJ cyZ cyH cyN : ClassId) (E : Nat → Nat) (iF nF : Nat → Option Nat) (wF : Nat → Int32) (g0 : nF 0 = some (E 57)) (g1 : nF 1 = some (E 58)) (g2 : nF 2 = some (E 59)) (g3 : nF 3 = some (E 60)) (g4 : iF 0 = some (E 24)) (g5 : iF 1 = some (E 34)) (g6 : iF 2 = some (E 44)) (g7 : ∀ j : Nat, j < 4 → wF j = -1) {H : Heap} {locs : List Loc} {ls : Array Slot} (hK : va_K (dC, dI) vwCl [(cyI, .int), (cyB, .byte), (cyJ, .long), (cyZ, .boolean), (cyH, .object RX2), (cyN, .array .long)] s) (hP : va_P (dC, dI) vwCl (wAll cyI cyB cyJ cyZ cyH cyN E iF nF wF) H) {A : Nat → Prop} (hAe : A = fun q => s.heap.size ≤ q) (hD : va_D A (wAll cyI cyB cyJ cyZ cyH cyN E iF nF wF)) (hS : va_S A s.heap H locs) (hl : lv_has ls 4 [(3, .int 0), (2, .ref (E 85)), (1, .ref (E 0)), (0, .ref b)]) : W p l e room_1 s m #[Value.ref b] below meth c H locs 110 15598 (lw_Z below #[Value.ref b] s) (F0 m 1795 ls []) := by
  obtain ⟨hx, hb, hr, hml, hown, hts0, hX, hbl, hlocks, hgv⟩ := id C0
  have hts : ∀ w ∈ uU, w.before #[Value.ref b] s = true := fun w h => hts0 w (uU_in h)
  have hbA : ¬ A b := by rw [hAe]; exact Nat.not_le.mpr hbl
  have hA : ∀ q : Nat, s.heap.size ≤ q → A q := fun q h => by rw [hAe]; exact h
  refine lv_aload_n hx hb dL_law_1795 rfl (lv_at hl 2 rfl) ?_
  refine lv_aload_n hx hb dL_law_1796 rfl (lv_at hl 3 rfl) ?_
  refine lv_iload_n hx hb dL_law_1797 rfl (lv_at hl 0 rfl) ?_
  refine lv_iconst (v := 1) hx hb dL_law_1798 (by decide) ?_
  refine lv_iadd hx hb dL_law_1799 ?_
  refine cv_topi (b := 1) (by decide) ?_
  refine va_sld hx hb hX hbl hbA hS (vp_in_iff.mpr (by decide)) dL_law_1800 ?_
  refine cv_topi (b := xs 1) rfl ?_
  refine lv_aload_n hx hb dL_law_1801 rfl (lv_at hl 3 rfl) ?_
  refine lv_iload_n hx hb dL_law_1802 rfl (lv_at hl 0 rfl) ?_
  refine lv_iconst (v := 2) hx hb dL_law_1803 (by decide) ?_
  refine lv_iadd hx hb dL_law_1804 ?_
  refine cv_topi (b := 2) (by decide) ?_
  refine va_sld hx hb hX hbl hbA hS (vp_in_iff.mpr (by decide)) dL_law_1805 ?_
  refine cv_topi (b := xs 2) rfl ?_
  refine lv_aload_n hx hb dL_law_1806 rfl (lv_at hl 3 rfl) ?_
  refine lv_iload_n hx hb dL_law_1807 rfl (lv_at hl 0 rfl) ?_
  refine lv_iconst (v := 3) hx hb dL_law_1808 (by decide) ?_
  refine lv_iadd hx hb dL_law_1809 ?_
  refine cv_topi (b := 3) (by decide) ?_
  refine va_sld hx hb hX hbl hbA hS (vp_in_iff.mpr (by decide)) dL_law_1810 ?_
  refine cv_topi (b := xs 3) rfl ?_
  obtain ⟨y_1, ey_1⟩ : ∃ z : Int64, z = (xs 3).toInt64 := ⟨_, rfl⟩
  have fy_1 : y_1.toInt = (xs 3).toInt := by rw [ey_1]; exact Int32.toInt_toInt64 _
  refine lv_i2l (v := y_1) hx hb dL_law_1811 ey_1.symm ?_
  refine lv_bipush (v := 32) hx hb dL_law_1812 (by decide) ?_
  refine lv_lshl hx hb dL_law_1814 rfl ?_
  refine lv_topl (fun y_2 ey_2 => ?_)
  refine lv_aload_n hx hb dL_law_1815 rfl (lv_at hl 3 rfl) ?_
  refine lv_iload_n hx hb dL_law_1816 rfl (lv_at hl 0 rfl) ?_
  refine lv_iconst (v := 4) hx hb dL_law_1817 (by decide) ?_
  refine lv_iadd hx hb dL_law_1818 ?_
  refine cv_topi (b := 4) (by decide) ?_
  refine va_sld hx hb hX hbl hbA hS (vp_in_iff.mpr (by decide)) dL_law_1819 ?_
  refine cv_topi (b := xs 4) rfl ?_
  obtain ⟨y_3, ey_3⟩ : ∃ z : Int64, z = (xs 4).toInt64 := ⟨_, rfl⟩
  have fy_3 : y_3.toInt = (xs 4).toInt := by rw [ey_3]; exact Int32.toInt_toInt64 _
  refine lv_i2l (v := y_3) hx hb dL_law_1820 ey_3.symm ?_
  refine lv_ldc2 (v := 4294967295) hx hb hown (hts _ wd_9_9) dL_law_1821 ?_
  refine lv_land hx hb dL_law_1824 ?_
  refine lv_topl (fun y_4 ey_4 => ?_)
  refine lv_lor hx hb dL_law_1825 ?_
  refine lv_topl (fun y_5 ey_5 => ?_)
  have hPc := hP.sub (ws' := [((E 0), .inr (10, [.ref (E 1), .ref (E 3), .ref (E 13), .ref (E 23), .ref (E 54), .ref (E 55), .ref (E 64), .ref (E 69), .ref (E 71), .ref (E 75), .ref (E 78), .ref (E 80), .ref (E 83), .ref (E 84), .null])), ((E 55), .inr (7, [.ref (E 56), .ref (E 61), .ref (E 62), .ref (E 63)])), ((E 63), .inl (cyZ, 4, .inl (fun _ => 0)))]) [0, 55, 63] rfl
  have hKc := hK.sub (tys' := [(cyI, .int), (cyB, .byte), (cyJ, .long), (cyZ, .boolean), (cyH, .object RX2), (cyN, .array .long)]) [0, 1, 2, 3, 4, 5] rfl
  refine vp_callSi (va_Run.run (va_runV (As := [.int (xs 1), .int (xs 2), .long y_5]) (rest := []) ⟨hx, hb, hml, hown, hts⟩ (c_write l dC dI cyI cyB cyJ cyZ cyH cyN (E 0) (E 1) (E 3) (E 13) (E 23) (E 54) (E 55) (E 64) (E 69) (E 71) (E 75) (E 78) (E 80) (E 83) (E 84) (E 56) (E 61) (E 62) (E 63) (xs 1) (xs 2) y_5) (cwV 3 hts (gdV wd_6_16 wd_6_17 wd_6_18 wd_1_1 wd_6_19) rfl rfl rfl (by decide +kernel) ⟨Nat.le_of_ble_eq_true rfl, Nat.le_of_ble_eq_true rfl⟩) ⟨fun a U g mk q => by obtain ⟨q0, qP, qK⟩ := q; exact ⟨q0, qP, va_K.moved (u := U) (U := U.calling g mk a) (Vm.Alike.refl U.vm) qK⟩, va_recv hKc hPc (ci := 10) (q0 := 0) rfl rfl, fun U hU hW => ⟨rfl, by rw [hU]; exact hPc, va_K.moved hW.alike hKc⟩⟩ rfl rfl hl.1 rfl (lv_room (Nat.le_of_ble_eq_true rfl)) dL_law_1826 ⟨Nat.le_of_ble_eq_true rfl, Nat.le_of_ble_eq_true rfl⟩)) (fun r_6 hw => ?_)
  have hwr_6 := hw
  refine lv_aload_n hx hb dL_law_1829 rfl (lv_at hl 1 rfl) ?_
  refine lv_aload_n hx hb dL_law_1830 rfl (lv_at hl 3 rfl) ?_
  refine lv_iload_n hx hb dL_law_1831 rfl (lv_at hl 0 rfl) ?_
  refine lv_iconst (v := 1) hx hb dL_law_1832 (by decide) ?_
  refine lv_iadd hx hb dL_law_1833 ?_
  refine cv_topi (b := 1) (by decide) ?_
  refine va_sld hx hb hX hbl hbA hS (vp_in_iff.mpr (by decide)) dL_law_1834 ?_
  refine cv_topi (b := xs 1) rfl ?_
  refine lv_aload_n hx hb dL_law_1835 rfl (lv_at hl 3 rfl) ?_
  refine lv_iload_n hx hb dL_law_1836 rfl (lv_at hl 0 rfl) ?_
  refine lv_iconst (v := 2) hx hb dL_law_1837 (by decide) ?_
  refine lv_iadd hx hb dL_law_1838 ?_
  refine cv_topi (b := 2) (by decide) ?_
  refine va_sld hx hb hX hbl hbA hS (vp_in_iff.mpr (by decide)) dL_law_1839 ?_
  refine cv_topi (b := xs 2) rfl ?_
  refine lv_aload_n hx hb dL_law_1840 rfl (lv_at hl 3 rfl) ?_
  refine lv_iload_n hx hb dL_law_1841 rfl (lv_at hl 0 rfl) ?_
  refine lv_iconst (v := 3) hx hb dL_law_1842 (by decide) ?_
  refine lv_iadd hx hb dL_law_1843 ?_
  refine cv_topi (b := 3) (by decide) ?_
  refine va_sld hx hb hX hbl hbA hS (vp_in_iff.mpr (by decide)) dL_law_1844 ?_
  refine cv_topi (b := xs 3) rfl ?_
  obtain ⟨y_7, ey_7⟩ : ∃ z : Int64, z = (xs 3).toInt64 := ⟨_, rfl⟩
  have fy_7 : y_7.toInt = (xs 3).toInt := by rw [ey_7]; exact Int32.toInt_toInt64 _
  refine lv_i2l (v := y_7) hx hb dL_law_1845 ey_7.symm ?_
  refine lv_bipush (v := 32) hx hb dL_law_1846 (by decide) ?_
  refine lv_lshl hx hb dL_law_1848 rfl ?_
  refine lv_topl (fun y_8 ey_8 => ?_)
  refine lv_aload_n hx hb dL_law_1849 rfl (lv_at hl 3 rfl) ?_
  refine lv_iload_n hx hb dL_law_1850 rfl (lv_at hl 0 rfl) ?_
  refine lv_iconst (v := 4) hx hb dL_law_1851 (by decide) ?_
  refine lv_iadd hx hb dL_law_1852 ?_
  refine cv_topi (b := 4) (by decide) ?_
  refine va_sld hx hb hX hbl hbA hS (vp_in_iff.mpr (by decide)) dL_law_1853 ?_
  refine cv_topi (b := xs 4) rfl ?_
  obtain ⟨y_9, ey_9⟩ : ∃ z : Int64, z = (xs 4).toInt64 := ⟨_, rfl⟩
  have fy_9 : y_9.toInt = (xs 4).toInt := by rw [ey_9]; exact Int32.toInt_toInt64 _
  refine lv_i2l (v := y_9) hx hb dL_law_1854 ey_9.symm ?_
  refine lv_ldc2 (v := 4294967295) hx hb hown (hts _ wd_9_9) dL_law_1855 ?_
  refine lv_land hx hb dL_law_1858 ?_
  refine lv_topl (fun y_10 ey_10 => ?_)
  refine lv_lor hx hb dL_law_1859 ?_
  refine lv_topl (fun y_11 ey_11 => ?_)
  have hPc := hP.sub (ws' := [((E 85), .inr (11, [.int 0, .ref (E 86), .ref (E 87), .ref (E 88), .ref (E 89), .ref (E 90), .int 0, .int 0, .int 0, .int 0, .int 0, .long 0, .int 0, .int 0, .int 0, .int (-1), .ref (E 91), .ref (E 92), .ref (E 93), .ref (E 94), .ref (E 95), .ref (E 96), .ref (E 97), .ref (E 98), .ref (E 99), .ref (E 100), .int 0, .ref (E 101), .ref (E 102), .ref (E 103), .ref (E 104), .int 0, .ref (E 105), .ref (E 106), .ref (E 107), .int 0, .int 0, .int 0, .int 0, .int 0, .int 0, .ref (E 108), .ref (E 109), .long 0])), ((E 86), .inl (cyI, 4, .inl wF))]) [85, 86] rfl
  have hKc := hK.sub (tys' := [(cyI, .int), (cyB, .byte), (cyJ, .long), (cyZ, .boolean), (cyH, .object RX2), (cyN, .array .long)]) [0, 1, 2, 3, 4, 5] rfl
  have hDc := hD.sub (ws' := [((E 85), .inr (11, [.int 0, .ref (E 86), .ref (E 87), .ref (E 88), .ref (E 89), .ref (E 90), .int 0, .int 0, .int 0, .int 0, .int 0, .long 0, .int 0, .int 0, .int 0, .int (-1), .ref (E 91), .ref (E 92), .ref (E 93), .ref (E 94), .ref (E 95), .ref (E 96), .ref (E 97), .ref (E 98), .ref (E 99), .ref (E 100), .int 0, .ref (E 101), .ref (E 102), .ref (E 103), .ref (E 104), .int 0, .ref (E 105), .ref (E 106), .ref (E 107), .int 0, .int 0, .int 0, .int 0, .int 0, .int 0, .ref (E 108), .ref (E 109), .long 0])), ((E 86), .inl (cyI, 4, .inl wF))]) [85, 86] (by decide) rfl
  have hFc := va_free (wc := [((E 85), .inr (11, [.int 0, .ref (E 86), .ref (E 87), .ref (E 88), .ref (E 89), .ref (E 90), .int 0, .int 0, .int 0, .int 0, .int 0, .long 0, .int 0, .int 0, .int 0, .int (-1), .ref (E 91), .ref (E 92), .ref (E 93), .ref (E 94), .ref (E 95), .ref (E 96), .ref (E 97), .ref (E 98), .ref (E 99), .ref (E 100), .int 0, .ref (E 101), .ref (E 102), .ref (E 103), .ref (E 104), .int 0, .ref (E 105), .ref (E 106), .ref (E 107), .int 0, .int 0, .int 0, .int 0, .int 0, .int 0, .ref (E 108), .ref (E 109), .long 0])), ((E 86), .inl (cyI, 4, .inl wF))]) hD hS hA [85, 86] rfl
  refine va_calli (va_runV (As := [.int (xs 1), .int (xs 2), .long y_11]) (rest := [.int r_6]) ⟨hx, hb, hml, hown, hts⟩ (m_write l dC dI cyI cyB cyJ cyZ cyH cyN H.size (E 85) (E 86) (E 87) (E 88) (E 89) (E 90) (E 91) (E 92) (E 93) (E 94) (E 95) (E 96) (E 97) (E 98) (E 99) (E 100) (E 101) (E 102) (E 103) (E 104) (E 105) (E 106) (E 107) (E 108) (E 109) wF (xs 1) (xs 2) y_11 g7) (cwV 3 hts (gdV wd_6_181 wd_6_182 wd_6_183 wd_1_11 wd_6_184) rfl rfl rfl (by decide +kernel) ⟨Nat.le_of_ble_eq_true rfl, Nat.le_of_ble_eq_true rfl⟩) ⟨fun a U g mk q => by obtain ⟨q0, q1, qP, qK, qD⟩ := q; exact ⟨q0, q1, qP, va_K.moved (u := U) (U := U.calling g mk a) (Vm.Alike.refl U.vm) qK, qD⟩, va_recv hKc hPc (ci := 11) (q0 := 0) rfl rfl, fun U hU hW => ⟨rfl, by rw [hU], by rw [hU]; exact hPc, va_K.moved hW.alike hKc, hDc.weaken (fun _ _ _ _ => trivial)⟩⟩ rfl rfl hl.1 rfl (lv_room (Nat.le_of_ble_eq_true rfl)) dL_law_1860 ⟨Nat.le_of_ble_eq_true rfl, Nat.le_of_ble_eq_true rfl⟩) hS (fun q _ h => hFc q h) hFc (fun r_12 u t H1 locs ht hvm hw hB hz1 hk1 hS => ?_)
  generalize H1 = H at hS ⊢
  have hwr_12 := hw
  refine lv_icmp_eq (tgt := 1931) hx hb dL_law_1863 (by decide) (fun _ => ?_) (fun c_13 => absurd (hwr_6.trans hwr_12.symm) c_13)
  have hS9 : va_S (fun q : Nat => s.heap.size ≤ q) s.heap H locs := by rw [← hAe]; exact hS
  exact law_end C0 hS9 (lv_sub hl [3, 0] rfl) (Nat.le_of_ble_eq_true rfl) (Nat.le_of_ble_eq_true rfl)

set_option maxHeartbeats 4000000 in
set_option maxRecDepth 100000 in
theorem law_c65 {p : Program} {l : Launch} {e : Env} {s : State} {m : MethodId} {below : List Frame} {meth : Method} {c : Code} {b : Nat} {xs : Nat → Int32} (C0 : lw_At p s m meth c b 6 xs) (dC : Nat → ClassId) (dI : Nat → Nat → Nat) (cyI cyB cyJ cyZ cyH cyN : ClassId) (E : Nat → Nat) (iF nF : Nat → Option Nat) (wF : Nat → Int32) (g0 : nF 0 = some (E 57)) (g1 : nF 1 = some (E 58)) (g2 : nF 2 = some (E 59)) (g3 : nF 3 = some (E 60)) (g4 : iF 0 = some (E 24)) (g5 : iF 1 = some (E 34)) (g6 : iF 2 = some (E 44)) (g7 : ∀ j : Nat, j < 4 → wF j = -1) {H : Heap} {locs : List Loc} {ls : Array Slot} (hK : va_K (dC, dI) vwCl [(cyI, .int), (cyB, .byte), (cyJ, .long), (cyZ, .boolean), (cyH, .object RX2), (cyN, .array .long)] s) (hP : va_P (dC, dI) vwCl (wAll cyI cyB cyJ cyZ cyH cyN E iF nF wF) H) {A : Nat → Prop} (hAe : A = fun q => s.heap.size ≤ q) (hD : va_D A (wAll cyI cyB cyJ cyZ cyH cyN E iF nF wF)) (hS : va_S A s.heap H locs) (hl : lv_has ls 4 [(3, .int 0), (2, .ref (E 85)), (1, .ref (E 0)), (0, .ref b)]) : W p l e room_1 s m #[Value.ref b] below meth c H locs 110 15598 (lw_Z below #[Value.ref b] s) (F0 m 1868 ls []) := by
  obtain ⟨hx, hb, hr, hml, hown, hts0, hX, hbl, hlocks, hgv⟩ := id C0
  have hts : ∀ w ∈ uU, w.before #[Value.ref b] s = true := fun w h => hts0 w (uU_in h)
  have hbA : ¬ A b := by rw [hAe]; exact Nat.not_le.mpr hbl
  have hA : ∀ q : Nat, s.heap.size ≤ q → A q := fun q h => by rw [hAe]; exact h
  refine lv_aload_n hx hb dL_law_1868 rfl (lv_at hl 2 rfl) ?_
  refine lv_aload_n hx hb dL_law_1869 rfl (lv_at hl 3 rfl) ?_
  refine lv_iload_n hx hb dL_law_1870 rfl (lv_at hl 0 rfl) ?_
  refine lv_iconst (v := 1) hx hb dL_law_1871 (by decide) ?_
  refine lv_iadd hx hb dL_law_1872 ?_
  refine cv_topi (b := 1) (by decide) ?_
  refine va_sld hx hb hX hbl hbA hS (vp_in_iff.mpr (by decide)) dL_law_1873 ?_
  refine cv_topi (b := xs 1) rfl ?_
  refine lv_aload_n hx hb dL_law_1874 rfl (lv_at hl 3 rfl) ?_
  refine lv_iload_n hx hb dL_law_1875 rfl (lv_at hl 0 rfl) ?_
  refine lv_iconst (v := 2) hx hb dL_law_1876 (by decide) ?_
  refine lv_iadd hx hb dL_law_1877 ?_
  refine cv_topi (b := 2) (by decide) ?_
  refine va_sld hx hb hX hbl hbA hS (vp_in_iff.mpr (by decide)) dL_law_1878 ?_
  refine cv_topi (b := xs 2) rfl ?_
  refine lv_aload_n hx hb dL_law_1879 rfl (lv_at hl 3 rfl) ?_
  refine lv_iload_n hx hb dL_law_1880 rfl (lv_at hl 0 rfl) ?_
  refine lv_iconst (v := 3) hx hb dL_law_1881 (by decide) ?_
  refine lv_iadd hx hb dL_law_1882 ?_
  refine cv_topi (b := 3) (by decide) ?_
  refine va_sld hx hb hX hbl hbA hS (vp_in_iff.mpr (by decide)) dL_law_1883 ?_
  refine cv_topi (b := xs 3) rfl ?_
  refine lv_aload_n hx hb dL_law_1884 rfl (lv_at hl 3 rfl) ?_
  refine lv_iload_n hx hb dL_law_1885 rfl (lv_at hl 0 rfl) ?_
  refine lv_iconst (v := 4) hx hb dL_law_1886 (by decide) ?_
  refine lv_iadd hx hb dL_law_1887 ?_
  refine cv_topi (b := 4) (by decide) ?_
  refine va_sld hx hb hX hbl hbA hS (vp_in_iff.mpr (by decide)) dL_law_1888 ?_
  refine cv_topi (b := xs 4) rfl ?_
  refine lv_aload_n hx hb dL_law_1889 rfl (lv_at hl 3 rfl) ?_
  refine lv_iload_n hx hb dL_law_1890 rfl (lv_at hl 0 rfl) ?_
  refine lv_iconst (v := 5) hx hb dL_law_1891 (by decide) ?_
  refine lv_iadd hx hb dL_law_1892 ?_
  refine cv_topi (b := 5) (by decide) ?_
  refine va_sld hx hb hX hbl hbA hS (vp_in_iff.mpr (by decide)) dL_law_1893 ?_
  refine cv_topi (b := xs 5) rfl ?_
  have hPc := hP.sub (ws' := [((E 0), .inr (10, [.ref (E 1), .ref (E 3), .ref (E 13), .ref (E 23), .ref (E 54), .ref (E 55), .ref (E 64), .ref (E 69), .ref (E 71), .ref (E 75), .ref (E 78), .ref (E 80), .ref (E 83), .ref (E 84), .null])), ((E 55), .inr (7, [.ref (E 56), .ref (E 61), .ref (E 62), .ref (E 63)])), ((E 63), .inl (cyZ, 4, .inl (fun _ => 0)))]) [0, 55, 63] rfl
  have hKc := hK.sub (tys' := [(cyI, .int), (cyB, .byte), (cyJ, .long), (cyZ, .boolean), (cyH, .object RX2), (cyN, .array .long)]) [0, 1, 2, 3, 4, 5] rfl
  refine vp_callSi (va_Run.run (va_runV (As := [.int (xs 1), .int (xs 2), .int (xs 3), .int (xs 4), .int (xs 5)]) (rest := []) ⟨hx, hb, hml, hown, hts⟩ (c_paste l dC dI cyI cyB cyJ cyZ cyH cyN (E 0) (E 1) (E 3) (E 13) (E 23) (E 54) (E 55) (E 64) (E 69) (E 71) (E 75) (E 78) (E 80) (E 83) (E 84) (E 56) (E 61) (E 62) (E 63) (xs 1) (xs 2) (xs 3) (xs 4) (xs 5)) (cwV 5 hts (gdV wd_6_23 wd_6_24 wd_6_25 wd_1_1 wd_6_26) rfl rfl rfl (by decide +kernel) ⟨Nat.le_of_ble_eq_true rfl, Nat.le_of_ble_eq_true rfl⟩) ⟨fun a U g mk q => by obtain ⟨q0, qP, qK⟩ := q; exact ⟨q0, qP, va_K.moved (u := U) (U := U.calling g mk a) (Vm.Alike.refl U.vm) qK⟩, va_recv hKc hPc (ci := 10) (q0 := 0) rfl rfl, fun U hU hW => ⟨rfl, by rw [hU]; exact hPc, va_K.moved hW.alike hKc⟩⟩ rfl rfl hl.1 rfl (lv_room (Nat.le_of_ble_eq_true rfl)) dL_law_1894 ⟨Nat.le_of_ble_eq_true rfl, Nat.le_of_ble_eq_true rfl⟩)) (fun r_1 hw => ?_)
  have hwr_1 := hw
  refine lv_aload_n hx hb dL_law_1897 rfl (lv_at hl 1 rfl) ?_
  refine lv_aload_n hx hb dL_law_1898 rfl (lv_at hl 3 rfl) ?_
  refine lv_iload_n hx hb dL_law_1899 rfl (lv_at hl 0 rfl) ?_
  refine lv_iconst (v := 1) hx hb dL_law_1900 (by decide) ?_
  refine lv_iadd hx hb dL_law_1901 ?_
  refine cv_topi (b := 1) (by decide) ?_
  refine va_sld hx hb hX hbl hbA hS (vp_in_iff.mpr (by decide)) dL_law_1902 ?_
  refine cv_topi (b := xs 1) rfl ?_
  refine lv_aload_n hx hb dL_law_1903 rfl (lv_at hl 3 rfl) ?_
  refine lv_iload_n hx hb dL_law_1904 rfl (lv_at hl 0 rfl) ?_
  refine lv_iconst (v := 2) hx hb dL_law_1905 (by decide) ?_
  refine lv_iadd hx hb dL_law_1906 ?_
  refine cv_topi (b := 2) (by decide) ?_
  refine va_sld hx hb hX hbl hbA hS (vp_in_iff.mpr (by decide)) dL_law_1907 ?_
  refine cv_topi (b := xs 2) rfl ?_
  refine lv_aload_n hx hb dL_law_1908 rfl (lv_at hl 3 rfl) ?_
  refine lv_iload_n hx hb dL_law_1909 rfl (lv_at hl 0 rfl) ?_
  refine lv_iconst (v := 3) hx hb dL_law_1910 (by decide) ?_
  refine lv_iadd hx hb dL_law_1911 ?_
  refine cv_topi (b := 3) (by decide) ?_
  refine va_sld hx hb hX hbl hbA hS (vp_in_iff.mpr (by decide)) dL_law_1912 ?_
  refine cv_topi (b := xs 3) rfl ?_
  refine lv_aload_n hx hb dL_law_1913 rfl (lv_at hl 3 rfl) ?_
  refine lv_iload_n hx hb dL_law_1914 rfl (lv_at hl 0 rfl) ?_
  refine lv_iconst (v := 4) hx hb dL_law_1915 (by decide) ?_
  refine lv_iadd hx hb dL_law_1916 ?_
  refine cv_topi (b := 4) (by decide) ?_
  refine va_sld hx hb hX hbl hbA hS (vp_in_iff.mpr (by decide)) dL_law_1917 ?_
  refine cv_topi (b := xs 4) rfl ?_
  refine lv_aload_n hx hb dL_law_1918 rfl (lv_at hl 3 rfl) ?_
  refine lv_iload_n hx hb dL_law_1919 rfl (lv_at hl 0 rfl) ?_
  refine lv_iconst (v := 5) hx hb dL_law_1920 (by decide) ?_
  refine lv_iadd hx hb dL_law_1921 ?_
  refine cv_topi (b := 5) (by decide) ?_
  refine va_sld hx hb hX hbl hbA hS (vp_in_iff.mpr (by decide)) dL_law_1922 ?_
  refine cv_topi (b := xs 5) rfl ?_
  have hPc := hP.sub (ws' := [((E 85), .inr (11, [.int 0, .ref (E 86), .ref (E 87), .ref (E 88), .ref (E 89), .ref (E 90), .int 0, .int 0, .int 0, .int 0, .int 0, .long 0, .int 0, .int 0, .int 0, .int (-1), .ref (E 91), .ref (E 92), .ref (E 93), .ref (E 94), .ref (E 95), .ref (E 96), .ref (E 97), .ref (E 98), .ref (E 99), .ref (E 100), .int 0, .ref (E 101), .ref (E 102), .ref (E 103), .ref (E 104), .int 0, .ref (E 105), .ref (E 106), .ref (E 107), .int 0, .int 0, .int 0, .int 0, .int 0, .int 0, .ref (E 108), .ref (E 109), .long 0])), ((E 86), .inl (cyI, 4, .inl wF))]) [85, 86] rfl
  have hKc := hK.sub (tys' := [(cyI, .int), (cyB, .byte), (cyJ, .long), (cyZ, .boolean), (cyH, .object RX2), (cyN, .array .long)]) [0, 1, 2, 3, 4, 5] rfl
  have hDc := hD.sub (ws' := [((E 85), .inr (11, [.int 0, .ref (E 86), .ref (E 87), .ref (E 88), .ref (E 89), .ref (E 90), .int 0, .int 0, .int 0, .int 0, .int 0, .long 0, .int 0, .int 0, .int 0, .int (-1), .ref (E 91), .ref (E 92), .ref (E 93), .ref (E 94), .ref (E 95), .ref (E 96), .ref (E 97), .ref (E 98), .ref (E 99), .ref (E 100), .int 0, .ref (E 101), .ref (E 102), .ref (E 103), .ref (E 104), .int 0, .ref (E 105), .ref (E 106), .ref (E 107), .int 0, .int 0, .int 0, .int 0, .int 0, .int 0, .ref (E 108), .ref (E 109), .long 0])), ((E 86), .inl (cyI, 4, .inl wF))]) [85, 86] (by decide) rfl
  have hFc := va_free (wc := [((E 85), .inr (11, [.int 0, .ref (E 86), .ref (E 87), .ref (E 88), .ref (E 89), .ref (E 90), .int 0, .int 0, .int 0, .int 0, .int 0, .long 0, .int 0, .int 0, .int 0, .int (-1), .ref (E 91), .ref (E 92), .ref (E 93), .ref (E 94), .ref (E 95), .ref (E 96), .ref (E 97), .ref (E 98), .ref (E 99), .ref (E 100), .int 0, .ref (E 101), .ref (E 102), .ref (E 103), .ref (E 104), .int 0, .ref (E 105), .ref (E 106), .ref (E 107), .int 0, .int 0, .int 0, .int 0, .int 0, .int 0, .ref (E 108), .ref (E 109), .long 0])), ((E 86), .inl (cyI, 4, .inl wF))]) hD hS hA [85, 86] rfl
  refine va_calli (va_runV (As := [.int (xs 1), .int (xs 2), .int (xs 3), .int (xs 4), .int (xs 5)]) (rest := [.int r_1]) ⟨hx, hb, hml, hown, hts⟩ (m_paste l dC dI cyI cyB cyJ cyZ cyH cyN H.size (E 85) (E 86) (E 87) (E 88) (E 89) (E 90) (E 91) (E 92) (E 93) (E 94) (E 95) (E 96) (E 97) (E 98) (E 99) (E 100) (E 101) (E 102) (E 103) (E 104) (E 105) (E 106) (E 107) (E 108) (E 109) wF (xs 1) (xs 2) (xs 3) (xs 4) (xs 5) g7) (cwV 5 hts (gdV wd_6_188 wd_6_189 wd_6_190 wd_1_11 wd_6_191) rfl rfl rfl (by decide +kernel) ⟨Nat.le_of_ble_eq_true rfl, Nat.le_of_ble_eq_true rfl⟩) ⟨fun a U g mk q => by obtain ⟨q0, q1, qP, qK, qD⟩ := q; exact ⟨q0, q1, qP, va_K.moved (u := U) (U := U.calling g mk a) (Vm.Alike.refl U.vm) qK, qD⟩, va_recv hKc hPc (ci := 11) (q0 := 0) rfl rfl, fun U hU hW => ⟨rfl, by rw [hU], by rw [hU]; exact hPc, va_K.moved hW.alike hKc, hDc.weaken (fun _ _ _ _ => trivial)⟩⟩ rfl rfl hl.1 rfl (lv_room (Nat.le_of_ble_eq_true rfl)) dL_law_1923 ⟨Nat.le_of_ble_eq_true rfl, Nat.le_of_ble_eq_true rfl⟩) hS (fun q _ h => hFc q h) hFc (fun r_2 u t H1 locs ht hvm hw hB hz1 hk1 hS => ?_)
  generalize H1 = H at hS ⊢
  have hwr_2 := hw
  refine lv_icmp_eq (tgt := 1931) hx hb dL_law_1926 (by decide) (fun _ => ?_) (fun c_3 => absurd (hwr_1.trans hwr_2.symm) c_3)
  have hS9 : va_S (fun q : Nat => s.heap.size ≤ q) s.heap H locs := by rw [← hAe]; exact hS
  exact law_end C0 hS9 (lv_sub hl [3, 0] rfl) (Nat.le_of_ble_eq_true rfl) (Nat.le_of_ble_eq_true rfl)

set_option maxHeartbeats 8000000 in
set_option maxRecDepth 100000 in
theorem law_body {p : Program} {l : Launch} {e : Env} {s : State} {m : MethodId} {below : List Frame} {meth : Method} {c : Code} {b L : Nat} {xs : Nat → Int32} (hL : L ≤ 3072) (C0 : lw_At p s m meth c b L xs) {dC : Nat → ClassId} {dI : Nat → Nat → Nat} {cyI cyB cyJ cyZ cyH cyN cyM : ClassId} {tR tF : Nat} {aK aV : Nat → Nat} {tg : Nat → Nat} {SZ x0 m0 : Nat} (hFIX : FIX dC dI cyI cyB cyJ cyZ cyH cyN cyM tR tF aK aV tg SZ s) {i : Int32} (hi0 : 0 ≤ i.toInt) (hi6 : i.toInt ≤ 3078) {ls : Array Slot} (hl : lv_has ls 4 [(3, .int i), (2, .ref m0), (1, .ref x0), (0, .ref b)]) {H : Heap} {locs : List Loc} {cells slots : Nat} (hI : INV dC dI cyI cyB cyJ cyZ cyH cyN cyM tg SZ x0 m0 H cells slots) (hS : va_S (fun q : Nat => s.heap.size ≤ q) s.heap H locs) (kk : i.toInt + 6 ≤ (L : Int) → ∀ (j : Int32) (ls : Array Slot) (H : Heap) (locs : List Loc) (cells slots : Nat), j.toInt = i.toInt + 6 → lv_has ls 4 [(3, .int j), (2, .ref m0), (1, .ref x0), (0, .ref b)] → INV dC dI cyI cyB cyJ cyZ cyH cyN cyM tg SZ x0 m0 H cells slots → va_S (fun q : Nat => s.heap.size ≤ q) s.heap H locs → W p l e room_1 s m #[Value.ref b] below meth c H locs cells slots (lw_Z below #[Value.ref b] s) (F0 m 18 ls [])) : W p l e room_1 s m #[Value.ref b] below meth c H locs cells slots (lw_Z below #[Value.ref b] s) (F0 m 18 ls []) := by
  obtain ⟨hx, hb, hr, hml, hown, hts0, hX, hbl, hlocks, hgv⟩ := id C0
  have hbA : ¬ (fun q : Nat => s.heap.size ≤ q) b := Nat.not_le.mpr hbl
  refine lv_iload_n hx hb dL_law_18 rfl (lv_at hl 0 rfl) ?_
  refine lv_aload_n hx hb dL_law_19 rfl (lv_at hl 3 rfl) ?_
  refine va_slen hx hb hX hbl hbA hS dL_law_20 ?_
  refine lv_bipush (v := 6) hx hb dL_law_21 (by decide) ?_
  refine lv_isub hx hb dL_law_23 ?_
  have hLt : (Int32.ofNat L).toInt = (L : Int) := nI_toInt (by omega)
  have h6 : (6 : Int32).toInt = 6 := rfl
  have hs6 : (Int32.ofNat L - 6).toInt = (L : Int) - 6 := by rw [cv_subI (by omega) (by omega)]; omega
  refine lv_icmp_gt (tgt := 1936) hx hb dL_law_24 (by decide) (fun c1 => ?_) (fun c1 => ?_)
  · obtain ⟨sl, ke_f, s_fm, s_fl, s_fw, m_isKept, m_many, m_width, hXE, hMI, hRR, hSZ, hsl, hce, hso⟩ := hI
    exact law_exit hL C0 hFIX hS (by omega) (by omega)
  have c2 := cv_nlt c1
  have hi : i.toInt + 6 ≤ (L : Int) := by omega
  have kk2 : ∀ (H : Heap) (locs : List Loc) (cells slots : Nat), INV dC dI cyI cyB cyJ cyZ cyH cyN cyM tg SZ x0 m0 H cells slots → va_S (fun q : Nat => s.heap.size ≤ q) s.heap H locs → W p l e room_1 s m #[Value.ref b] below meth c H locs cells slots (lw_Z below #[Value.ref b] s) (F0 m 1930 ls []) := fun H locs cells slots hI hS => law_next hL C0 hFIX hi0 (by omega) hl (fun j ls hj hl => kk hi j ls H locs cells slots hj hl hI hS)
  refine lv_aload_n hx hb dL_law_27 rfl (lv_at hl 3 rfl) ?_
  refine lv_iload_n hx hb dL_law_28 rfl (lv_at hl 0 rfl) ?_
  refine va_sld hx hb hX hbl hbA hS (vp_in_iff.mpr ⟨hi0, by omega⟩) dL_law_29 ?_
  refine lv_bipush (v := 127) hx hb dL_law_30 (by decide) ?_
  refine lv_iand hx hb dL_law_32 ?_
  refine lv_topi (fun x ex => ?_)
  by_cases c_0 : (x.toInt < 0 ∨ 65 < x.toInt)
  · refine lv_tableOut (tgt := 1930) hx hb dL_law_33 c_0 (by decide) ?_
    exact kk2 _ _ _ _ hI hS
  obtain ⟨c_a, c_b⟩ : 0 ≤ x.toInt ∧ x.toInt ≤ 65 := by omega
  obtain ⟨j, hj⟩ : ∃ j : Nat, x.toInt = (j : Int) := ⟨x.toInt.toNat, by omega⟩
  have hj65 : j < 66 := by omega
  clear c_0 c_a c_b
  match j, hj, hj65 with
  | 0, hj, _ =>
    refine lv_tableIn (off := 279) (tgt := 312) hx hb dL_law_33 (by rw [hj]; decide) (by rw [hj]; decide) (by rw [hj]; rfl) (by decide) ?_
    exact law_c0 hL C0 hFIX hi0 hi hl kk2 hI hS
  | 1, hj, _ =>
    refine lv_tableIn (off := 342) (tgt := 375) hx hb dL_law_33 (by rw [hj]; decide) (by rw [hj]; decide) (by rw [hj]; rfl) (by decide) ?_
    exact law_c1 hL C0 hFIX hi0 hi hl kk2 hI hS
  | 2, hj, _ =>
    refine lv_tableIn (off := 365) (tgt := 398) hx hb dL_law_33 (by rw [hj]; decide) (by rw [hj]; decide) (by rw [hj]; rfl) (by decide) ?_
    exact law_c2 hL C0 hFIX hi0 hi hl kk2 hI hS
  | 3, hj, _ =>
    refine lv_tableIn (off := 378) (tgt := 411) hx hb dL_law_33 (by rw [hj]; decide) (by rw [hj]; decide) (by rw [hj]; rfl) (by decide) ?_
    exact law_c3 hL C0 hFIX hi0 hi hl kk2 hI hS
  | 4, hj, _ =>
    refine lv_tableIn (off := 401) (tgt := 434) hx hb dL_law_33 (by rw [hj]; decide) (by rw [hj]; decide) (by rw [hj]; rfl) (by decide) ?_
    exact law_c4 hL C0 hFIX hi0 hi hl kk2 hI hS
  | 5, hj, _ =>
    refine lv_tableIn (off := 434) (tgt := 467) hx hb dL_law_33 (by rw [hj]; decide) (by rw [hj]; decide) (by rw [hj]; rfl) (by decide) ?_
    exact law_c5 hL C0 hFIX hi0 hi hl kk2 hI hS
  | 6, hj, _ =>
    refine lv_tableIn (off := 467) (tgt := 500) hx hb dL_law_33 (by rw [hj]; decide) (by rw [hj]; decide) (by rw [hj]; rfl) (by decide) ?_
    exact law_c6 hL C0 hFIX hi0 hi hl kk2 hI hS
  | 7, hj, _ =>
    refine lv_tableIn (off := 490) (tgt := 523) hx hb dL_law_33 (by rw [hj]; decide) (by rw [hj]; decide) (by rw [hj]; rfl) (by decide) ?_
    exact law_c7 hL C0 hFIX hi0 hi hl kk2 hI hS
  | 8, hj, _ =>
    refine lv_tableIn (off := 513) (tgt := 546) hx hb dL_law_33 (by rw [hj]; decide) (by rw [hj]; decide) (by rw [hj]; rfl) (by decide) ?_
    exact law_c8 hL C0 hFIX hi0 hi hl kk2 hI hS
  | 9, hj, _ =>
    refine lv_tableIn (off := 536) (tgt := 569) hx hb dL_law_33 (by rw [hj]; decide) (by rw [hj]; decide) (by rw [hj]; rfl) (by decide) ?_
    exact law_c9 hL C0 hFIX hi0 hi hl kk2 hI hS
  | 10, hj, _ =>
    refine lv_tableIn (off := 569) (tgt := 602) hx hb dL_law_33 (by rw [hj]; decide) (by rw [hj]; decide) (by rw [hj]; rfl) (by decide) ?_
    exact law_c10 hL C0 hFIX hi0 hi hl kk2 hI hS
  | 11, hj, _ =>
    refine lv_tableIn (off := 592) (tgt := 625) hx hb dL_law_33 (by rw [hj]; decide) (by rw [hj]; decide) (by rw [hj]; rfl) (by decide) ?_
    exact law_c11 hL C0 hFIX hi0 hi hl kk2 hI hS
  | 12, hj, _ =>
    refine lv_tableIn (off := 605) (tgt := 638) hx hb dL_law_33 (by rw [hj]; decide) (by rw [hj]; decide) (by rw [hj]; rfl) (by decide) ?_
    exact law_c12 hL C0 hFIX hi0 hi hl kk2 hI hS
  | 13, hj, _ =>
    refine lv_tableIn (off := 618) (tgt := 651) hx hb dL_law_33 (by rw [hj]; decide) (by rw [hj]; decide) (by rw [hj]; rfl) (by decide) ?_
    exact law_c13 hL C0 hFIX hi0 hi hl kk2 hI hS
  | 14, hj, _ =>
    refine lv_tableIn (off := 631) (tgt := 664) hx hb dL_law_33 (by rw [hj]; decide) (by rw [hj]; decide) (by rw [hj]; rfl) (by decide) ?_
    exact law_c14 hL C0 hFIX hi0 hi hl kk2 hI hS
  | 15, hj, _ =>
    refine lv_tableIn (off := 664) (tgt := 697) hx hb dL_law_33 (by rw [hj]; decide) (by rw [hj]; decide) (by rw [hj]; rfl) (by decide) ?_
    exact law_c15 hL C0 hFIX hi0 hi hl kk2 hI hS
  | 16, hj, _ =>
    refine lv_tableIn (off := 697) (tgt := 730) hx hb dL_law_33 (by rw [hj]; decide) (by rw [hj]; decide) (by rw [hj]; rfl) (by decide) ?_
    exact law_c16 hL C0 hFIX hi0 hi hl kk2 hI hS
  | 17, hj, _ =>
    refine lv_tableIn (off := 720) (tgt := 753) hx hb dL_law_33 (by rw [hj]; decide) (by rw [hj]; decide) (by rw [hj]; rfl) (by decide) ?_
    exact law_c17 hL C0 hFIX hi0 hi hl kk2 hI hS
  | 18, hj, _ =>
    refine lv_tableIn (off := 733) (tgt := 766) hx hb dL_law_33 (by rw [hj]; decide) (by rw [hj]; decide) (by rw [hj]; rfl) (by decide) ?_
    exact law_c18 hL C0 hFIX hi0 hi hl kk2 hI hS
  | 19, hj, _ =>
    refine lv_tableIn (off := 746) (tgt := 779) hx hb dL_law_33 (by rw [hj]; decide) (by rw [hj]; decide) (by rw [hj]; rfl) (by decide) ?_
    exact law_c19 hL C0 hFIX hi0 hi hl kk2 hI hS
  | 20, hj, _ =>
    refine lv_tableIn (off := 759) (tgt := 792) hx hb dL_law_33 (by rw [hj]; decide) (by rw [hj]; decide) (by rw [hj]; rfl) (by decide) ?_
    exact law_c20 hL C0 hFIX hi0 hi hl kk2 hI hS
  | 21, hj, _ =>
    refine lv_tableIn (off := 772) (tgt := 805) hx hb dL_law_33 (by rw [hj]; decide) (by rw [hj]; decide) (by rw [hj]; rfl) (by decide) ?_
    exact law_c21 hL C0 hFIX hi0 hi hl kk2 hI hS
  | 22, hj, _ =>
    refine lv_tableIn (off := 785) (tgt := 818) hx hb dL_law_33 (by rw [hj]; decide) (by rw [hj]; decide) (by rw [hj]; rfl) (by decide) ?_
    exact law_c22 hL C0 hFIX hi0 hi hl kk2 hI hS
  | 23, hj, _ =>
    refine lv_tableIn (off := 808) (tgt := 841) hx hb dL_law_33 (by rw [hj]; decide) (by rw [hj]; decide) (by rw [hj]; rfl) (by decide) ?_
    exact law_c23 hL C0 hFIX hi0 hi hl kk2 hI hS
  | 24, hj, _ =>
    refine lv_tableIn (off := 831) (tgt := 864) hx hb dL_law_33 (by rw [hj]; decide) (by rw [hj]; decide) (by rw [hj]; rfl) (by decide) ?_
    exact law_c24 hL C0 hFIX hi0 hi hl kk2 hI hS
  | 25, hj, _ =>
    refine lv_tableIn (off := 844) (tgt := 877) hx hb dL_law_33 (by rw [hj]; decide) (by rw [hj]; decide) (by rw [hj]; rfl) (by decide) ?_
    exact law_c25 hL C0 hFIX hi0 hi hl kk2 hI hS
  | 26, hj, _ =>
    refine lv_tableIn (off := 867) (tgt := 900) hx hb dL_law_33 (by rw [hj]; decide) (by rw [hj]; decide) (by rw [hj]; rfl) (by decide) ?_
    exact law_c26 hL C0 hFIX hi0 hi hl kk2 hI hS
  | 27, hj, _ =>
    refine lv_tableIn (off := 880) (tgt := 913) hx hb dL_law_33 (by rw [hj]; decide) (by rw [hj]; decide) (by rw [hj]; rfl) (by decide) ?_
    exact law_c27 hL C0 hFIX hi0 hi hl kk2 hI hS
  | 28, hj, _ =>
    refine lv_tableIn (off := 903) (tgt := 936) hx hb dL_law_33 (by rw [hj]; decide) (by rw [hj]; decide) (by rw [hj]; rfl) (by decide) ?_
    exact law_c28 hL C0 hFIX hi0 hi hl kk2 hI hS
  | 29, hj, _ =>
    refine lv_tableIn (off := 936) (tgt := 969) hx hb dL_law_33 (by rw [hj]; decide) (by rw [hj]; decide) (by rw [hj]; rfl) (by decide) ?_
    exact law_c29 hL C0 hFIX hi0 hi hl kk2 hI hS
  | 30, hj, _ =>
    refine lv_tableIn (off := 959) (tgt := 992) hx hb dL_law_33 (by rw [hj]; decide) (by rw [hj]; decide) (by rw [hj]; rfl) (by decide) ?_
    exact law_c30 hL C0 hFIX hi0 hi hl kk2 hI hS
  | 31, hj, _ =>
    refine lv_tableIn (off := 992) (tgt := 1025) hx hb dL_law_33 (by rw [hj]; decide) (by rw [hj]; decide) (by rw [hj]; rfl) (by decide) ?_
    exact law_c31 hL C0 hFIX hi0 hi hl kk2 hI hS
  | 32, hj, _ =>
    refine lv_tableIn (off := 1005) (tgt := 1038) hx hb dL_law_33 (by rw [hj]; decide) (by rw [hj]; decide) (by rw [hj]; rfl) (by decide) ?_
    exact law_c32 hL C0 hFIX hi0 hi hl kk2 hI hS
  | 33, hj, _ =>
    refine lv_tableIn (off := 1018) (tgt := 1051) hx hb dL_law_33 (by rw [hj]; decide) (by rw [hj]; decide) (by rw [hj]; rfl) (by decide) ?_
    exact law_c33 hL C0 hFIX hi0 hi hl kk2 hI hS
  | 34, hj, _ =>
    refine lv_tableIn (off := 1041) (tgt := 1074) hx hb dL_law_33 (by rw [hj]; decide) (by rw [hj]; decide) (by rw [hj]; rfl) (by decide) ?_
    exact law_c34 hL C0 hFIX hi0 hi hl kk2 hI hS
  | 35, hj, _ =>
    refine lv_tableIn (off := 1074) (tgt := 1107) hx hb dL_law_33 (by rw [hj]; decide) (by rw [hj]; decide) (by rw [hj]; rfl) (by decide) ?_
    exact law_c35 hL C0 hFIX hi0 hi hl kk2 hI hS
  | 36, hj, _ =>
    refine lv_tableIn (off := 1097) (tgt := 1130) hx hb dL_law_33 (by rw [hj]; decide) (by rw [hj]; decide) (by rw [hj]; rfl) (by decide) ?_
    exact law_c36 hL C0 hFIX hi0 hi hl kk2 hI hS
  | 37, hj, _ =>
    refine lv_tableIn (off := 1120) (tgt := 1153) hx hb dL_law_33 (by rw [hj]; decide) (by rw [hj]; decide) (by rw [hj]; rfl) (by decide) ?_
    exact law_c37 hL C0 hFIX hi0 hi hl kk2 hI hS
  | 38, hj, _ =>
    refine lv_tableIn (off := 1143) (tgt := 1176) hx hb dL_law_33 (by rw [hj]; decide) (by rw [hj]; decide) (by rw [hj]; rfl) (by decide) ?_
    exact law_c38 hL C0 hFIX hi0 hi hl kk2 hI hS
  | 39, hj, _ =>
    refine lv_tableIn (off := 1166) (tgt := 1199) hx hb dL_law_33 (by rw [hj]; decide) (by rw [hj]; decide) (by rw [hj]; rfl) (by decide) ?_
    exact law_c39 hL C0 hFIX hi0 hi hl kk2 hI hS
  | 40, hj, _ =>
    refine lv_tableIn (off := 1189) (tgt := 1222) hx hb dL_law_33 (by rw [hj]; decide) (by rw [hj]; decide) (by rw [hj]; rfl) (by decide) ?_
    exact law_c40 hL C0 hFIX hi0 hi hl kk2 hI hS
  | 41, hj, _ =>
    refine lv_tableIn (off := 1202) (tgt := 1235) hx hb dL_law_33 (by rw [hj]; decide) (by rw [hj]; decide) (by rw [hj]; rfl) (by decide) ?_
    exact law_c41 hL C0 hFIX hi0 hi hl kk2 hI hS
  | 42, hj, _ =>
    refine lv_tableIn (off := 1225) (tgt := 1258) hx hb dL_law_33 (by rw [hj]; decide) (by rw [hj]; decide) (by rw [hj]; rfl) (by decide) ?_
    exact law_c42 hL C0 hFIX hi0 hi hl kk2 hI hS
  | 43, hj, _ =>
    refine lv_tableIn (off := 1238) (tgt := 1271) hx hb dL_law_33 (by rw [hj]; decide) (by rw [hj]; decide) (by rw [hj]; rfl) (by decide) ?_
    exact law_c43 hL C0 hFIX hi0 hi hl kk2 hI hS
  | 44, hj, _ =>
    refine lv_tableIn (off := 1251) (tgt := 1284) hx hb dL_law_33 (by rw [hj]; decide) (by rw [hj]; decide) (by rw [hj]; rfl) (by decide) ?_
    exact law_c44 hL C0 hFIX hi0 hi hl kk2 hI hS
  | 45, hj, _ =>
    refine lv_tableIn (off := 1274) (tgt := 1307) hx hb dL_law_33 (by rw [hj]; decide) (by rw [hj]; decide) (by rw [hj]; rfl) (by decide) ?_
    exact law_c45 hL C0 hFIX hi0 hi hl kk2 hI hS
  | 46, hj, _ =>
    refine lv_tableIn (off := 1287) (tgt := 1320) hx hb dL_law_33 (by rw [hj]; decide) (by rw [hj]; decide) (by rw [hj]; rfl) (by decide) ?_
    exact law_c46 hL C0 hFIX hi0 hi hl kk2 hI hS
  | 47, hj, _ =>
    refine lv_tableIn (off := 1300) (tgt := 1333) hx hb dL_law_33 (by rw [hj]; decide) (by rw [hj]; decide) (by rw [hj]; rfl) (by decide) ?_
    exact law_c47 hL C0 hFIX hi0 hi hl kk2 hI hS
  | 48, hj, _ =>
    refine lv_tableIn (off := 1313) (tgt := 1346) hx hb dL_law_33 (by rw [hj]; decide) (by rw [hj]; decide) (by rw [hj]; rfl) (by decide) ?_
    exact law_c48 hL C0 hFIX hi0 hi hl kk2 hI hS
  | 49, hj, _ =>
    refine lv_tableIn (off := 1336) (tgt := 1369) hx hb dL_law_33 (by rw [hj]; decide) (by rw [hj]; decide) (by rw [hj]; rfl) (by decide) ?_
    exact law_c49 hL C0 hFIX hi0 hi hl kk2 hI hS
  | 50, hj, _ =>
    refine lv_tableIn (off := 1359) (tgt := 1392) hx hb dL_law_33 (by rw [hj]; decide) (by rw [hj]; decide) (by rw [hj]; rfl) (by decide) ?_
    exact law_c50 hL C0 hFIX hi0 hi hl kk2 hI hS
  | 51, hj, _ =>
    refine lv_tableIn (off := 1402) (tgt := 1435) hx hb dL_law_33 (by rw [hj]; decide) (by rw [hj]; decide) (by rw [hj]; rfl) (by decide) ?_
    exact law_c51 hL C0 hFIX hi0 hi hl kk2 hI hS
  | 52, hj, _ =>
    refine lv_tableIn (off := 1425) (tgt := 1458) hx hb dL_law_33 (by rw [hj]; decide) (by rw [hj]; decide) (by rw [hj]; rfl) (by decide) ?_
    exact law_c52 hL C0 hFIX hi0 hi hl kk2 hI hS
  | 53, hj, _ =>
    refine lv_tableIn (off := 1458) (tgt := 1491) hx hb dL_law_33 (by rw [hj]; decide) (by rw [hj]; decide) (by rw [hj]; rfl) (by decide) ?_
    exact law_c53 hL C0 hFIX hi0 hi hl kk2 hI hS
  | 54, hj, _ =>
    refine lv_tableIn (off := 1471) (tgt := 1504) hx hb dL_law_33 (by rw [hj]; decide) (by rw [hj]; decide) (by rw [hj]; rfl) (by decide) ?_
    exact law_c54 hL C0 hFIX hi0 hi hl kk2 hI hS
  | 55, hj, _ =>
    refine lv_tableIn (off := 1484) (tgt := 1517) hx hb dL_law_33 (by rw [hj]; decide) (by rw [hj]; decide) (by rw [hj]; rfl) (by decide) ?_
    exact law_c55 hL C0 hFIX hi0 hi hl kk2 hI hS
  | 56, hj, _ =>
    refine lv_tableIn (off := 1497) (tgt := 1530) hx hb dL_law_33 (by rw [hj]; decide) (by rw [hj]; decide) (by rw [hj]; rfl) (by decide) ?_
    exact law_c56 hL C0 hFIX hi0 hi hl kk2 hI hS
  | 57, hj, _ =>
    refine lv_tableIn (off := 1510) (tgt := 1543) hx hb dL_law_33 (by rw [hj]; decide) (by rw [hj]; decide) (by rw [hj]; rfl) (by decide) ?_
    exact law_c57 hL C0 hFIX hi0 hi hl kk2 hI hS
  | 58, hj, _ =>
    refine lv_tableIn (off := 1553) (tgt := 1586) hx hb dL_law_33 (by rw [hj]; decide) (by rw [hj]; decide) (by rw [hj]; rfl) (by decide) ?_
    exact law_c58 hL C0 hFIX hi0 hi hl kk2 hI hS
  | 59, hj, _ =>
    refine lv_tableIn (off := 1606) (tgt := 1639) hx hb dL_law_33 (by rw [hj]; decide) (by rw [hj]; decide) (by rw [hj]; rfl) (by decide) ?_
    exact law_c59 hL C0 hFIX hi0 hi hl kk2 hI hS
  | 60, hj, _ =>
    refine lv_tableIn (off := 1649) (tgt := 1682) hx hb dL_law_33 (by rw [hj]; decide) (by rw [hj]; decide) (by rw [hj]; rfl) (by decide) ?_
    exact law_c60 hL C0 hFIX hi0 hi hl kk2 hI hS
  | 61, hj, _ =>
    refine lv_tableIn (off := 1672) (tgt := 1705) hx hb dL_law_33 (by rw [hj]; decide) (by rw [hj]; decide) (by rw [hj]; rfl) (by decide) ?_
    exact law_c61 hL C0 hFIX hi0 hi hl kk2 hI hS
  | 62, hj, _ =>
    refine lv_tableIn (off := 1695) (tgt := 1728) hx hb dL_law_33 (by rw [hj]; decide) (by rw [hj]; decide) (by rw [hj]; rfl) (by decide) ?_
    exact law_c62 hL C0 hFIX hi0 hi hl kk2 hI hS
  | 63, hj, _ =>
    refine lv_tableIn (off := 1718) (tgt := 1751) hx hb dL_law_33 (by rw [hj]; decide) (by rw [hj]; decide) (by rw [hj]; rfl) (by decide) ?_
    exact law_c63 hL C0 hFIX hi0 hi hl kk2 hI hS
  | 64, hj, _ =>
    refine lv_tableIn (off := 1761) (tgt := 1794) hx hb dL_law_33 (by rw [hj]; decide) (by rw [hj]; decide) (by rw [hj]; rfl) (by decide) ?_
    exact law_c64 hL C0 hFIX hi0 hi hl kk2 hI hS
  | 65, hj, _ =>
    refine lv_tableIn (off := 1834) (tgt := 1867) hx hb dL_law_33 (by rw [hj]; decide) (by rw [hj]; decide) (by rw [hj]; rfl) (by decide) ?_
    exact law_c65 hL C0 hFIX hi0 hi hl kk2 hI hS
  | j + 66, _, h => exact absurd h (by omega)
set_option maxHeartbeats 4000000 in
theorem law_loop {p : Program} {l : Launch} {e : Env} {s : State} {m : MethodId} {below : List Frame} {meth : Method} {c : Code} {b L : Nat} {xs : Nat → Int32} (hL : L ≤ 3072) (C0 : lw_At p s m meth c b L xs) {dC : Nat → ClassId} {dI : Nat → Nat → Nat} {cyI cyB cyJ cyZ cyH cyN cyM : ClassId} {tR tF : Nat} {aK aV : Nat → Nat} {tg : Nat → Nat} {SZ x0 m0 : Nat} (hFIX : FIX dC dI cyI cyB cyJ cyZ cyH cyN cyM tR tF aK aV tg SZ s) : ∀ (n : Nat) (i : Int32) (ls : Array Slot) (H : Heap) (locs : List Loc) (cells slots : Nat), 0 ≤ i.toInt → i.toInt ≤ 3078 → (L : Int) - i.toInt < n → lv_has ls 4 [(3, .int i), (2, .ref m0), (1, .ref x0), (0, .ref b)] → INV dC dI cyI cyB cyJ cyZ cyH cyN cyM tg SZ x0 m0 H cells slots → va_S (fun q : Nat => s.heap.size ≤ q) s.heap H locs → W p l e room_1 s m #[Value.ref b] below meth c H locs cells slots (lw_Z below #[Value.ref b] s) (F0 m 18 ls [])
  | 0, i, ls, H, locs, cells, slots, h0, h6, hn, hl, hI, hS => law_body hL C0 hFIX h0 h6 hl hI hS (fun hi => by exfalso; omega)
  | n + 1, i, ls, H, locs, cells, slots, h0, h6, hn, hl, hI, hS => law_body hL C0 hFIX h0 h6 hl hI hS (fun hi j ls H locs cells slots hj hl hI hS => law_loop hL C0 hFIX n j ls H locs cells slots (by omega) (by omega) (by omega) hl hI hS)

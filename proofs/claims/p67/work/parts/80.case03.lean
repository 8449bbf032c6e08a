set_option maxHeartbeats 4000000 in
set_option maxRecDepth 100000 in
theorem law_c33 {p : Program} {l : Launch} {e : Env} {s : State} {m : MethodId} {below : List Frame} {meth : Method} {c : Code} {b L : Nat} {xs : Nat → Int32} (hL : L ≤ 3072) (C0 : lw_At p s m meth c b L xs) {dC : Nat → ClassId} {dI : Nat → Nat → Nat} {cyI cyB cyJ cyZ cyH cyN cyM : ClassId} {tR tF : Nat} {aK aV : Nat → Nat} {tg : Nat → Nat} {SZ x0 m0 : Nat} (hFIX : FIX dC dI cyI cyB cyJ cyZ cyH cyN cyM tR tF aK aV tg SZ s) {i : Int32} (hi0 : 0 ≤ i.toInt) (hi : i.toInt + 6 ≤ (L : Int)) {ls : Array Slot} (hl : lv_has ls 4 [(3, .int i), (2, .ref m0), (1, .ref x0), (0, .ref b)]) (kk : ∀ (H : Heap) (locs : List Loc) (cells slots : Nat), INV dC dI cyI cyB cyJ cyZ cyH cyN cyM tg SZ x0 m0 H cells slots → va_S (fun q : Nat => s.heap.size ≤ q) s.heap H locs → W p l e room_1 s m #[Value.ref b] below meth c H locs cells slots (lw_Z below #[Value.ref b] s) (F0 m 1930 ls [])) {H : Heap} {locs : List Loc} {cells slots : Nat} (hI : INV dC dI cyI cyB cyJ cyZ cyH cyN cyM tg SZ x0 m0 H cells slots) (hS : va_S (fun q : Nat => s.heap.size ≤ q) s.heap H locs) : W p l e room_1 s m #[Value.ref b] below meth c H locs cells slots (lw_Z below #[Value.ref b] s) (F0 m 1051 ls []) := by
  obtain ⟨hx, hb, hr, hml, hown, hts0, hX, hbl, hlocks, hgv⟩ := id C0
  have hts : ∀ w ∈ uU, w.before #[Value.ref b] s = true := fun w h => hts0 w (uU_in h)
  have hbA : ¬ (fun q : Nat => s.heap.size ≤ q) b := Nat.not_le.mpr hbl
  refine lv_aload_n hx hb dL_law_1051 rfl (lv_at hl 2 rfl) ?_
  refine lv_aload_n hx hb dL_law_1052 rfl (lv_at hl 3 rfl) ?_
  refine lv_iload_n hx hb dL_law_1053 rfl (lv_at hl 0 rfl) ?_
  refine lv_iconst (v := 1) hx hb dL_law_1054 (by decide) ?_
  refine lv_iadd hx hb dL_law_1055 ?_
  refine va_sld hx hb hX hbl hbA hS (lw_ix hi0 hi hL (by decide)) dL_law_1056 ?_
  refine lv_topi (fun v_1 ev_1 => ?_)
  obtain ⟨sl, ke_f, s_fm, s_fl, s_fw, m_isKept, m_many, m_width, hXE, hMI, hRR, hSZ, hsl, hce, hso⟩ := hI
  have cont : ∀ (r : Int32) (H : Heap) (locs : List Loc) (cells slots sl : Nat) (ke_1 fm_1 fl_1 fw_1 : Nat → Int32), (True) → (ke_1 = ke_f ∧ fm_1 = s_fm ∧ fl_1 = s_fl ∧ fw_1 = s_fw) → XE dC dI cyI cyB cyJ cyZ cyH cyN cyM tg x0 sl ke_1 fm_1 fl_1 fw_1 H → MI dC dI cyI cyB cyJ cyZ cyH cyN cyM tg m0 m_isKept m_many m_width H → SZ ≤ H.size → (sl = 0 ∨ sl = 1) → cells ≤ 110 + 16 * sl → slots ≤ 15598 + 40501 * sl → va_S (fun q : Nat => s.heap.size ≤ q) s.heap H locs → W p l e room_1 s m #[Value.ref b] below meth c H locs cells slots (lw_Z below #[Value.ref b] s) (F0 m 1060 ls [.int r]) := by
    intro r H locs cells slots sl ke_1 fm_1 fl_1 fw_1 hw1 hrel hXE hMI hSZ hsl hce hso hS
    refine lv_pop hx hb dL_law_1060 rfl ?_
    refine lv_aload_n hx hb dL_law_1061 rfl (lv_at hl 1 rfl) ?_
    refine lv_aload_n hx hb dL_law_1062 rfl (lv_at hl 3 rfl) ?_
    refine lv_iload_n hx hb dL_law_1063 rfl (lv_at hl 0 rfl) ?_
    refine lv_iconst (v := 1) hx hb dL_law_1064 (by decide) ?_
    refine lv_iadd hx hb dL_law_1065 ?_
    refine va_sld hx hb hX hbl hbA hS (lw_ix hi0 hi hL (by decide)) dL_law_1066 ?_
    refine lv_topi (fun v_101 ev_101 => ?_)
    refine va_calli (va_runV (As := [.int v_101]) (rest := []) ⟨hx, hb, hml, hown, hts⟩ (wm_fits l dC dI cyI cyB cyJ cyZ cyH cyN cyM tg H.size m0 m_isKept m_many m_width v_101) (cwV 1 hts (gdV wd_8_51 wd_8_52 wd_8_53 wd_1_11 wd_8_54) rfl rfl rfl (by decide +kernel) ⟨Nat.le_of_ble_eq_true rfl, Nat.le_of_ble_eq_true rfl⟩) (mp_pre hFIX hMI) rfl rfl hl.1 rfl (lv_room (Nat.le_of_ble_eq_true rfl)) dL_law_1067 ⟨show cells + 0 ≤ 600000 by omega, show slots + 0 ≤ 7302250 by omega⟩) hS (fun q _ h => am_old hFIX hS q h) (am_old hFIX hS) (fun r2 u t H1 locs1 ht hvm hw hB hz1 hk1 hS1 => ?_)
    replace hB : MI dC dI cyI cyB cyJ cyZ cyH cyN cyM tg m0 m_isKept m_many m_width t.heap := hB
    rw [ht] at hB
    have hXE2 := hXE.go (fun q h1 h2 => hk1 q h1 (am_not h1 h2))
    have hRR2 : RR ke_1 fm_1 fl_1 fw_1 m_isKept m_many m_width := by
      rw [hrel.1, hrel.2.1, hrel.2.2.1, hrel.2.2.2]
      exact hRR
    refine lv_pop hx hb dL_law_1070 rfl ?_
    refine lv_goto (tgt := 1930) hx hb dL_law_1071 (by decide) ?_
    exact kk _ _ _ _ ⟨sl, ke_1, fm_1, fl_1, fw_1, m_isKept, m_many, m_width, hXE2, hB, hRR2, Nat.le_trans hSZ hz1, hsl, hce, hso⟩ hS1
  refine va_calli (va_runV (As := [.int v_1]) (rest := []) ⟨hx, hb, hml, hown, hts⟩ (wx_fits l dC dI cyI cyB cyJ cyZ cyH cyN cyM tR tF aK aV tg H.size x0 sl ke_f s_fm s_fl s_fw v_1) (cwV 1 hts (gdV wd_4_169 wd_4_170 wd_4_171 wd_1_1 wd_4_172) rfl rfl rfl (by decide +kernel) ⟨Nat.le_of_ble_eq_true rfl, Nat.le_of_ble_eq_true rfl⟩) (xp_pre hFIX hS hXE) rfl rfl hl.1 rfl (lv_room (Nat.le_of_ble_eq_true rfl)) dL_law_1057 ⟨show cells + 0 ≤ 600000 by omega, show slots + 0 ≤ 7302250 by omega⟩) hS (fun q _ h => ax_old hFIX hS q h) (ax_old hFIX hS) (fun r1 u t H1 locs1 ht hvm hw hB hz1 hk1 hS1 => ?_)
  replace hB : XE dC dI cyI cyB cyJ cyZ cyH cyN cyM tg x0 sl ke_f s_fm s_fl s_fw t.heap := hB
  rw [ht] at hB
  exact cont r1 H1 locs1 _ _ sl ke_f s_fm s_fl s_fw trivial ⟨rfl, rfl, rfl, rfl⟩ hB (hMI.go (fun q h1 h2 => hk1 q h1 (ax_not h1 h2))) (Nat.le_trans hSZ hz1) hsl (by omega) (by omega) hS1
set_option maxHeartbeats 4000000 in
set_option maxRecDepth 100000 in
theorem law_c34 {p : Program} {l : Launch} {e : Env} {s : State} {m : MethodId} {below : List Frame} {meth : Method} {c : Code} {b L : Nat} {xs : Nat → Int32} (hL : L ≤ 3072) (C0 : lw_At p s m meth c b L xs) {dC : Nat → ClassId} {dI : Nat → Nat → Nat} {cyI cyB cyJ cyZ cyH cyN cyM : ClassId} {tR tF : Nat} {aK aV : Nat → Nat} {tg : Nat → Nat} {SZ x0 m0 : Nat} (hFIX : FIX dC dI cyI cyB cyJ cyZ cyH cyN cyM tR tF aK aV tg SZ s) {i : Int32} (hi0 : 0 ≤ i.toInt) (hi : i.toInt + 6 ≤ (L : Int)) {ls : Array Slot} (hl : lv_has ls 4 [(3, .int i), (2, .ref m0), (1, .ref x0), (0, .ref b)]) (kk : ∀ (H : Heap) (locs : List Loc) (cells slots : Nat), INV dC dI cyI cyB cyJ cyZ cyH cyN cyM tg SZ x0 m0 H cells slots → va_S (fun q : Nat => s.heap.size ≤ q) s.heap H locs → W p l e room_1 s m #[Value.ref b] below meth c H locs cells slots (lw_Z below #[Value.ref b] s) (F0 m 1930 ls [])) {H : Heap} {locs : List Loc} {cells slots : Nat} (hI : INV dC dI cyI cyB cyJ cyZ cyH cyN cyM tg SZ x0 m0 H cells slots) (hS : va_S (fun q : Nat => s.heap.size ≤ q) s.heap H locs) : W p l e room_1 s m #[Value.ref b] below meth c H locs cells slots (lw_Z below #[Value.ref b] s) (F0 m 1074 ls []) := by
  obtain ⟨hx, hb, hr, hml, hown, hts0, hX, hbl, hlocks, hgv⟩ := id C0
  have hts : ∀ w ∈ uU, w.before #[Value.ref b] s = true := fun w h => hts0 w (uU_in h)
  have hbA : ¬ (fun q : Nat => s.heap.size ≤ q) b := Nat.not_le.mpr hbl
  refine lv_aload_n hx hb dL_law_1074 rfl (lv_at hl 2 rfl) ?_
  refine lv_aload_n hx hb dL_law_1075 rfl (lv_at hl 3 rfl) ?_
  refine lv_iload_n hx hb dL_law_1076 rfl (lv_at hl 0 rfl) ?_
  refine lv_iconst (v := 1) hx hb dL_law_1077 (by decide) ?_
  refine lv_iadd hx hb dL_law_1078 ?_
  refine va_sld hx hb hX hbl hbA hS (lw_ix hi0 hi hL (by decide)) dL_law_1079 ?_
  refine lv_topi (fun v_1 ev_1 => ?_)
  refine lv_aload_n hx hb dL_law_1080 rfl (lv_at hl 3 rfl) ?_
  refine lv_iload_n hx hb dL_law_1081 rfl (lv_at hl 0 rfl) ?_
  refine lv_iconst (v := 2) hx hb dL_law_1082 (by decide) ?_
  refine lv_iadd hx hb dL_law_1083 ?_
  refine va_sld hx hb hX hbl hbA hS (lw_ix hi0 hi hL (by decide)) dL_law_1084 ?_
  refine lv_topi (fun v_2 ev_2 => ?_)
  obtain ⟨sl, ke_f, s_fm, s_fl, s_fw, m_isKept, m_many, m_width, hXE, hMI, hRR, hSZ, hsl, hce, hso⟩ := hI
  have cont : ∀ (r : Int32) (H : Heap) (locs : List Loc) (cells slots sl : Nat) (ke_1 fm_1 fl_1 fw_1 : Nat → Int32), (True) → (ke_1 = ke_f ∧ fm_1 = s_fm ∧ fl_1 = s_fl ∧ fw_1 = s_fw) → XE dC dI cyI cyB cyJ cyZ cyH cyN cyM tg x0 sl ke_1 fm_1 fl_1 fw_1 H → MI dC dI cyI cyB cyJ cyZ cyH cyN cyM tg m0 m_isKept m_many m_width H → SZ ≤ H.size → (sl = 0 ∨ sl = 1) → cells ≤ 110 + 16 * sl → slots ≤ 15598 + 40501 * sl → va_S (fun q : Nat => s.heap.size ≤ q) s.heap H locs → W p l e room_1 s m #[Value.ref b] below meth c H locs cells slots (lw_Z below #[Value.ref b] s) (F0 m 1088 ls [.int r]) := by
    intro r H locs cells slots sl ke_1 fm_1 fl_1 fw_1 hw1 hrel hXE hMI hSZ hsl hce hso hS
    refine lv_pop hx hb dL_law_1088 rfl ?_
    refine lv_aload_n hx hb dL_law_1089 rfl (lv_at hl 1 rfl) ?_
    refine lv_aload_n hx hb dL_law_1090 rfl (lv_at hl 3 rfl) ?_
    refine lv_iload_n hx hb dL_law_1091 rfl (lv_at hl 0 rfl) ?_
    refine lv_iconst (v := 1) hx hb dL_law_1092 (by decide) ?_
    refine lv_iadd hx hb dL_law_1093 ?_
    refine va_sld hx hb hX hbl hbA hS (lw_ix hi0 hi hL (by decide)) dL_law_1094 ?_
    refine lv_topi (fun v_101 ev_101 => ?_)
    refine lv_aload_n hx hb dL_law_1095 rfl (lv_at hl 3 rfl) ?_
    refine lv_iload_n hx hb dL_law_1096 rfl (lv_at hl 0 rfl) ?_
    refine lv_iconst (v := 2) hx hb dL_law_1097 (by decide) ?_
    refine lv_iadd hx hb dL_law_1098 ?_
    refine va_sld hx hb hX hbl hbA hS (lw_ix hi0 hi hL (by decide)) dL_law_1099 ?_
    refine lv_topi (fun v_102 ev_102 => ?_)
    refine va_calli (va_runV (As := [.int v_101, .int v_102]) (rest := []) ⟨hx, hb, hml, hown, hts⟩ (wm_fit l dC dI cyI cyB cyJ cyZ cyH cyN cyM tg H.size m0 m_isKept m_many m_width v_101 v_102) (cwV 2 hts (gdV wd_8_68 wd_8_69 wd_8_70 wd_1_11 wd_8_71) rfl rfl rfl (by decide +kernel) ⟨Nat.le_of_ble_eq_true rfl, Nat.le_of_ble_eq_true rfl⟩) (mp_pre hFIX hMI) rfl rfl hl.1 rfl (lv_room (Nat.le_of_ble_eq_true rfl)) dL_law_1100 ⟨show cells + 0 ≤ 600000 by omega, show slots + 0 ≤ 7302250 by omega⟩) hS (fun q _ h => am_old hFIX hS q h) (am_old hFIX hS) (fun r2 u t H1 locs1 ht hvm hw hB hz1 hk1 hS1 => ?_)
    replace hB : MI dC dI cyI cyB cyJ cyZ cyH cyN cyM tg m0 m_isKept m_many m_width t.heap := hB
    rw [ht] at hB
    have hXE2 := hXE.go (fun q h1 h2 => hk1 q h1 (am_not h1 h2))
    have hRR2 : RR ke_1 fm_1 fl_1 fw_1 m_isKept m_many m_width := by
      rw [hrel.1, hrel.2.1, hrel.2.2.1, hrel.2.2.2]
      exact hRR
    refine lv_pop hx hb dL_law_1103 rfl ?_
    refine lv_goto (tgt := 1930) hx hb dL_law_1104 (by decide) ?_
    exact kk _ _ _ _ ⟨sl, ke_1, fm_1, fl_1, fw_1, m_isKept, m_many, m_width, hXE2, hB, hRR2, Nat.le_trans hSZ hz1, hsl, hce, hso⟩ hS1
  refine va_calli (va_runV (As := [.int v_1, .int v_2]) (rest := []) ⟨hx, hb, hml, hown, hts⟩ (wx_fit l dC dI cyI cyB cyJ cyZ cyH cyN cyM tR tF aK aV tg H.size x0 sl ke_f s_fm s_fl s_fw v_1 v_2) (cwV 2 hts (gdV wd_4_201 wd_4_202 wd_4_203 wd_1_1 wd_4_204) rfl rfl rfl (by decide +kernel) ⟨Nat.le_of_ble_eq_true rfl, Nat.le_of_ble_eq_true rfl⟩) (xp_pre hFIX hS hXE) rfl rfl hl.1 rfl (lv_room (Nat.le_of_ble_eq_true rfl)) dL_law_1085 ⟨show cells + 0 ≤ 600000 by omega, show slots + 0 ≤ 7302250 by omega⟩) hS (fun q _ h => ax_old hFIX hS q h) (ax_old hFIX hS) (fun r1 u t H1 locs1 ht hvm hw hB hz1 hk1 hS1 => ?_)
  replace hB : XE dC dI cyI cyB cyJ cyZ cyH cyN cyM tg x0 sl ke_f s_fm s_fl s_fw t.heap := hB
  rw [ht] at hB
  exact cont r1 H1 locs1 _ _ sl ke_f s_fm s_fl s_fw trivial ⟨rfl, rfl, rfl, rfl⟩ hB (hMI.go (fun q h1 h2 => hk1 q h1 (ax_not h1 h2))) (Nat.le_trans hSZ hz1) hsl (by omega) (by omega) hS1
set_option maxHeartbeats 4000000 in
set_option maxRecDepth 100000 in
theorem law_c35 {p : Program} {l : Launch} {e : Env} {s : State} {m : MethodId} {below : List Frame} {meth : Method} {c : Code} {b L : Nat} {xs : Nat → Int32} (hL : L ≤ 3072) (C0 : lw_At p s m meth c b L xs) {dC : Nat → ClassId} {dI : Nat → Nat → Nat} {cyI cyB cyJ cyZ cyH cyN cyM : ClassId} {tR tF : Nat} {aK aV : Nat → Nat} {tg : Nat → Nat} {SZ x0 m0 : Nat} (hFIX : FIX dC dI cyI cyB cyJ cyZ cyH cyN cyM tR tF aK aV tg SZ s) {i : Int32} (hi0 : 0 ≤ i.toInt) (hi : i.toInt + 6 ≤ (L : Int)) {ls : Array Slot} (hl : lv_has ls 4 [(3, .int i), (2, .ref m0), (1, .ref x0), (0, .ref b)]) (kk : ∀ (H : Heap) (locs : List Loc) (cells slots : Nat), INV dC dI cyI cyB cyJ cyZ cyH cyN cyM tg SZ x0 m0 H cells slots → va_S (fun q : Nat => s.heap.size ≤ q) s.heap H locs → W p l e room_1 s m #[Value.ref b] below meth c H locs cells slots (lw_Z below #[Value.ref b] s) (F0 m 1930 ls [])) {H : Heap} {locs : List Loc} {cells slots : Nat} (hI : INV dC dI cyI cyB cyJ cyZ cyH cyN cyM tg SZ x0 m0 H cells slots) (hS : va_S (fun q : Nat => s.heap.size ≤ q) s.heap H locs) : W p l e room_1 s m #[Value.ref b] below meth c H locs cells slots (lw_Z below #[Value.ref b] s) (F0 m 1107 ls []) := by
  obtain ⟨hx, hb, hr, hml, hown, hts0, hX, hbl, hlocks, hgv⟩ := id C0
  have hts : ∀ w ∈ uU, w.before #[Value.ref b] s = true := fun w h => hts0 w (uU_in h)
  have hbA : ¬ (fun q : Nat => s.heap.size ≤ q) b := Nat.not_le.mpr hbl
  refine lv_aload_n hx hb dL_law_1107 rfl (lv_at hl 2 rfl) ?_
  refine lv_aload_n hx hb dL_law_1108 rfl (lv_at hl 3 rfl) ?_
  refine lv_iload_n hx hb dL_law_1109 rfl (lv_at hl 0 rfl) ?_
  refine lv_iconst (v := 1) hx hb dL_law_1110 (by decide) ?_
  refine lv_iadd hx hb dL_law_1111 ?_
  refine va_sld hx hb hX hbl hbA hS (lw_ix hi0 hi hL (by decide)) dL_law_1112 ?_
  refine lv_topi (fun v_1 ev_1 => ?_)
  obtain ⟨sl, ke_f, s_fm, s_fl, s_fw, m_isKept, m_many, m_width, hXE, hMI, hRR, hSZ, hsl, hce, hso⟩ := hI
  have cont : ∀ (r : Int32) (H : Heap) (locs : List Loc) (cells slots sl : Nat) (ke_1 fm_1 fl_1 fw_1 : Nat → Int32), (True) → (ke_1 = ke_f ∧ fm_1 = s_fm ∧ fl_1 = s_fl ∧ fw_1 = s_fw) → XE dC dI cyI cyB cyJ cyZ cyH cyN cyM tg x0 sl ke_1 fm_1 fl_1 fw_1 H → MI dC dI cyI cyB cyJ cyZ cyH cyN cyM tg m0 m_isKept m_many m_width H → SZ ≤ H.size → (sl = 0 ∨ sl = 1) → cells ≤ 110 + 16 * sl → slots ≤ 15598 + 40501 * sl → va_S (fun q : Nat => s.heap.size ≤ q) s.heap H locs → W p l e room_1 s m #[Value.ref b] below meth c H locs cells slots (lw_Z below #[Value.ref b] s) (F0 m 1116 ls [.int r]) := by
    intro r H locs cells slots sl ke_1 fm_1 fl_1 fw_1 hw1 hrel hXE hMI hSZ hsl hce hso hS
    refine lv_pop hx hb dL_law_1116 rfl ?_
    refine lv_aload_n hx hb dL_law_1117 rfl (lv_at hl 1 rfl) ?_
    refine lv_aload_n hx hb dL_law_1118 rfl (lv_at hl 3 rfl) ?_
    refine lv_iload_n hx hb dL_law_1119 rfl (lv_at hl 0 rfl) ?_
    refine lv_iconst (v := 1) hx hb dL_law_1120 (by decide) ?_
    refine lv_iadd hx hb dL_law_1121 ?_
    refine va_sld hx hb hX hbl hbA hS (lw_ix hi0 hi hL (by decide)) dL_law_1122 ?_
    refine lv_topi (fun v_101 ev_101 => ?_)
    refine va_calli (va_runV (As := [.int v_101]) (rest := []) ⟨hx, hb, hml, hown, hts⟩ (wm_ask l dC dI cyI cyB cyJ cyZ cyH cyN cyM tg H.size m0 m_isKept m_many m_width v_101) (cwV 1 hts (gdV wd_8_72 wd_8_73 wd_8_74 wd_1_11 wd_8_75) rfl rfl rfl (by decide +kernel) ⟨Nat.le_of_ble_eq_true rfl, Nat.le_of_ble_eq_true rfl⟩) (mp_pre hFIX hMI) rfl rfl hl.1 rfl (lv_room (Nat.le_of_ble_eq_true rfl)) dL_law_1123 ⟨show cells + 0 ≤ 600000 by omega, show slots + 0 ≤ 7302250 by omega⟩) hS (fun q _ h => am_old hFIX hS q h) (am_old hFIX hS) (fun r2 u t H1 locs1 ht hvm hw hB hz1 hk1 hS1 => ?_)
    replace hB : MI dC dI cyI cyB cyJ cyZ cyH cyN cyM tg m0 m_isKept m_many m_width t.heap := hB
    rw [ht] at hB
    have hXE2 := hXE.go (fun q h1 h2 => hk1 q h1 (am_not h1 h2))
    have hRR2 : RR ke_1 fm_1 fl_1 fw_1 m_isKept m_many m_width := by
      rw [hrel.1, hrel.2.1, hrel.2.2.1, hrel.2.2.2]
      exact hRR
    refine lv_pop hx hb dL_law_1126 rfl ?_
    refine lv_goto (tgt := 1930) hx hb dL_law_1127 (by decide) ?_
    exact kk _ _ _ _ ⟨sl, ke_1, fm_1, fl_1, fw_1, m_isKept, m_many, m_width, hXE2, hB, hRR2, Nat.le_trans hSZ hz1, hsl, hce, hso⟩ hS1
  refine va_calli (va_runV (As := [.int v_1]) (rest := []) ⟨hx, hb, hml, hown, hts⟩ (wx_ask l dC dI cyI cyB cyJ cyZ cyH cyN cyM tR tF aK aV tg H.size x0 sl ke_f s_fm s_fl s_fw v_1) (cwV 1 hts (gdV wd_4_210 wd_4_211 wd_4_212 wd_1_1 wd_4_213) rfl rfl rfl (by decide +kernel) ⟨Nat.le_of_ble_eq_true rfl, Nat.le_of_ble_eq_true rfl⟩) (xp_pre hFIX hS hXE) rfl rfl hl.1 rfl (lv_room (Nat.le_of_ble_eq_true rfl)) dL_law_1113 ⟨show cells + 0 ≤ 600000 by omega, show slots + 0 ≤ 7302250 by omega⟩) hS (fun q _ h => ax_old hFIX hS q h) (ax_old hFIX hS) (fun r1 u t H1 locs1 ht hvm hw hB hz1 hk1 hS1 => ?_)
  replace hB : XE dC dI cyI cyB cyJ cyZ cyH cyN cyM tg x0 sl ke_f s_fm s_fl s_fw t.heap := hB
  rw [ht] at hB
  exact cont r1 H1 locs1 _ _ sl ke_f s_fm s_fl s_fw trivial ⟨rfl, rfl, rfl, rfl⟩ hB (hMI.go (fun q h1 h2 => hk1 q h1 (ax_not h1 h2))) (Nat.le_trans hSZ hz1) hsl (by omega) (by omega) hS1
set_option maxHeartbeats 4000000 in
set_option maxRecDepth 100000 in
theorem law_c36 {p : Program} {l : Launch} {e : Env} {s : State} {m : MethodId} {below : List Frame} {meth : Method} {c : Code} {b L : Nat} {xs : Nat → Int32} (hL : L ≤ 3072) (C0 : lw_At p s m meth c b L xs) {dC : Nat → ClassId} {dI : Nat → Nat → Nat} {cyI cyB cyJ cyZ cyH cyN cyM : ClassId} {tR tF : Nat} {aK aV : Nat → Nat} {tg : Nat → Nat} {SZ x0 m0 : Nat} (hFIX : FIX dC dI cyI cyB cyJ cyZ cyH cyN cyM tR tF aK aV tg SZ s) {i : Int32} (hi0 : 0 ≤ i.toInt) (hi : i.toInt + 6 ≤ (L : Int)) {ls : Array Slot} (hl : lv_has ls 4 [(3, .int i), (2, .ref m0), (1, .ref x0), (0, .ref b)]) (kk : ∀ (H : Heap) (locs : List Loc) (cells slots : Nat), INV dC dI cyI cyB cyJ cyZ cyH cyN cyM tg SZ x0 m0 H cells slots → va_S (fun q : Nat => s.heap.size ≤ q) s.heap H locs → W p l e room_1 s m #[Value.ref b] below meth c H locs cells slots (lw_Z below #[Value.ref b] s) (F0 m 1930 ls [])) {H : Heap} {locs : List Loc} {cells slots : Nat} (hI : INV dC dI cyI cyB cyJ cyZ cyH cyN cyM tg SZ x0 m0 H cells slots) (hS : va_S (fun q : Nat => s.heap.size ≤ q) s.heap H locs) : W p l e room_1 s m #[Value.ref b] below meth c H locs cells slots (lw_Z below #[Value.ref b] s) (F0 m 1130 ls []) := by
  obtain ⟨hx, hb, hr, hml, hown, hts0, hX, hbl, hlocks, hgv⟩ := id C0
  have hts : ∀ w ∈ uU, w.before #[Value.ref b] s = true := fun w h => hts0 w (uU_in h)
  have hbA : ¬ (fun q : Nat => s.heap.size ≤ q) b := Nat.not_le.mpr hbl
  refine lv_aload_n hx hb dL_law_1130 rfl (lv_at hl 2 rfl) ?_
  refine lv_aload_n hx hb dL_law_1131 rfl (lv_at hl 3 rfl) ?_
  refine lv_iload_n hx hb dL_law_1132 rfl (lv_at hl 0 rfl) ?_
  refine lv_iconst (v := 1) hx hb dL_law_1133 (by decide) ?_
  refine lv_iadd hx hb dL_law_1134 ?_
  refine va_sld hx hb hX hbl hbA hS (lw_ix hi0 hi hL (by decide)) dL_law_1135 ?_
  refine lv_topi (fun v_1 ev_1 => ?_)
  obtain ⟨sl, ke_f, s_fm, s_fl, s_fw, m_isKept, m_many, m_width, hXE, hMI, hRR, hSZ, hsl, hce, hso⟩ := hI
  have cont : ∀ (r : Int32) (H : Heap) (locs : List Loc) (cells slots sl : Nat) (ke_1 fm_1 fl_1 fw_1 : Nat → Int32), (True) → (ke_1 = ke_f ∧ fm_1 = s_fm ∧ fl_1 = s_fl ∧ fw_1 = s_fw) → XE dC dI cyI cyB cyJ cyZ cyH cyN cyM tg x0 sl ke_1 fm_1 fl_1 fw_1 H → MI dC dI cyI cyB cyJ cyZ cyH cyN cyM tg m0 m_isKept m_many m_width H → SZ ≤ H.size → (sl = 0 ∨ sl = 1) → cells ≤ 110 + 16 * sl → slots ≤ 15598 + 40501 * sl → va_S (fun q : Nat => s.heap.size ≤ q) s.heap H locs → W p l e room_1 s m #[Value.ref b] below meth c H locs cells slots (lw_Z below #[Value.ref b] s) (F0 m 1139 ls [.int r]) := by
    intro r H locs cells slots sl ke_1 fm_1 fl_1 fw_1 hw1 hrel hXE hMI hSZ hsl hce hso hS
    refine lv_pop hx hb dL_law_1139 rfl ?_
    refine lv_aload_n hx hb dL_law_1140 rfl (lv_at hl 1 rfl) ?_
    refine lv_aload_n hx hb dL_law_1141 rfl (lv_at hl 3 rfl) ?_
    refine lv_iload_n hx hb dL_law_1142 rfl (lv_at hl 0 rfl) ?_
    refine lv_iconst (v := 1) hx hb dL_law_1143 (by decide) ?_
    refine lv_iadd hx hb dL_law_1144 ?_
    refine va_sld hx hb hX hbl hbA hS (lw_ix hi0 hi hL (by decide)) dL_law_1145 ?_
    refine lv_topi (fun v_101 ev_101 => ?_)
    refine va_calli (va_runV (As := [.int v_101]) (rest := []) ⟨hx, hb, hml, hown, hts⟩ (wm_leaves l dC dI cyI cyB cyJ cyZ cyH cyN cyM tg H.size m0 m_isKept m_many m_width v_101) (cwV 1 hts (gdV wd_8_80 wd_8_81 wd_8_82 wd_1_11 wd_8_83) rfl rfl rfl (by decide +kernel) ⟨Nat.le_of_ble_eq_true rfl, Nat.le_of_ble_eq_true rfl⟩) (mp_pre hFIX hMI) rfl rfl hl.1 rfl (lv_room (Nat.le_of_ble_eq_true rfl)) dL_law_1146 ⟨show cells + 0 ≤ 600000 by omega, show slots + 0 ≤ 7302250 by omega⟩) hS (fun q _ h => am_old hFIX hS q h) (am_old hFIX hS) (fun r2 u t H1 locs1 ht hvm hw hB hz1 hk1 hS1 => ?_)
    replace hB : MI dC dI cyI cyB cyJ cyZ cyH cyN cyM tg m0 m_isKept m_many m_width t.heap := hB
    rw [ht] at hB
    have hXE2 := hXE.go (fun q h1 h2 => hk1 q h1 (am_not h1 h2))
    have hRR2 : RR ke_1 fm_1 fl_1 fw_1 m_isKept m_many m_width := by
      rw [hrel.1, hrel.2.1, hrel.2.2.1, hrel.2.2.2]
      exact hRR
    refine lv_pop hx hb dL_law_1149 rfl ?_
    refine lv_goto (tgt := 1930) hx hb dL_law_1150 (by decide) ?_
    exact kk _ _ _ _ ⟨sl, ke_1, fm_1, fl_1, fw_1, m_isKept, m_many, m_width, hXE2, hB, hRR2, Nat.le_trans hSZ hz1, hsl, hce, hso⟩ hS1
  refine va_calli (va_runV (As := [.int v_1]) (rest := []) ⟨hx, hb, hml, hown, hts⟩ (wx_leaves l dC dI cyI cyB cyJ cyZ cyH cyN cyM tR tF aK aV tg H.size x0 sl ke_f s_fm s_fl s_fw v_1) (cwV 1 hts (gdV wd_4_219 wd_4_220 wd_4_221 wd_1_1 wd_4_222) rfl rfl rfl (by decide +kernel) ⟨Nat.le_of_ble_eq_true rfl, Nat.le_of_ble_eq_true rfl⟩) (xp_pre hFIX hS hXE) rfl rfl hl.1 rfl (lv_room (Nat.le_of_ble_eq_true rfl)) dL_law_1136 ⟨show cells + 0 ≤ 600000 by omega, show slots + 0 ≤ 7302250 by omega⟩) hS (fun q _ h => ax_old hFIX hS q h) (ax_old hFIX hS) (fun r1 u t H1 locs1 ht hvm hw hB hz1 hk1 hS1 => ?_)
  replace hB : XE dC dI cyI cyB cyJ cyZ cyH cyN cyM tg x0 sl ke_f s_fm s_fl s_fw t.heap := hB
  rw [ht] at hB
  exact cont r1 H1 locs1 _ _ sl ke_f s_fm s_fl s_fw trivial ⟨rfl, rfl, rfl, rfl⟩ hB (hMI.go (fun q h1 h2 => hk1 q h1 (ax_not h1 h2))) (Nat.le_trans hSZ hz1) hsl (by omega) (by omega) hS1
set_option maxHeartbeats 4000000 in
set_option maxRecDepth 100000 in
theorem law_c37 {p : Program} {l : Launch} {e : Env} {s : State} {m : MethodId} {below : List Frame} {meth : Method} {c : Code} {b L : Nat} {xs : Nat → Int32} (hL : L ≤ 3072) (C0 : lw_At p s m meth c b L xs) {dC : Nat → ClassId} {dI : Nat → Nat → Nat} {cyI cyB cyJ cyZ cyH cyN cyM : ClassId} {tR tF : Nat} {aK aV : Nat → Nat} {tg : Nat → Nat} {SZ x0 m0 : Nat} (hFIX : FIX dC dI cyI cyB cyJ cyZ cyH cyN cyM tR tF aK aV tg SZ s) {i : Int32} (hi0 : 0 ≤ i.toInt) (hi : i.toInt + 6 ≤ (L : Int)) {ls : Array Slot} (hl : lv_has ls 4 [(3, .int i), (2, .ref m0), (1, .ref x0), (0, .ref b)]) (kk : ∀ (H : Heap) (locs : List Loc) (cells slots : Nat), INV dC dI cyI cyB cyJ cyZ cyH cyN cyM tg SZ x0 m0 H cells slots → va_S (fun q : Nat => s.heap.size ≤ q) s.heap H locs → W p l e room_1 s m #[Value.ref b] below meth c H locs cells slots (lw_Z below #[Value.ref b] s) (F0 m 1930 ls [])) {H : Heap} {locs : List Loc} {cells slots : Nat} (hI : INV dC dI cyI cyB cyJ cyZ cyH cyN cyM tg SZ x0 m0 H cells slots) (hS : va_S (fun q : Nat => s.heap.size ≤ q) s.heap H locs) : W p l e room_1 s m #[Value.ref b] below meth c H locs cells slots (lw_Z below #[Value.ref b] s) (F0 m 1153 ls []) := by
  obtain ⟨hx, hb, hr, hml, hown, hts0, hX, hbl, hlocks, hgv⟩ := id C0
  have hts : ∀ w ∈ uU, w.before #[Value.ref b] s = true := fun w h => hts0 w (uU_in h)
  have hbA : ¬ (fun q : Nat => s.heap.size ≤ q) b := Nat.not_le.mpr hbl
  refine lv_aload_n hx hb dL_law_1153 rfl (lv_at hl 2 rfl) ?_
  refine lv_aload_n hx hb dL_law_1154 rfl (lv_at hl 3 rfl) ?_
  refine lv_iload_n hx hb dL_law_1155 rfl (lv_at hl 0 rfl) ?_
  refine lv_iconst (v := 1) hx hb dL_law_1156 (by decide) ?_
  refine lv_iadd hx hb dL_law_1157 ?_
  refine va_sld hx hb hX hbl hbA hS (lw_ix hi0 hi hL (by decide)) dL_law_1158 ?_
  refine lv_topi (fun v_1 ev_1 => ?_)
  obtain ⟨sl, ke_f, s_fm, s_fl, s_fw, m_isKept, m_many, m_width, hXE, hMI, hRR, hSZ, hsl, hce, hso⟩ := hI
  have cont : ∀ (r : Int32) (H : Heap) (locs : List Loc) (cells slots sl : Nat) (ke_1 fm_1 fl_1 fw_1 : Nat → Int32), (True) → (ke_1 = ke_f ∧ fm_1 = s_fm ∧ fl_1 = s_fl ∧ fw_1 = s_fw) → XE dC dI cyI cyB cyJ cyZ cyH cyN cyM tg x0 sl ke_1 fm_1 fl_1 fw_1 H → MI dC dI cyI cyB cyJ cyZ cyH cyN cyM tg m0 m_isKept m_many m_width H → SZ ≤ H.size → (sl = 0 ∨ sl = 1) → cells ≤ 110 + 16 * sl → slots ≤ 15598 + 40501 * sl → va_S (fun q : Nat => s.heap.size ≤ q) s.heap H locs → W p l e room_1 s m #[Value.ref b] below meth c H locs cells slots (lw_Z below #[Value.ref b] s) (F0 m 1162 ls [.int r]) := by
    intro r H locs cells slots sl ke_1 fm_1 fl_1 fw_1 hw1 hrel hXE hMI hSZ hsl hce hso hS
    refine lv_pop hx hb dL_law_1162 rfl ?_
    refine lv_aload_n hx hb dL_law_1163 rfl (lv_at hl 1 rfl) ?_
    refine lv_aload_n hx hb dL_law_1164 rfl (lv_at hl 3 rfl) ?_
    refine lv_iload_n hx hb dL_law_1165 rfl (lv_at hl 0 rfl) ?_
    refine lv_iconst (v := 1) hx hb dL_law_1166 (by decide) ?_
    refine lv_iadd hx hb dL_law_1167 ?_
    refine va_sld hx hb hX hbl hbA hS (lw_ix hi0 hi hL (by decide)) dL_law_1168 ?_
    refine lv_topi (fun v_101 ev_101 => ?_)
    refine va_calli (va_runV (As := [.int v_101]) (rest := []) ⟨hx, hb, hml, hown, hts⟩ (wm_changed l dC dI cyI cyB cyJ cyZ cyH cyN cyM tg H.size m0 m_isKept m_many m_width v_101) (cwV 1 hts (gdV wd_8_84 wd_8_85 wd_8_86 wd_1_11 wd_8_87) rfl rfl rfl (by decide +kernel) ⟨Nat.le_of_ble_eq_true rfl, Nat.le_of_ble_eq_true rfl⟩) (mp_pre hFIX hMI) rfl rfl hl.1 rfl (lv_room (Nat.le_of_ble_eq_true rfl)) dL_law_1169 ⟨show cells + 0 ≤ 600000 by omega, show slots + 0 ≤ 7302250 by omega⟩) hS (fun q _ h => am_old hFIX hS q h) (am_old hFIX hS) (fun r2 u t H1 locs1 ht hvm hw hB hz1 hk1 hS1 => ?_)
    replace hB : MI dC dI cyI cyB cyJ cyZ cyH cyN cyM tg m0 m_isKept m_many m_width t.heap := hB
    rw [ht] at hB
    have hXE2 := hXE.go (fun q h1 h2 => hk1 q h1 (am_not h1 h2))
    have hRR2 : RR ke_1 fm_1 fl_1 fw_1 m_isKept m_many m_width := by
      rw [hrel.1, hrel.2.1, hrel.2.2.1, hrel.2.2.2]
      exact hRR
    refine lv_pop hx hb dL_law_1172 rfl ?_
    refine lv_goto (tgt := 1930) hx hb dL_law_1173 (by decide) ?_
    exact kk _ _ _ _ ⟨sl, ke_1, fm_1, fl_1, fw_1, m_isKept, m_many, m_width, hXE2, hB, hRR2, Nat.le_trans hSZ hz1, hsl, hce, hso⟩ hS1
  refine va_calli (va_runV (As := [.int v_1]) (rest := []) ⟨hx, hb, hml, hown, hts⟩ (wx_changed l dC dI cyI cyB cyJ cyZ cyH cyN cyM tR tF aK aV tg H.size x0 sl ke_f s_fm s_fl s_fw v_1) (cwV 1 hts (gdV wd_4_228 wd_4_229 wd_4_230 wd_1_1 wd_4_231) rfl rfl rfl (by decide +kernel) ⟨Nat.le_of_ble_eq_true rfl, Nat.le_of_ble_eq_true rfl⟩) (xp_pre hFIX hS hXE) rfl rfl hl.1 rfl (lv_room (Nat.le_of_ble_eq_true rfl)) dL_law_1159 ⟨show cells + 0 ≤ 600000 by omega, show slots + 0 ≤ 7302250 by omega⟩) hS (fun q _ h => ax_old hFIX hS q h) (ax_old hFIX hS) (fun r1 u t H1 locs1 ht hvm hw hB hz1 hk1 hS1 => ?_)
  replace hB : XE dC dI cyI cyB cyJ cyZ cyH cyN cyM tg x0 sl ke_f s_fm s_fl s_fw t.heap := hB
  rw [ht] at hB
  exact cont r1 H1 locs1 _ _ sl ke_f s_fm s_fl s_fw trivial ⟨rfl, rfl, rfl, rfl⟩ hB (hMI.go (fun q h1 h2 => hk1 q h1 (ax_not h1 h2))) (Nat.le_trans hSZ hz1) hsl (by omega) (by omega) hS1
set_option maxHeartbeats 4000000 in
set_option maxRecDepth 100000 in
theorem law_c38 {p : Program} {l : Launch} {e : Env} {s : State} {m : MethodId} {below : List Frame} {meth : Method} {c : Code} {b L : Nat} {xs : Nat → Int32} (hL : L ≤ 3072) (C0 : lw_At p s m meth c b L xs) {dC : Nat → ClassId} {dI : Nat → Nat → Nat} {cyI cyB cyJ cyZ cyH cyN cyM : ClassId} {tR tF : Nat} {aK aV : Nat → Nat} {tg : Nat → Nat} {SZ x0 m0 : Nat} (hFIX : FIX dC dI cyI cyB cyJ cyZ cyH cyN cyM tR tF aK aV tg SZ s) {i : Int32} (hi0 : 0 ≤ i.toInt) (hi : i.toInt + 6 ≤ (L : Int)) {ls : Array Slot} (hl : lv_has ls 4 [(3, .int i), (2, .ref m0), (1, .ref x0), (0, .ref b)]) (kk : ∀ (H : Heap) (locs : List Loc) (cells slots : Nat), INV dC dI cyI cyB cyJ cyZ cyH cyN cyM tg SZ x0 m0 H cells slots → va_S (fun q : Nat => s.heap.size ≤ q) s.heap H locs → W p l e room_1 s m #[Value.ref b] below meth c H locs cells slots (lw_Z below #[Value.ref b] s) (F0 m 1930 ls [])) {H : Heap} {locs : List Loc} {cells slots : Nat} (hI : INV dC dI cyI cyB cyJ cyZ cyH cyN cyM tg SZ x0 m0 H cells slots) (hS : va_S (fun q : Nat => s.heap.size ≤ q) s.heap H locs) : W p l e room_1 s m #[Value.ref b] below meth c H locs cells slots (lw_Z below #[Value.ref b] s) (F0 m 1176 ls []) := by
  obtain ⟨hx, hb, hr, hml, hown, hts0, hX, hbl, hlocks, hgv⟩ := id C0
  have hts : ∀ w ∈ uU, w.before #[Value.ref b] s = true := fun w h => hts0 w (uU_in h)
  have hbA : ¬ (fun q : Nat => s.heap.size ≤ q) b := Nat.not_le.mpr hbl
  refine lv_aload_n hx hb dL_law_1176 rfl (lv_at hl 2 rfl) ?_
  refine lv_aload_n hx hb dL_law_1177 rfl (lv_at hl 3 rfl) ?_
  refine lv_iload_n hx hb dL_law_1178 rfl (lv_at hl 0 rfl) ?_
  refine lv_iconst (v := 1) hx hb dL_law_1179 (by decide) ?_
  refine lv_iadd hx hb dL_law_1180 ?_
  refine va_sld hx hb hX hbl hbA hS (lw_ix hi0 hi hL (by decide)) dL_law_1181 ?_
  refine lv_topi (fun v_1 ev_1 => ?_)
  obtain ⟨sl, ke_f, s_fm, s_fl, s_fw, m_isKept, m_many, m_width, hXE, hMI, hRR, hSZ, hsl, hce, hso⟩ := hI
  have cont : ∀ (r : Int32) (H : Heap) (locs : List Loc) (cells slots sl : Nat) (ke_1 fm_1 fl_1 fw_1 : Nat → Int32), (True) → (ke_1 = ke_f ∧ fm_1 = s_fm ∧ fl_1 = s_fl ∧ fw_1 = s_fw) → XE dC dI cyI cyB cyJ cyZ cyH cyN cyM tg x0 sl ke_1 fm_1 fl_1 fw_1 H → MI dC dI cyI cyB cyJ cyZ cyH cyN cyM tg m0 m_isKept m_many m_width H → SZ ≤ H.size → (sl = 0 ∨ sl = 1) → cells ≤ 110 + 16 * sl → slots ≤ 15598 + 40501 * sl → va_S (fun q : Nat => s.heap.size ≤ q) s.heap H locs → W p l e room_1 s m #[Value.ref b] below meth c H locs cells slots (lw_Z below #[Value.ref b] s) (F0 m 1185 ls [.int r]) := by
    intro r H locs cells slots sl ke_1 fm_1 fl_1 fw_1 hw1 hrel hXE hMI hSZ hsl hce hso hS
    refine lv_pop hx hb dL_law_1185 rfl ?_
    refine lv_aload_n hx hb dL_law_1186 rfl (lv_at hl 1 rfl) ?_
    refine lv_aload_n hx hb dL_law_1187 rfl (lv_at hl 3 rfl) ?_
    refine lv_iload_n hx hb dL_law_1188 rfl (lv_at hl 0 rfl) ?_
    refine lv_iconst (v := 1) hx hb dL_law_1189 (by decide) ?_
    refine lv_iadd hx hb dL_law_1190 ?_
    refine va_sld hx hb hX hbl hbA hS (lw_ix hi0 hi hL (by decide)) dL_law_1191 ?_
    refine lv_topi (fun v_101 ev_101 => ?_)
    refine va_calli (va_runV (As := [.int v_101]) (rest := []) ⟨hx, hb, hml, hown, hts⟩ (wm_same l dC dI cyI cyB cyJ cyZ cyH cyN cyM tg H.size m0 m_isKept m_many m_width v_101) (cwV 1 hts (gdV wd_8_92 wd_8_93 wd_8_94 wd_1_11 wd_8_95) rfl rfl rfl (by decide +kernel) ⟨Nat.le_of_ble_eq_true rfl, Nat.le_of_ble_eq_true rfl⟩) (mp_pre hFIX hMI) rfl rfl hl.1 rfl (lv_room (Nat.le_of_ble_eq_true rfl)) dL_law_1192 ⟨show cells + 0 ≤ 600000 by omega, show slots + 0 ≤ 7302250 by omega⟩) hS (fun q _ h => am_old hFIX hS q h) (am_old hFIX hS) (fun r2 u t H1 locs1 ht hvm hw hB hz1 hk1 hS1 => ?_)
    replace hB : MI dC dI cyI cyB cyJ cyZ cyH cyN cyM tg m0 m_isKept m_many m_width t.heap := hB
    rw [ht] at hB
    have hXE2 := hXE.go (fun q h1 h2 => hk1 q h1 (am_not h1 h2))
    have hRR2 : RR ke_1 fm_1 fl_1 fw_1 m_isKept m_many m_width := by
      rw [hrel.1, hrel.2.1, hrel.2.2.1, hrel.2.2.2]
      exact hRR
    refine lv_pop hx hb dL_law_1195 rfl ?_
    refine lv_goto (tgt := 1930) hx hb dL_law_1196 (by decide) ?_
    exact kk _ _ _ _ ⟨sl, ke_1, fm_1, fl_1, fw_1, m_isKept, m_many, m_width, hXE2, hB, hRR2, Nat.le_trans hSZ hz1, hsl, hce, hso⟩ hS1
  refine va_calli (va_runV (As := [.int v_1]) (rest := []) ⟨hx, hb, hml, hown, hts⟩ (wx_same l dC dI cyI cyB cyJ cyZ cyH cyN cyM tR tF aK aV tg H.size x0 sl ke_f s_fm s_fl s_fw v_1) (cwV 1 hts (gdV wd_4_232 wd_4_233 wd_4_234 wd_1_1 wd_4_235) rfl rfl rfl (by decide +kernel) ⟨Nat.le_of_ble_eq_true rfl, Nat.le_of_ble_eq_true rfl⟩) (xp_pre hFIX hS hXE) rfl rfl hl.1 rfl (lv_room (Nat.le_of_ble_eq_true rfl)) dL_law_1182 ⟨show cells + 0 ≤ 600000 by omega, show slots + 0 ≤ 7302250 by omega⟩) hS (fun q _ h => ax_old hFIX hS q h) (ax_old hFIX hS) (fun r1 u t H1 locs1 ht hvm hw hB hz1 hk1 hS1 => ?_)
  replace hB : XE dC dI cyI cyB cyJ cyZ cyH cyN cyM tg x0 sl ke_f s_fm s_fl s_fw t.heap := hB
  rw [ht] at hB
  exact cont r1 H1 locs1 _ _ sl ke_f s_fm s_fl s_fw trivial ⟨rfl, rfl, rfl, rfl⟩ hB (hMI.go (fun q h1 h2 => hk1 q h1 (ax_not h1 h2))) (Nat.le_trans hSZ hz1) hsl (by omega) (by omega) hS1
set_option maxHeartbeats 4000000 in
set_option maxRecDepth 100000 in
theorem law_c39 {p : Program} {l : Launch} {e : Env} {s : State} {m : MethodId} {below : List Frame} {meth : Method} {c : Code} {b L : Nat} {xs : Nat → Int32} (hL : L ≤ 3072) (C0 : lw_At p s m meth c b L xs) {dC : Nat → ClassId} {dI : Nat → Nat → Nat} {cyI cyB cyJ cyZ cyH cyN cyM : ClassId} {tR tF : Nat} {aK aV : Nat → Nat} {tg : Nat → Nat} {SZ x0 m0 : Nat} (hFIX : FIX dC dI cyI cyB cyJ cyZ cyH cyN cyM tR tF aK aV tg SZ s) {i : Int32} (hi0 : 0 ≤ i.toInt) (hi : i.toInt + 6 ≤ (L : Int)) {ls : Array Slot} (hl : lv_has ls 4 [(3, .int i), (2, .ref m0), (1, .ref x0), (0, .ref b)]) (kk : ∀ (H : Heap) (locs : List Loc) (cells slots : Nat), INV dC dI cyI cyB cyJ cyZ cyH cyN cyM tg SZ x0 m0 H cells slots → va_S (fun q : Nat => s.heap.size ≤ q) s.heap H locs → W p l e room_1 s m #[Value.ref b] below meth c H locs cells slots (lw_Z below #[Value.ref b] s) (F0 m 1930 ls [])) {H : Heap} {locs : List Loc} {cells slots : Nat} (hI : INV dC dI cyI cyB cyJ cyZ cyH cyN cyM tg SZ x0 m0 H cells slots) (hS : va_S (fun q : Nat => s.heap.size ≤ q) s.heap H locs) : W p l e room_1 s m #[Value.ref b] below meth c H locs cells slots (lw_Z below #[Value.ref b] s) (F0 m 1199 ls []) := by
  obtain ⟨hx, hb, hr, hml, hown, hts0, hX, hbl, hlocks, hgv⟩ := id C0
  have hts : ∀ w ∈ uU, w.before #[Value.ref b] s = true := fun w h => hts0 w (uU_in h)
  have hbA : ¬ (fun q : Nat => s.heap.size ≤ q) b := Nat.not_le.mpr hbl
  refine lv_aload_n hx hb dL_law_1199 rfl (lv_at hl 2 rfl) ?_
  refine lv_aload_n hx hb dL_law_1200 rfl (lv_at hl 3 rfl) ?_
  refine lv_iload_n hx hb dL_law_1201 rfl (lv_at hl 0 rfl) ?_
  refine lv_iconst (v := 1) hx hb dL_law_1202 (by decide) ?_
  refine lv_iadd hx hb dL_law_1203 ?_
  refine va_sld hx hb hX hbl hbA hS (lw_ix hi0 hi hL (by decide)) dL_law_1204 ?_
  refine lv_topi (fun v_1 ev_1 => ?_)
  obtain ⟨sl, ke_f, s_fm, s_fl, s_fw, m_isKept, m_many, m_width, hXE, hMI, hRR, hSZ, hsl, hce, hso⟩ := hI
  have cont : ∀ (r : Int32) (H : Heap) (locs : List Loc) (cells slots sl : Nat) (ke_1 fm_1 fl_1 fw_1 : Nat → Int32), (True) → (ke_1 = ke_f ∧ fm_1 = s_fm ∧ fl_1 = s_fl ∧ fw_1 = s_fw) → XE dC dI cyI cyB cyJ cyZ cyH cyN cyM tg x0 sl ke_1 fm_1 fl_1 fw_1 H → MI dC dI cyI cyB cyJ cyZ cyH cyN cyM tg m0 m_isKept m_many m_width H → SZ ≤ H.size → (sl = 0 ∨ sl = 1) → cells ≤ 110 + 16 * sl → slots ≤ 15598 + 40501 * sl → va_S (fun q : Nat => s.heap.size ≤ q) s.heap H locs → W p l e room_1 s m #[Value.ref b] below meth c H locs cells slots (lw_Z below #[Value.ref b] s) (F0 m 1208 ls [.int r]) := by
    intro r H locs cells slots sl ke_1 fm_1 fl_1 fw_1 hw1 hrel hXE hMI hSZ hsl hce hso hS
    refine lv_pop hx hb dL_law_1208 rfl ?_
    refine lv_aload_n hx hb dL_law_1209 rfl (lv_at hl 1 rfl) ?_
    refine lv_aload_n hx hb dL_law_1210 rfl (lv_at hl 3 rfl) ?_
    refine lv_iload_n hx hb dL_law_1211 rfl (lv_at hl 0 rfl) ?_
    refine lv_iconst (v := 1) hx hb dL_law_1212 (by decide) ?_
    refine lv_iadd hx hb dL_law_1213 ?_
    refine va_sld hx hb hX hbl hbA hS (lw_ix hi0 hi hL (by decide)) dL_law_1214 ?_
    refine lv_topi (fun v_101 ev_101 => ?_)
    refine va_calli (va_runV (As := [.int v_101]) (rest := []) ⟨hx, hb, hml, hown, hts⟩ (wm_skipped l dC dI cyI cyB cyJ cyZ cyH cyN cyM tg H.size m0 m_isKept m_many m_width v_101) (cwV 1 hts (gdV wd_8_96 wd_8_97 wd_8_98 wd_1_11 wd_8_99) rfl rfl rfl (by decide +kernel) ⟨Nat.le_of_ble_eq_true rfl, Nat.le_of_ble_eq_true rfl⟩) (mp_pre hFIX hMI) rfl rfl hl.1 rfl (lv_room (Nat.le_of_ble_eq_true rfl)) dL_law_1215 ⟨show cells + 0 ≤ 600000 by omega, show slots + 0 ≤ 7302250 by omega⟩) hS (fun q _ h => am_old hFIX hS q h) (am_old hFIX hS) (fun r2 u t H1 locs1 ht hvm hw hB hz1 hk1 hS1 => ?_)
    replace hB : MI dC dI cyI cyB cyJ cyZ cyH cyN cyM tg m0 m_isKept m_many m_width t.heap := hB
    rw [ht] at hB
    have hXE2 := hXE.go (fun q h1 h2 => hk1 q h1 (am_not h1 h2))
    have hRR2 : RR ke_1 fm_1 fl_1 fw_1 m_isKept m_many m_width := by
      rw [hrel.1, hrel.2.1, hrel.2.2.1, hrel.2.2.2]
      exact hRR
    refine lv_pop hx hb dL_law_1218 rfl ?_
    refine lv_goto (tgt := 1930) hx hb dL_law_1219 (by decide) ?_
    exact kk _ _ _ _ ⟨sl, ke_1, fm_1, fl_1, fw_1, m_isKept, m_many, m_width, hXE2, hB, hRR2, Nat.le_trans hSZ hz1, hsl, hce, hso⟩ hS1
  refine va_calli (va_runV (As := [.int v_1]) (rest := []) ⟨hx, hb, hml, hown, hts⟩ (wx_skipped l dC dI cyI cyB cyJ cyZ cyH cyN cyM tR tF aK aV tg H.size x0 sl ke_f s_fm s_fl s_fw v_1) (cwV 1 hts (gdV wd_4_236 wd_4_237 wd_4_238 wd_1_1 wd_4_239) rfl rfl rfl (by decide +kernel) ⟨Nat.le_of_ble_eq_true rfl, Nat.le_of_ble_eq_true rfl⟩) (xp_pre hFIX hS hXE) rfl rfl hl.1 rfl (lv_room (Nat.le_of_ble_eq_true rfl)) dL_law_1205 ⟨show cells + 0 ≤ 600000 by omega, show slots + 0 ≤ 7302250 by omega⟩) hS (fun q _ h => ax_old hFIX hS q h) (ax_old hFIX hS) (fun r1 u t H1 locs1 ht hvm hw hB hz1 hk1 hS1 => ?_)
  replace hB : XE dC dI cyI cyB cyJ cyZ cyH cyN cyM tg x0 sl ke_f s_fm s_fl s_fw t.heap := hB
  rw [ht] at hB
  exact cont r1 H1 locs1 _ _ sl ke_f s_fm s_fl s_fw trivial ⟨rfl, rfl, rfl, rfl⟩ hB (hMI.go (fun q h1 h2 => hk1 q h1 (ax_not h1 h2))) (Nat.le_trans hSZ hz1) hsl (by omega) (by omega) hS1
set_option maxHeartbeats 4000000 in
set_option maxRecDepth 100000 in
theorem law_c40 {p : Program} {l : Launch} {e : Env} {s : State} {m : MethodId} {below : List Frame} {meth : Method} {c : Code} {b L : Nat} {xs : Nat → Int32} (hL : L ≤ 3072) (C0 : lw_At p s m meth c b L xs) {dC : Nat → ClassId} {dI : Nat → Nat → Nat} {cyI cyB cyJ cyZ cyH cyN cyM : ClassId} {tR tF : Nat} {aK aV : Nat → Nat} {tg : Nat → Nat} {SZ x0 m0 : Nat} (hFIX : FIX dC dI cyI cyB cyJ cyZ cyH cyN cyM tR tF aK aV tg SZ s) {i : Int32} (hi0 : 0 ≤ i.toInt) (hi : i.toInt + 6 ≤ (L : Int)) {ls : Array Slot} (hl : lv_has ls 4 [(3, .int i), (2, .ref m0), (1, .ref x0), (0, .ref b)]) (kk : ∀ (H : Heap) (locs : List Loc) (cells slots : Nat), INV dC dI cyI cyB cyJ cyZ cyH cyN cyM tg SZ x0 m0 H cells slots → va_S (fun q : Nat => s.heap.size ≤ q) s.heap H locs → W p l e room_1 s m #[Value.ref b] below meth c H locs cells slots (lw_Z below #[Value.ref b] s) (F0 m 1930 ls [])) {H : Heap} {locs : List Loc} {cells slots : Nat} (hI : INV dC dI cyI cyB cyJ cyZ cyH cyN cyM tg SZ x0 m0 H cells slots) (hS : va_S (fun q : Nat => s.heap.size ≤ q) s.heap H locs) : W p l e room_1 s m #[Value.ref b] below meth c H locs cells slots (lw_Z below #[Value.ref b] s) (F0 m 1222 ls []) := by
  obtain ⟨hx, hb, hr, hml, hown, hts0, hX, hbl, hlocks, hgv⟩ := id C0
  have hts : ∀ w ∈ uU, w.before #[Value.ref b] s = true := fun w h => hts0 w (uU_in h)
  have hbA : ¬ (fun q : Nat => s.heap.size ≤ q) b := Nat.not_le.mpr hbl
  refine lv_aload_n hx hb dL_law_1222 rfl (lv_at hl 2 rfl) ?_
  obtain ⟨sl, ke_f, s_fm, s_fl, s_fw, m_isKept, m_many, m_width, hXE, hMI, hRR, hSZ, hsl, hce, hso⟩ := hI
  have cont : ∀ (r : Int32) (H : Heap) (locs : List Loc) (cells slots sl : Nat) (ke_1 fm_1 fl_1 fw_1 : Nat → Int32), (True) → (ke_1 = ke_f ∧ fm_1 = s_fm ∧ fl_1 = s_fl ∧ fw_1 = s_fw) → XE dC dI cyI cyB cyJ cyZ cyH cyN cyM tg x0 sl ke_1 fm_1 fl_1 fw_1 H → MI dC dI cyI cyB cyJ cyZ cyH cyN cyM tg m0 m_isKept m_many m_width H → SZ ≤ H.size → (sl = 0 ∨ sl = 1) → cells ≤ 110 + 16 * sl → slots ≤ 15598 + 40501 * sl → va_S (fun q : Nat => s.heap.size ≤ q) s.heap H locs → W p l e room_1 s m #[Value.ref b] below meth c H locs cells slots (lw_Z below #[Value.ref b] s) (F0 m 1226 ls [.int r]) := by
    intro r H locs cells slots sl ke_1 fm_1 fl_1 fw_1 hw1 hrel hXE hMI hSZ hsl hce hso hS
    refine lv_pop hx hb dL_law_1226 rfl ?_
    refine lv_aload_n hx hb dL_law_1227 rfl (lv_at hl 1 rfl) ?_
    refine va_calli (va_runV (As := []) (rest := []) ⟨hx, hb, hml, hown, hts⟩ (wm_hangs l dC dI cyI cyB cyJ cyZ cyH cyN cyM tg H.size m0 m_isKept m_many m_width ) (cwV 0 hts (gdV wd_8_100 wd_8_101 wd_8_102 wd_1_11 wd_8_103) rfl rfl rfl (by decide +kernel) ⟨Nat.le_of_ble_eq_true rfl, Nat.le_of_ble_eq_true rfl⟩) (mp_pre hFIX hMI) rfl rfl hl.1 rfl (lv_room (Nat.le_of_ble_eq_true rfl)) dL_law_1228 ⟨show cells + 0 ≤ 600000 by omega, show slots + 0 ≤ 7302250 by omega⟩) hS (fun q _ h => am_old hFIX hS q h) (am_old hFIX hS) (fun r2 u t H1 locs1 ht hvm hw hB hz1 hk1 hS1 => ?_)
    replace hB : MI dC dI cyI cyB cyJ cyZ cyH cyN cyM tg m0 m_isKept m_many m_width t.heap := hB
    rw [ht] at hB
    have hXE2 := hXE.go (fun q h1 h2 => hk1 q h1 (am_not h1 h2))
    have hRR2 : RR ke_1 fm_1 fl_1 fw_1 m_isKept m_many m_width := by
      rw [hrel.1, hrel.2.1, hrel.2.2.1, hrel.2.2.2]
      exact hRR
    refine lv_pop hx hb dL_law_1231 rfl ?_
    refine lv_goto (tgt := 1930) hx hb dL_law_1232 (by decide) ?_
    exact kk _ _ _ _ ⟨sl, ke_1, fm_1, fl_1, fw_1, m_isKept, m_many, m_width, hXE2, hB, hRR2, Nat.le_trans hSZ hz1, hsl, hce, hso⟩ hS1
  refine va_calli (va_runV (As := []) (rest := []) ⟨hx, hb, hml, hown, hts⟩ (wx_hangs l dC dI cyI cyB cyJ cyZ cyH cyN cyM tR tF aK aV tg H.size x0 sl ke_f s_fm s_fl s_fw ) (cwV 0 hts (gdV wd_5_6 wd_5_7 wd_5_8 wd_1_1 wd_5_9) rfl rfl rfl (by decide +kernel) ⟨Nat.le_of_ble_eq_true rfl, Nat.le_of_ble_eq_true rfl⟩) (xp_pre hFIX hS hXE) rfl rfl hl.1 rfl (lv_room (Nat.le_of_ble_eq_true rfl)) dL_law_1223 ⟨show cells + 0 ≤ 600000 by omega, show slots + 0 ≤ 7302250 by omega⟩) hS (fun q _ h => ax_old hFIX hS q h) (ax_old hFIX hS) (fun r1 u t H1 locs1 ht hvm hw hB hz1 hk1 hS1 => ?_)
  replace hB : XE dC dI cyI cyB cyJ cyZ cyH cyN cyM tg x0 sl ke_f s_fm s_fl s_fw t.heap := hB
  rw [ht] at hB
  exact cont r1 H1 locs1 _ _ sl ke_f s_fm s_fl s_fw trivial ⟨rfl, rfl, rfl, rfl⟩ hB (hMI.go (fun q h1 h2 => hk1 q h1 (ax_not h1 h2))) (Nat.le_trans hSZ hz1) hsl (by omega) (by omega) hS1
set_option maxHeartbeats 4000000 in
set_option maxRecDepth 100000 in
theorem law_c41 {p : Program} {l : Launch} {e : Env} {s : State} {m : MethodId} {below : List Frame} {meth : Method} {c : Code} {b L : Nat} {xs : Nat → Int32} (hL : L ≤ 3072) (C0 : lw_At p s m meth c b L xs) {dC : Nat → ClassId} {dI : Nat → Nat → Nat} {cyI cyB cyJ cyZ cyH cyN cyM : ClassId} {tR tF : Nat} {aK aV : Nat → Nat} {tg : Nat → Nat} {SZ x0 m0 : Nat} (hFIX : FIX dC dI cyI cyB cyJ cyZ cyH cyN cyM tR tF aK aV tg SZ s) {i : Int32} (hi0 : 0 ≤ i.toInt) (hi : i.toInt + 6 ≤ (L : Int)) {ls : Array Slot} (hl : lv_has ls 4 [(3, .int i), (2, .ref m0), (1, .ref x0), (0, .ref b)]) (kk : ∀ (H : Heap) (locs : List Loc) (cells slots : Nat), INV dC dI cyI cyB cyJ cyZ cyH cyN cyM tg SZ x0 m0 H cells slots → va_S (fun q : Nat => s.heap.size ≤ q) s.heap H locs → W p l e room_1 s m #[Value.ref b] below meth c H locs cells slots (lw_Z below #[Value.ref b] s) (F0 m 1930 ls [])) {H : Heap} {locs : List Loc} {cells slots : Nat} (hI : INV dC dI cyI cyB cyJ cyZ cyH cyN cyM tg SZ x0 m0 H cells slots) (hS : va_S (fun q : Nat => s.heap.size ≤ q) s.heap H locs) : W p l e room_1 s m #[Value.ref b] below meth c H locs cells slots (lw_Z below #[Value.ref b] s) (F0 m 1235 ls []) := by
  obtain ⟨hx, hb, hr, hml, hown, hts0, hX, hbl, hlocks, hgv⟩ := id C0
  have hts : ∀ w ∈ uU, w.before #[Value.ref b] s = true := fun w h => hts0 w (uU_in h)
  have hbA : ¬ (fun q : Nat => s.heap.size ≤ q) b := Nat.not_le.mpr hbl
  refine lv_aload_n hx hb dL_law_1235 rfl (lv_at hl 2 rfl) ?_
  refine lv_aload_n hx hb dL_law_1236 rfl (lv_at hl 3 rfl) ?_
  refine lv_iload_n hx hb dL_law_1237 rfl (lv_at hl 0 rfl) ?_
  refine lv_iconst (v := 1) hx hb dL_law_1238 (by decide) ?_
  refine lv_iadd hx hb dL_law_1239 ?_
  refine va_sld hx hb hX hbl hbA hS (lw_ix hi0 hi hL (by decide)) dL_law_1240 ?_
  refine lv_topi (fun v_1 ev_1 => ?_)
  obtain ⟨sl, ke_f, s_fm, s_fl, s_fw, m_isKept, m_many, m_width, hXE, hMI, hRR, hSZ, hsl, hce, hso⟩ := hI
  have cont : ∀ (r : Int32) (H : Heap) (locs : List Loc) (cells slots sl : Nat) (ke_1 fm_1 fl_1 fw_1 : Nat → Int32), (True) → (ke_1 = ke_f ∧ fm_1 = s_fm ∧ fl_1 = s_fl ∧ fw_1 = s_fw) → XE dC dI cyI cyB cyJ cyZ cyH cyN cyM tg x0 sl ke_1 fm_1 fl_1 fw_1 H → MI dC dI cyI cyB cyJ cyZ cyH cyN cyM tg m0 m_isKept m_many m_width H → SZ ≤ H.size → (sl = 0 ∨ sl = 1) → cells ≤ 110 + 16 * sl → slots ≤ 15598 + 40501 * sl → va_S (fun q : Nat => s.heap.size ≤ q) s.heap H locs → W p l e room_1 s m #[Value.ref b] below meth c H locs cells slots (lw_Z below #[Value.ref b] s) (F0 m 1244 ls [.int r]) := by
    intro r H locs cells slots sl ke_1 fm_1 fl_1 fw_1 hw1 hrel hXE hMI hSZ hsl hce hso hS
    refine lv_pop hx hb dL_law_1244 rfl ?_
    refine lv_aload_n hx hb dL_law_1245 rfl (lv_at hl 1 rfl) ?_
    refine lv_aload_n hx hb dL_law_1246 rfl (lv_at hl 3 rfl) ?_
    refine lv_iload_n hx hb dL_law_1247 rfl (lv_at hl 0 rfl) ?_
    refine lv_iconst (v := 1) hx hb dL_law_1248 (by decide) ?_
    refine lv_iadd hx hb dL_law_1249 ?_
    refine va_sld hx hb hX hbl hbA hS (lw_ix hi0 hi hL (by decide)) dL_law_1250 ?_
    refine lv_topi (fun v_101 ev_101 => ?_)
    refine va_calli (va_runV (As := [.int v_101]) (rest := []) ⟨hx, hb, hml, hown, hts⟩ (wm_hang l dC dI cyI cyB cyJ cyZ cyH cyN cyM tg H.size m0 m_isKept m_many m_width v_101) (cwV 1 hts (gdV wd_8_108 wd_8_109 wd_8_110 wd_1_11 wd_8_111) rfl rfl rfl (by decide +kernel) ⟨Nat.le_of_ble_eq_true rfl, Nat.le_of_ble_eq_true rfl⟩) (mp_pre hFIX hMI) rfl rfl hl.1 rfl (lv_room (Nat.le_of_ble_eq_true rfl)) dL_law_1251 ⟨show cells + 0 ≤ 600000 by omega, show slots + 0 ≤ 7302250 by omega⟩) hS (fun q _ h => am_old hFIX hS q h) (am_old hFIX hS) (fun r2 u t H1 locs1 ht hvm hw hB hz1 hk1 hS1 => ?_)
    replace hB : MI dC dI cyI cyB cyJ cyZ cyH cyN cyM tg m0 m_isKept m_many m_width t.heap := hB
    rw [ht] at hB
    have hXE2 := hXE.go (fun q h1 h2 => hk1 q h1 (am_not h1 h2))
    have hRR2 : RR ke_1 fm_1 fl_1 fw_1 m_isKept m_many m_width := by
      rw [hrel.1, hrel.2.1, hrel.2.2.1, hrel.2.2.2]
      exact hRR
    refine lv_pop hx hb dL_law_1254 rfl ?_
    refine lv_goto (tgt := 1930) hx hb dL_law_1255 (by decide) ?_
    exact kk _ _ _ _ ⟨sl, ke_1, fm_1, fl_1, fw_1, m_isKept, m_many, m_width, hXE2, hB, hRR2, Nat.le_trans hSZ hz1, hsl, hce, hso⟩ hS1
  refine va_calli (va_runV (As := [.int v_1]) (rest := []) ⟨hx, hb, hml, hown, hts⟩ (wx_hang l dC dI cyI cyB cyJ cyZ cyH cyN cyM tR tF aK aV tg H.size x0 sl ke_f s_fm s_fl s_fw v_1) (cwV 1 hts (gdV wd_5_22 wd_5_23 wd_5_24 wd_1_1 wd_5_25) rfl rfl rfl (by decide +kernel) ⟨Nat.le_of_ble_eq_true rfl, Nat.le_of_ble_eq_true rfl⟩) (xp_pre hFIX hS hXE) rfl rfl hl.1 rfl (lv_room (Nat.le_of_ble_eq_true rfl)) dL_law_1241 ⟨show cells + 0 ≤ 600000 by omega, show slots + 0 ≤ 7302250 by omega⟩) hS (fun q _ h => ax_old hFIX hS q h) (ax_old hFIX hS) (fun r1 u t H1 locs1 ht hvm hw hB hz1 hk1 hS1 => ?_)
  replace hB : XE dC dI cyI cyB cyJ cyZ cyH cyN cyM tg x0 sl ke_f s_fm s_fl s_fw t.heap := hB
  rw [ht] at hB
  exact cont r1 H1 locs1 _ _ sl ke_f s_fm s_fl s_fw trivial ⟨rfl, rfl, rfl, rfl⟩ hB (hMI.go (fun q h1 h2 => hk1 q h1 (ax_not h1 h2))) (Nat.le_trans hSZ hz1) hsl (by omega) (by omega) hS1
set_option maxHeartbeats 4000000 in
set_option maxRecDepth 100000 in
theorem law_c42 {p : Program} {l : Launch} {e : Env} {s : State} {m : MethodId} {below : List Frame} {meth : Method} {c : Code} {b L : Nat} {xs : Nat → Int32} (hL : L ≤ 3072) (C0 : lw_At p s m meth c b L xs) {dC : Nat → ClassId} {dI : Nat → Nat → Nat} {cyI cyB cyJ cyZ cyH cyN cyM : ClassId} {tR tF : Nat} {aK aV : Nat → Nat} {tg : Nat → Nat} {SZ x0 m0 : Nat} (hFIX : FIX dC dI cyI cyB cyJ cyZ cyH cyN cyM tR tF aK aV tg SZ s) {i : Int32} (hi0 : 0 ≤ i.toInt) (hi : i.toInt + 6 ≤ (L : Int)) {ls : Array Slot} (hl : lv_has ls 4 [(3, .int i), (2, .ref m0), (1, .ref x0), (0, .ref b)]) (kk : ∀ (H : Heap) (locs : List Loc) (cells slots : Nat), INV dC dI cyI cyB cyJ cyZ cyH cyN cyM tg SZ x0 m0 H cells slots → va_S (fun q : Nat => s.heap.size ≤ q) s.heap H locs → W p l e room_1 s m #[Value.ref b] below meth c H locs cells slots (lw_Z below #[Value.ref b] s) (F0 m 1930 ls [])) {H : Heap} {locs : List Loc} {cells slots : Nat} (hI : INV dC dI cyI cyB cyJ cyZ cyH cyN cyM tg SZ x0 m0 H cells slots) (hS : va_S (fun q : Nat => s.heap.size ≤ q) s.heap H locs) : W p l e room_1 s m #[Value.ref b] below meth c H locs cells slots (lw_Z below #[Value.ref b] s) (F0 m 1258 ls []) := by
  obtain ⟨hx, hb, hr, hml, hown, hts0, hX, hbl, hlocks, hgv⟩ := id C0
  have hts : ∀ w ∈ uU, w.before #[Value.ref b] s = true := fun w h => hts0 w (uU_in h)
  have hbA : ¬ (fun q : Nat => s.heap.size ≤ q) b := Nat.not_le.mpr hbl
  refine lv_aload_n hx hb dL_law_1258 rfl (lv_at hl 2 rfl) ?_
  obtain ⟨sl, ke_f, s_fm, s_fl, s_fw, m_isKept, m_many, m_width, hXE, hMI, hRR, hSZ, hsl, hce, hso⟩ := hI
  have cont : ∀ (r : Int32) (H : Heap) (locs : List Loc) (cells slots sl : Nat) (ke_1 fm_1 fl_1 fw_1 : Nat → Int32), (True) → (ke_1 = ke_f ∧ fm_1 = s_fm ∧ fl_1 = s_fl ∧ fw_1 = s_fw) → XE dC dI cyI cyB cyJ cyZ cyH cyN cyM tg x0 sl ke_1 fm_1 fl_1 fw_1 H → MI dC dI cyI cyB cyJ cyZ cyH cyN cyM tg m0 m_isKept m_many m_width H → SZ ≤ H.size → (sl = 0 ∨ sl = 1) → cells ≤ 110 + 16 * sl → slots ≤ 15598 + 40501 * sl → va_S (fun q : Nat => s.heap.size ≤ q) s.heap H locs → W p l e room_1 s m #[Value.ref b] below meth c H locs cells slots (lw_Z below #[Value.ref b] s) (F0 m 1262 ls [.int r]) := by
    intro r H locs cells slots sl ke_1 fm_1 fl_1 fw_1 hw1 hrel hXE hMI hSZ hsl hce hso hS
    refine lv_pop hx hb dL_law_1262 rfl ?_
    refine lv_aload_n hx hb dL_law_1263 rfl (lv_at hl 1 rfl) ?_
    refine va_calli (va_runV (As := []) (rest := []) ⟨hx, hb, hml, hown, hts⟩ (wm_parts l dC dI cyI cyB cyJ cyZ cyH cyN cyM tg H.size m0 m_isKept m_many m_width ) (cwV 0 hts (gdV wd_8_112 wd_8_113 wd_8_114 wd_1_11 wd_8_115) rfl rfl rfl (by decide +kernel) ⟨Nat.le_of_ble_eq_true rfl, Nat.le_of_ble_eq_true rfl⟩) (mp_pre hFIX hMI) rfl rfl hl.1 rfl (lv_room (Nat.le_of_ble_eq_true rfl)) dL_law_1264 ⟨show cells + 0 ≤ 600000 by omega, show slots + 0 ≤ 7302250 by omega⟩) hS (fun q _ h => am_old hFIX hS q h) (am_old hFIX hS) (fun r2 u t H1 locs1 ht hvm hw hB hz1 hk1 hS1 => ?_)
    replace hB : MI dC dI cyI cyB cyJ cyZ cyH cyN cyM tg m0 m_isKept m_many m_width t.heap := hB
    rw [ht] at hB
    have hXE2 := hXE.go (fun q h1 h2 => hk1 q h1 (am_not h1 h2))
    have hRR2 : RR ke_1 fm_1 fl_1 fw_1 m_isKept m_many m_width := by
      rw [hrel.1, hrel.2.1, hrel.2.2.1, hrel.2.2.2]
      exact hRR
    refine lv_pop hx hb dL_law_1267 rfl ?_
    refine lv_goto (tgt := 1930) hx hb dL_law_1268 (by decide) ?_
    exact kk _ _ _ _ ⟨sl, ke_1, fm_1, fl_1, fw_1, m_isKept, m_many, m_width, hXE2, hB, hRR2, Nat.le_trans hSZ hz1, hsl, hce, hso⟩ hS1
  refine va_calli (va_runV (As := []) (rest := []) ⟨hx, hb, hml, hown, hts⟩ (wx_parts l dC dI cyI cyB cyJ cyZ cyH cyN cyM tR tF aK aV tg H.size x0 sl ke_f s_fm s_fl s_fw ) (cwV 0 hts (gdV wd_5_39 wd_5_40 wd_5_41 wd_1_1 wd_5_42) rfl rfl rfl (by decide +kernel) ⟨Nat.le_of_ble_eq_true rfl, Nat.le_of_ble_eq_true rfl⟩) (xp_pre hFIX hS hXE) rfl rfl hl.1 rfl (lv_room (Nat.le_of_ble_eq_true rfl)) dL_law_1259 ⟨show cells + 0 ≤ 600000 by omega, show slots + 0 ≤ 7302250 by omega⟩) hS (fun q _ h => ax_old hFIX hS q h) (ax_old hFIX hS) (fun r1 u t H1 locs1 ht hvm hw hB hz1 hk1 hS1 => ?_)
  replace hB : XE dC dI cyI cyB cyJ cyZ cyH cyN cyM tg x0 sl ke_f s_fm s_fl s_fw t.heap := hB
  rw [ht] at hB
  exact cont r1 H1 locs1 _ _ sl ke_f s_fm s_fl s_fw trivial ⟨rfl, rfl, rfl, rfl⟩ hB (hMI.go (fun q h1 h2 => hk1 q h1 (ax_not h1 h2))) (Nat.le_trans hSZ hz1) hsl (by omega) (by omega) hS1
set_option maxHeartbeats 4000000 in
set_option maxRecDepth 100000 in
theorem law_c43 {p : Program} {l : Launch} {e : Env} {s : State} {m : MethodId} {below : List Frame} {meth : Method} {c : Code} {b L : Nat} {xs : Nat → Int32} (hL : L ≤ 3072) (C0 : lw_At p s m meth c b L xs) {dC : Nat → ClassId} {dI : Nat → Nat → Nat} {cyI cyB cyJ cyZ cyH cyN cyM : ClassId} {tR tF : Nat} {aK aV : Nat → Nat} {tg : Nat → Nat} {SZ x0 m0 : Nat} (hFIX : FIX dC dI cyI cyB cyJ cyZ cyH cyN cyM tR tF aK aV tg SZ s) {i : Int32} (hi0 : 0 ≤ i.toInt) (hi : i.toInt + 6 ≤ (L : Int)) {ls : Array Slot} (hl : lv_has ls 4 [(3, .int i), (2, .ref m0), (1, .ref x0), (0, .ref b)]) (kk : ∀ (H : Heap) (locs : List Loc) (cells slots : Nat), INV dC dI cyI cyB cyJ cyZ cyH cyN cyM tg SZ x0 m0 H cells slots → va_S (fun q : Nat => s.heap.size ≤ q) s.heap H locs → W p l e room_1 s m #[Value.ref b] below meth c H locs cells slots (lw_Z below #[Value.ref b] s) (F0 m 1930 ls [])) {H : Heap} {locs : List Loc} {cells slots : Nat} (hI : INV dC dI cyI cyB cyJ cyZ cyH cyN cyM tg SZ x0 m0 H cells slots) (hS : va_S (fun q : Nat => s.heap.size ≤ q) s.heap H locs) : W p l e room_1 s m #[Value.ref b] below meth c H locs cells slots (lw_Z below #[Value.ref b] s) (F0 m 1271 ls []) := by
  obtain ⟨hx, hb, hr, hml, hown, hts0, hX, hbl, hlocks, hgv⟩ := id C0
  have hts : ∀ w ∈ uU, w.before #[Value.ref b] s = true := fun w h => hts0 w (uU_in h)
  have hbA : ¬ (fun q : Nat => s.heap.size ≤ q) b := Nat.not_le.mpr hbl
  refine lv_aload_n hx hb dL_law_1271 rfl (lv_at hl 2 rfl) ?_
  obtain ⟨sl, ke_f, s_fm, s_fl, s_fw, m_isKept, m_many, m_width, hXE, hMI, hRR, hSZ, hsl, hce, hso⟩ := hI
  have cont : ∀ (r : Int32) (H : Heap) (locs : List Loc) (cells slots sl : Nat) (ke_1 fm_1 fl_1 fw_1 : Nat → Int32), (True) → (ke_1 = ke_f ∧ fm_1 = s_fm ∧ fl_1 = s_fl ∧ fw_1 = s_fw) → XE dC dI cyI cyB cyJ cyZ cyH cyN cyM tg x0 sl ke_1 fm_1 fl_1 fw_1 H → MI dC dI cyI cyB cyJ cyZ cyH cyN cyM tg m0 m_isKept m_many m_width H → SZ ≤ H.size → (sl = 0 ∨ sl = 1) → cells ≤ 110 + 16 * sl → slots ≤ 15598 + 40501 * sl → va_S (fun q : Nat => s.heap.size ≤ q) s.heap H locs → W p l e room_1 s m #[Value.ref b] below meth c H locs cells slots (lw_Z below #[Value.ref b] s) (F0 m 1275 ls [.int r]) := by
    intro r H locs cells slots sl ke_1 fm_1 fl_1 fw_1 hw1 hrel hXE hMI hSZ hsl hce hso hS
    refine lv_pop hx hb dL_law_1275 rfl ?_
    refine lv_aload_n hx hb dL_law_1276 rfl (lv_at hl 1 rfl) ?_
    refine va_calli (va_runV (As := []) (rest := []) ⟨hx, hb, hml, hown, hts⟩ (wm_best l dC dI cyI cyB cyJ cyZ cyH cyN cyM tg H.size m0 m_isKept m_many m_width ) (cwV 0 hts (gdV wd_8_116 wd_8_117 wd_8_118 wd_1_11 wd_8_119) rfl rfl rfl (by decide +kernel) ⟨Nat.le_of_ble_eq_true rfl, Nat.le_of_ble_eq_true rfl⟩) (mp_pre hFIX hMI) rfl rfl hl.1 rfl (lv_room (Nat.le_of_ble_eq_true rfl)) dL_law_1277 ⟨show cells + 0 ≤ 600000 by omega, show slots + 0 ≤ 7302250 by omega⟩) hS (fun q _ h => am_old hFIX hS q h) (am_old hFIX hS) (fun r2 u t H1 locs1 ht hvm hw hB hz1 hk1 hS1 => ?_)
    replace hB : MI dC dI cyI cyB cyJ cyZ cyH cyN cyM tg m0 m_isKept m_many m_width t.heap := hB
    rw [ht] at hB
    have hXE2 := hXE.go (fun q h1 h2 => hk1 q h1 (am_not h1 h2))
    have hRR2 : RR ke_1 fm_1 fl_1 fw_1 m_isKept m_many m_width := by
      rw [hrel.1, hrel.2.1, hrel.2.2.1, hrel.2.2.2]
      exact hRR
    refine lv_pop hx hb dL_law_1280 rfl ?_
    refine lv_goto (tgt := 1930) hx hb dL_law_1281 (by decide) ?_
    exact kk _ _ _ _ ⟨sl, ke_1, fm_1, fl_1, fw_1, m_isKept, m_many, m_width, hXE2, hB, hRR2, Nat.le_trans hSZ hz1, hsl, hce, hso⟩ hS1
  refine va_calli (va_runV (As := []) (rest := []) ⟨hx, hb, hml, hown, hts⟩ (wx_best l dC dI cyI cyB cyJ cyZ cyH cyN cyM tR tF aK aV tg H.size x0 sl ke_f s_fm s_fl s_fw ) (cwV 0 hts (gdV wd_5_52 wd_5_53 wd_5_54 wd_1_1 wd_5_55) rfl rfl rfl (by decide +kernel) ⟨Nat.le_of_ble_eq_true rfl, Nat.le_of_ble_eq_true rfl⟩) (xp_pre hFIX hS hXE) rfl rfl hl.1 rfl (lv_room (Nat.le_of_ble_eq_true rfl)) dL_law_1272 ⟨show cells + 0 ≤ 600000 by omega, show slots + 0 ≤ 7302250 by omega⟩) hS (fun q _ h => ax_old hFIX hS q h) (ax_old hFIX hS) (fun r1 u t H1 locs1 ht hvm hw hB hz1 hk1 hS1 => ?_)
  replace hB : XE dC dI cyI cyB cyJ cyZ cyH cyN cyM tg x0 sl ke_f s_fm s_fl s_fw t.heap := hB
  rw [ht] at hB
  exact cont r1 H1 locs1 _ _ sl ke_f s_fm s_fl s_fw trivial ⟨rfl, rfl, rfl, rfl⟩ hB (hMI.go (fun q h1 h2 => hk1 q h1 (ax_not h1 h2))) (Nat.le_trans hSZ hz1) hsl (by omega) (by omega) hS1

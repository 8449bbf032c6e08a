set_option maxHeartbeats 4000000 in
set_option maxRecDepth 100000 in
theorem law_c55 {p : Program} {l : Launch} {e : Env} {s : State} {m : MethodId} {below : List Frame} {meth : Method} {c : Code} {b L : Nat} {xs : Nat → Int32} (hL : L ≤ 3072) (C0 : lw_At p s m meth c b L xs) {dC : Nat → ClassId} {dI : Nat → Nat → Nat} {cyI cyB cyJ cyZ cyH cyN cyM : ClassId} {tR tF : Nat} {aK aV : Nat → Nat} {tg : Nat → Nat} {SZ x0 m0 : Nat} (hFIX : FIX dC dI cyI cyB cyJ cyZ cyH cyN cyM tR tF aK aV tg SZ s) {i : Int32} (hi0 : 0 ≤ i.toInt) (hi : i.toInt + 6 ≤ (L : Int)) {ls : Array Slot} (hl : lv_has ls 4 [(3, .int i), (2, .ref m0), (1, .ref x0), (0, .ref b)]) (kk : ∀ (H : Heap) (locs : List Loc) (cells slots : Nat), INV dC dI cyI cyB cyJ cyZ cyH cyN cyM tg SZ x0 m0 H cells slots → va_S (fun q : Nat => s.heap.size ≤ q) s.heap H locs → W p l e room_1 s m #[Value.ref b] below meth c H locs cells slots (lw_Z below #[Value.ref b] s) (F0 m 1930 ls [])) {H : Heap} {locs : List Loc} {cells slots : Nat} (hI : INV dC dI cyI cyB cyJ cyZ cyH cyN cyM tg SZ x0 m0 H cells slots) (hS : va_S (fun q : Nat => s.heap.size ≤ q) s.heap H locs) : W p l e room_1 s m #[Value.ref b] below meth c H locs cells slots (lw_Z below #[Value.ref b] s) (F0 m 1517 ls []) := by
  obtain ⟨hx, hb, hr, hml, hown, hts0, hX, hbl, hlocks, hgv⟩ := id C0
  have hts : ∀ w ∈ uU, w.before #[Value.ref b] s = true := fun w h => hts0 w (uU_in h)
  have hbA : ¬ (fun q : Nat => s.heap.size ≤ q) b := Nat.not_le.mpr hbl
  refine lv_aload_n hx hb dL_law_1517 rfl (lv_at hl 2 rfl) ?_
  obtain ⟨sl, ke_f, s_fm, s_fl, s_fw, m_isKept, m_many, m_width, hXE, hMI, hRR, hSZ, hsl, hce, hso⟩ := hI
  have cont : ∀ (r : Int32) (H : Heap) (locs : List Loc) (cells slots sl : Nat) (ke_1 fm_1 fl_1 fw_1 : Nat → Int32), (True) → (ke_1 = ke_f ∧ fm_1 = s_fm ∧ fl_1 = s_fl ∧ fw_1 = s_fw) → XE dC dI cyI cyB cyJ cyZ cyH cyN cyM tg x0 sl ke_1 fm_1 fl_1 fw_1 H → MI dC dI cyI cyB cyJ cyZ cyH cyN cyM tg m0 m_isKept m_many m_width H → SZ ≤ H.size → (sl = 0 ∨ sl = 1) → cells ≤ 110 + 16 * sl → slots ≤ 15598 + 40501 * sl → va_S (fun q : Nat => s.heap.size ≤ q) s.heap H locs → W p l e room_1 s m #[Value.ref b] below meth c H locs cells slots (lw_Z below #[Value.ref b] s) (F0 m 1521 ls [.int r]) := by
    intro r H locs cells slots sl ke_1 fm_1 fl_1 fw_1 hw1 hrel hXE hMI hSZ hsl hce hso hS
    refine lv_pop hx hb dL_law_1521 rfl ?_
    refine lv_aload_n hx hb dL_law_1522 rfl (lv_at hl 1 rfl) ?_
    refine va_calli (va_runV (As := []) (rest := []) ⟨hx, hb, hml, hown, hts⟩ (wm_anew l dC dI cyI cyB cyJ cyZ cyH cyN cyM tg H.size m0 m_isKept m_many m_width ) (cwV 0 hts (gdV wd_8_200 wd_8_201 wd_8_202 wd_1_11 wd_8_203) rfl rfl rfl (by decide +kernel) ⟨Nat.le_of_ble_eq_true rfl, Nat.le_of_ble_eq_true rfl⟩) (mp_pre hFIX hMI) rfl rfl hl.1 rfl (lv_room (Nat.le_of_ble_eq_true rfl)) dL_law_1523 ⟨show cells + 0 ≤ 600000 by omega, show slots + 0 ≤ 7302250 by omega⟩) hS (fun q _ h => am_old hFIX hS q h) (am_old hFIX hS) (fun r2 u t H1 locs1 ht hvm hw hB hz1 hk1 hS1 => ?_)
    replace hB : MI dC dI cyI cyB cyJ cyZ cyH cyN cyM tg m0 m_isKept m_many m_width t.heap := hB
    rw [ht] at hB
    have hXE2 := hXE.go (fun q h1 h2 => hk1 q h1 (am_not h1 h2))
    have hRR2 : RR ke_1 fm_1 fl_1 fw_1 m_isKept m_many m_width := by
      rw [hrel.1, hrel.2.1, hrel.2.2.1, hrel.2.2.2]
      exact hRR
    refine lv_pop hx hb dL_law_1526 rfl ?_
    refine lv_goto (tgt := 1930) hx hb dL_law_1527 (by decide) ?_
    exact kk _ _ _ _ ⟨sl, ke_1, fm_1, fl_1, fw_1, m_isKept, m_many, m_width, hXE2, hB, hRR2, Nat.le_trans hSZ hz1, hsl, hce, hso⟩ hS1
  refine va_calli (va_runV (As := []) (rest := []) ⟨hx, hb, hml, hown, hts⟩ (wx_anew l dC dI cyI cyB cyJ cyZ cyH cyN cyM tR tF aK aV tg H.size x0 sl ke_f s_fm s_fl s_fw ) (cwV 0 hts (gdV wd_5_190 wd_5_191 wd_5_192 wd_1_1 wd_5_193) rfl rfl rfl (by decide +kernel) ⟨Nat.le_of_ble_eq_true rfl, Nat.le_of_ble_eq_true rfl⟩) (xp_pre hFIX hS hXE) rfl rfl hl.1 rfl (lv_room (Nat.le_of_ble_eq_true rfl)) dL_law_1518 ⟨show cells + 0 ≤ 600000 by omega, show slots + 0 ≤ 7302250 by omega⟩) hS (fun q _ h => ax_old hFIX hS q h) (ax_old hFIX hS) (fun r1 u t H1 locs1 ht hvm hw hB hz1 hk1 hS1 => ?_)
  replace hB : XE dC dI cyI cyB cyJ cyZ cyH cyN cyM tg x0 sl ke_f s_fm s_fl s_fw t.heap := hB
  rw [ht] at hB
  exact cont r1 H1 locs1 _ _ sl ke_f s_fm s_fl s_fw trivial ⟨rfl, rfl, rfl, rfl⟩ hB (hMI.go (fun q h1 h2 => hk1 q h1 (ax_not h1 h2))) (Nat.le_trans hSZ hz1) hsl (by omega) (by omega) hS1
set_option maxHeartbeats 4000000 in
set_option maxRecDepth 100000 in
theorem law_c56 {p : Program} {l : Launch} {e : Env} {s : State} {m : MethodId} {below : List Frame} {meth : Method} {c : Code} {b L : Nat} {xs : Nat → Int32} (hL : L ≤ 3072) (C0 : lw_At p s m meth c b L xs) {dC : Nat → ClassId} {dI : Nat → Nat → Nat} {cyI cyB cyJ cyZ cyH cyN cyM : ClassId} {tR tF : Nat} {aK aV : Nat → Nat} {tg : Nat → Nat} {SZ x0 m0 : Nat} (hFIX : FIX dC dI cyI cyB cyJ cyZ cyH cyN cyM tR tF aK aV tg SZ s) {i : Int32} (hi0 : 0 ≤ i.toInt) (hi : i.toInt + 6 ≤ (L : Int)) {ls : Array Slot} (hl : lv_has ls 4 [(3, .int i), (2, .ref m0), (1, .ref x0), (0, .ref b)]) (kk : ∀ (H : Heap) (locs : List Loc) (cells slots : Nat), INV dC dI cyI cyB cyJ cyZ cyH cyN cyM tg SZ x0 m0 H cells slots → va_S (fun q : Nat => s.heap.size ≤ q) s.heap H locs → W p l e room_1 s m #[Value.ref b] below meth c H locs cells slots (lw_Z below #[Value.ref b] s) (F0 m 1930 ls [])) {H : Heap} {locs : List Loc} {cells slots : Nat} (hI : INV dC dI cyI cyB cyJ cyZ cyH cyN cyM tg SZ x0 m0 H cells slots) (hS : va_S (fun q : Nat => s.heap.size ≤ q) s.heap H locs) : W p l e room_1 s m #[Value.ref b] below meth c H locs cells slots (lw_Z below #[Value.ref b] s) (F0 m 1530 ls []) := by
  obtain ⟨hx, hb, hr, hml, hown, hts0, hX, hbl, hlocks, hgv⟩ := id C0
  have hts : ∀ w ∈ uU, w.before #[Value.ref b] s = true := fun w h => hts0 w (uU_in h)
  have hbA : ¬ (fun q : Nat => s.heap.size ≤ q) b := Nat.not_le.mpr hbl
  refine lv_aload_n hx hb dL_law_1530 rfl (lv_at hl 2 rfl) ?_
  obtain ⟨sl, ke_f, s_fm, s_fl, s_fw, m_isKept, m_many, m_width, hXE, hMI, hRR, hSZ, hsl, hce, hso⟩ := hI
  have cont : ∀ (r : Int32) (H : Heap) (locs : List Loc) (cells slots sl : Nat) (ke_1 fm_1 fl_1 fw_1 : Nat → Int32), (True) → (ke_1 = ke_f ∧ fm_1 = s_fm ∧ fl_1 = s_fl ∧ fw_1 = s_fw) → XE dC dI cyI cyB cyJ cyZ cyH cyN cyM tg x0 sl ke_1 fm_1 fl_1 fw_1 H → MI dC dI cyI cyB cyJ cyZ cyH cyN cyM tg m0 m_isKept m_many m_width H → SZ ≤ H.size → (sl = 0 ∨ sl = 1) → cells ≤ 110 + 16 * sl → slots ≤ 15598 + 40501 * sl → va_S (fun q : Nat => s.heap.size ≤ q) s.heap H locs → W p l e room_1 s m #[Value.ref b] below meth c H locs cells slots (lw_Z below #[Value.ref b] s) (F0 m 1534 ls [.int r]) := by
    intro r H locs cells slots sl ke_1 fm_1 fl_1 fw_1 hw1 hrel hXE hMI hSZ hsl hce hso hS
    refine lv_pop hx hb dL_law_1534 rfl ?_
    refine lv_aload_n hx hb dL_law_1535 rfl (lv_at hl 1 rfl) ?_
    refine va_calli (va_runV (As := []) (rest := []) ⟨hx, hb, hml, hown, hts⟩ (wm_nights l dC dI cyI cyB cyJ cyZ cyH cyN cyM tg H.size m0 m_isKept m_many m_width ) (cwV 0 hts (gdV wd_8_204 wd_8_205 wd_8_206 wd_1_11 wd_8_207) rfl rfl rfl (by decide +kernel) ⟨Nat.le_of_ble_eq_true rfl, Nat.le_of_ble_eq_true rfl⟩) (mp_pre hFIX hMI) rfl rfl hl.1 rfl (lv_room (Nat.le_of_ble_eq_true rfl)) dL_law_1536 ⟨show cells + 0 ≤ 600000 by omega, show slots + 0 ≤ 7302250 by omega⟩) hS (fun q _ h => am_old hFIX hS q h) (am_old hFIX hS) (fun r2 u t H1 locs1 ht hvm hw hB hz1 hk1 hS1 => ?_)
    replace hB : MI dC dI cyI cyB cyJ cyZ cyH cyN cyM tg m0 m_isKept m_many m_width t.heap := hB
    rw [ht] at hB
    have hXE2 := hXE.go (fun q h1 h2 => hk1 q h1 (am_not h1 h2))
    have hRR2 : RR ke_1 fm_1 fl_1 fw_1 m_isKept m_many m_width := by
      rw [hrel.1, hrel.2.1, hrel.2.2.1, hrel.2.2.2]
      exact hRR
    refine lv_pop hx hb dL_law_1539 rfl ?_
    refine lv_goto (tgt := 1930) hx hb dL_law_1540 (by decide) ?_
    exact kk _ _ _ _ ⟨sl, ke_1, fm_1, fl_1, fw_1, m_isKept, m_many, m_width, hXE2, hB, hRR2, Nat.le_trans hSZ hz1, hsl, hce, hso⟩ hS1
  refine va_calli (va_runV (As := []) (rest := []) ⟨hx, hb, hml, hown, hts⟩ (wx_nights l dC dI cyI cyB cyJ cyZ cyH cyN cyM tR tF aK aV tg H.size x0 sl ke_f s_fm s_fl s_fw ) (cwV 0 hts (gdV wd_5_198 wd_5_199 wd_5_200 wd_1_1 wd_5_201) rfl rfl rfl (by decide +kernel) ⟨Nat.le_of_ble_eq_true rfl, Nat.le_of_ble_eq_true rfl⟩) (xp_pre hFIX hS hXE) rfl rfl hl.1 rfl (lv_room (Nat.le_of_ble_eq_true rfl)) dL_law_1531 ⟨show cells + 0 ≤ 600000 by omega, show slots + 0 ≤ 7302250 by omega⟩) hS (fun q _ h => ax_old hFIX hS q h) (ax_old hFIX hS) (fun r1 u t H1 locs1 ht hvm hw hB hz1 hk1 hS1 => ?_)
  replace hB : XE dC dI cyI cyB cyJ cyZ cyH cyN cyM tg x0 sl ke_f s_fm s_fl s_fw t.heap := hB
  rw [ht] at hB
  exact cont r1 H1 locs1 _ _ sl ke_f s_fm s_fl s_fw trivial ⟨rfl, rfl, rfl, rfl⟩ hB (hMI.go (fun q h1 h2 => hk1 q h1 (ax_not h1 h2))) (Nat.le_trans hSZ hz1) hsl (by omega) (by omega) hS1
set_option maxHeartbeats 4000000 in
set_option maxRecDepth 100000 in
theorem law_c57 {p : Program} {l : Launch} {e : Env} {s : State} {m : MethodId} {below : List Frame} {meth : Method} {c : Code} {b L : Nat} {xs : Nat → Int32} (hL : L ≤ 3072) (C0 : lw_At p s m meth c b L xs) {dC : Nat → ClassId} {dI : Nat → Nat → Nat} {cyI cyB cyJ cyZ cyH cyN cyM : ClassId} {tR tF : Nat} {aK aV : Nat → Nat} {tg : Nat → Nat} {SZ x0 m0 : Nat} (hFIX : FIX dC dI cyI cyB cyJ cyZ cyH cyN cyM tR tF aK aV tg SZ s) {i : Int32} (hi0 : 0 ≤ i.toInt) (hi : i.toInt + 6 ≤ (L : Int)) {ls : Array Slot} (hl : lv_has ls 4 [(3, .int i), (2, .ref m0), (1, .ref x0), (0, .ref b)]) (kk : ∀ (H : Heap) (locs : List Loc) (cells slots : Nat), INV dC dI cyI cyB cyJ cyZ cyH cyN cyM tg SZ x0 m0 H cells slots → va_S (fun q : Nat => s.heap.size ≤ q) s.heap H locs → W p l e room_1 s m #[Value.ref b] below meth c H locs cells slots (lw_Z below #[Value.ref b] s) (F0 m 1930 ls [])) {H : Heap} {locs : List Loc} {cells slots : Nat} (hI : INV dC dI cyI cyB cyJ cyZ cyH cyN cyM tg SZ x0 m0 H cells slots) (hS : va_S (fun q : Nat => s.heap.size ≤ q) s.heap H locs) : W p l e room_1 s m #[Value.ref b] below meth c H locs cells slots (lw_Z below #[Value.ref b] s) (F0 m 1543 ls []) := by
  obtain ⟨hx, hb, hr, hml, hown, hts0, hX, hbl, hlocks, hgv⟩ := id C0
  have hts : ∀ w ∈ uU, w.before #[Value.ref b] s = true := fun w h => hts0 w (uU_in h)
  have hbA : ¬ (fun q : Nat => s.heap.size ≤ q) b := Nat.not_le.mpr hbl
  refine lv_aload_n hx hb dL_law_1543 rfl (lv_at hl 2 rfl) ?_
  refine lv_aload_n hx hb dL_law_1544 rfl (lv_at hl 3 rfl) ?_
  refine lv_iload_n hx hb dL_law_1545 rfl (lv_at hl 0 rfl) ?_
  refine lv_iconst (v := 1) hx hb dL_law_1546 (by decide) ?_
  refine lv_iadd hx hb dL_law_1547 ?_
  refine va_sld hx hb hX hbl hbA hS (lw_ix hi0 hi hL (by decide)) dL_law_1548 ?_
  refine lv_topi (fun v_1 ev_1 => ?_)
  refine lv_aload_n hx hb dL_law_1549 rfl (lv_at hl 3 rfl) ?_
  refine lv_iload_n hx hb dL_law_1550 rfl (lv_at hl 0 rfl) ?_
  refine lv_iconst (v := 2) hx hb dL_law_1551 (by decide) ?_
  refine lv_iadd hx hb dL_law_1552 ?_
  refine va_sld hx hb hX hbl hbA hS (lw_ix hi0 hi hL (by decide)) dL_law_1553 ?_
  refine lv_topi (fun v_2 ev_2 => ?_)
  refine lv_aload_n hx hb dL_law_1554 rfl (lv_at hl 3 rfl) ?_
  refine lv_iload_n hx hb dL_law_1555 rfl (lv_at hl 0 rfl) ?_
  refine lv_iconst (v := 3) hx hb dL_law_1556 (by decide) ?_
  refine lv_iadd hx hb dL_law_1557 ?_
  refine va_sld hx hb hX hbl hbA hS (lw_ix hi0 hi hL (by decide)) dL_law_1558 ?_
  refine lv_topi (fun v_3 ev_3 => ?_)
  obtain ⟨sl, ke_f, s_fm, s_fl, s_fw, m_isKept, m_many, m_width, hXE, hMI, hRR, hSZ, hsl, hce, hso⟩ := hI
  have cont : ∀ (r : Int32) (H : Heap) (locs : List Loc) (cells slots sl : Nat) (ke_1 fm_1 fl_1 fw_1 : Nat → Int32), (True) → (ke_1 = ke_f ∧ fm_1 = s_fm ∧ fl_1 = s_fl ∧ fw_1 = s_fw) → XE dC dI cyI cyB cyJ cyZ cyH cyN cyM tg x0 sl ke_1 fm_1 fl_1 fw_1 H → MI dC dI cyI cyB cyJ cyZ cyH cyN cyM tg m0 m_isKept m_many m_width H → SZ ≤ H.size → (sl = 0 ∨ sl = 1) → cells ≤ 110 + 16 * sl → slots ≤ 15598 + 40501 * sl → va_S (fun q : Nat => s.heap.size ≤ q) s.heap H locs → W p l e room_1 s m #[Value.ref b] below meth c H locs cells slots (lw_Z below #[Value.ref b] s) (F0 m 1562 ls [.int r]) := by
    intro r H locs cells slots sl ke_1 fm_1 fl_1 fw_1 hw1 hrel hXE hMI hSZ hsl hce hso hS
    refine lv_pop hx hb dL_law_1562 rfl ?_
    refine lv_aload_n hx hb dL_law_1563 rfl (lv_at hl 1 rfl) ?_
    refine lv_aload_n hx hb dL_law_1564 rfl (lv_at hl 3 rfl) ?_
    refine lv_iload_n hx hb dL_law_1565 rfl (lv_at hl 0 rfl) ?_
    refine lv_iconst (v := 1) hx hb dL_law_1566 (by decide) ?_
    refine lv_iadd hx hb dL_law_1567 ?_
    refine va_sld hx hb hX hbl hbA hS (lw_ix hi0 hi hL (by decide)) dL_law_1568 ?_
    refine lv_topi (fun v_101 ev_101 => ?_)
    refine lv_aload_n hx hb dL_law_1569 rfl (lv_at hl 3 rfl) ?_
    refine lv_iload_n hx hb dL_law_1570 rfl (lv_at hl 0 rfl) ?_
    refine lv_iconst (v := 2) hx hb dL_law_1571 (by decide) ?_
    refine lv_iadd hx hb dL_law_1572 ?_
    refine va_sld hx hb hX hbl hbA hS (lw_ix hi0 hi hL (by decide)) dL_law_1573 ?_
    refine lv_topi (fun v_102 ev_102 => ?_)
    refine lv_aload_n hx hb dL_law_1574 rfl (lv_at hl 3 rfl) ?_
    refine lv_iload_n hx hb dL_law_1575 rfl (lv_at hl 0 rfl) ?_
    refine lv_iconst (v := 3) hx hb dL_law_1576 (by decide) ?_
    refine lv_iadd hx hb dL_law_1577 ?_
    refine va_sld hx hb hX hbl hbA hS (lw_ix hi0 hi hL (by decide)) dL_law_1578 ?_
    refine lv_topi (fun v_103 ev_103 => ?_)
    refine va_calli (va_runV (As := [.int v_101, .int v_102, .int v_103]) (rest := []) ⟨hx, hb, hml, hown, hts⟩ (wm_drawn l dC dI cyI cyB cyJ cyZ cyH cyN cyM tg H.size m0 m_isKept m_many m_width v_101 v_102 v_103) (cwV 3 hts (gdV wd_8_208 wd_8_209 wd_8_210 wd_1_11 wd_8_211) rfl rfl rfl (by decide +kernel) ⟨Nat.le_of_ble_eq_true rfl, Nat.le_of_ble_eq_true rfl⟩) (mp_pre hFIX hMI) rfl rfl hl.1 rfl (lv_room (Nat.le_of_ble_eq_true rfl)) dL_law_1579 ⟨show cells + 0 ≤ 600000 by omega, show slots + 0 ≤ 7302250 by omega⟩) hS (fun q _ h => am_old hFIX hS q h) (am_old hFIX hS) (fun r2 u t H1 locs1 ht hvm hw hB hz1 hk1 hS1 => ?_)
    replace hB : MI dC dI cyI cyB cyJ cyZ cyH cyN cyM tg m0 m_isKept m_many m_width t.heap := hB
    rw [ht] at hB
    have hXE2 := hXE.go (fun q h1 h2 => hk1 q h1 (am_not h1 h2))
    have hRR2 : RR ke_1 fm_1 fl_1 fw_1 m_isKept m_many m_width := by
      rw [hrel.1, hrel.2.1, hrel.2.2.1, hrel.2.2.2]
      exact hRR
    refine lv_pop hx hb dL_law_1582 rfl ?_
    refine lv_goto (tgt := 1930) hx hb dL_law_1583 (by decide) ?_
    exact kk _ _ _ _ ⟨sl, ke_1, fm_1, fl_1, fw_1, m_isKept, m_many, m_width, hXE2, hB, hRR2, Nat.le_trans hSZ hz1, hsl, hce, hso⟩ hS1
  refine va_calli (va_runV (As := [.int v_1, .int v_2, .int v_3]) (rest := []) ⟨hx, hb, hml, hown, hts⟩ (wx_drawn l dC dI cyI cyB cyJ cyZ cyH cyN cyM tR tF aK aV tg H.size x0 sl ke_f s_fm s_fl s_fw v_1 v_2 v_3) (cwV 3 hts (gdV wd_5_202 wd_5_203 wd_5_204 wd_1_1 wd_5_205) rfl rfl rfl (by decide +kernel) ⟨Nat.le_of_ble_eq_true rfl, Nat.le_of_ble_eq_true rfl⟩) (xp_pre hFIX hS hXE) rfl rfl hl.1 rfl (lv_room (Nat.le_of_ble_eq_true rfl)) dL_law_1559 ⟨show cells + 0 ≤ 600000 by omega, show slots + 0 ≤ 7302250 by omega⟩) hS (fun q _ h => ax_old hFIX hS q h) (ax_old hFIX hS) (fun r1 u t H1 locs1 ht hvm hw hB hz1 hk1 hS1 => ?_)
  replace hB : XE dC dI cyI cyB cyJ cyZ cyH cyN cyM tg x0 sl ke_f s_fm s_fl s_fw t.heap := hB
  rw [ht] at hB
  exact cont r1 H1 locs1 _ _ sl ke_f s_fm s_fl s_fw trivial ⟨rfl, rfl, rfl, rfl⟩ hB (hMI.go (fun q h1 h2 => hk1 q h1 (ax_not h1 h2))) (Nat.le_trans hSZ hz1) hsl (by omega) (by omega) hS1
set_option maxHeartbeats 4000000 in
set_option maxRecDepth 100000 in
theorem law_c58 {p : Program} {l : Launch} {e : Env} {s : State} {m : MethodId} {below : List Frame} {meth : Method} {c : Code} {b L : Nat} {xs : Nat → Int32} (hL : L ≤ 3072) (C0 : lw_At p s m meth c b L xs) {dC : Nat → ClassId} {dI : Nat → Nat → Nat} {cyI cyB cyJ cyZ cyH cyN cyM : ClassId} {tR tF : Nat} {aK aV : Nat → Nat} {tg : Nat → Nat} {SZ x0 m0 : Nat} (hFIX : FIX dC dI cyI cyB cyJ cyZ cyH cyN cyM tR tF aK aV tg SZ s) {i : Int32} (hi0 : 0 ≤ i.toInt) (hi : i.toInt + 6 ≤ (L : Int)) {ls : Array Slot} (hl : lv_has ls 4 [(3, .int i), (2, .ref m0), (1, .ref x0), (0, .ref b)]) (kk : ∀ (H : Heap) (locs : List Loc) (cells slots : Nat), INV dC dI cyI cyB cyJ cyZ cyH cyN cyM tg SZ x0 m0 H cells slots → va_S (fun q : Nat => s.heap.size ≤ q) s.heap H locs → W p l e room_1 s m #[Value.ref b] below meth c H locs cells slots (lw_Z below #[Value.ref b] s) (F0 m 1930 ls [])) {H : Heap} {locs : List Loc} {cells slots : Nat} (hI : INV dC dI cyI cyB cyJ cyZ cyH cyN cyM tg SZ x0 m0 H cells slots) (hS : va_S (fun q : Nat => s.heap.size ≤ q) s.heap H locs) : W p l e room_1 s m #[Value.ref b] below meth c H locs cells slots (lw_Z below #[Value.ref b] s) (F0 m 1586 ls []) := by
  obtain ⟨hx, hb, hr, hml, hown, hts0, hX, hbl, hlocks, hgv⟩ := id C0
  have hts : ∀ w ∈ uU, w.before #[Value.ref b] s = true := fun w h => hts0 w (uU_in h)
  have hbA : ¬ (fun q : Nat => s.heap.size ≤ q) b := Nat.not_le.mpr hbl
  refine lv_aload_n hx hb dL_law_1586 rfl (lv_at hl 2 rfl) ?_
  refine lv_aload_n hx hb dL_law_1587 rfl (lv_at hl 3 rfl) ?_
  refine lv_iload_n hx hb dL_law_1588 rfl (lv_at hl 0 rfl) ?_
  refine lv_iconst (v := 1) hx hb dL_law_1589 (by decide) ?_
  refine lv_iadd hx hb dL_law_1590 ?_
  refine va_sld hx hb hX hbl hbA hS (lw_ix hi0 hi hL (by decide)) dL_law_1591 ?_
  refine lv_topi (fun v_1 ev_1 => ?_)
  refine lv_aload_n hx hb dL_law_1592 rfl (lv_at hl 3 rfl) ?_
  refine lv_iload_n hx hb dL_law_1593 rfl (lv_at hl 0 rfl) ?_
  refine lv_iconst (v := 2) hx hb dL_law_1594 (by decide) ?_
  refine lv_iadd hx hb dL_law_1595 ?_
  refine va_sld hx hb hX hbl hbA hS (lw_ix hi0 hi hL (by decide)) dL_law_1596 ?_
  refine lv_topi (fun v_2 ev_2 => ?_)
  refine lv_aload_n hx hb dL_law_1597 rfl (lv_at hl 3 rfl) ?_
  refine lv_iload_n hx hb dL_law_1598 rfl (lv_at hl 0 rfl) ?_
  refine lv_iconst (v := 3) hx hb dL_law_1599 (by decide) ?_
  refine lv_iadd hx hb dL_law_1600 ?_
  refine va_sld hx hb hX hbl hbA hS (lw_ix hi0 hi hL (by decide)) dL_law_1601 ?_
  refine lv_topi (fun v_3 ev_3 => ?_)
  refine lv_aload_n hx hb dL_law_1602 rfl (lv_at hl 3 rfl) ?_
  refine lv_iload_n hx hb dL_law_1603 rfl (lv_at hl 0 rfl) ?_
  refine lv_iconst (v := 4) hx hb dL_law_1604 (by decide) ?_
  refine lv_iadd hx hb dL_law_1605 ?_
  refine va_sld hx hb hX hbl hbA hS (lw_ix hi0 hi hL (by decide)) dL_law_1606 ?_
  refine lv_topi (fun v_4 ev_4 => ?_)
  obtain ⟨sl, ke_f, s_fm, s_fl, s_fw, m_isKept, m_many, m_width, hXE, hMI, hRR, hSZ, hsl, hce, hso⟩ := hI
  have cont : ∀ (r : Int32) (H : Heap) (locs : List Loc) (cells slots sl : Nat) (ke_1 fm_1 fl_1 fw_1 : Nat → Int32), (True) → (ke_1 = ke_f ∧ fm_1 = s_fm ∧ fl_1 = s_fl ∧ fw_1 = s_fw) → XE dC dI cyI cyB cyJ cyZ cyH cyN cyM tg x0 sl ke_1 fm_1 fl_1 fw_1 H → MI dC dI cyI cyB cyJ cyZ cyH cyN cyM tg m0 m_isKept m_many m_width H → SZ ≤ H.size → (sl = 0 ∨ sl = 1) → cells ≤ 110 + 16 * sl → slots ≤ 15598 + 40501 * sl → va_S (fun q : Nat => s.heap.size ≤ q) s.heap H locs → W p l e room_1 s m #[Value.ref b] below meth c H locs cells slots (lw_Z below #[Value.ref b] s) (F0 m 1610 ls [.int r]) := by
    intro r H locs cells slots sl ke_1 fm_1 fl_1 fw_1 hw1 hrel hXE hMI hSZ hsl hce hso hS
    refine lv_pop hx hb dL_law_1610 rfl ?_
    refine lv_aload_n hx hb dL_law_1611 rfl (lv_at hl 1 rfl) ?_
    refine lv_aload_n hx hb dL_law_1612 rfl (lv_at hl 3 rfl) ?_
    refine lv_iload_n hx hb dL_law_1613 rfl (lv_at hl 0 rfl) ?_
    refine lv_iconst (v := 1) hx hb dL_law_1614 (by decide) ?_
    refine lv_iadd hx hb dL_law_1615 ?_
    refine va_sld hx hb hX hbl hbA hS (lw_ix hi0 hi hL (by decide)) dL_law_1616 ?_
    refine lv_topi (fun v_101 ev_101 => ?_)
    refine lv_aload_n hx hb dL_law_1617 rfl (lv_at hl 3 rfl) ?_
    refine lv_iload_n hx hb dL_law_1618 rfl (lv_at hl 0 rfl) ?_
    refine lv_iconst (v := 2) hx hb dL_law_1619 (by decide) ?_
    refine lv_iadd hx hb dL_law_1620 ?_
    refine va_sld hx hb hX hbl hbA hS (lw_ix hi0 hi hL (by decide)) dL_law_1621 ?_
    refine lv_topi (fun v_102 ev_102 => ?_)
    refine lv_aload_n hx hb dL_law_1622 rfl (lv_at hl 3 rfl) ?_
    refine lv_iload_n hx hb dL_law_1623 rfl (lv_at hl 0 rfl) ?_
    refine lv_iconst (v := 3) hx hb dL_law_1624 (by decide) ?_
    refine lv_iadd hx hb dL_law_1625 ?_
    refine va_sld hx hb hX hbl hbA hS (lw_ix hi0 hi hL (by decide)) dL_law_1626 ?_
    refine lv_topi (fun v_103 ev_103 => ?_)
    refine lv_aload_n hx hb dL_law_1627 rfl (lv_at hl 3 rfl) ?_
    refine lv_iload_n hx hb dL_law_1628 rfl (lv_at hl 0 rfl) ?_
    refine lv_iconst (v := 4) hx hb dL_law_1629 (by decide) ?_
    refine lv_iadd hx hb dL_law_1630 ?_
    refine va_sld hx hb hX hbl hbA hS (lw_ix hi0 hi hL (by decide)) dL_law_1631 ?_
    refine lv_topi (fun v_104 ev_104 => ?_)
    refine va_calli (va_runV (As := [.int v_101, .int v_102, .int v_103, .int v_104]) (rest := []) ⟨hx, hb, hml, hown, hts⟩ (wm_luck l dC dI cyI cyB cyJ cyZ cyH cyN cyM tg H.size m0 m_isKept m_many m_width v_101 v_102 v_103 v_104) (cwV 4 hts (gdV wd_8_226 wd_8_227 wd_8_228 wd_1_11 wd_8_229) rfl rfl rfl (by decide +kernel) ⟨Nat.le_of_ble_eq_true rfl, Nat.le_of_ble_eq_true rfl⟩) (mp_pre hFIX hMI) rfl rfl hl.1 rfl (lv_room (Nat.le_of_ble_eq_true rfl)) dL_law_1632 ⟨show cells + 0 ≤ 600000 by omega, show slots + 0 ≤ 7302250 by omega⟩) hS (fun q _ h => am_old hFIX hS q h) (am_old hFIX hS) (fun r2 u t H1 locs1 ht hvm hw hB hz1 hk1 hS1 => ?_)
    replace hB : MI dC dI cyI cyB cyJ cyZ cyH cyN cyM tg m0 m_isKept m_many m_width t.heap := hB
    rw [ht] at hB
    have hXE2 := hXE.go (fun q h1 h2 => hk1 q h1 (am_not h1 h2))
    have hRR2 : RR ke_1 fm_1 fl_1 fw_1 m_isKept m_many m_width := by
      rw [hrel.1, hrel.2.1, hrel.2.2.1, hrel.2.2.2]
      exact hRR
    refine lv_pop hx hb dL_law_1635 rfl ?_
    refine lv_goto (tgt := 1930) hx hb dL_law_1636 (by decide) ?_
    exact kk _ _ _ _ ⟨sl, ke_1, fm_1, fl_1, fw_1, m_isKept, m_many, m_width, hXE2, hB, hRR2, Nat.le_trans hSZ hz1, hsl, hce, hso⟩ hS1
  refine va_calli (va_runV (As := [.int v_1, .int v_2, .int v_3, .int v_4]) (rest := []) ⟨hx, hb, hml, hown, hts⟩ (wx_luck l dC dI cyI cyB cyJ cyZ cyH cyN cyM tR tF aK aV tg H.size x0 sl ke_f s_fm s_fl s_fw v_1 v_2 v_3 v_4) (cwV 4 hts (gdV wd_5_214 wd_5_215 wd_5_216 wd_1_1 wd_5_217) rfl rfl rfl (by decide +kernel) ⟨Nat.le_of_ble_eq_true rfl, Nat.le_of_ble_eq_true rfl⟩) (xp_pre hFIX hS hXE) rfl rfl hl.1 rfl (lv_room (Nat.le_of_ble_eq_true rfl)) dL_law_1607 ⟨show cells + 0 ≤ 600000 by omega, show slots + 0 ≤ 7302250 by omega⟩) hS (fun q _ h => ax_old hFIX hS q h) (ax_old hFIX hS) (fun r1 u t H1 locs1 ht hvm hw hB hz1 hk1 hS1 => ?_)
  replace hB : XE dC dI cyI cyB cyJ cyZ cyH cyN cyM tg x0 sl ke_f s_fm s_fl s_fw t.heap := hB
  rw [ht] at hB
  exact cont r1 H1 locs1 _ _ sl ke_f s_fm s_fl s_fw trivial ⟨rfl, rfl, rfl, rfl⟩ hB (hMI.go (fun q h1 h2 => hk1 q h1 (ax_not h1 h2))) (Nat.le_trans hSZ hz1) hsl (by omega) (by omega) hS1
set_option maxHeartbeats 4000000 in
set_option maxRecDepth 100000 in
theorem law_c59 {p : Program} {l : Launch} {e : Env} {s : State} {m : MethodId} {below : List Frame} {meth : Method} {c : Code} {b L : Nat} {xs : Nat → Int32} (hL : L ≤ 3072) (C0 : lw_At p s m meth c b L xs) {dC : Nat → ClassId} {dI : Nat → Nat → Nat} {cyI cyB cyJ cyZ cyH cyN cyM : ClassId} {tR tF : Nat} {aK aV : Nat → Nat} {tg : Nat → Nat} {SZ x0 m0 : Nat} (hFIX : FIX dC dI cyI cyB cyJ cyZ cyH cyN cyM tR tF aK aV tg SZ s) {i : Int32} (hi0 : 0 ≤ i.toInt) (hi : i.toInt + 6 ≤ (L : Int)) {ls : Array Slot} (hl : lv_has ls 4 [(3, .int i), (2, .ref m0), (1, .ref x0), (0, .ref b)]) (kk : ∀ (H : Heap) (locs : List Loc) (cells slots : Nat), INV dC dI cyI cyB cyJ cyZ cyH cyN cyM tg SZ x0 m0 H cells slots → va_S (fun q : Nat => s.heap.size ≤ q) s.heap H locs → W p l e room_1 s m #[Value.ref b] below meth c H locs cells slots (lw_Z below #[Value.ref b] s) (F0 m 1930 ls [])) {H : Heap} {locs : List Loc} {cells slots : Nat} (hI : INV dC dI cyI cyB cyJ cyZ cyH cyN cyM tg SZ x0 m0 H cells slots) (hS : va_S (fun q : Nat => s.heap.size ≤ q) s.heap H locs) : W p l e room_1 s m #[Value.ref b] below meth c H locs cells slots (lw_Z below #[Value.ref b] s) (F0 m 1639 ls []) := by
  obtain ⟨hx, hb, hr, hml, hown, hts0, hX, hbl, hlocks, hgv⟩ := id C0
  have hts : ∀ w ∈ uU, w.before #[Value.ref b] s = true := fun w h => hts0 w (uU_in h)
  have hbA : ¬ (fun q : Nat => s.heap.size ≤ q) b := Nat.not_le.mpr hbl
  refine lv_aload_n hx hb dL_law_1639 rfl (lv_at hl 2 rfl) ?_
  refine lv_aload_n hx hb dL_law_1640 rfl (lv_at hl 3 rfl) ?_
  refine lv_iload_n hx hb dL_law_1641 rfl (lv_at hl 0 rfl) ?_
  refine lv_iconst (v := 1) hx hb dL_law_1642 (by decide) ?_
  refine lv_iadd hx hb dL_law_1643 ?_
  refine va_sld hx hb hX hbl hbA hS (lw_ix hi0 hi hL (by decide)) dL_law_1644 ?_
  refine lv_topi (fun v_1 ev_1 => ?_)
  refine lv_aload_n hx hb dL_law_1645 rfl (lv_at hl 3 rfl) ?_
  refine lv_iload_n hx hb dL_law_1646 rfl (lv_at hl 0 rfl) ?_
  refine lv_iconst (v := 2) hx hb dL_law_1647 (by decide) ?_
  refine lv_iadd hx hb dL_law_1648 ?_
  refine va_sld hx hb hX hbl hbA hS (lw_ix hi0 hi hL (by decide)) dL_law_1649 ?_
  refine lv_topi (fun v_2 ev_2 => ?_)
  refine lv_aload_n hx hb dL_law_1650 rfl (lv_at hl 3 rfl) ?_
  refine lv_iload_n hx hb dL_law_1651 rfl (lv_at hl 0 rfl) ?_
  refine lv_iconst (v := 3) hx hb dL_law_1652 (by decide) ?_
  refine lv_iadd hx hb dL_law_1653 ?_
  refine va_sld hx hb hX hbl hbA hS (lw_ix hi0 hi hL (by decide)) dL_law_1654 ?_
  refine lv_topi (fun v_3 ev_3 => ?_)
  obtain ⟨sl, ke_f, s_fm, s_fl, s_fw, m_isKept, m_many, m_width, hXE, hMI, hRR, hSZ, hsl, hce, hso⟩ := hI
  have cont : ∀ (r : Int32) (H : Heap) (locs : List Loc) (cells slots sl : Nat) (ke_1 fm_1 fl_1 fw_1 : Nat → Int32), (True) → (ke_1 = ke_f ∧ fm_1 = s_fm ∧ fl_1 = s_fl ∧ fw_1 = s_fw) → XE dC dI cyI cyB cyJ cyZ cyH cyN cyM tg x0 sl ke_1 fm_1 fl_1 fw_1 H → MI dC dI cyI cyB cyJ cyZ cyH cyN cyM tg m0 m_isKept m_many m_width H → SZ ≤ H.size → (sl = 0 ∨ sl = 1) → cells ≤ 110 + 16 * sl → slots ≤ 15598 + 40501 * sl → va_S (fun q : Nat => s.heap.size ≤ q) s.heap H locs → W p l e room_1 s m #[Value.ref b] below meth c H locs cells slots (lw_Z below #[Value.ref b] s) (F0 m 1658 ls [.int r]) := by
    intro r H locs cells slots sl ke_1 fm_1 fl_1 fw_1 hw1 hrel hXE hMI hSZ hsl hce hso hS
    refine lv_pop hx hb dL_law_1658 rfl ?_
    refine lv_aload_n hx hb dL_law_1659 rfl (lv_at hl 1 rfl) ?_
    refine lv_aload_n hx hb dL_law_1660 rfl (lv_at hl 3 rfl) ?_
    refine lv_iload_n hx hb dL_law_1661 rfl (lv_at hl 0 rfl) ?_
    refine lv_iconst (v := 1) hx hb dL_law_1662 (by decide) ?_
    refine lv_iadd hx hb dL_law_1663 ?_
    refine va_sld hx hb hX hbl hbA hS (lw_ix hi0 hi hL (by decide)) dL_law_1664 ?_
    refine lv_topi (fun v_101 ev_101 => ?_)
    refine lv_aload_n hx hb dL_law_1665 rfl (lv_at hl 3 rfl) ?_
    refine lv_iload_n hx hb dL_law_1666 rfl (lv_at hl 0 rfl) ?_
    refine lv_iconst (v := 2) hx hb dL_law_1667 (by decide) ?_
    refine lv_iadd hx hb dL_law_1668 ?_
    refine va_sld hx hb hX hbl hbA hS (lw_ix hi0 hi hL (by decide)) dL_law_1669 ?_
    refine lv_topi (fun v_102 ev_102 => ?_)
    refine lv_aload_n hx hb dL_law_1670 rfl (lv_at hl 3 rfl) ?_
    refine lv_iload_n hx hb dL_law_1671 rfl (lv_at hl 0 rfl) ?_
    refine lv_iconst (v := 3) hx hb dL_law_1672 (by decide) ?_
    refine lv_iadd hx hb dL_law_1673 ?_
    refine va_sld hx hb hX hbl hbA hS (lw_ix hi0 hi hL (by decide)) dL_law_1674 ?_
    refine lv_topi (fun v_103 ev_103 => ?_)
    refine va_calli (va_runV (As := [.int v_101, .int v_102, .int v_103]) (rest := []) ⟨hx, hb, hml, hown, hts⟩ (wm_tell l dC dI cyI cyB cyJ cyZ cyH cyN cyM tg H.size m0 m_isKept m_many m_width v_101 v_102 v_103) (cwV 3 hts (gdV wd_8_231 wd_8_232 wd_8_233 wd_1_11 wd_8_234) rfl rfl rfl (by decide +kernel) ⟨Nat.le_of_ble_eq_true rfl, Nat.le_of_ble_eq_true rfl⟩) (mp_pre hFIX hMI) rfl rfl hl.1 rfl (lv_room (Nat.le_of_ble_eq_true rfl)) dL_law_1675 ⟨show cells + 0 ≤ 600000 by omega, show slots + 0 ≤ 7302250 by omega⟩) hS (fun q _ h => am_old hFIX hS q h) (am_old hFIX hS) (fun r2 u t H1 locs1 ht hvm hw hB hz1 hk1 hS1 => ?_)
    replace hB : MI dC dI cyI cyB cyJ cyZ cyH cyN cyM tg m0 m_isKept m_many m_width t.heap := hB
    rw [ht] at hB
    have hXE2 := hXE.go (fun q h1 h2 => hk1 q h1 (am_not h1 h2))
    have hRR2 : RR ke_1 fm_1 fl_1 fw_1 m_isKept m_many m_width := by
      rw [hrel.1, hrel.2.1, hrel.2.2.1, hrel.2.2.2]
      exact hRR
    refine lv_pop hx hb dL_law_1678 rfl ?_
    refine lv_goto (tgt := 1930) hx hb dL_law_1679 (by decide) ?_
    exact kk _ _ _ _ ⟨sl, ke_1, fm_1, fl_1, fw_1, m_isKept, m_many, m_width, hXE2, hB, hRR2, Nat.le_trans hSZ hz1, hsl, hce, hso⟩ hS1
  refine va_calli (va_runV (As := [.int v_1, .int v_2, .int v_3]) (rest := []) ⟨hx, hb, hml, hown, hts⟩ (wx_tell l dC dI cyI cyB cyJ cyZ cyH cyN cyM tR tF aK aV tg H.size x0 sl ke_f s_fm s_fl s_fw v_1 v_2 v_3) (cwV 3 hts (gdV wd_5_218 wd_5_219 wd_5_220 wd_1_1 wd_5_221) rfl rfl rfl (by decide +kernel) ⟨Nat.le_of_ble_eq_true rfl, Nat.le_of_ble_eq_true rfl⟩) (xp_pre hFIX hS hXE) rfl rfl hl.1 rfl (lv_room (Nat.le_of_ble_eq_true rfl)) dL_law_1655 ⟨show cells + 0 ≤ 600000 by omega, show slots + 0 ≤ 7302250 by omega⟩) hS (fun q _ h => ax_old hFIX hS q h) (ax_old hFIX hS) (fun r1 u t H1 locs1 ht hvm hw hB hz1 hk1 hS1 => ?_)
  replace hB : XE dC dI cyI cyB cyJ cyZ cyH cyN cyM tg x0 sl ke_f s_fm s_fl s_fw t.heap := hB
  rw [ht] at hB
  exact cont r1 H1 locs1 _ _ sl ke_f s_fm s_fl s_fw trivial ⟨rfl, rfl, rfl, rfl⟩ hB (hMI.go (fun q h1 h2 => hk1 q h1 (ax_not h1 h2))) (Nat.le_trans hSZ hz1) hsl (by omega) (by omega) hS1
set_option maxHeartbeats 4000000 in
set_option maxRecDepth 100000 in
theorem law_c60 {p : Program} {l : Launch} {e : Env} {s : State} {m : MethodId} {below : List Frame} {meth : Method} {c : Code} {b L : Nat} {xs : Nat → Int32} (hL : L ≤ 3072) (C0 : lw_At p s m meth c b L xs) {dC : Nat → ClassId} {dI : Nat → Nat → Nat} {cyI cyB cyJ cyZ cyH cyN cyM : ClassId} {tR tF : Nat} {aK aV : Nat → Nat} {tg : Nat → Nat} {SZ x0 m0 : Nat} (hFIX : FIX dC dI cyI cyB cyJ cyZ cyH cyN cyM tR tF aK aV tg SZ s) {i : Int32} (hi0 : 0 ≤ i.toInt) (hi : i.toInt + 6 ≤ (L : Int)) {ls : Array Slot} (hl : lv_has ls 4 [(3, .int i), (2, .ref m0), (1, .ref x0), (0, .ref b)]) (kk : ∀ (H : Heap) (locs : List Loc) (cells slots : Nat), INV dC dI cyI cyB cyJ cyZ cyH cyN cyM tg SZ x0 m0 H cells slots → va_S (fun q : Nat => s.heap.size ≤ q) s.heap H locs → W p l e room_1 s m #[Value.ref b] below meth c H locs cells slots (lw_Z below #[Value.ref b] s) (F0 m 1930 ls [])) {H : Heap} {locs : List Loc} {cells slots : Nat} (hI : INV dC dI cyI cyB cyJ cyZ cyH cyN cyM tg SZ x0 m0 H cells slots) (hS : va_S (fun q : Nat => s.heap.size ≤ q) s.heap H locs) : W p l e room_1 s m #[Value.ref b] below meth c H locs cells slots (lw_Z below #[Value.ref b] s) (F0 m 1682 ls []) := by
  obtain ⟨hx, hb, hr, hml, hown, hts0, hX, hbl, hlocks, hgv⟩ := id C0
  have hts : ∀ w ∈ uU, w.before #[Value.ref b] s = true := fun w h => hts0 w (uU_in h)
  have hbA : ¬ (fun q : Nat => s.heap.size ≤ q) b := Nat.not_le.mpr hbl
  refine lv_aload_n hx hb dL_law_1682 rfl (lv_at hl 2 rfl) ?_
  refine lv_aload_n hx hb dL_law_1683 rfl (lv_at hl 3 rfl) ?_
  refine lv_iload_n hx hb dL_law_1684 rfl (lv_at hl 0 rfl) ?_
  refine lv_iconst (v := 1) hx hb dL_law_1685 (by decide) ?_
  refine lv_iadd hx hb dL_law_1686 ?_
  refine va_sld hx hb hX hbl hbA hS (lw_ix hi0 hi hL (by decide)) dL_law_1687 ?_
  refine lv_topi (fun v_1 ev_1 => ?_)
  obtain ⟨sl, ke_f, s_fm, s_fl, s_fw, m_isKept, m_many, m_width, hXE, hMI, hRR, hSZ, hsl, hce, hso⟩ := hI
  have cont : ∀ (r : Int32) (H : Heap) (locs : List Loc) (cells slots sl : Nat) (ke_1 fm_1 fl_1 fw_1 : Nat → Int32), (True) → (ke_1 = ke_f ∧ fm_1 = s_fm ∧ fl_1 = s_fl ∧ fw_1 = s_fw) → XE dC dI cyI cyB cyJ cyZ cyH cyN cyM tg x0 sl ke_1 fm_1 fl_1 fw_1 H → MI dC dI cyI cyB cyJ cyZ cyH cyN cyM tg m0 m_isKept m_many m_width H → SZ ≤ H.size → (sl = 0 ∨ sl = 1) → cells ≤ 110 + 16 * sl → slots ≤ 15598 + 40501 * sl → va_S (fun q : Nat => s.heap.size ≤ q) s.heap H locs → W p l e room_1 s m #[Value.ref b] below meth c H locs cells slots (lw_Z below #[Value.ref b] s) (F0 m 1691 ls [.int r]) := by
    intro r H locs cells slots sl ke_1 fm_1 fl_1 fw_1 hw1 hrel hXE hMI hSZ hsl hce hso hS
    refine lv_pop hx hb dL_law_1691 rfl ?_
    refine lv_aload_n hx hb dL_law_1692 rfl (lv_at hl 1 rfl) ?_
    refine lv_aload_n hx hb dL_law_1693 rfl (lv_at hl 3 rfl) ?_
    refine lv_iload_n hx hb dL_law_1694 rfl (lv_at hl 0 rfl) ?_
    refine lv_iconst (v := 1) hx hb dL_law_1695 (by decide) ?_
    refine lv_iadd hx hb dL_law_1696 ?_
    refine va_sld hx hb hX hbl hbA hS (lw_ix hi0 hi hL (by decide)) dL_law_1697 ?_
    refine lv_topi (fun v_101 ev_101 => ?_)
    refine va_calli (va_runV (As := [.int v_101]) (rest := []) ⟨hx, hb, hml, hown, hts⟩ (wm_count l dC dI cyI cyB cyJ cyZ cyH cyN cyM tg H.size m0 m_isKept m_many m_width v_101) (cwV 1 hts (gdV wd_8_236 wd_8_237 wd_8_238 wd_1_11 wd_8_239) rfl rfl rfl (by decide +kernel) ⟨Nat.le_of_ble_eq_true rfl, Nat.le_of_ble_eq_true rfl⟩) (mp_pre hFIX hMI) rfl rfl hl.1 rfl (lv_room (Nat.le_of_ble_eq_true rfl)) dL_law_1698 ⟨show cells + 0 ≤ 600000 by omega, show slots + 0 ≤ 7302250 by omega⟩) hS (fun q _ h => am_old hFIX hS q h) (am_old hFIX hS) (fun r2 u t H1 locs1 ht hvm hw hB hz1 hk1 hS1 => ?_)
    replace hB : MI dC dI cyI cyB cyJ cyZ cyH cyN cyM tg m0 m_isKept m_many m_width t.heap := hB
    rw [ht] at hB
    have hXE2 := hXE.go (fun q h1 h2 => hk1 q h1 (am_not h1 h2))
    have hRR2 : RR ke_1 fm_1 fl_1 fw_1 m_isKept m_many m_width := by
      rw [hrel.1, hrel.2.1, hrel.2.2.1, hrel.2.2.2]
      exact hRR
    refine lv_pop hx hb dL_law_1701 rfl ?_
    refine lv_goto (tgt := 1930) hx hb dL_law_1702 (by decide) ?_
    exact kk _ _ _ _ ⟨sl, ke_1, fm_1, fl_1, fw_1, m_isKept, m_many, m_width, hXE2, hB, hRR2, Nat.le_trans hSZ hz1, hsl, hce, hso⟩ hS1
  refine va_calli (va_runV (As := [.int v_1]) (rest := []) ⟨hx, hb, hml, hown, hts⟩ (wx_count l dC dI cyI cyB cyJ cyZ cyH cyN cyM tR tF aK aV tg H.size x0 sl ke_f s_fm s_fl s_fw v_1) (cwV 1 hts (gdV wd_5_223 wd_5_224 wd_5_225 wd_1_1 wd_5_226) rfl rfl rfl (by decide +kernel) ⟨Nat.le_of_ble_eq_true rfl, Nat.le_of_ble_eq_true rfl⟩) (xp_pre hFIX hS hXE) rfl rfl hl.1 rfl (lv_room (Nat.le_of_ble_eq_true rfl)) dL_law_1688 ⟨show cells + 0 ≤ 600000 by omega, show slots + 0 ≤ 7302250 by omega⟩) hS (fun q _ h => ax_old hFIX hS q h) (ax_old hFIX hS) (fun r1 u t H1 locs1 ht hvm hw hB hz1 hk1 hS1 => ?_)
  replace hB : XE dC dI cyI cyB cyJ cyZ cyH cyN cyM tg x0 sl ke_f s_fm s_fl s_fw t.heap := hB
  rw [ht] at hB
  exact cont r1 H1 locs1 _ _ sl ke_f s_fm s_fl s_fw trivial ⟨rfl, rfl, rfl, rfl⟩ hB (hMI.go (fun q h1 h2 => hk1 q h1 (ax_not h1 h2))) (Nat.le_trans hSZ hz1) hsl (by omega) (by omega) hS1
set_option maxHeartbeats 4000000 in
set_option maxRecDepth 100000 in
theorem law_c61 {p : Program} {l : Launch} {e : Env} {s : State} {m : MethodId} {below : List Frame} {meth : Method} {c : Code} {b L : Nat} {xs : Nat → Int32} (hL : L ≤ 3072) (C0 : lw_At p s m meth c b L xs) {dC : Nat → ClassId} {dI : Nat → Nat → Nat} {cyI cyB cyJ cyZ cyH cyN cyM : ClassId} {tR tF : Nat} {aK aV : Nat → Nat} {tg : Nat → Nat} {SZ x0 m0 : Nat} (hFIX : FIX dC dI cyI cyB cyJ cyZ cyH cyN cyM tR tF aK aV tg SZ s) {i : Int32} (hi0 : 0 ≤ i.toInt) (hi : i.toInt + 6 ≤ (L : Int)) {ls : Array Slot} (hl : lv_has ls 4 [(3, .int i), (2, .ref m0), (1, .ref x0), (0, .ref b)]) (kk : ∀ (H : Heap) (locs : List Loc) (cells slots : Nat), INV dC dI cyI cyB cyJ cyZ cyH cyN cyM tg SZ x0 m0 H cells slots → va_S (fun q : Nat => s.heap.size ≤ q) s.heap H locs → W p l e room_1 s m #[Value.ref b] below meth c H locs cells slots (lw_Z below #[Value.ref b] s) (F0 m 1930 ls [])) {H : Heap} {locs : List Loc} {cells slots : Nat} (hI : INV dC dI cyI cyB cyJ cyZ cyH cyN cyM tg SZ x0 m0 H cells slots) (hS : va_S (fun q : Nat => s.heap.size ≤ q) s.heap H locs) : W p l e room_1 s m #[Value.ref b] below meth c H locs cells slots (lw_Z below #[Value.ref b] s) (F0 m 1705 ls []) := by
  obtain ⟨hx, hb, hr, hml, hown, hts0, hX, hbl, hlocks, hgv⟩ := id C0
  have hts : ∀ w ∈ uU, w.before #[Value.ref b] s = true := fun w h => hts0 w (uU_in h)
  have hbA : ¬ (fun q : Nat => s.heap.size ≤ q) b := Nat.not_le.mpr hbl
  refine lv_aload_n hx hb dL_law_1705 rfl (lv_at hl 2 rfl) ?_
  refine lv_aload_n hx hb dL_law_1706 rfl (lv_at hl 3 rfl) ?_
  refine lv_iload_n hx hb dL_law_1707 rfl (lv_at hl 0 rfl) ?_
  refine lv_iconst (v := 1) hx hb dL_law_1708 (by decide) ?_
  refine lv_iadd hx hb dL_law_1709 ?_
  refine va_sld hx hb hX hbl hbA hS (lw_ix hi0 hi hL (by decide)) dL_law_1710 ?_
  refine lv_topi (fun v_1 ev_1 => ?_)
  obtain ⟨sl, ke_f, s_fm, s_fl, s_fw, m_isKept, m_many, m_width, hXE, hMI, hRR, hSZ, hsl, hce, hso⟩ := hI
  have cont : ∀ (r : Int32) (H : Heap) (locs : List Loc) (cells slots sl : Nat) (ke_1 fm_1 fl_1 fw_1 : Nat → Int32), (r = ims v_1) → (kq v_1 ke_f ke_1 ∧ fm_1 = s_fm ∧ fl_1 = s_fl ∧ fw_1 = s_fw) → XE dC dI cyI cyB cyJ cyZ cyH cyN cyM tg x0 sl ke_1 fm_1 fl_1 fw_1 H → MI dC dI cyI cyB cyJ cyZ cyH cyN cyM tg m0 m_isKept m_many m_width H → SZ ≤ H.size → (sl = 0 ∨ sl = 1) → cells ≤ 110 + 16 * sl → slots ≤ 15598 + 40501 * sl → va_S (fun q : Nat => s.heap.size ≤ q) s.heap H locs → W p l e room_1 s m #[Value.ref b] below meth c H locs cells slots (lw_Z below #[Value.ref b] s) (F0 m 1714 ls [.int r]) := by
    intro r H locs cells slots sl ke_1 fm_1 fl_1 fw_1 hw1 hrel hXE hMI hSZ hsl hce hso hS
    refine lv_pop hx hb dL_law_1714 rfl ?_
    refine lv_aload_n hx hb dL_law_1715 rfl (lv_at hl 1 rfl) ?_
    refine lv_aload_n hx hb dL_law_1716 rfl (lv_at hl 3 rfl) ?_
    refine lv_iload_n hx hb dL_law_1717 rfl (lv_at hl 0 rfl) ?_
    refine lv_iconst (v := 1) hx hb dL_law_1718 (by decide) ?_
    refine lv_iadd hx hb dL_law_1719 ?_
    refine va_sld hx hb hX hbl hbA hS (lw_ix hi0 hi hL (by decide)) dL_law_1720 ?_
    refine lv_topi (fun v_101 ev_101 => ?_)
    refine va_calli (va_runV (As := [.int v_101]) (rest := []) ⟨hx, hb, hml, hown, hts⟩ (wm_image l dC dI cyI cyB cyJ cyZ cyH cyN cyM tg H.size m0 m_isKept m_many m_width v_101) (cwV 1 hts (gdV wd_9_0 wd_9_1 wd_9_2 wd_1_11 wd_9_3) rfl rfl rfl (by decide +kernel) ⟨Nat.le_of_ble_eq_true rfl, Nat.le_of_ble_eq_true rfl⟩) (mp_pre hFIX hMI) rfl rfl hl.1 rfl (lv_room (Nat.le_of_ble_eq_true rfl)) dL_law_1721 ⟨show cells + 0 ≤ 600000 by omega, show slots + 0 ≤ 7302250 by omega⟩) hS (fun q _ h => am_old hFIX hS q h) (am_old hFIX hS) (fun r2 u t H1 locs1 ht hvm hw hB hz1 hk1 hS1 => ?_)
    replace hB : ∃ k' : Nat → Int32, kq v_101 m_isKept k' ∧ MI dC dI cyI cyB cyJ cyZ cyH cyN cyM tg m0 k' m_many m_width t.heap := hB
    rw [ht] at hB
    have hXE2 := hXE.go (fun q h1 h2 => hk1 q h1 (am_not h1 h2))
    obtain ⟨k9, hq9, hM9⟩ := hB
    have qv_101 : v_101 = v_1 := ev_101.trans ev_1.symm
    have hRR2 : RR ke_1 fm_1 fl_1 fw_1 k9 m_many m_width := by
      rw [qv_101] at hq9
      rw [hrel.2.1, hrel.2.2.1, hrel.2.2.2]
      exact hRR.image hrel.1 hq9
    refine lv_pop hx hb dL_law_1724 rfl ?_
    refine lv_goto (tgt := 1930) hx hb dL_law_1725 (by decide) ?_
    exact kk _ _ _ _ ⟨sl, ke_1, fm_1, fl_1, fw_1, k9, m_many, m_width, hXE2, hM9, hRR2, Nat.le_trans hSZ hz1, hsl, hce, hso⟩ hS1
  refine va_calli (va_runV (As := [.int v_1]) (rest := []) ⟨hx, hb, hml, hown, hts⟩ (wx_image l dC dI cyI cyB cyJ cyZ cyH cyN cyM tR tF aK aV tg H.size x0 sl ke_f s_fm s_fl s_fw v_1) (cwV 1 hts (gdV wd_5_236 wd_5_237 wd_5_238 wd_1_1 wd_5_239) rfl rfl rfl (by decide +kernel) ⟨Nat.le_of_ble_eq_true rfl, Nat.le_of_ble_eq_true rfl⟩) (xp_pre hFIX hS hXE) rfl rfl hl.1 rfl (lv_room (Nat.le_of_ble_eq_true rfl)) dL_law_1711 ⟨show cells + 0 ≤ 600000 by omega, show slots + 0 ≤ 7302250 by omega⟩) hS (fun q _ h => ax_old hFIX hS q h) (ax_old hFIX hS) (fun r1 u t H1 locs1 ht hvm hw hB hz1 hk1 hS1 => ?_)
  replace hB : ∃ fk' : Nat → Int32, kq v_1 ke_f fk' ∧ XE dC dI cyI cyB cyJ cyZ cyH cyN cyM tg x0 sl fk' s_fm s_fl s_fw t.heap := hB
  rw [ht] at hB
  obtain ⟨fk9, hq9, hX9⟩ := hB
  exact cont r1 H1 locs1 _ _ sl fk9 s_fm s_fl s_fw hw ⟨hq9, rfl, rfl, rfl⟩ hX9 (hMI.go (fun q h1 h2 => hk1 q h1 (ax_not h1 h2))) (Nat.le_trans hSZ hz1) hsl (by omega) (by omega) hS1
set_option maxHeartbeats 4000000 in
set_option maxRecDepth 100000 in
theorem law_c62 {p : Program} {l : Launch} {e : Env} {s : State} {m : MethodId} {below : List Frame} {meth : Method} {c : Code} {b L : Nat} {xs : Nat → Int32} (hL : L ≤ 3072) (C0 : lw_At p s m meth c b L xs) {dC : Nat → ClassId} {dI : Nat → Nat → Nat} {cyI cyB cyJ cyZ cyH cyN cyM : ClassId} {tR tF : Nat} {aK aV : Nat → Nat} {tg : Nat → Nat} {SZ x0 m0 : Nat} (hFIX : FIX dC dI cyI cyB cyJ cyZ cyH cyN cyM tR tF aK aV tg SZ s) {i : Int32} (hi0 : 0 ≤ i.toInt) (hi : i.toInt + 6 ≤ (L : Int)) {ls : Array Slot} (hl : lv_has ls 4 [(3, .int i), (2, .ref m0), (1, .ref x0), (0, .ref b)]) (kk : ∀ (H : Heap) (locs : List Loc) (cells slots : Nat), INV dC dI cyI cyB cyJ cyZ cyH cyN cyM tg SZ x0 m0 H cells slots → va_S (fun q : Nat => s.heap.size ≤ q) s.heap H locs → W p l e room_1 s m #[Value.ref b] below meth c H locs cells slots (lw_Z below #[Value.ref b] s) (F0 m 1930 ls [])) {H : Heap} {locs : List Loc} {cells slots : Nat} (hI : INV dC dI cyI cyB cyJ cyZ cyH cyN cyM tg SZ x0 m0 H cells slots) (hS : va_S (fun q : Nat => s.heap.size ≤ q) s.heap H locs) : W p l e room_1 s m #[Value.ref b] below meth c H locs cells slots (lw_Z below #[Value.ref b] s) (F0 m 1728 ls []) := by
  obtain ⟨hx, hb, hr, hml, hown, hts0, hX, hbl, hlocks, hgv⟩ := id C0
  have hts : ∀ w ∈ uU, w.before #[Value.ref b] s = true := fun w h => hts0 w (uU_in h)
  have hbA : ¬ (fun q : Nat => s.heap.size ≤ q) b := Nat.not_le.mpr hbl
  refine lv_aload_n hx hb dL_law_1728 rfl (lv_at hl 2 rfl) ?_
  refine lv_aload_n hx hb dL_law_1729 rfl (lv_at hl 3 rfl) ?_
  refine lv_iload_n hx hb dL_law_1730 rfl (lv_at hl 0 rfl) ?_
  refine lv_iconst (v := 1) hx hb dL_law_1731 (by decide) ?_
  refine lv_iadd hx hb dL_law_1732 ?_
  refine va_sld hx hb hX hbl hbA hS (lw_ix hi0 hi hL (by decide)) dL_law_1733 ?_
  refine lv_topi (fun v_1 ev_1 => ?_)
  obtain ⟨sl, ke_f, s_fm, s_fl, s_fw, m_isKept, m_many, m_width, hXE, hMI, hRR, hSZ, hsl, hce, hso⟩ := hI
  have cont : ∀ (r : Int32) (H : Heap) (locs : List Loc) (cells slots sl : Nat) (ke_1 fm_1 fl_1 fw_1 : Nat → Int32), (r = bks v_1 ke_f) → (ke_1 = ke_f ∧ fm_1 = s_fm ∧ fl_1 = s_fl ∧ fw_1 = s_fw) → XE dC dI cyI cyB cyJ cyZ cyH cyN cyM tg x0 sl ke_1 fm_1 fl_1 fw_1 H → MI dC dI cyI cyB cyJ cyZ cyH cyN cyM tg m0 m_isKept m_many m_width H → SZ ≤ H.size → (sl = 0 ∨ sl = 1) → cells ≤ 110 + 16 * sl → slots ≤ 15598 + 40501 * sl → va_S (fun q : Nat => s.heap.size ≤ q) s.heap H locs → W p l e room_1 s m #[Value.ref b] below meth c H locs cells slots (lw_Z below #[Value.ref b] s) (F0 m 1737 ls [.int r]) := by
    intro r H locs cells slots sl ke_1 fm_1 fl_1 fw_1 hw1 hrel hXE hMI hSZ hsl hce hso hS
    refine lv_pop hx hb dL_law_1737 rfl ?_
    refine lv_aload_n hx hb dL_law_1738 rfl (lv_at hl 1 rfl) ?_
    refine lv_aload_n hx hb dL_law_1739 rfl (lv_at hl 3 rfl) ?_
    refine lv_iload_n hx hb dL_law_1740 rfl (lv_at hl 0 rfl) ?_
    refine lv_iconst (v := 1) hx hb dL_law_1741 (by decide) ?_
    refine lv_iadd hx hb dL_law_1742 ?_
    refine va_sld hx hb hX hbl hbA hS (lw_ix hi0 hi hL (by decide)) dL_law_1743 ?_
    refine lv_topi (fun v_101 ev_101 => ?_)
    refine va_calli (va_runV (As := [.int v_101]) (rest := []) ⟨hx, hb, hml, hown, hts⟩ (wm_back l dC dI cyI cyB cyJ cyZ cyH cyN cyM tg H.size m0 m_isKept m_many m_width v_101) (cwV 1 hts (gdV wd_9_5 wd_9_6 wd_9_7 wd_1_11 wd_9_8) rfl rfl rfl (by decide +kernel) ⟨Nat.le_of_ble_eq_true rfl, Nat.le_of_ble_eq_true rfl⟩) (mp_pre hFIX hMI) rfl rfl hl.1 rfl (lv_room (Nat.le_of_ble_eq_true rfl)) dL_law_1744 ⟨show cells + 0 ≤ 600000 by omega, show slots + 0 ≤ 7302250 by omega⟩) hS (fun q _ h => am_old hFIX hS q h) (am_old hFIX hS) (fun r2 u t H1 locs1 ht hvm hw hB hz1 hk1 hS1 => ?_)
    replace hB : MI dC dI cyI cyB cyJ cyZ cyH cyN cyM tg m0 m_isKept m_many m_width t.heap := hB
    rw [ht] at hB
    have hXE2 := hXE.go (fun q h1 h2 => hk1 q h1 (am_not h1 h2))
    have qv_101 : v_101 = v_1 := ev_101.trans ev_1.symm
    have hRR2 : RR ke_1 fm_1 fl_1 fw_1 m_isKept m_many m_width := by
      rw [hrel.1, hrel.2.1, hrel.2.2.1, hrel.2.2.2]
      exact hRR
    refine lv_pop hx hb dL_law_1747 rfl ?_
    refine lv_goto (tgt := 1930) hx hb dL_law_1748 (by decide) ?_
    exact kk _ _ _ _ ⟨sl, ke_1, fm_1, fl_1, fw_1, m_isKept, m_many, m_width, hXE2, hB, hRR2, Nat.le_trans hSZ hz1, hsl, hce, hso⟩ hS1
  refine va_calli (va_runV (As := [.int v_1]) (rest := []) ⟨hx, hb, hml, hown, hts⟩ (wx_back l dC dI cyI cyB cyJ cyZ cyH cyN cyM tR tF aK aV tg H.size x0 sl ke_f s_fm s_fl s_fw v_1) (cwV 1 hts (gdV wd_6_0 wd_6_1 wd_6_2 wd_1_1 wd_6_3) rfl rfl rfl (by decide +kernel) ⟨Nat.le_of_ble_eq_true rfl, Nat.le_of_ble_eq_true rfl⟩) (xp_pre hFIX hS hXE) rfl rfl hl.1 rfl (lv_room (Nat.le_of_ble_eq_true rfl)) dL_law_1734 ⟨show cells + 0 ≤ 600000 by omega, show slots + 0 ≤ 7302250 by omega⟩) hS (fun q _ h => ax_old hFIX hS q h) (ax_old hFIX hS) (fun r1 u t H1 locs1 ht hvm hw hB hz1 hk1 hS1 => ?_)
  replace hB : XE dC dI cyI cyB cyJ cyZ cyH cyN cyM tg x0 sl ke_f s_fm s_fl s_fw t.heap := hB
  rw [ht] at hB
  exact cont r1 H1 locs1 _ _ sl ke_f s_fm s_fl s_fw hw ⟨rfl, rfl, rfl, rfl⟩ hB (hMI.go (fun q h1 h2 => hk1 q h1 (ax_not h1 h2))) (Nat.le_trans hSZ hz1) hsl (by omega) (by omega) hS1
set_option maxHeartbeats 4000000 in
set_option maxRecDepth 100000 in
theorem law_c63 {p : Program} {l : Launch} {e : Env} {s : State} {m : MethodId} {below : List Frame} {meth : Method} {c : Code} {b L : Nat} {xs : Nat → Int32} (hL : L ≤ 3072) (C0 : lw_At p s m meth c b L xs) {dC : Nat → ClassId} {dI : Nat → Nat → Nat} {cyI cyB cyJ cyZ cyH cyN cyM : ClassId} {tR tF : Nat} {aK aV : Nat → Nat} {tg : Nat → Nat} {SZ x0 m0 : Nat} (hFIX : FIX dC dI cyI cyB cyJ cyZ cyH cyN cyM tR tF aK aV tg SZ s) {i : Int32} (hi0 : 0 ≤ i.toInt) (hi : i.toInt + 6 ≤ (L : Int)) {ls : Array Slot} (hl : lv_has ls 4 [(3, .int i), (2, .ref m0), (1, .ref x0), (0, .ref b)]) (kk : ∀ (H : Heap) (locs : List Loc) (cells slots : Nat), INV dC dI cyI cyB cyJ cyZ cyH cyN cyM tg SZ x0 m0 H cells slots → va_S (fun q : Nat => s.heap.size ≤ q) s.heap H locs → W p l e room_1 s m #[Value.ref b] below meth c H locs cells slots (lw_Z below #[Value.ref b] s) (F0 m 1930 ls [])) {H : Heap} {locs : List Loc} {cells slots : Nat} (hI : INV dC dI cyI cyB cyJ cyZ cyH cyN cyM tg SZ x0 m0 H cells slots) (hS : va_S (fun q : Nat => s.heap.size ≤ q) s.heap H locs) : W p l e room_1 s m #[Value.ref b] below meth c H locs cells slots (lw_Z below #[Value.ref b] s) (F0 m 1751 ls []) := by
  obtain ⟨hx, hb, hr, hml, hown, hts0, hX, hbl, hlocks, hgv⟩ := id C0
  have hts : ∀ w ∈ uU, w.before #[Value.ref b] s = true := fun w h => hts0 w (uU_in h)
  have hbA : ¬ (fun q : Nat => s.heap.size ≤ q) b := Nat.not_le.mpr hbl
  refine lv_aload_n hx hb dL_law_1751 rfl (lv_at hl 2 rfl) ?_
  refine lv_aload_n hx hb dL_law_1752 rfl (lv_at hl 3 rfl) ?_
  refine lv_iload_n hx hb dL_law_1753 rfl (lv_at hl 0 rfl) ?_
  refine lv_iconst (v := 1) hx hb dL_law_1754 (by decide) ?_
  refine lv_iadd hx hb dL_law_1755 ?_
  refine va_sld hx hb hX hbl hbA hS (lw_ix hi0 hi hL (by decide)) dL_law_1756 ?_
  refine lv_topi (fun v_1 ev_1 => ?_)
  refine lv_aload_n hx hb dL_law_1757 rfl (lv_at hl 3 rfl) ?_
  refine lv_iload_n hx hb dL_law_1758 rfl (lv_at hl 0 rfl) ?_
  refine lv_iconst (v := 2) hx hb dL_law_1759 (by decide) ?_
  refine lv_iadd hx hb dL_law_1760 ?_
  refine va_sld hx hb hX hbl hbA hS (lw_ix hi0 hi hL (by decide)) dL_law_1761 ?_
  refine lv_topi (fun v_2 ev_2 => ?_)
  refine lv_aload_n hx hb dL_law_1762 rfl (lv_at hl 3 rfl) ?_
  refine lv_iload_n hx hb dL_law_1763 rfl (lv_at hl 0 rfl) ?_
  refine lv_iconst (v := 3) hx hb dL_law_1764 (by decide) ?_
  refine lv_iadd hx hb dL_law_1765 ?_
  refine va_sld hx hb hX hbl hbA hS (lw_ix hi0 hi hL (by decide)) dL_law_1766 ?_
  refine lv_topi (fun v_3 ev_3 => ?_)
  obtain ⟨sl, ke_f, s_fm, s_fl, s_fw, m_isKept, m_many, m_width, hXE, hMI, hRR, hSZ, hsl, hce, hso⟩ := hI
  have cont : ∀ (r : Int32) (H : Heap) (locs : List Loc) (cells slots sl : Nat) (ke_1 fm_1 fl_1 fw_1 : Nat → Int32), (r = rws v_1 v_2 v_3) → (rwq v_1 v_2 v_3 s_fm s_fl s_fw fm_1 fl_1 fw_1 ∧ ke_1 = ke_f) → XE dC dI cyI cyB cyJ cyZ cyH cyN cyM tg x0 sl ke_1 fm_1 fl_1 fw_1 H → MI dC dI cyI cyB cyJ cyZ cyH cyN cyM tg m0 m_isKept m_many m_width H → SZ ≤ H.size → (sl = 0 ∨ sl = 1) → cells ≤ 110 + 16 * sl → slots ≤ 15598 + 40501 * sl → va_S (fun q : Nat => s.heap.size ≤ q) s.heap H locs → W p l e room_1 s m #[Value.ref b] below meth c H locs cells slots (lw_Z below #[Value.ref b] s) (F0 m 1770 ls [.int r]) := by
    intro r H locs cells slots sl ke_1 fm_1 fl_1 fw_1 hw1 hrel hXE hMI hSZ hsl hce hso hS
    refine lv_pop hx hb dL_law_1770 rfl ?_
    refine lv_aload_n hx hb dL_law_1771 rfl (lv_at hl 1 rfl) ?_
    refine lv_aload_n hx hb dL_law_1772 rfl (lv_at hl 3 rfl) ?_
    refine lv_iload_n hx hb dL_law_1773 rfl (lv_at hl 0 rfl) ?_
    refine lv_iconst (v := 1) hx hb dL_law_1774 (by decide) ?_
    refine lv_iadd hx hb dL_law_1775 ?_
    refine va_sld hx hb hX hbl hbA hS (lw_ix hi0 hi hL (by decide)) dL_law_1776 ?_
    refine lv_topi (fun v_101 ev_101 => ?_)
    refine lv_aload_n hx hb dL_law_1777 rfl (lv_at hl 3 rfl) ?_
    refine lv_iload_n hx hb dL_law_1778 rfl (lv_at hl 0 rfl) ?_
    refine lv_iconst (v := 2) hx hb dL_law_1779 (by decide) ?_
    refine lv_iadd hx hb dL_law_1780 ?_
    refine va_sld hx hb hX hbl hbA hS (lw_ix hi0 hi hL (by decide)) dL_law_1781 ?_
    refine lv_topi (fun v_102 ev_102 => ?_)
    refine lv_aload_n hx hb dL_law_1782 rfl (lv_at hl 3 rfl) ?_
    refine lv_iload_n hx hb dL_law_1783 rfl (lv_at hl 0 rfl) ?_
    refine lv_iconst (v := 3) hx hb dL_law_1784 (by decide) ?_
    refine lv_iadd hx hb dL_law_1785 ?_
    refine va_sld hx hb hX hbl hbA hS (lw_ix hi0 hi hL (by decide)) dL_law_1786 ?_
    refine lv_topi (fun v_103 ev_103 => ?_)
    refine va_calli (va_runV (As := [.int v_101, .int v_102, .int v_103]) (rest := []) ⟨hx, hb, hml, hown, hts⟩ (wm_row l dC dI cyI cyB cyJ cyZ cyH cyN cyM tg H.size m0 m_isKept m_many m_width v_101 v_102 v_103) (cwV 3 hts (gdV wd_6_170 wd_6_171 wd_6_172 wd_1_11 wd_6_173) rfl rfl rfl (by decide +kernel) ⟨Nat.le_of_ble_eq_true rfl, Nat.le_of_ble_eq_true rfl⟩) (mp_pre hFIX hMI) rfl rfl hl.1 rfl (lv_room (Nat.le_of_ble_eq_true rfl)) dL_law_1787 ⟨show cells + 0 ≤ 600000 by omega, show slots + 0 ≤ 7302250 by omega⟩) hS (fun q _ h => am_old hFIX hS q h) (am_old hFIX hS) (fun r2 u t H1 locs1 ht hvm hw hB hz1 hk1 hS1 => ?_)
    replace hB : ∃ w' n' : Nat → Int32, rmq v_101 v_102 v_103 m_width m_many w' n' ∧ MI dC dI cyI cyB cyJ cyZ cyH cyN cyM tg m0 m_isKept n' w' t.heap := hB
    rw [ht] at hB
    have hXE2 := hXE.go (fun q h1 h2 => hk1 q h1 (am_not h1 h2))
    obtain ⟨w9, n9, hq9, hM9⟩ := hB
    have qv_101 : v_101 = v_1 := ev_101.trans ev_1.symm
    have qv_102 : v_102 = v_2 := ev_102.trans ev_2.symm
    have qv_103 : v_103 = v_3 := ev_103.trans ev_3.symm
    have hRR2 : RR ke_1 fm_1 fl_1 fw_1 m_isKept n9 w9 := by
      rw [qv_101, qv_102, qv_103] at hq9
      rw [hrel.2]
      exact hRR.row hrel.1 hq9
    refine lv_pop hx hb dL_law_1790 rfl ?_
    refine lv_goto (tgt := 1930) hx hb dL_law_1791 (by decide) ?_
    exact kk _ _ _ _ ⟨sl, ke_1, fm_1, fl_1, fw_1, m_isKept, n9, w9, hXE2, hM9, hRR2, Nat.le_trans hSZ hz1, hsl, hce, hso⟩ hS1
  refine va_calli (va_runV (As := [.int v_1, .int v_2, .int v_3]) (rest := []) ⟨hx, hb, hml, hown, hts⟩ (wx_row l dC dI cyI cyB cyJ cyZ cyH cyN cyM tR tF aK aV tg H.size x0 sl ke_f s_fm s_fl s_fw v_1 v_2 v_3) (cwV 3 hts (gdV wd_6_4 wd_6_5 wd_6_6 wd_1_1 wd_6_7) rfl rfl rfl (by decide +kernel) ⟨Nat.le_of_ble_eq_true rfl, Nat.le_of_ble_eq_true rfl⟩) (xp_pre hFIX hS hXE) rfl rfl hl.1 rfl (lv_room (Nat.le_of_ble_eq_true rfl)) dL_law_1767 ⟨show cells + 0 ≤ 600000 by omega, show slots + 0 ≤ 7302250 by omega⟩) hS (fun q _ h => ax_old hFIX hS q h) (ax_old hFIX hS) (fun r1 u t H1 locs1 ht hvm hw hB hz1 hk1 hS1 => ?_)
  replace hB : ∃ fm' fl' fw' : Nat → Int32, rwq v_1 v_2 v_3 s_fm s_fl s_fw fm' fl' fw' ∧ XE dC dI cyI cyB cyJ cyZ cyH cyN cyM tg x0 sl ke_f fm' fl' fw' t.heap := hB
  rw [ht] at hB
  obtain ⟨fm9, fl9, fw9, hq9, hX9⟩ := hB
  exact cont r1 H1 locs1 _ _ sl ke_f fm9 fl9 fw9 hw ⟨hq9, rfl⟩ hX9 (hMI.go (fun q h1 h2 => hk1 q h1 (ax_not h1 h2))) (Nat.le_trans hSZ hz1) hsl (by omega) (by omega) hS1
set_option maxHeartbeats 4000000 in
set_option maxRecDepth 100000 in
theorem law_c64 {p : Program} {l : Launch} {e : Env} {s : State} {m : MethodId} {below : List Frame} {meth : Method} {c : Code} {b L : Nat} {xs : Nat → Int32} (hL : L ≤ 3072) (C0 : lw_At p s m meth c b L xs) {dC : Nat → ClassId} {dI : Nat → Nat → Nat} {cyI cyB cyJ cyZ cyH cyN cyM : ClassId} {tR tF : Nat} {aK aV : Nat → Nat} {tg : Nat → Nat} {SZ x0 m0 : Nat} (hFIX : FIX dC dI cyI cyB cyJ cyZ cyH cyN cyM tR tF aK aV tg SZ s) {i : Int32} (hi0 : 0 ≤ i.toInt) (hi : i.toInt + 6 ≤ (L : Int)) {ls : Array Slot} (hl : lv_has ls 4 [(3, .int i), (2, .ref m0), (1, .ref x0), (0, .ref b)]) (kk : ∀ (H : Heap) (locs : List Loc) (cells slots : Nat), INV dC dI cyI cyB cyJ cyZ cyH cyN cyM tg SZ x0 m0 H cells slots → va_S (fun q : Nat => s.heap.size ≤ q) s.heap H locs → W p l e room_1 s m #[Value.ref b] below meth c H locs cells slots (lw_Z below #[Value.ref b] s) (F0 m 1930 ls [])) {H : Heap} {locs : List Loc} {cells slots : Nat} (hI : INV dC dI cyI cyB cyJ cyZ cyH cyN cyM tg SZ x0 m0 H cells slots) (hS : va_S (fun q : Nat => s.heap.size ≤ q) s.heap H locs) : W p l e room_1 s m #[Value.ref b] below meth c H locs cells slots (lw_Z below #[Value.ref b] s) (F0 m 1794 ls []) := by
  obtain ⟨hx, hb, hr, hml, hown, hts0, hX, hbl, hlocks, hgv⟩ := id C0
  have hts : ∀ w ∈ uU, w.before #[Value.ref b] s = true := fun w h => hts0 w (uU_in h)
  have hbA : ¬ (fun q : Nat => s.heap.size ≤ q) b := Nat.not_le.mpr hbl
  refine lv_aload_n hx hb dL_law_1794 rfl (lv_at hl 2 rfl) ?_
  refine lv_aload_n hx hb dL_law_1795 rfl (lv_at hl 3 rfl) ?_
  refine lv_iload_n hx hb dL_law_1796 rfl (lv_at hl 0 rfl) ?_
  refine lv_iconst (v := 1) hx hb dL_law_1797 (by decide) ?_
  refine lv_iadd hx hb dL_law_1798 ?_
  refine va_sld hx hb hX hbl hbA hS (lw_ix hi0 hi hL (by decide)) dL_law_1799 ?_
  refine lv_topi (fun v_1 ev_1 => ?_)
  refine lv_aload_n hx hb dL_law_1800 rfl (lv_at hl 3 rfl) ?_
  refine lv_iload_n hx hb dL_law_1801 rfl (lv_at hl 0 rfl) ?_
  refine lv_iconst (v := 2) hx hb dL_law_1802 (by decide) ?_
  refine lv_iadd hx hb dL_law_1803 ?_
  refine va_sld hx hb hX hbl hbA hS (lw_ix hi0 hi hL (by decide)) dL_law_1804 ?_
  refine lv_topi (fun v_2 ev_2 => ?_)
  refine lv_aload_n hx hb dL_law_1805 rfl (lv_at hl 3 rfl) ?_
  refine lv_iload_n hx hb dL_law_1806 rfl (lv_at hl 0 rfl) ?_
  refine lv_iconst (v := 3) hx hb dL_law_1807 (by decide) ?_
  refine lv_iadd hx hb dL_law_1808 ?_
  refine va_sld hx hb hX hbl hbA hS (lw_ix hi0 hi hL (by decide)) dL_law_1809 ?_
  refine lv_topi (fun v_3 ev_3 => ?_)
  refine lv_i2l hx hb dL_law_1810 rfl ?_
  refine lv_topl (fun v_4 ev_4 => ?_)
  refine lv_bipush (v := 32) hx hb dL_law_1811 (by decide) ?_
  refine lv_lshl hx hb dL_law_1813 rfl ?_
  refine lv_topl (fun v_5 ev_5 => ?_)
  refine lv_aload_n hx hb dL_law_1814 rfl (lv_at hl 3 rfl) ?_
  refine lv_iload_n hx hb dL_law_1815 rfl (lv_at hl 0 rfl) ?_
  refine lv_iconst (v := 4) hx hb dL_law_1816 (by decide) ?_
  refine lv_iadd hx hb dL_law_1817 ?_
  refine va_sld hx hb hX hbl hbA hS (lw_ix hi0 hi hL (by decide)) dL_law_1818 ?_
  refine lv_topi (fun v_6 ev_6 => ?_)
  refine lv_i2l hx hb dL_law_1819 rfl ?_
  refine lv_topl (fun v_7 ev_7 => ?_)
  refine lv_ldc2 (v := 4294967295) hx hb hown (hts _ wd_9_9) dL_law_1820 ?_
  refine lv_land hx hb dL_law_1823 ?_
  refine lv_topl (fun v_8 ev_8 => ?_)
  refine lv_lor hx hb dL_law_1824 ?_
  refine lv_topl (fun v_9 ev_9 => ?_)
  obtain ⟨sl, ke_f, s_fm, s_fl, s_fw, m_isKept, m_many, m_width, hXE, hMI, hRR, hSZ, hsl, hce, hso⟩ := hI
  have cont : ∀ (r : Int32) (H : Heap) (locs : List Loc) (cells slots sl : Nat) (ke_1 fm_1 fl_1 fw_1 : Nat → Int32), (r = wrs v_1 v_2 s_fm s_fl) → (ke_1 = ke_f ∧ fm_1 = s_fm ∧ fl_1 = s_fl ∧ fw_1 = s_fw) → XE dC dI cyI cyB cyJ cyZ cyH cyN cyM tg x0 sl ke_1 fm_1 fl_1 fw_1 H → MI dC dI cyI cyB cyJ cyZ cyH cyN cyM tg m0 m_isKept m_many m_width H → SZ ≤ H.size → (sl = 0 ∨ sl = 1) → cells ≤ 110 + 16 * sl → slots ≤ 15598 + 40501 * sl → va_S (fun q : Nat => s.heap.size ≤ q) s.heap H locs → W p l e room_1 s m #[Value.ref b] below meth c H locs cells slots (lw_Z below #[Value.ref b] s) (F0 m 1828 ls [.int r]) := by
    intro r H locs cells slots sl ke_1 fm_1 fl_1 fw_1 hw1 hrel hXE hMI hSZ hsl hce hso hS
    refine lv_pop hx hb dL_law_1828 rfl ?_
    refine lv_aload_n hx hb dL_law_1829 rfl (lv_at hl 1 rfl) ?_
    refine lv_aload_n hx hb dL_law_1830 rfl (lv_at hl 3 rfl) ?_
    refine lv_iload_n hx hb dL_law_1831 rfl (lv_at hl 0 rfl) ?_
    refine lv_iconst (v := 1) hx hb dL_law_1832 (by decide) ?_
    refine lv_iadd hx hb dL_law_1833 ?_
    refine va_sld hx hb hX hbl hbA hS (lw_ix hi0 hi hL (by decide)) dL_law_1834 ?_
    refine lv_topi (fun v_101 ev_101 => ?_)
    refine lv_aload_n hx hb dL_law_1835 rfl (lv_at hl 3 rfl) ?_
    refine lv_iload_n hx hb dL_law_1836 rfl (lv_at hl 0 rfl) ?_
    refine lv_iconst (v := 2) hx hb dL_law_1837 (by decide) ?_
    refine lv_iadd hx hb dL_law_1838 ?_
    refine va_sld hx hb hX hbl hbA hS (lw_ix hi0 hi hL (by decide)) dL_law_1839 ?_
    refine lv_topi (fun v_102 ev_102 => ?_)
    refine lv_aload_n hx hb dL_law_1840 rfl (lv_at hl 3 rfl) ?_
    refine lv_iload_n hx hb dL_law_1841 rfl (lv_at hl 0 rfl) ?_
    refine lv_iconst (v := 3) hx hb dL_law_1842 (by decide) ?_
    refine lv_iadd hx hb dL_law_1843 ?_
    refine va_sld hx hb hX hbl hbA hS (lw_ix hi0 hi hL (by decide)) dL_law_1844 ?_
    refine lv_topi (fun v_103 ev_103 => ?_)
    refine lv_i2l hx hb dL_law_1845 rfl ?_
    refine lv_topl (fun v_104 ev_104 => ?_)
    refine lv_bipush (v := 32) hx hb dL_law_1846 (by decide) ?_
    refine lv_lshl hx hb dL_law_1848 rfl ?_
    refine lv_topl (fun v_105 ev_105 => ?_)
    refine lv_aload_n hx hb dL_law_1849 rfl (lv_at hl 3 rfl) ?_
    refine lv_iload_n hx hb dL_law_1850 rfl (lv_at hl 0 rfl) ?_
    refine lv_iconst (v := 4) hx hb dL_law_1851 (by decide) ?_
    refine lv_iadd hx hb dL_law_1852 ?_
    refine va_sld hx hb hX hbl hbA hS (lw_ix hi0 hi hL (by decide)) dL_law_1853 ?_
    refine lv_topi (fun v_106 ev_106 => ?_)
    refine lv_i2l hx hb dL_law_1854 rfl ?_
    refine lv_topl (fun v_107 ev_107 => ?_)
    refine lv_ldc2 (v := 4294967295) hx hb hown (hts _ wd_9_9) dL_law_1855 ?_
    refine lv_land hx hb dL_law_1858 ?_
    refine lv_topl (fun v_108 ev_108 => ?_)
    refine lv_lor hx hb dL_law_1859 ?_
    refine lv_topl (fun v_109 ev_109 => ?_)
    refine va_calli (va_runV (As := [.int v_101, .int v_102, .long v_109]) (rest := []) ⟨hx, hb, hml, hown, hts⟩ (wm_write l dC dI cyI cyB cyJ cyZ cyH cyN cyM tg H.size m0 m_isKept m_many m_width v_101 v_102 v_109) (cwV 3 hts (gdV wd_6_181 wd_6_182 wd_6_183 wd_1_11 wd_6_184) rfl rfl rfl (by decide +kernel) ⟨Nat.le_of_ble_eq_true rfl, Nat.le_of_ble_eq_true rfl⟩) (mp_pre hFIX hMI) rfl rfl hl.1 rfl (lv_room (Nat.le_of_ble_eq_true rfl)) dL_law_1860 ⟨show cells + 0 ≤ 600000 by omega, show slots + 0 ≤ 7302250 by omega⟩) hS (fun q _ h => am_old hFIX hS q h) (am_old hFIX hS) (fun r2 u t H1 locs1 ht hvm hw hB hz1 hk1 hS1 => ?_)
    replace hB : MI dC dI cyI cyB cyJ cyZ cyH cyN cyM tg m0 m_isKept m_many m_width t.heap := hB
    rw [ht] at hB
    have hXE2 := hXE.go (fun q h1 h2 => hk1 q h1 (am_not h1 h2))
    have qv_101 : v_101 = v_1 := ev_101.trans ev_1.symm
    have qv_102 : v_102 = v_2 := ev_102.trans ev_2.symm
    have hRR2 : RR ke_1 fm_1 fl_1 fw_1 m_isKept m_many m_width := by
      rw [hrel.1, hrel.2.1, hrel.2.2.1, hrel.2.2.2]
      exact hRR
    refine lv_pop hx hb dL_law_1863 rfl ?_
    refine lv_goto (tgt := 1930) hx hb dL_law_1864 (by decide) ?_
    exact kk _ _ _ _ ⟨sl, ke_1, fm_1, fl_1, fw_1, m_isKept, m_many, m_width, hXE2, hB, hRR2, Nat.le_trans hSZ hz1, hsl, hce, hso⟩ hS1
  refine va_calli (va_runV (As := [.int v_1, .int v_2, .long v_9]) (rest := []) ⟨hx, hb, hml, hown, hts⟩ (wx_write l dC dI cyI cyB cyJ cyZ cyH cyN cyM tR tF aK aV tg H.size x0 sl ke_f s_fm s_fl s_fw v_1 v_2 v_9) (cwV 3 hts (gdV wd_6_16 wd_6_17 wd_6_18 wd_1_1 wd_6_19) rfl rfl rfl (by decide +kernel) ⟨Nat.le_of_ble_eq_true rfl, Nat.le_of_ble_eq_true rfl⟩) (xp_pre hFIX hS hXE) rfl rfl hl.1 rfl (lv_room (Nat.le_of_ble_eq_true rfl)) dL_law_1825 ⟨show cells + 0 ≤ 600000 by omega, show slots + 0 ≤ 7302250 by omega⟩) hS (fun q _ h => ax_old hFIX hS q h) (ax_old hFIX hS) (fun r1 u t H1 locs1 ht hvm hw hB hz1 hk1 hS1 => ?_)
  replace hB : XE dC dI cyI cyB cyJ cyZ cyH cyN cyM tg x0 sl ke_f s_fm s_fl s_fw t.heap := hB
  rw [ht] at hB
  exact cont r1 H1 locs1 _ _ sl ke_f s_fm s_fl s_fw hw ⟨rfl, rfl, rfl, rfl⟩ hB (hMI.go (fun q h1 h2 => hk1 q h1 (ax_not h1 h2))) (Nat.le_trans hSZ hz1) hsl (by omega) (by omega) hS1
set_option maxHeartbeats 4000000 in
set_option maxRecDepth 100000 in
theorem law_c65 {p : Program} {l : Launch} {e : Env} {s : State} {m : MethodId} {below : List Frame} {meth : Method} {c : Code} {b L : Nat} {xs : Nat → Int32} (hL : L ≤ 3072) (C0 : lw_At p s m meth c b L xs) {dC : Nat → ClassId} {dI : Nat → Nat → Nat} {cyI cyB cyJ cyZ cyH cyN cyM : ClassId} {tR tF : Nat} {aK aV : Nat → Nat} {tg : Nat → Nat} {SZ x0 m0 : Nat} (hFIX : FIX dC dI cyI cyB cyJ cyZ cyH cyN cyM tR tF aK aV tg SZ s) {i : Int32} (hi0 : 0 ≤ i.toInt) (hi : i.toInt + 6 ≤ (L : Int)) {ls : Array Slot} (hl : lv_has ls 4 [(3, .int i), (2, .ref m0), (1, .ref x0), (0, .ref b)]) (kk : ∀ (H : Heap) (locs : List Loc) (cells slots : Nat), INV dC dI cyI cyB cyJ cyZ cyH cyN cyM tg SZ x0 m0 H cells slots → va_S (fun q : Nat => s.heap.size ≤ q) s.heap H locs → W p l e room_1 s m #[Value.ref b] below meth c H locs cells slots (lw_Z below #[Value.ref b] s) (F0 m 1930 ls [])) {H : Heap} {locs : List Loc} {cells slots : Nat} (hI : INV dC dI cyI cyB cyJ cyZ cyH cyN cyM tg SZ x0 m0 H cells slots) (hS : va_S (fun q : Nat => s.heap.size ≤ q) s.heap H locs) : W p l e room_1 s m #[Value.ref b] below meth c H locs cells slots (lw_Z below #[Value.ref b] s) (F0 m 1867 ls []) := by
  obtain ⟨hx, hb, hr, hml, hown, hts0, hX, hbl, hlocks, hgv⟩ := id C0
  have hts : ∀ w ∈ uU, w.before #[Value.ref b] s = true := fun w h => hts0 w (uU_in h)
  have hbA : ¬ (fun q : Nat => s.heap.size ≤ q) b := Nat.not_le.mpr hbl
  refine lv_aload_n hx hb dL_law_1867 rfl (lv_at hl 2 rfl) ?_
  refine lv_aload_n hx hb dL_law_1868 rfl (lv_at hl 3 rfl) ?_
  refine lv_iload_n hx hb dL_law_1869 rfl (lv_at hl 0 rfl) ?_
  refine lv_iconst (v := 1) hx hb dL_law_1870 (by decide) ?_
  refine lv_iadd hx hb dL_law_1871 ?_
  refine va_sld hx hb hX hbl hbA hS (lw_ix hi0 hi hL (by decide)) dL_law_1872 ?_
  refine lv_topi (fun v_1 ev_1 => ?_)
  refine lv_aload_n hx hb dL_law_1873 rfl (lv_at hl 3 rfl) ?_
  refine lv_iload_n hx hb dL_law_1874 rfl (lv_at hl 0 rfl) ?_
  refine lv_iconst (v := 2) hx hb dL_law_1875 (by decide) ?_
  refine lv_iadd hx hb dL_law_1876 ?_
  refine va_sld hx hb hX hbl hbA hS (lw_ix hi0 hi hL (by decide)) dL_law_1877 ?_
  refine lv_topi (fun v_2 ev_2 => ?_)
  refine lv_aload_n hx hb dL_law_1878 rfl (lv_at hl 3 rfl) ?_
  refine lv_iload_n hx hb dL_law_1879 rfl (lv_at hl 0 rfl) ?_
  refine lv_iconst (v := 3) hx hb dL_law_1880 (by decide) ?_
  refine lv_iadd hx hb dL_law_1881 ?_
  refine va_sld hx hb hX hbl hbA hS (lw_ix hi0 hi hL (by decide)) dL_law_1882 ?_
  refine lv_topi (fun v_3 ev_3 => ?_)
  refine lv_aload_n hx hb dL_law_1883 rfl (lv_at hl 3 rfl) ?_
  refine lv_iload_n hx hb dL_law_1884 rfl (lv_at hl 0 rfl) ?_
  refine lv_iconst (v := 4) hx hb dL_law_1885 (by decide) ?_
  refine lv_iadd hx hb dL_law_1886 ?_
  refine va_sld hx hb hX hbl hbA hS (lw_ix hi0 hi hL (by decide)) dL_law_1887 ?_
  refine lv_topi (fun v_4 ev_4 => ?_)
  refine lv_aload_n hx hb dL_law_1888 rfl (lv_at hl 3 rfl) ?_
  refine lv_iload_n hx hb dL_law_1889 rfl (lv_at hl 0 rfl) ?_
  refine lv_iconst (v := 5) hx hb dL_law_1890 (by decide) ?_
  refine lv_iadd hx hb dL_law_1891 ?_
  refine va_sld hx hb hX hbl hbA hS (lw_ix hi0 hi hL (by decide)) dL_law_1892 ?_
  refine lv_topi (fun v_5 ev_5 => ?_)
  obtain ⟨sl, ke_f, s_fm, s_fl, s_fw, m_isKept, m_many, m_width, hXE, hMI, hRR, hSZ, hsl, hce, hso⟩ := hI
  have cont : ∀ (r : Int32) (H : Heap) (locs : List Loc) (cells slots sl : Nat) (ke_1 fm_1 fl_1 fw_1 : Nat → Int32), (r = pst v_1 v_2 v_3 v_4 v_5 s_fm s_fl s_fw) → (ke_1 = ke_f ∧ fm_1 = s_fm ∧ fl_1 = s_fl ∧ fw_1 = s_fw) → XE dC dI cyI cyB cyJ cyZ cyH cyN cyM tg x0 sl ke_1 fm_1 fl_1 fw_1 H → MI dC dI cyI cyB cyJ cyZ cyH cyN cyM tg m0 m_isKept m_many m_width H → SZ ≤ H.size → (sl = 0 ∨ sl = 1) → cells ≤ 110 + 16 * sl → slots ≤ 15598 + 40501 * sl → va_S (fun q : Nat => s.heap.size ≤ q) s.heap H locs → W p l e room_1 s m #[Value.ref b] below meth c H locs cells slots (lw_Z below #[Value.ref b] s) (F0 m 1896 ls [.int r]) := by
    intro r H locs cells slots sl ke_1 fm_1 fl_1 fw_1 hw1 hrel hXE hMI hSZ hsl hce hso hS
    refine lv_aload_n hx hb dL_law_1896 rfl (lv_at hl 1 rfl) ?_
    refine lv_aload_n hx hb dL_law_1897 rfl (lv_at hl 3 rfl) ?_
    refine lv_iload_n hx hb dL_law_1898 rfl (lv_at hl 0 rfl) ?_
    refine lv_iconst (v := 1) hx hb dL_law_1899 (by decide) ?_
    refine lv_iadd hx hb dL_law_1900 ?_
    refine va_sld hx hb hX hbl hbA hS (lw_ix hi0 hi hL (by decide)) dL_law_1901 ?_
    refine lv_topi (fun v_101 ev_101 => ?_)
    refine lv_aload_n hx hb dL_law_1902 rfl (lv_at hl 3 rfl) ?_
    refine lv_iload_n hx hb dL_law_1903 rfl (lv_at hl 0 rfl) ?_
    refine lv_iconst (v := 2) hx hb dL_law_1904 (by decide) ?_
    refine lv_iadd hx hb dL_law_1905 ?_
    refine va_sld hx hb hX hbl hbA hS (lw_ix hi0 hi hL (by decide)) dL_law_1906 ?_
    refine lv_topi (fun v_102 ev_102 => ?_)
    refine lv_aload_n hx hb dL_law_1907 rfl (lv_at hl 3 rfl) ?_
    refine lv_iload_n hx hb dL_law_1908 rfl (lv_at hl 0 rfl) ?_
    refine lv_iconst (v := 3) hx hb dL_law_1909 (by decide) ?_
    refine lv_iadd hx hb dL_law_1910 ?_
    refine va_sld hx hb hX hbl hbA hS (lw_ix hi0 hi hL (by decide)) dL_law_1911 ?_
    refine lv_topi (fun v_103 ev_103 => ?_)
    refine lv_aload_n hx hb dL_law_1912 rfl (lv_at hl 3 rfl) ?_
    refine lv_iload_n hx hb dL_law_1913 rfl (lv_at hl 0 rfl) ?_
    refine lv_iconst (v := 4) hx hb dL_law_1914 (by decide) ?_
    refine lv_iadd hx hb dL_law_1915 ?_
    refine va_sld hx hb hX hbl hbA hS (lw_ix hi0 hi hL (by decide)) dL_law_1916 ?_
    refine lv_topi (fun v_104 ev_104 => ?_)
    refine lv_aload_n hx hb dL_law_1917 rfl (lv_at hl 3 rfl) ?_
    refine lv_iload_n hx hb dL_law_1918 rfl (lv_at hl 0 rfl) ?_
    refine lv_iconst (v := 5) hx hb dL_law_1919 (by decide) ?_
    refine lv_iadd hx hb dL_law_1920 ?_
    refine va_sld hx hb hX hbl hbA hS (lw_ix hi0 hi hL (by decide)) dL_law_1921 ?_
    refine lv_topi (fun v_105 ev_105 => ?_)
    refine va_calli (va_runV (As := [.int v_101, .int v_102, .int v_103, .int v_104, .int v_105]) (rest := [.int r]) ⟨hx, hb, hml, hown, hts⟩ (wm_paste l dC dI cyI cyB cyJ cyZ cyH cyN cyM tg H.size m0 m_isKept m_many m_width v_101 v_102 v_103 v_104 v_105) (cwV 5 hts (gdV wd_6_188 wd_6_189 wd_6_190 wd_1_11 wd_6_191) rfl rfl rfl (by decide +kernel) ⟨Nat.le_of_ble_eq_true rfl, Nat.le_of_ble_eq_true rfl⟩) (mp_pre hFIX hMI) rfl rfl hl.1 rfl (lv_room (Nat.le_of_ble_eq_true rfl)) dL_law_1922 ⟨show cells + 0 ≤ 600000 by omega, show slots + 0 ≤ 7302250 by omega⟩) hS (fun q _ h => am_old hFIX hS q h) (am_old hFIX hS) (fun r2 u t H1 locs1 ht hvm hw hB hz1 hk1 hS1 => ?_)
    replace hB : MI dC dI cyI cyB cyJ cyZ cyH cyN cyM tg m0 m_isKept m_many m_width t.heap := hB
    rw [ht] at hB
    have hXE2 := hXE.go (fun q h1 h2 => hk1 q h1 (am_not h1 h2))
    have qv_101 : v_101 = v_1 := ev_101.trans ev_1.symm
    have qv_102 : v_102 = v_2 := ev_102.trans ev_2.symm
    have qv_103 : v_103 = v_3 := ev_103.trans ev_3.symm
    have qv_104 : v_104 = v_4 := ev_104.trans ev_4.symm
    have qv_105 : v_105 = v_5 := ev_105.trans ev_5.symm
    have hRR2 : RR ke_1 fm_1 fl_1 fw_1 m_isKept m_many m_width := by
      rw [hrel.1, hrel.2.1, hrel.2.2.1, hrel.2.2.2]
      exact hRR
    replace hw : r2 = psm v_101 v_102 v_103 v_104 v_105 m_width m_many := hw
    refine lv_icmp_eq (tgt := 1930) hx hb dL_law_1925 (by decide) (fun _ => ?_) (fun h9 => absurd (by rw [hw1, hw, qv_101, qv_102, qv_103, qv_104, qv_105]; exact hRR.paste) h9)
    exact kk _ _ _ _ ⟨sl, ke_1, fm_1, fl_1, fw_1, m_isKept, m_many, m_width, hXE2, hB, hRR2, Nat.le_trans hSZ hz1, hsl, hce, hso⟩ hS1
  refine va_calli (va_runV (As := [.int v_1, .int v_2, .int v_3, .int v_4, .int v_5]) (rest := []) ⟨hx, hb, hml, hown, hts⟩ (wx_paste l dC dI cyI cyB cyJ cyZ cyH cyN cyM tR tF aK aV tg H.size x0 sl ke_f s_fm s_fl s_fw v_1 v_2 v_3 v_4 v_5) (cwV 5 hts (gdV wd_6_23 wd_6_24 wd_6_25 wd_1_1 wd_6_26) rfl rfl rfl (by decide +kernel) ⟨Nat.le_of_ble_eq_true rfl, Nat.le_of_ble_eq_true rfl⟩) (xp_pre hFIX hS hXE) rfl rfl hl.1 rfl (lv_room (Nat.le_of_ble_eq_true rfl)) dL_law_1893 ⟨show cells + 0 ≤ 600000 by omega, show slots + 0 ≤ 7302250 by omega⟩) hS (fun q _ h => ax_old hFIX hS q h) (ax_old hFIX hS) (fun r1 u t H1 locs1 ht hvm hw hB hz1 hk1 hS1 => ?_)
  replace hB : XE dC dI cyI cyB cyJ cyZ cyH cyN cyM tg x0 sl ke_f s_fm s_fl s_fw t.heap := hB
  rw [ht] at hB
  exact cont r1 H1 locs1 _ _ sl ke_f s_fm s_fl s_fw hw ⟨rfl, rfl, rfl, rfl⟩ hB (hMI.go (fun q h1 h2 => hk1 q h1 (ax_not h1 h2))) (Nat.le_trans hSZ hz1) hsl (by omega) (by omega) hS1
